/-! ===== a stream on both sides ===== -/
theorem and255 (x : Int32) : 0 ≤ (x &&& 255).toInt ∧ (x &&& 255).toInt ≤ 255 := by
  have h : (x &&& 255).toBitVec.toNat ≤ 255 := by
    show (x.toBitVec &&& 255#32).toNat ≤ 255
    rw [BitVec.toNat_and]
    exact Nat.and_le_right
  have e : (x &&& 255).toInt = ((x &&& 255).toBitVec.toNat : Int) := by
    rw [← Int32.toInt_toBitVec]
    exact BitVec.toInt_eq_toNat_of_lt (by omega)
  omega
theorem l_mb {a : Int64} {d : Int32} (ha : 0 ≤ a.toInt ∧ a.toInt < 4294967296) (hd : 0 ≤ d.toInt ∧ d.toInt ≤ 255) : ((256 * a) + d.toInt64).toInt = 256 * a.toInt + d.toInt := by
  have e10 : (256 : Int64).toInt = 256 := rfl
  have h1 : (256 * a).toInt = 256 * a.toInt := by
    rw [Int64.toInt_mul, e10]
    exact Int.bmod_eq_of_le_mul_two (by simp; omega) (by simp; omega)
  rw [Int64.toInt_add, h1, i_2l]
  exact Int.bmod_eq_of_le_mul_two (by simp; omega) (by simp; omega)
theorem fld_nn_L {v : Sg} {s f w : Int32} (hx : (f + w).toInt ≤ 300) : ∀ (k m : Nat) (a : Int64) (i : Int32), 0 ≤ i.toInt → (f + w).toInt ≤ i.toInt + m → 0 ≤ a.toInt → (a.toInt + 1) * 256 ^ m ≤ 4294967296 → 0 ≤ (f_X6_field_L6 v s f w k a i).toInt := by
  intro k
  induction k with
  | zero => intro m a i _ _ _ _; rw [f_X6_field_L6]; decide
  | succ k ih =>
    intro m a i h0 h1 h3 h4
    have hp0 : (0 : Int) < 256 ^ m := Int.pow_pos (by decide)
    have hp : (1 : Int) ≤ 256 ^ m := hp0
    have ha : a.toInt < 4294967296 := by
      have h5 : (a.toInt + 1) * 1 ≤ (a.toInt + 1) * 256 ^ m := Int.mul_le_mul_of_nonneg_left hp (by omega)
      omega
    rw [f_X6_field_L6]
    by_cases g : f + w ≤ i
    · rw [if_pos g]; exact h3
    · rw [if_neg g]
      have g2 := g
      simp only [Int32.le_iff_toInt_le] at g2
      obtain ⟨m', rfl⟩ : ∃ m', m = m' + 1 := ⟨m - 1, by omega⟩
      have hd := and255 (v.1 25 ((300 * s) + i).toNatClampNeg)
      have e := l_mb (a := a) ⟨h3, ha⟩ hd
      have hi1 := i_add1 g
      refine ih m' _ _ (by rw [hi1]; omega) (by rw [hi1]; omega) (by rw [e]; omega) ?_
      rw [e]
      have h7 : (256 * a.toInt + (v.1 25 ((300 * s) + i).toNatClampNeg &&& 255).toInt + 1) * 256 ^ m' ≤ (256 * (a.toInt + 1)) * 256 ^ m' := Int.mul_le_mul_of_nonneg_right (by omega) (Int.pow_nonneg (by decide))
      have h8 : (256 * (a.toInt + 1)) * 256 ^ m' = (a.toInt + 1) * 256 ^ (m' + 1) := by
        rw [Int.pow_succ, Int.mul_comm 256 (a.toInt + 1), Int.mul_assoc, Int.mul_comm 256 (256 ^ m')]
      omega
theorem sim_fld_L {S L c : Nat} {u v : Sg} (h : q_A S L c u v) {f w : Int32} {d : Int64} (hx : (f + w).toInt ≤ (v.1 24 c).toInt) : ∀ (k : Nat) (a : Int64) (i : Int32), 0 ≤ i.toInt → f_X3_numberIn_L12 u c f w d k a i = f_X6_field_L6 v (nI c) f w k a i := by
  have hz := q_A_sz h
  have i0 : (0 : Int32).toInt = 0 := rfl
  intro k
  induction k with
  | zero => intro a i _; rw [f_X3_numberIn_L12, f_X6_field_L6]
  | succ k ih =>
    intro a i h0
    rw [f_X3_numberIn_L12, f_X6_field_L6, if_neg (show ¬ i < 0 by simp only [Int32.lt_iff_toInt_lt]; omega)]
    by_cases g : f + w ≤ i
    · rw [if_pos g, if_pos g]
    · rw [if_neg g, if_neg g, hz.1]
      have hi1 := i_add1 g
      simp only [Int32.le_iff_toInt_le] at g
      rw [if_neg (show ¬ v.1 24 c ≤ i by simp only [Int32.le_iff_toInt_le]; omega), q_A_ix h ⟨h0, by omega⟩, ← h.2.2.2.1.2.2.2.2.2.2.2.1 i.toNatClampNeg (by rw [clampEq]; omega), Int64.mul_comm a 256]
      exact ih _ _ (by rw [hi1]; omega)
theorem sim_fld {S L c : Nat} {u v : Sg} (h : q_A S L c u v) {f w : Int32} (h0 : 0 ≤ f.toInt) (hw : 0 ≤ w.toInt ∧ w.toInt ≤ 4) (hx : (f + w).toInt ≤ (v.1 24 c).toInt) : f_X3_numberIn u c f w 0 = f_X6_field v (nI c) f w ∧ (¬ w = 0 → f_X3_numberIn u c f w 1 = f_X6_field v (nI c) f w) := by
  have hz := q_A_sz h
  have hs := sim_fld_L h (f := f) (w := w) (d := 0) hx 301 0 f h0
  have hs1 := sim_fld_L h (f := f) (w := w) (d := 1) hx 301 0 f h0
  unfold f_X3_numberIn f_X6_field
  constructor
  · by_cases e : w = 0
    · rw [if_pos e, e, f_X6_field_L6, if_pos]
      rw [Int32.add_zero]; exact Int32.le_refl _
    · rw [if_neg e]; exact hs
  · intro e
    rw [if_neg e]; exact hs1
theorem fld_nn {v : Sg} {s f w : Int32} (h0 : 0 ≤ f.toInt ∧ f.toInt ≤ 300) (hw : 0 ≤ w.toInt ∧ w.toInt ≤ 4) (hx : (f + w).toInt ≤ 300) : 0 ≤ (f_X6_field v s f w).toInt := by
  have e := i_addb (x := f) (y := w) ⟨by omega, by omega⟩
  exact fld_nn_L hx 301 4 0 f h0.1 (by rw [e]; omega) (by decide) (by decide)
/-- a row of a stream -/
theorem sim_srow {S L c : Nat} {u0 v0 u v : Sg} (hA : q_A S L c u0 v0) (hL : q_L L u0 v0 u v) {a b d f o : Int32} (ha : u.1 (46 + 6 * c) 7 = a) (hb : u.1 (46 + 6 * c) 8 = b) (hd : u.1 (46 + 6 * c) 9 = d) (h0 : 0 ≤ f.toInt ∧ f.toInt ≤ 300) (hx : ((f + a) + b) + d ≤ v.1 24 c) (ho : 0 ≤ o.toInt64.toInt) : q_L L u0 v0 (f_X2_takeStreamRow u c f o)
    (if a = 0 then f_X6_row v (nI c) o.toInt64 (((1 : Int64).toInt32) + 1) (f_X6_field v (nI c) (f + a) b) (f_X6_field v (nI c) ((f + a) + b) d) else if (3 : Int64) ≤ f_X6_field v (nI c) f a then v else f_X6_row v (nI c) o.toInt64 (((f_X6_field v (nI c) f a) : Int64).toInt32 + 1) (f_X6_field v (nI c) (f + a) b) (f_X6_field v (nI c) ((f + a) + b) d)) := by
  have hB := L_A hA hL
  have hz := q_A_sz hB
  have hy := hB.2.2.2.2.1
  have wa := hy.2.2.2.2.1
  have wb := hy.2.2.2.2.2.1
  have wd := hy.2.2.2.2.2.2
  rw [ha] at wa
  rw [hb] at wb
  rw [hd] at wd
  simp only [Int32.le_iff_toInt_le] at hx
  have e1 := i_addb (x := f) (y := a) ⟨by omega, by omega⟩
  have e2 := i_addb (x := f + a) (y := b) ⟨by omega, by omega⟩
  have e3 := i_addb (x := (f + a) + b) (y := d) ⟨by omega, by omega⟩
  have s1 := sim_fld hB (f := f) (w := a) h0.1 wa (by omega)
  have s2 := sim_fld hB (f := f + a) (w := b) (by omega) wb (by omega)
  have s3 := sim_fld hB (f := (f + a) + b) (w := d) (by omega) wd (by omega)
  have n1 := fld_nn (v := v) (s := nI c) (f := f) (w := a) h0 wa (by omega)
  unfold f_X2_takeStreamRow
  dsimp only
  rw [ha, hb, hd, s2.1, s3.1]
  by_cases g : a = 0
  · have hk : f_X2_kindByNumber u (f_X3_numberIn u c f a 1) = 2 := by
      unfold f_X3_numberIn
      rw [if_pos g]
      rfl
    rw [hk, if_pos g]
    exact L_row hA (by decide) (by decide) ho hL
  · rw [if_neg g, s1.2 g]
    generalize f_X6_field v (nI c) f a = n at *
    unfold f_X2_kindByNumber
    have z0 : (0 : Int64).toInt = 0 := rfl
    have z1 : (1 : Int64).toInt = 1 := rfl
    have z2 : (2 : Int64).toInt = 2 := rfl
    have z3 : (3 : Int64).toInt = 3 := rfl
    by_cases c0 : n = 0
    · rw [c0, if_pos rfl, if_neg (by decide)]
      exact L_row hA (by decide) (by decide) ho hL
    by_cases c1 : n = 1
    · rw [c1, if_neg (by decide), if_pos rfl, if_neg (by decide)]
      exact L_row hA (by decide) (by decide) ho hL
    by_cases c2 : n = 2
    · rw [c2, if_neg (by decide), if_neg (by decide), if_pos rfl, if_neg (by decide)]
      exact L_row hA (by decide) (by decide) ho hL
    rw [if_neg c0, if_neg c1, if_neg c2, if_pos]
    · unfold f_X1_takeRow
      rw [if_pos rfl]
      exact hL
    · rw [← Int64.toInt_inj] at c0 c1 c2
      simp only [Int64.le_iff_toInt_le]; omega
theorem srow_k {u : Sg} {c : Nat} {f o : Int32} : (f_X2_takeStreamRow u c f o).1 17 = u.1 17 := rowc_k.1
theorem cf_srow {u0 u : Sg} {c : Nat} {f o : Int32} (h : cf u0 u) : cf u0 (f_X2_takeStreamRow u c f o) := cf_row h
theorem sim_L38 {S L c : Nat} {u0 v0 : Sg} (hA : q_A S L c u0 v0) (hV : k_V v0) {a b d r : Int32} (ha : u0.1 (46 + 6 * c) 7 = a) (hb : u0.1 (46 + 6 * c) 8 = b) (hd : u0.1 (46 + 6 * c) 9 = d) (hr : 0 ≤ r.toInt ∧ r.toInt < 6) {Kc : Int32 → Sg → Sg} {Km : Int32 → Int32 → Sg → Sg}
    (hK : ∀ (u v : Sg) (at1 rows : Int32), q_L L u0 v0 u v → u.1 17 2 = nI c → at1 = rows * ((a + b) + d) → (0 ≤ at1.toInt ∧ at1.toInt ≤ 300) → q_L L u0 v0 (Kc rows u) (Km at1 rows v)) :
    ∀ (k : Nat) (u v : Sg) (at1 rows i : Int32), q_L L u0 v0 u v → u.1 17 2 = nI c → at1 = rows * ((a + b) + d) → (0 ≤ at1.toInt ∧ at1.toInt ≤ 300) → 0 ≤ i.toInt → 100 - i.toInt.toNat < k → q_L L u0 v0 (f_X2_readStream_L38 c ((a + b) + d) r (u0.1 (46 + 6 * c + 2) r.toNatClampNeg) Kc k u rows i) (f_X6_readStream_L55 (nI c) a b d r Km k v at1 rows i) := by
  have hc := q_A_cl hA
  have h1 := hA.1
  have hix : ((6 * nI c) + r).toNatClampNeg = 6 * c + r.toNatClampNeg := by
    rw [ix_n (k := 6) (l := 12) rfl (by rw [hc.2]; omega) ⟨hr.1, by omega⟩ (by decide), hc.1]
  have hr6 : r.toNatClampNeg < 6 := by rw [clampEq]; omega
  intro k
  induction k with
  | zero => intro u v at1 rows i _ _ _ _ _ g; omega
  | succ k ih =>
    intro u v at1 rows i hL how hat hb1 h0 hk
    have hB := L_A hA hL
    have hs : v.1 24 = v0.1 24 := (hL.2.1.1 24 rfl).1
    have hVv : k_V v := V_mf hL.2.1 hV
    have e3 : u.1 (46 + 6 * c + 3) r.toNatClampNeg = v.1 29 (6 * c + r.toNatClampNeg) := hB.2.2.2.1.2.2.2.2.2.2.2.2.2.1 _ hr6
    have e2 : u0.1 (46 + 6 * c + 2) r.toNatClampNeg = v.1 28 (6 * c + r.toNatClampNeg) := by
      rw [(hL.2.1.1 28 rfl).1]
      exact hA.2.2.2.1.2.2.2.2.2.2.2.2.1 _ hr6
    have e6 : u.1 (46 + 6 * c) 6 = v.1 24 c := (q_A_sz hB).1
    have hz := (q_A_sz hB).2
    have ru : u.1 (46 + 6 * c) = u0.1 (46 + 6 * c) := (hL.1.1 _ (cfo_s (k := 0))).1
    rw [f_X2_readStream_L38, f_X6_readStream_L55, hix, hc.1, e3, e6]
    by_cases g : v.1 29 (6 * c + r.toNatClampNeg) ≤ i
    · rw [if_pos g, if_pos g]
      exact hK u v at1 rows hL how hat hb1
    · rw [if_neg g, if_neg g]
      have hm := hVv.2.2 (6 * c + r.toNatClampNeg)
      have hi1 := i_add1 g
      have g2 := g
      simp only [Int32.le_iff_toInt_le] at g2
      have ew : ((at1 + a) + b) + d = rows * ((a + b) + d) + ((a + b) + d) := by
        rw [← hat, Int32.add_assoc, Int32.add_assoc, ← Int32.add_assoc a b d]
      rw [ew]
      by_cases x : rows * ((a + b) + d) + ((a + b) + d) ≤ v.1 24 c
      · rw [if_pos x, if_pos x, e2]
        have ho := st_o (f := v.1 28 (6 * c + r.toNatClampNeg)) (hVv.2.1 _) h0 g hm
        have hrow := sim_srow (a := a) (b := b) (d := d) (f := at1) (o := v.1 28 (6 * c + r.toNatClampNeg) + i) hA hL (by rw [ru]; exact ha) (by rw [ru]; exact hb) (by rw [ru]; exact hd) hb1 (by rw [ew]; exact x) ho
        have hat2 : rows * ((a + b) + d) + ((a + b) + d) = (rows + 1) * ((a + b) + d) := by
          rw [Int32.add_mul, Int32.one_mul]
        have hnb : 0 ≤ (rows * ((a + b) + d) + ((a + b) + d)).toInt ∧ (rows * ((a + b) + d) + ((a + b) + d)).toInt ≤ 300 := by
          have hy := hB.2.2.2.2.1
          have wa := hy.2.2.2.2.1
          have wb := hy.2.2.2.2.2.1
          have wd := hy.2.2.2.2.2.2
          rw [ru, ha] at wa
          rw [ru, hb] at wb
          rw [ru, hd] at wd
          simp only [Int32.le_iff_toInt_le] at x
          have e1 := i_addb (x := at1) (y := a) ⟨by omega, by omega⟩
          have e2 := i_addb (x := at1 + a) (y := b) ⟨by omega, by omega⟩
          have e3 := i_addb (x := (at1 + a) + b) (y := d) ⟨by omega, by omega⟩
          rw [ew] at e3
          omega
        have how2 : (f_X2_takeStreamRow u c at1 (v.1 28 (6 * c + r.toNatClampNeg) + i)).1 17 2 = nI c := by
          rw [srow_k]; exact how
        have hnext := ih _ _ _ _ _ hrow how2 hat2 hnb (show 0 ≤ (i + 1).toInt by rw [hi1]; omega) (by rw [hi1]; omega)
        rw [e2] at hnext
        rw [← hat]
        dsimp only
        revert hnext
        by_cases a0 : a = 0
        · rw [if_pos a0, if_pos a0]; exact fun h => by rw [hat]; rw [hat] at h; exact h
        · rw [if_neg a0, if_neg a0]
          by_cases a3 : (3 : Int64) ≤ f_X6_field v (nI c) at1 a
          · rw [if_pos a3, if_pos a3]; exact fun h => by rw [hat]; rw [hat] at h; exact h
          · rw [if_neg a3, if_neg a3]; exact fun h => by rw [hat]; rw [hat] at h; exact h
      · rw [if_neg x, if_neg x, how]
        exact L_tell hL
theorem sim_L10 {S L c : Nat} {u0 v0 : Sg} (hA : q_A S L c u0 v0) (hV : k_V v0) {a b d : Int32} (ha : u0.1 (46 + 6 * c) 7 = a) (hb : u0.1 (46 + 6 * c) 8 = b) (hd : u0.1 (46 + 6 * c) 9 = d) :
    ∀ (k : Nat) (u v : Sg) (at1 rows r : Int32), q_L L u0 v0 u v → u.1 17 2 = nI c → at1 = rows * ((a + b) + d) → (0 ≤ at1.toInt ∧ at1.toInt ≤ 300) → 0 ≤ r.toInt → 6 - r.toInt.toNat < k → q_L L u0 v0 (f_X2_readStream_L10 c k u ((a + b) + d) rows r) (f_X6_readStream_L41 (nI c) k v a b d at1 rows r) := by
  have hc := q_A_cl hA
  intro k
  induction k with
  | zero => intro u v at1 rows r _ _ _ _ _ g; omega
  | succ k ih =>
    intro u v at1 rows r hL how hat hb1 h0 hk
    have hB := L_A hA hL
    have e12 : u.1 (46 + 6 * c) 12 = v.1 27 c := hB.2.2.2.1.2.2.2.2.2.2.1
    have hr := hB.2.2.2.2.2.2.2.2.1
    rw [e12] at hr
    have i6 : (6 : Int32).toInt = 6 := rfl
    rw [f_X2_readStream_L10, f_X6_readStream_L41, hc.1, e12]
    by_cases g : v.1 27 c ≤ r
    · rw [if_pos g, if_pos g]; exact hL
    · rw [if_neg g, if_neg g]
      have hr1 := i_add1 g
      simp only [Int32.le_iff_toInt_le] at g
      rw [if_neg (show ¬ (6 : Int32) ≤ r by simp only [Int32.le_iff_toInt_le]; omega)]
      have ru : u.1 (46 + 6 * c + 2) = u0.1 (46 + 6 * c + 2) := (hL.1.1 _ cfo_s).1
      rw [ru]
      refine sim_L38 hA hV ha hb hd ⟨h0, by omega⟩ (fun u' v' at2 rows2 hL2 how2 hat2 hb2 => ?_) 101 u v at1 rows 0 hL how hat hb1 (by decide) (by decide)
      exact ih u' v' at2 rows2 (r + 1) hL2 how2 hat2 hb2 (by rw [hr1]; omega) (by rw [hr1]; omega)
theorem sim_stream {S L c : Nat} {u0 v0 u v : Sg} (hA : q_A S L c u0 v0) (hV : k_V v0) (h : q_L L u0 v0 u v) (how : u.1 17 2 = nI c) : q_L L u0 v0 (f_X2_readStream u c) (f_X6_readStream v (nI c)) := by
  have hc := q_A_cl hA
  have h1 := hA.1
  have hB := L_A hA h
  have i1 : (1 : Int32).toNatClampNeg = 1 := rfl
  have i2 : (2 : Int32).toNatClampNeg = 2 := rfl
  have hw := hB.2.2.2.1.2.2.2.2.2.1
  have hrng : 0 ≤ (nI c).toInt ∧ (nI c).toInt < (12 : Nat) := by rw [hc.2]; omega
  have ru : u.1 (46 + 6 * c) = u0.1 (46 + 6 * c) := (h.1.1 _ (cfo_s (k := 0))).1
  unfold f_X2_readStream f_X6_readStream f_X3_rowWidth
  rw [ix_m (k := 3) (l := 12) rfl hrng (by decide), ix_n (k := 3) (l := 12) (x := 1) rfl hrng (by decide) (by decide), ix_n (k := 3) (l := 12) (x := 2) rfl hrng (by decide) (by decide), hc.1, i1, i2, ← hw.1, ← hw.2.1, ← hw.2.2, ru]
  exact sim_L10 hA hV rfl rfl rfl 7 u v 0 0 0 h how (by rw [Int32.zero_mul]) (by decide) (by decide) (by decide)
/-- the rows of a section on both sides -/
theorem sim_rows {S L c : Nat} {u v : Sg} (hA : q_A S L c u v) (hV : k_V v) (hK : q_KR L u v) (hT : q_T u v) : q_L L u v (f_X2_readRowsOf u c) (f_X6_readRows v (nI c)) := by
  have hc := q_A_cl hA
  have hk : u.1 (46 + 6 * c) 1 = v.1 20 c := hA.2.2.2.1.1
  have hL : q_L L u v (uI u 17 2 (u.1 (46 + 6 * c) 0)) v := L_17 ⟨cf.rf, mf.rf, hK, hT⟩
  have how : (uI u 17 2 (u.1 (46 + 6 * c) 0)).1 17 2 = nI c := hA.2.2.2.2.2.1
  unfold f_X2_readRowsOf f_X6_readRows
  rw [hc.1, hk]
  by_cases g : v.1 20 c = 0
  · rw [if_pos g, if_pos g]; exact sim_table hA hL how
  · rw [if_neg g, if_neg g]; exact sim_stream hA hV hL how
