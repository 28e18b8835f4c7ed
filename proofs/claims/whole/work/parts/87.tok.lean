/-! ===== reading rows on both sides: tokens and numbers ===== -/
def cfo (q : Nat) : Bool := q == 6 || (Nat.ble 8 q && Nat.ble q 14) || q == 17 || q == 18
/-- what reading rows keeps of the class -/
def cf (z u : Sg) : Prop := (∀ q, cfo q = false → u.1 q = z.1 q ∧ u.2.1 q = z.2.1 q) ∧ (∀ q i, q ≠ 18 ∨ i ≠ 0 → u.2.2 q i = z.2.2 q i) ∧ u.1 6 1 = z.1 6 1 ∧ u.1 6 12 = z.1 6 12
theorem cf.rf {z : Sg} : cf z z := ⟨fun _ _ => ⟨rfl, rfl⟩, fun _ _ _ => rfl, rfl, rfl⟩
theorem cf.trans {x y w : Sg} (h : cf x y) (g : cf y w) : cf x w := ⟨fun q hq => ⟨((g.1 q hq).1).trans (h.1 q hq).1, ((g.1 q hq).2).trans (h.1 q hq).2⟩, fun q i hq => (g.2.1 q i hq).trans (h.2.1 q i hq), g.2.2.1.trans h.2.2.1, g.2.2.2.trans h.2.2.2⟩
theorem cf_uI {z w : Sg} {r k : Nat} {x : Int32} (hr : cfo r = true ∧ r ≠ 6) (h : cf z w) : cf z (uI w r k x) := by
  refine ⟨fun q hq => ⟨(uI_r (fun e => ?_)).trans (h.1 q hq).1, (h.1 q hq).2⟩, h.2.1, (congrFun (uI_r hr.2.symm) 1).trans h.2.2.1, (congrFun (uI_r hr.2.symm) 12).trans h.2.2.2⟩
  rw [e, hr.1] at hq; cases hq
theorem cf_uJ {z w : Sg} {r k : Nat} {x : Int64} (hr : cfo r = true) (h : cf z w) : cf z (uJ w r k x) := by
  refine ⟨fun q hq => ⟨(h.1 q hq).1, (uJ_r (fun e => ?_)).trans (h.1 q hq).2⟩, h.2⟩
  rw [e, hr] at hq; cases hq
theorem cf_u6 {z w : Sg} {k : Nat} {x : Int32} (hk : k ≠ 1 ∧ k ≠ 12) (h : cf z w) : cf z (uI w 6 k x) := by
  have e : ∀ j, j ≠ k → (uI w 6 k x).1 6 j = w.1 6 j := fun j hj => by rw [uI_s]; simp [upd, hj]
  refine ⟨fun q hq => ⟨(uI_r (fun e => ?_)).trans (h.1 q hq).1, (h.1 q hq).2⟩, h.2.1, (e _ hk.1.symm).trans h.2.2.1, (e _ hk.2.symm).trans h.2.2.2⟩
  rw [e] at hq; cases hq
theorem cf_uO {z w : Sg} {x : Option Nat} (h : cf z w) : cf z (uO w 18 0 x) := by
  refine ⟨h.1, fun q i hq => ?_, h.2.2.1, h.2.2.2⟩
  rw [← h.2.1 q i hq]
  show va_up w.2.2 18 (va_up (w.2.2 18) 0 x) q i = w.2.2 q i
  unfold va_up
  by_cases e : q = 18
  · rw [if_pos e, if_neg (by omega), e]
  · rw [if_neg e]
theorem cf_tell {z0 z : Sg} {a b : Int32} {d : Int64} (h : cf z0 z) : cf z0 (f_X1_tell z a b d) := by
  unfold f_X1_tell
  repeat' (first | exact h | split | (refine cf_u6 ⟨by decide, by decide⟩ ?_) | (refine cf_uI ⟨rfl, by decide⟩ ?_) | (refine cf_uJ rfl ?_))
theorem cf_row {z0 z : Sg} {b : Int32} {p d e : Int64} (h : cf z0 z) : cf z0 (f_X1_takeRow z p b d e) := by
  unfold f_X1_takeRow
  repeat' (first | exact h | split | (refine cf_uI ⟨rfl, by decide⟩ ?_) | (refine cf_uJ rfl ?_))
/-- what stands while the rows of section c, at position L - 1, are read -/
def q_A (S L c : Nat) (u v : Sg) : Prop := (c < S ∧ S ≤ 12) ∧ ((1 ≤ L ∧ L ≤ 12) ∧ (u.1 6 1).toInt = L) ∧ (v.1 35 (L - 1) = nI c ∧ ∀ p, p < L - 1 → v.1 35 p ≠ nI c) ∧ q_s u v c ∧ q_y u c ∧ k_IS u c
theorem cfo_s {c k : Nat} : cfo (46 + 6 * c + k) = false := by
  unfold cfo
  have h1 : (46 + 6 * c + k == 6) = false := by simp; omega
  have h2 : Nat.ble (46 + 6 * c + k) 14 = false := by
    rw [← Bool.not_eq_true, Nat.ble_eq]; omega
  have h3 : (46 + 6 * c + k == 17) = false := by simp; omega
  have h4 : (46 + 6 * c + k == 18) = false := by simp; omega
  rw [h1, h2, h3, h4, Bool.and_false]; rfl
theorem q_A_of {S L c : Nat} {u v u' v' : Sg} (h : q_A S L c u v) (hu : cf u u') (hv : mf v v') : q_A S L c u' v' := by
  obtain ⟨h1, h2, h3, h4, h5, h6⟩ := h
  have r0 := hu.1 (46 + 6 * c) (cfo_s (k := 0))
  have r1 := hu.1 (46 + 6 * c + 1) cfo_s
  have r2 := hu.1 (46 + 6 * c + 2) cfo_s
  have r3 := hu.1 (46 + 6 * c + 3) cfo_s
  have r4 := hu.1 (46 + 6 * c + 4) cfo_s
  have r5 := hu.1 (46 + 6 * c + 5) cfo_s
  refine ⟨h1, ?_, ?_, ?_, ?_, ?_⟩
  · rw [hu.2.2.1]; exact h2
  · rw [(hv.1 35 rfl).1]; exact h3
  · unfold q_s
    rw [r0.1, r0.2, r1.1, r2.1, r3.1, r4.1, r5.1, (hv.1 20 rfl).1, (hv.1 24 rfl).1, (hv.1 25 rfl).1, (hv.1 26 rfl).1, (hv.1 27 rfl).1, (hv.1 28 rfl).1, (hv.1 29 rfl).1, (hv.1 30 rfl).1, (hv.1 31 rfl).1, (hv.1 21 rfl).2, (hv.1 22 rfl).2, (hv.1 23 rfl).2]
    exact h4
  · unfold q_y
    rw [r0.1, r0.2, r4.1, r5.1]
    exact h5
  · unfold k_IS
    rw [r0.1, r1.1, r3.1]
    exact h6
/-- the size of the section -/
theorem q_A_sz {S L c : Nat} {u v : Sg} (h : q_A S L c u v) : (u.1 (46 + 6 * c) 6 = v.1 24 c) ∧ 0 ≤ (v.1 24 c).toInt ∧ (v.1 24 c).toInt ≤ 300 := by
  have e : u.1 (46 + 6 * c) 6 = v.1 24 c := h.2.2.2.1.2.2.2.2.1
  have g := h.2.2.2.2.2.2.2.1
  rw [e] at g
  exact ⟨e, g⟩
theorem q_A_cl {S L c : Nat} {u v : Sg} (h : q_A S L c u v) : (nI c).toNatClampNeg = c ∧ (nI c).toInt = c := by
  have := h.1
  exact ⟨nI_clamp (by omega), nI_toInt (by omega)⟩
theorem q_A_ix {S L c : Nat} {u v : Sg} (h : q_A S L c u v) {i : Int32} (hi : 0 ≤ i.toInt ∧ i.toInt ≤ 300) : ((300 * nI c) + i).toNatClampNeg = 300 * c + i.toNatClampNeg := by
  have h1 := h.1
  have h2 := q_A_cl h
  rw [ix_n (k := 300) (l := 12) rfl (by rw [h2.2]; omega) ⟨hi.1, by omega⟩ (by decide), h2.1]
theorem byte_eq {S L c : Nat} {u v : Sg} (h : q_A S L c u v) (ht : u.2.2 18 0 = some c) {i : Int32} (hi : 0 ≤ i.toInt ∧ i.toInt < (v.1 24 c).toInt) : f_X4_byteAt u i = v.1 25 (((300 * nI c) + i).toNatClampNeg) := by
  have hz := q_A_sz h
  have i0 : (0 : Int32).toInt = 0 := rfl
  unfold f_X4_byteAt
  rw [ht]
  dsimp only
  rw [if_neg (by simp only [Int32.lt_iff_toInt_lt]; omega), hz.1, if_neg (by simp only [Int32.le_iff_toInt_le]; omega), q_A_ix h ⟨hi.1, by omega⟩]
  exact h.2.2.2.1.2.2.2.2.2.2.2.1 _ (by rw [clampEq]; omega)
theorem blank_eq (z w : Sg) (b : Int32) : f_X4_isBlank z b = f_X6_isBlank w b := by
  unfold f_X4_isBlank f_X6_isBlank
  rfl
theorem uIIs {z : Sg} {r k : Nat} {x y : Int32} : uI (uI z r k x) r k y = uI z r k y := by
  unfold uI
  refine Prod.ext ?_ rfl
  funext q j
  show va_up (va_up z.1 r (upd (z.1 r) k x)) r (upd (va_up z.1 r (upd (z.1 r) k x) r) k y) q j = va_up z.1 r (upd (z.1 r) k y) q j
  unfold va_up upd
  by_cases e : q = r
  · simp only [if_pos e, if_pos]
    by_cases e2 : j = k
    · simp only [if_pos e2]
    · simp only [if_neg e2]
  · simp only [if_neg e]
theorem uI_id {z : Sg} {r k : Nat} {x : Int32} (h : z.1 r k = x) : uI z r k x = z := by
  unfold uI
  refine Prod.ext ?_ rfl
  funext q j
  show va_up z.1 r (upd (z.1 r) k x) q j = z.1 q j
  unfold va_up upd
  by_cases e : q = r
  · rw [if_pos e]
    by_cases e2 : j = k
    · rw [if_pos e2, e, e2, h]
    · rw [if_neg e2, e]
  · rw [if_neg e]
theorem byte_u {z : Sg} {k : Nat} {x i : Int32} : f_X4_byteAt (uI z 18 k x) i = f_X4_byteAt z i := by
  have e : (uI z 18 k x).2.2 = z.2.2 := rfl
  unfold f_X4_byteAt
  rw [e]
  cases z.2.2 18 0 with
  | none => rfl
  | some c =>
    dsimp only
    rw [uI_r (by omega), uI_r (by omega)]
theorem i_add1' {x : Int32} (h : 0 ≤ x.toInt ∧ x.toInt ≤ 1000) : (x + 1).toInt = x.toInt + 1 := i_p1 (m := 1001) h.1 (by omega) (by decide)
/-- the end of a token -/
theorem sim_end {S L c : Nat} {u v : Sg} (h : q_A S L c u v) (ht : u.2.2 18 0 = some c) {p1 : Int32} : ∀ (k : Nat) (x : Int32), 0 ≤ x.toInt → x.toInt ≤ (v.1 24 c).toInt → 300 - x.toInt.toNat < k → ∃ y : Int32, f_X4_step_L70 k (uI u 18 2 x) (v.1 24 c) = uI u 18 2 y ∧ f_X6_token_L60 (nI c) p1 k (uI v 19 31 x) = uI v 19 31 y ∧ x.toInt ≤ y.toInt ∧ y.toInt ≤ (v.1 24 c).toInt ∧ (x.toInt < (v.1 24 c).toInt → f_X4_isBlank u (f_X4_byteAt u x) = 0 → x.toInt < y.toInt) := by
  have hz := q_A_sz h
  have hc := q_A_cl h
  intro k
  induction k with
  | zero => intro x _ _ g; omega
  | succ k ih =>
    intro x h0 h1 h2
    have a1 : (uI u 18 2 x).1 18 2 = x := by rw [uI_s, upd_eq]
    have a2 : (uI v 19 31 x).1 19 31 = x := by rw [uI_s, upd_eq]
    have a3 : (uI v 19 31 x).1 24 = v.1 24 := rfl
    have a4 : (uI v 19 31 x).1 25 = v.1 25 := rfl
    rw [f_X4_step_L70, f_X6_token_L60, a1, a2, a3, a4, hc.1, byte_u]
    by_cases g : v.1 24 c ≤ x
    · rw [if_pos g, if_pos g]
      simp only [Int32.le_iff_toInt_le] at g
      exact ⟨x, rfl, rfl, Int.le_refl _, h1, fun g2 => by omega⟩
    · rw [if_neg g, if_neg g]
      simp only [Int32.le_iff_toInt_le] at g
      rw [← byte_eq h ht ⟨h0, by omega⟩, blank_eq (uI u 18 2 x) (uI v 19 31 x), blank_eq u (uI v 19 31 x)]
      have e1 := i_add1' (x := x) ⟨h0, by omega⟩
      by_cases g2 : f_X6_isBlank (uI v 19 31 x) (f_X4_byteAt u x) = 0
      · rw [if_pos g2, if_pos g2, uIIs, uIIs]
        obtain ⟨y, y1, y2, y3, y4, _⟩ := ih (x + 1) (by rw [e1]; omega) (by rw [e1]; omega) (by rw [e1]; omega)
        exact ⟨y, y1, y2, by omega, y4, fun _ _ => by omega⟩
      · rw [if_neg g2, if_neg g2]
        exact ⟨x, rfl, rfl, Int.le_refl _, h1, fun _ g3 => absurd g3 g2⟩
theorem sim_begin {S L c : Nat} {u v : Sg} (h : q_A S L c u v) (ht : u.2.2 18 0 = some c) {p1 : Int32} : ∀ (k : Nat) (x : Int32), 0 ≤ x.toInt → x.toInt ≤ (v.1 24 c).toInt → 300 - x.toInt.toNat < k → ∃ b e : Int32, f_X4_step_L27 k (uI u 18 1 x) (v.1 24 c) = uI (uI u 18 1 b) 18 2 e ∧ f_X6_token_L5 (nI c) p1 k (uI v 19 30 x) = uI (uI v 19 30 b) 19 31 e ∧ x.toInt ≤ b.toInt ∧ b.toInt ≤ e.toInt ∧ e.toInt ≤ (v.1 24 c).toInt ∧ (b.toInt < (v.1 24 c).toInt → b.toInt < e.toInt) := by
  have hz := q_A_sz h
  have hc := q_A_cl h
  intro k
  induction k with
  | zero => intro x _ _ g; omega
  | succ k ih =>
    intro x h0 h1 h2
    have a1 : (uI u 18 1 x).1 18 1 = x := by rw [uI_s, upd_eq]
    have a2 : (uI v 19 30 x).1 19 30 = x := by rw [uI_s, upd_eq]
    have a3 : (uI v 19 30 x).1 24 = v.1 24 := rfl
    have a4 : (uI v 19 30 x).1 25 = v.1 25 := rfl
    have hA : q_A S L c (uI u 18 1 x) (uI v 19 30 x) := q_A_of h (cf_uI ⟨rfl, by decide⟩ cf.rf) (mf_u19 ⟨by decide, by decide, by decide, by decide⟩ mf.rf)
    rw [f_X4_step_L27, f_X6_token_L5, a1, a2, a3, a4, hc.1, byte_u]
    by_cases g : v.1 24 c ≤ x
    · rw [if_pos g, if_pos g]
      obtain ⟨y, y1, y2, y3, y4, y5⟩ := sim_end hA ht (p1 := p1) 301 x h0 h1 (by omega)
      simp only [Int32.le_iff_toInt_le] at g
      exact ⟨x, y, y1, y2, Int.le_refl _, y3, y4, fun g2 => by omega⟩
    · rw [if_neg g, if_neg g]
      simp only [Int32.le_iff_toInt_le] at g
      rw [← byte_eq h ht ⟨h0, by omega⟩, blank_eq (uI u 18 1 x) (uI v 19 30 x)]
      have e1 := i_add1' (x := x) ⟨h0, by omega⟩
      by_cases g2 : f_X6_isBlank (uI v 19 30 x) (f_X4_byteAt u x) = 0
      · rw [if_pos g2, if_pos g2]
        obtain ⟨y, y1, y2, y3, y4, y5⟩ := sim_end hA ht (p1 := p1) 301 x h0 h1 (by omega)
        refine ⟨x, y, y1, y2, Int.le_refl _, y3, y4, fun g3 => y5 g3 ?_⟩
        rw [byte_u, blank_eq (uI u 18 1 x) (uI v 19 30 x)]
        exact g2
      · rw [if_neg g2, if_neg g2, uIIs, uIIs]
        obtain ⟨b, e, y1, y2, y3, y4⟩ := ih (x + 1) (by rw [e1]; omega) (by rw [e1]; omega) (by rw [e1]; omega)
        exact ⟨b, e, y1, y2, by omega, y4⟩
theorem sim_step {S L c : Nat} {u v : Sg} (h : q_A S L c u v) (ht : u.2.2 18 0 = some c) {x : Int32} (hx : u.1 18 2 = x) (h0 : 0 ≤ x.toInt ∧ x.toInt ≤ (v.1 24 c).toInt) : ∃ b e : Int32, f_X4_step u = uI (uI u 18 1 b) 18 2 e ∧ f_X6_token v (nI c) x = uI (uI v 19 30 b) 19 31 e ∧ x.toInt ≤ b.toInt ∧ b.toInt ≤ e.toInt ∧ e.toInt ≤ (v.1 24 c).toInt ∧ (b.toInt < (v.1 24 c).toInt → b.toInt < e.toInt) := by
  have hz := q_A_sz h
  unfold f_X4_step f_X6_token
  rw [ht]
  dsimp only
  rw [hx, hz.1]
  exact sim_begin h ht 301 x h0.1 h0.2 (by omega)
/-- a number on both sides -/
theorem sim_num_L {S L c : Nat} {u v : Sg} (h : q_A S L c u v) (ht : u.2.2 18 0 = some c) (h2 : u.1 18 2 = v.1 19 31) (he : (v.1 19 31).toInt ≤ (v.1 24 c).toInt) : ∀ (k m : Nat) (a : Int64) (i : Int32), 0 ≤ i.toInt → i.toInt ≤ 300 → 300 - i.toInt.toNat < k → (v.1 19 31).toInt ≤ i.toInt + m → 0 ≤ a.toInt → (a.toInt + 1) * 10 ^ m ≤ 10000000000 → (f_X4_isNumber_L28 u k i = 0 ∧ f_X6_number_L37 v (nI c) k a i = -1) ∨ (¬ f_X4_isNumber_L28 u k i = 0 ∧ f_X6_number_L37 v (nI c) k a i = f_X4_number_L7 u k a i ∧ 0 ≤ (f_X6_number_L37 v (nI c) k a i).toInt) := by
  have hz := q_A_sz h
  intro k
  induction k with
  | zero => intro m a i _ _ g; omega
  | succ k ih =>
    intro m a i h0 h00 hk h1 h3 h4
    have hp0 : (0 : Int) < 10 ^ m := Int.pow_pos (by decide)
    have hp : (1 : Int) ≤ 10 ^ m := hp0
    have ha : a.toInt < 10000000000 := by
      have h5 : (a.toInt + 1) * 1 ≤ (a.toInt + 1) * 10 ^ m := Int.mul_le_mul_of_nonneg_left hp (by omega)
      omega
    rw [f_X4_isNumber_L28, f_X6_number_L37, f_X4_number_L7, h2]
    by_cases g : v.1 19 31 ≤ i
    · rw [if_pos g, if_pos g, if_pos g]; exact Or.inr ⟨by decide, rfl, h3⟩
    · rw [if_neg g, if_neg g, if_neg g]
      have g2 := g
      simp only [Int32.le_iff_toInt_le] at g2
      obtain ⟨m', rfl⟩ : ∃ m', m = m' + 1 := ⟨m - 1, by omega⟩
      rw [← byte_eq h ht ⟨h0, by omega⟩]
      have hb : (-128 : Int) ≤ (f_X4_byteAt u i).toInt ∧ (f_X4_byteAt u i).toInt ≤ 127 := by
        have e1 : (f_X4_byteAt u i).toInt8.toInt32 = f_X4_byteAt u i := by
          unfold f_X4_byteAt
          rw [ht]
          dsimp only
          split
          · rfl
          · split
            · rfl
            · exact h.2.2.2.2.2.2.2.2.2.1 _
        rw [← e1, Int8.toInt_toInt32]
        have l1 := (f_X4_byteAt u i).toInt8.le_toInt
        have l2 := (f_X4_byteAt u i).toInt8.toInt_lt
        omega
      have e48 : (48 : Int32).toInt = 48 := rfl
      have e57 : (57 : Int32).toInt = 57 := rfl
      have i0 : (0 : Int32).toInt = 0 := rfl
      have i9 : (9 : Int32).toInt = 9 := rfl
      have es : (f_X4_byteAt u i - 48).toInt = (f_X4_byteAt u i).toInt - 48 := by
        rw [Int32.toInt_sub, e48]
        exact Int.bmod_eq_of_le_mul_two (by simp; omega) (by simp; omega)
      by_cases c1 : f_X4_byteAt u i < 48
      · have c2 : f_X4_byteAt u i - 48 < 0 := by
          simp only [Int32.lt_iff_toInt_lt] at c1 ⊢; omega
        rw [if_pos c1, if_pos c2]; exact Or.inl ⟨rfl, rfl⟩
      · have c2 : ¬ f_X4_byteAt u i - 48 < 0 := by
          simp only [Int32.lt_iff_toInt_lt] at c1 ⊢; omega
        rw [if_neg c1, if_neg c2]
        by_cases d1 : f_X4_byteAt u i ≤ 57
        · have d2 : f_X4_byteAt u i - 48 ≤ 9 := by
            simp only [Int32.le_iff_toInt_le] at d1 ⊢; omega
          rw [if_pos d1, if_pos d2]
          simp only [Int32.lt_iff_toInt_lt] at c2
          simp only [Int32.le_iff_toInt_le] at d2
          have e := l_ma (a := a) (d := f_X4_byteAt u i - 48) ⟨h3, ha⟩ ⟨by omega, by omega⟩
          have hi1 := i_add1 g
          rw [Int64.mul_comm a 10]
          refine ih m' _ _ (by rw [hi1]; omega) (by rw [hi1]; omega) (by rw [hi1]; omega) (by rw [hi1]; omega) (by rw [e]; omega) ?_
          rw [e]
          have h7 : (10 * a.toInt + (f_X4_byteAt u i - 48).toInt + 1) * 10 ^ m' ≤ (10 * (a.toInt + 1)) * 10 ^ m' := Int.mul_le_mul_of_nonneg_right (by omega) (Int.pow_nonneg (by decide))
          have h8 : (10 * (a.toInt + 1)) * 10 ^ m' = (a.toInt + 1) * 10 ^ (m' + 1) := by
            rw [Int.pow_succ, Int.mul_comm 10 (a.toInt + 1), Int.mul_assoc, Int.mul_comm 10 (10 ^ m')]
          omega
        · have d2 : ¬ f_X4_byteAt u i - 48 ≤ 9 := by
            simp only [Int32.le_iff_toInt_le] at d1 ⊢; omega
          rw [if_neg d1, if_neg d2]; exact Or.inl ⟨rfl, rfl⟩
theorem num_lt_L {z : Sg} {p : Int32} {x : Int64} (hJ : 0 ≤ (z.1 19 30).toInt ∧ (z.1 19 30).toInt ≤ 300) (hE : 0 ≤ (z.1 19 31).toInt ∧ (z.1 19 31).toInt ≤ 300) : (f_X6_number z p).toInt < 10000000000 := by
  unfold f_X6_number
  split
  · decide
  · split
    · next h2 =>
      refine (num_le_L37 hE.2 _ 10 _ _ hJ.1 ?_ (by decide) (by decide)).2
      simp only [Int32.le_iff_toInt_le] at h2
      have e10 : (10 : Int32).toInt = 10 := rfl
      have e : ((z.1 19 31) - (z.1 19 30)).toInt = (z.1 19 31).toInt - (z.1 19 30).toInt := by
        rw [Int32.toInt_sub]
        exact Int.bmod_eq_of_le_mul_two (by simp; omega) (by simp; omega)
      rw [e, e10] at h2
      omega
    · decide
theorem sim_num {S L c : Nat} {u v : Sg} (h : q_A S L c u v) (ht : u.2.2 18 0 = some c) (h1 : u.1 18 1 = v.1 19 30) (h2 : u.1 18 2 = v.1 19 31) (h0 : 0 ≤ (v.1 19 30).toInt ∧ (v.1 19 30).toInt ≤ (v.1 19 31).toInt) (he : (v.1 19 31).toInt ≤ (v.1 24 c).toInt) : (f_X4_isNumber u = 0 ∧ f_X6_number v (nI c) = -1) ∨ (¬ f_X4_isNumber u = 0 ∧ f_X6_number v (nI c) = f_X4_number u ∧ 0 ≤ (f_X6_number v (nI c)).toInt ∧ (f_X6_number v (nI c)).toInt < 10000000000 ∧ (v.1 19 30).toInt < (v.1 19 31).toInt) := by
  have hz := q_A_sz h
  have hlt := num_lt_L (z := v) (p := nI c) (x := 0) ⟨h0.1, by omega⟩ ⟨by omega, by omega⟩
  revert hlt
  unfold f_X4_isNumber f_X6_number f_X4_number f_X4_atEnd
  rw [h1, h2]
  intro hlt
  by_cases a : v.1 19 30 = v.1 19 31
  · rw [if_pos a, if_neg (by decide), if_pos a.symm]; exact Or.inl ⟨rfl, rfl⟩
  · have a' : ¬ v.1 19 31 = v.1 19 30 := fun e => a e.symm
    have a2 : (v.1 19 30).toInt < (v.1 19 31).toInt := by
      rw [← Int32.toInt_inj] at a; omega
    rw [if_neg a'] at hlt
    rw [if_neg a, if_pos rfl, if_neg a']
    by_cases b : v.1 19 31 - v.1 19 30 ≤ 10
    · rw [if_pos b] at hlt
      rw [if_pos b, if_pos b]
      simp only [Int32.le_iff_toInt_le] at b
      have e10 : (10 : Int32).toInt = 10 := rfl
      have e : ((v.1 19 31) - (v.1 19 30)).toInt = (v.1 19 31).toInt - (v.1 19 30).toInt := by
        rw [Int32.toInt_sub]
        exact Int.bmod_eq_of_le_mul_two (by simp; omega) (by simp; omega)
      rcases sim_num_L h ht h2 he 301 10 0 (v.1 19 30) h0.1 (by omega) (by omega) (by omega) (by decide) (by decide) with g | ⟨g1, g2, g3⟩
      · exact Or.inl g
      · exact Or.inr ⟨g1, g2, g3, hlt, a2⟩
    · rw [if_neg b, if_neg b]; exact Or.inl ⟨rfl, rfl⟩
theorem sim_only {S L c : Nat} {u v : Sg} (h : q_A S L c u v) (ht : u.2.2 18 0 = some c) (h1 : u.1 18 1 = v.1 19 30) (h2 : u.1 18 2 = v.1 19 31) (h0 : 0 ≤ (v.1 19 30).toInt ∧ (v.1 19 30).toInt ≤ (v.1 19 31).toInt) (he : (v.1 19 31).toInt ≤ (v.1 24 c).toInt) (s : Int32) : f_X4_isOnly u s = f_X6_isByte v (nI c) s := by
  have hz := q_A_sz h
  have i1 : (1 : Int32).toInt = 1 := rfl
  have e : ((v.1 19 31) - (v.1 19 30)).toInt = (v.1 19 31).toInt - (v.1 19 30).toInt := by
    rw [Int32.toInt_sub]
    exact Int.bmod_eq_of_le_mul_two (by simp; omega) (by simp; omega)
  have e2 := i_add1' (x := v.1 19 30) ⟨h0.1, by omega⟩
  unfold f_X4_isOnly f_X6_isByte
  rw [h1, h2]
  by_cases a : v.1 19 31 - v.1 19 30 = 1
  · have a' : v.1 19 31 = v.1 19 30 + 1 := by
      rw [← Int32.toInt_inj] at a ⊢; omega
    rw [← Int32.toInt_inj] at a
    rw [if_pos (by rw [← Int32.toInt_inj]; omega), if_pos a', byte_eq h ht ⟨h0.1, by omega⟩]
  · have a' : ¬ v.1 19 31 = v.1 19 30 + 1 := by
      rw [← Int32.toInt_inj] at a ⊢; omega
    rw [if_neg a, if_neg a']
