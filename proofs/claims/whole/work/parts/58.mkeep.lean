/-! ===== what reading rows keeps of the reference ===== -/
def mfo (q : Nat) : Bool := q == 19 || (Nat.ble 36 q && Nat.ble q 43)
def mf (z w : Sg) : Prop := (∀ q, mfo q = false → w.1 q = z.1 q ∧ w.2.1 q = z.2.1 q) ∧ w.2.2 = z.2.2 ∧ w.1 19 18 = z.1 19 18 ∧ w.1 19 1 = z.1 19 1 ∧ w.1 19 14 = z.1 19 14 ∧ w.1 19 0 = z.1 19 0
theorem mf.rf {z : Sg} : mf z z := ⟨fun _ _ => ⟨rfl, rfl⟩, rfl, rfl, rfl, rfl, rfl⟩
theorem mf.trans {x y w : Sg} (h : mf x y) (g : mf y w) : mf x w := ⟨fun q hq => ⟨((g.1 q hq).1).trans (h.1 q hq).1, ((g.1 q hq).2).trans (h.1 q hq).2⟩, g.2.1.trans h.2.1, g.2.2.1.trans h.2.2.1, g.2.2.2.1.trans h.2.2.2.1, g.2.2.2.2.1.trans h.2.2.2.2.1, g.2.2.2.2.2.trans h.2.2.2.2.2⟩
theorem mf_uI {z w : Sg} {r k : Nat} {x : Int32} (hr : mfo r = true ∧ r ≠ 19) (h : mf z w) : mf z (uI w r k x) := by
  refine ⟨fun q hq => ⟨(uI_r (fun e => ?_)).trans (h.1 q hq).1, (h.1 q hq).2⟩, h.2.1, (congrFun (uI_r hr.2.symm) 18).trans h.2.2.1, (congrFun (uI_r hr.2.symm) 1).trans h.2.2.2.1, (congrFun (uI_r hr.2.symm) 14).trans h.2.2.2.2.1, (congrFun (uI_r hr.2.symm) 0).trans h.2.2.2.2.2⟩
  rw [e, hr.1] at hq; cases hq
theorem mf_uJ {z w : Sg} {r k : Nat} {x : Int64} (hr : mfo r = true) (h : mf z w) : mf z (uJ w r k x) := by
  refine ⟨fun q hq => ⟨(h.1 q hq).1, (uJ_r (fun e => ?_)).trans (h.1 q hq).2⟩, h.2⟩
  rw [e, hr] at hq; cases hq
theorem mf_u19 {z w : Sg} {k : Nat} {x : Int32} (hk : k ≠ 18 ∧ k ≠ 1 ∧ k ≠ 14 ∧ k ≠ 0) (h : mf z w) : mf z (uI w 19 k x) := by
  have e : ∀ j, j ≠ k → (uI w 19 k x).1 19 j = w.1 19 j := fun j hj => by rw [uI_s]; simp [upd, hj]
  refine ⟨fun q hq => ⟨(uI_r (fun e => ?_)).trans (h.1 q hq).1, (h.1 q hq).2⟩, h.2.1, (e _ hk.1.symm).trans h.2.2.1, (e _ hk.2.1.symm).trans h.2.2.2.1, (e _ hk.2.2.1.symm).trans h.2.2.2.2.1, (e _ hk.2.2.2.symm).trans h.2.2.2.2.2⟩
  rw [e] at hq; cases hq
theorem mf_row {z0 z : Sg} {s b : Int32} {p d e : Int64} (h : mf z0 z) : mf z0 (f_X6_row z s p b d e) := by
  unfold f_X6_row
  repeat' (first | exact h | split | (refine mf_uI ⟨rfl, by decide⟩ ?_) | (refine mf_uJ rfl ?_))
theorem mf_tell {z0 z : Sg} {a b : Int32} {d : Int64} (h : mf z0 z) : mf z0 (f_X6_tell z a b d) := by
  unfold f_X6_tell
  repeat' (first | exact h | split | (refine mf_u19 ⟨by decide, by decide, by decide, by decide⟩ ?_) | (refine mf_uI ⟨rfl, by decide⟩ ?_) | (refine mf_uJ rfl ?_))
theorem mf_token_L60 {z0 : Sg} {p0 p1 : Int32} : ∀ (k : Nat) (w : Sg), mf z0 w → mf z0 (f_X6_token_L60 p0 p1 k w) := by
  intro k
  induction k with
  | zero => intro w h; rw [f_X6_token_L60]; exact h
  | succ k ih =>
    intro w h
    rw [f_X6_token_L60]
    split
    · exact h
    · split
      · exact ih _ (mf_u19 ⟨by decide, by decide, by decide, by decide⟩ h)
      · exact h
theorem mf_token_L5 {z0 : Sg} {p0 p1 : Int32} : ∀ (k : Nat) (w : Sg), mf z0 w → mf z0 (f_X6_token_L5 p0 p1 k w) := by
  intro k
  induction k with
  | zero => intro w h; rw [f_X6_token_L5]; exact h
  | succ k ih =>
    intro w h
    have h2 : mf z0 (uI w 19 31 (w.1 19 30)) := mf_u19 ⟨by decide, by decide, by decide, by decide⟩ h
    rw [f_X6_token_L5]
    split
    · exact mf_token_L60 _ _ h2
    · split
      · exact mf_token_L60 _ _ h2
      · exact ih _ (mf_u19 ⟨by decide, by decide, by decide, by decide⟩ h)
theorem mf_token {z0 z : Sg} {p0 p1 : Int32} (h : mf z0 z) : mf z0 (f_X6_token z p0 p1) := mf_token_L5 _ _ (mf_u19 ⟨by decide, by decide, by decide, by decide⟩ h)
theorem V_mf {z w : Sg} (h : mf z w) (hV : k_V z) : k_V w := by
  unfold k_V
  rw [(h.1 26 rfl).1, (h.1 28 rfl).1, (h.1 29 rfl).1]
  exact hV
def k_G (S t : Nat) (s : Int32) (z0 z : Sg) : Prop := k_J S z ∧ k_R t s z ∧ k_V z ∧ mf z0 z
theorem G_row {S t : Nat} {z0 z : Sg} {s b : Int32} {p d e : Int64} (ht : t ≤ 11) (ho : 0 ≤ p.toInt) (h : k_G S t s z0 z) : k_G S t s z0 (f_X6_row z s p b d e) := ⟨(JR_row ht h.2.1 ho h.1).1, (JR_row ht h.2.1 ho h.1).2, V_row h.2.2.1, mf_row h.2.2.2⟩
theorem G_tell {S t : Nat} {z0 z : Sg} {s a b : Int32} {d : Int64} (h : k_G S t s z0 z) : k_G S t s z0 (f_X6_tell z a b d) := ⟨J_tell h.1, R_tell h.2.1, V_tell h.2.2.1, mf_tell h.2.2.2⟩
theorem G_token {S t : Nat} {z0 z : Sg} {s p0 p1 : Int32} (hf : 0 ≤ p1.toInt ∧ p1.toInt ≤ 300) (h : k_G S t s z0 z) : k_G S t s z0 (f_X6_token z p0 p1) := ⟨J_token hf h.1, R_token h.2.1, V_mf (mf_token mf.rf) h.2.2.1, mf_token h.2.2.2⟩
theorem G_readTable_L11 {S t : Nat} {z0 : Sg} {p0 : Int32} (ht : t ≤ 11) : ∀ (k : Nat) (w : Sg) (ob du : Int64), k_G S t p0 z0 w → 0 ≤ ob.toInt ∧ ob.toInt ≤ 10000000000 + (w.1 19 30).toInt → (w.1 19 30).toInt ≤ (w.1 19 31).toInt → k_G S t p0 z0 (f_X6_readTable_L11 p0 k w ob du) := by
  intro k
  induction k with
  | zero => intro w ob du hG _ _; rw [f_X6_readTable_L11]; exact hG
  | succ k ih =>
    intro w ob du hG hob hbe
    rw [f_X6_readTable_L11]
    split
    · split
      · exact hG
      · exact G_tell hG
    · split
      · next hn1 =>
        have e1 := num_end hbe hn1
        have b1 := (num_le (p := p0) hG.1).2
        have g7 := G_token (p0 := p0) hG.1.2.2.2.2.2.1 hG
        have t7 := T_token (p0 := p0) hG.1.2.2.2.2.2.1 hG.1
        generalize f_X6_token w p0 (w.1 19 31) = z7 at g7 t7 ⊢
        dsimp only
        split
        · next hn2 =>
          have g10 := G_token (p0 := p0) g7.1.2.2.2.2.2.1 g7
          have t10 := T_token (p0 := p0) g7.1.2.2.2.2.2.1 g7.1
          generalize f_X6_token z7 p0 (z7.1 19 31) = z10 at g10 t10 ⊢
          have g38 := G_token (p0 := p0) g10.1.2.2.2.2.2.1 g10
          have t38 := T_token (p0 := p0) g10.1.2.2.2.2.2.1 g10.1
          have rowc : ∀ (b : Int32) (x y : Int64), k_G S t p0 z0 (if ((f_X6_row (f_X6_token z10 p0 (z10.1 19 31)) p0 ob b x y).1 19 30) - (w.1 19 30) = 20 then f_X6_readTable_L11 p0 k (f_X6_row (f_X6_token z10 p0 (z10.1 19 31)) p0 ob b x y) (ob + 1) (du - 1) else f_X6_readTable_L11 p0 k (f_X6_tell (f_X6_row (f_X6_token z10 p0 (z10.1 19 31)) p0 ob b x y) 3 p0 (((w.1 19 30) : Int32).toInt64)) (ob + 1) (du - 1)) := by
            intro b x y
            have g41 := G_row (b := b) (d := x) (e := y) ht hob.1 g38
            have t41 : ((f_X6_row (f_X6_token z10 p0 (z10.1 19 31)) p0 ob b x y).1 19) = (f_X6_token z10 p0 (z10.1 19 31)).1 19 := row19
            generalize f_X6_row (f_X6_token z10 p0 (z10.1 19 31)) p0 ob b x y = z41 at g41 t41 ⊢
            rw [← t41] at t38
            split
            · exact ih _ _ _ g41 (bo_r hob hG.1.2.2.2.2.1.2 (by omega)) t38.2
            · have q := @tell19 z41 3 p0 (((w.1 19 30) : Int32).toInt64)
              refine ih _ _ _ (G_tell g41) (bo_r hob hG.1.2.2.2.2.1.2 ?_) ?_
              · rw [q.1]; omega
              · rw [q.1, q.2]; exact t38.2
          split
          · split
            · split
              · exact G_tell g10
              · split
                · exact ih _ _ _ g10 (bo_b hn1 b1 g10.1.2.2.2.2.1.1) t10.2
                · exact G_tell g10
            · split
              · exact G_tell g10
              · exact rowc _ _ _
          · split
            · exact G_tell g10
            · exact rowc _ _ _
        · exact G_tell g7
      · exact G_tell hG
theorem G_readTable {S t : Nat} {z0 z : Sg} {p0 : Int32} (ht : t ≤ 11) (h : k_G S t p0 z0 z) : k_G S t p0 z0 (f_X6_readTable z p0) := by
  unfold f_X6_readTable
  have hf : 0 ≤ (0 : Int32).toInt ∧ (0 : Int32).toInt ≤ 300 := by decide
  have g := G_token (p0 := p0) hf h
  have t2 := T_token (p0 := p0) hf h.1
  refine G_readTable_L11 ht _ _ _ _ g ⟨by decide, ?_⟩ t2.2
  have := g.1.2.2.2.2.1.1
  show (0 : Int) ≤ _
  omega
theorem G_readStream_L55 {S t : Nat} {z0 : Sg} {p0 a b c r : Int32} {K : Int32 → Int32 → Sg → Sg} (ht : t ≤ 11) (hK : ∀ x y w, k_G S t p0 z0 w → k_G S t p0 z0 (K x y w)) : ∀ (k : Nat) (u : Sg) (x y i : Int32), k_G S t p0 z0 u → 0 ≤ i.toInt → k_G S t p0 z0 (f_X6_readStream_L55 p0 a b c r K k u x y i) := by
  intro k
  induction k with
  | zero => intro u x y i h _; rw [f_X6_readStream_L55]; exact h
  | succ k ih =>
    intro u x y i h h0
    rw [f_X6_readStream_L55]
    by_cases g : (u.1 29 (((6 * p0) + r).toNatClampNeg)) ≤ i
    · rw [if_pos g]; exact hK _ _ _ h
    · rw [if_neg g]
      have hi := in_s0 h0 g (n := 100) (h.2.2.1.2.2 _)
      have ho := st_o (h.2.2.1.2.1 (((6 * p0) + r).toNatClampNeg)) h0 g (h.2.2.1.2.2 _)
      split
      · split
        · exact ih _ _ _ _ (G_row ht ho h) hi
        · split
          · exact ih _ _ _ _ h hi
          · exact ih _ _ _ _ (G_row ht ho h) hi
      · exact G_tell h
theorem G_readStream_L41 {S t : Nat} {z0 : Sg} {p0 : Int32} (ht : t ≤ 11) : ∀ (k : Nat) (w : Sg) (a b c x y r : Int32), k_G S t p0 z0 w → k_G S t p0 z0 (f_X6_readStream_L41 p0 k w a b c x y r) := by
  intro k
  induction k with
  | zero => intro w a b c x y r h; rw [f_X6_readStream_L41]; exact h
  | succ k ih =>
    intro w a b c x y r h
    rw [f_X6_readStream_L41]
    split
    · exact h
    · exact G_readStream_L55 ht (fun x y w h => ih _ _ _ _ _ _ _ h) _ _ _ _ _ h (by decide)
theorem G_readStream {S t : Nat} {z0 z : Sg} {p0 : Int32} (ht : t ≤ 11) (h : k_G S t p0 z0 z) : k_G S t p0 z0 (f_X6_readStream z p0) := G_readStream_L41 ht _ _ _ _ _ _ _ _ h

def f_X6_readRows (z : Sg) (p0 : Int32) : Sg :=
  if (z.1 20 p0.toNatClampNeg) = 0 then
    let z5 := (f_X6_readTable z p0)
    z5
  else
    let z3 := (f_X6_readStream z p0)
    z3
set_option maxHeartbeats 4000000 in
set_option maxRecDepth 100000 in
theorem c_X6_readRows (l : Launch) (E : Ev) (S sz : Nat) (z : Sg) (p0 : Int32) (hs : 0 ≤ p0.toInt ∧ p0.toInt < (12 : Nat)) (t : Nat) (ht : t ≤ 11) (hR : k_R t p0 z) (hV : k_V z) (hI : k_J S z) : k_Met l yX6_readRows cX6_readRows 2 none ({ frames := 3, cells := 0, slots := 0, locals := 74 }) [.ref (E.2.2 19), .int p0] E (46 + 6 * S) z sz (fun v u => v = none ∧ u = (f_X6_readRows z p0)) 0 0 := by
  refine k_body (by decide +kernel) (Nat.le_of_ble_eq_true rfl) ?_
  intro p e s m below meth cd ls hx hb hr hml hown hlocks hts hW hl
  have hl : lv_has ls 2 [(0, .ref (E.2.2 19)), (1, .int p0)] := hl
  refine lv_aload_n hx hb dX6_readRows_0 rfl (lv_at hl 0 rfl) ?_
  refine k_get hx hb hts inlX6 hown hW 19 (by omega) k_c19 rfl 2 (by decide) lf_RX6_7 rfl (v := .ref (E.2.2 20)) rfl dX6_readRows_1 ?_
  refine lv_iload_n hx hb dX6_readRows_4 rfl (lv_at hl 1 rfl) ?_
  refine k_iald hx hb hW 20 12 (by omega) k_c20 (v := (z.1 20 p0.toNatClampNeg)) (by exact in12 hs) rfl dX6_readRows_5 ?_
  refine lv_if_ne (tgt := 17) hx hb dX6_readRows_6 (by decide) (fun h1 => ?_) (fun h1 => ?_)
  · refine lv_aload_n hx hb dX6_readRows_17 rfl (lv_at hl 0 rfl) ?_
    refine lv_iload_n hx hb dX6_readRows_18 rfl (lv_at hl 1 rfl) ?_
    refine k_callV (As := [.int p0]) (rest := []) hx hb hml hown hts (c_X6_readStream l E S _ z p0 hs t ht hR hV hI) lm_RX6_175 ln_X6_readStream le_X6_readStream li_X6 lk_X6_readStream (show k_nm yX6_readStream 1 by decide +kernel) ⟨Nat.le_of_ble_eq_true rfl, Nat.le_of_ble_eq_true rfl⟩ rfl rfl ⟨Nat.le_of_ble_eq_true rfl, Nat.le_of_ble_eq_true rfl⟩ hl.1 rfl (Nat.le_of_ble_eq_true rfl) dX6_readRows_19 (by omega) (k_c19 _ _ _) rfl hW (fun v z1 H locs hp hW => ?_)
    obtain ⟨rfl, hz1⟩ := hp
    rw [hz1] at hW
    obtain ⟨z3, ez3⟩ : ∃ y9 : Sg, y9 = (f_X6_readStream z p0) := ⟨_, rfl⟩
    rw [← ez3] at hW
    refine W.eq (g2 := F0 m 22 ls []) rfl ?_
    have hR : (f_X6_readRows z p0) = z3 := (by subst ez3; simp only [f_X6_readRows, if_neg h1])
    exact k_vret hx hb hr hlocks hW ⟨rfl, by rw [hR]⟩ dX6_readRows_22
  · refine lv_aload_n hx hb dX6_readRows_9 rfl (lv_at hl 0 rfl) ?_
    refine lv_iload_n hx hb dX6_readRows_10 rfl (lv_at hl 1 rfl) ?_
    refine k_callV (As := [.int p0]) (rest := []) hx hb hml hown hts (c_X6_readTable l E S _ z p0 hs t ht hR hI) lm_RX6_171 ln_X6_readTable le_X6_readTable li_X6 lk_X6_readTable (show k_nm yX6_readTable 1 by decide +kernel) ⟨Nat.le_of_ble_eq_true rfl, Nat.le_of_ble_eq_true rfl⟩ rfl rfl ⟨Nat.le_of_ble_eq_true rfl, Nat.le_of_ble_eq_true rfl⟩ hl.1 rfl (Nat.le_of_ble_eq_true rfl) dX6_readRows_11 (by omega) (k_c19 _ _ _) rfl hW (fun v z1 H locs hp hW => ?_)
    obtain ⟨rfl, hz1⟩ := hp
    rw [hz1] at hW
    obtain ⟨z5, ez5⟩ : ∃ y9 : Sg, y9 = (f_X6_readTable z p0) := ⟨_, rfl⟩
    rw [← ez5] at hW
    refine W.eq (g2 := F0 m 14 ls []) rfl ?_
    refine lv_goto (tgt := 22) hx hb dX6_readRows_14 (by decide) ?_
    have hR : (f_X6_readRows z p0) = z5 := (by subst ez5; simp only [f_X6_readRows, if_pos h1])
    exact k_vret hx hb hr hlocks hW ⟨rfl, by rw [hR]⟩ dX6_readRows_22

theorem G_readRows {S t : Nat} {z0 z : Sg} {p0 : Int32} (ht : t ≤ 11) (h : k_G S t p0 z0 z) : k_G S t p0 z0 (f_X6_readRows z p0) := by
  unfold f_X6_readRows
  split
  · exact G_readTable ht h
  · exact G_readStream ht h
