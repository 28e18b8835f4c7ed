theorem I_tell {S : Nat} {z : Sg} {a b : Int32} {d : Int64} (hI : k_I S z) : k_I S (f_X1_tell z a b d) := by
  unfold f_X1_tell
  by_cases h : (200 : Int32) ≤ (z.1 6 9)
  · rw [if_pos h]; exact hI
  · rw [if_neg h]
    have hI2 : k_I S (uJ (uI (uI z 12 ((z.1 6 9).toNatClampNeg) a) 13 ((z.1 6 9).toNatClampNeg) b) 14 ((z.1 6 9).toNatClampNeg) d) := k_I_u (by decide) (k_I_u (by decide) hI)
    generalize hw : uJ (uI (uI z 12 ((z.1 6 9).toNatClampNeg) a) 13 ((z.1 6 9).toNatClampNeg) b) 14 ((z.1 6 9).toNatClampNeg) d = w at hI2 ⊢
    refine k_I_of hI2 (fun q hq => uI_r (by omega)) hI2.2.2.1 ?_ hI2.2.2.2.2.1 rfl hI2.2.2.2.2.2.2.1 hI2.2.2.2.2.2.2.2.1 (show k_T w from k_IT hI2)
    show 0 ≤ (z.1 6 9 + 1).toInt ∧ (z.1 6 9 + 1).toInt ≤ 200
    exact ⟨in_s0 (m := 200) (n := 200) hI.2.2.2.1.1 h (by decide), in_le1 (m := 200) (n := 200) h (by decide)⟩
theorem I_step_L70 {S : Nat} {n : Int32} (hn : n.toInt ≤ 300) : ∀ (k : Nat) (w : Sg), k_I S w → k_I S (f_X4_step_L70 k w n) := by
  intro k
  induction k with
  | zero => intro w h; rw [f_X4_step_L70]; exact h
  | succ k ih =>
    intro w h
    rw [f_X4_step_L70]
    by_cases g : n ≤ (w.1 18 2)
    · rw [if_pos g]; exact h
    · rw [if_neg g]
      split
      · exact ih _ (k_I_e (in_s0 (k_IT h).2.1 g hn) (in_le1 g hn) h)
      · exact h
theorem I_step_L27 {S : Nat} {n : Int32} (hn : n.toInt ≤ 300) : ∀ (k : Nat) (w : Sg), k_I S w → k_I S (f_X4_step_L27 k w n) := by
  intro k
  induction k with
  | zero => intro w h; rw [f_X4_step_L27]; exact h
  | succ k ih =>
    intro w h
    rw [f_X4_step_L27]
    by_cases g : n ≤ (w.1 18 1)
    · rw [if_pos g]; exact I_step_L70 hn _ _ (k_I_e (k_IT h).1.1 (k_IT h).1.2 h)
    · rw [if_neg g]
      split
      · exact I_step_L70 hn _ _ (k_I_e (k_IT h).1.1 (k_IT h).1.2 h)
      · exact ih _ (k_I_b (in_s0 (k_IT h).1.1 g hn) (in_le1 g hn) h)
theorem I_step {S : Nat} {z : Sg} (hI : k_I S z) : k_I S (f_X4_step z) := by
  unfold f_X4_step
  split
  · exact I_step_L27 (by decide) _ _ (k_I_b (k_IT hI).2.1 (k_IT hI).2.2 hI)
  · next c h => exact I_step_L27 (k_Is hI (hI.2.2.2.2.2.2.2.1 _ h)).2.2.1.2 _ _ (k_I_b (k_IT hI).2.1 (k_IT hI).2.2 hI)
theorem I_takeRow {S : Nat} {z : Sg} {a d e : Int64} {b : Int32} (hI : k_I S z) : k_I S (f_X1_takeRow z a b d e) := by
  unfold f_X1_takeRow
  repeat' (first | exact hI | split | exact k_I_u (by decide) (k_I_u (by decide) hI) | exact k_I_u (by decide) hI)
