theorem T_token_L60 {S : Nat} {p0 p1 : Int32} : ∀ (k : Nat) (w : Sg), k_J S w → (f_X6_token_L60 p0 p1 k w).1 19 30 = w.1 19 30 ∧ (w.1 19 31).toInt ≤ ((f_X6_token_L60 p0 p1 k w).1 19 31).toInt := by
  intro k
  induction k with
  | zero => intro w h; rw [f_X6_token_L60]; exact ⟨rfl, Int.le_refl _⟩
  | succ k ih =>
    intro w h
    rw [f_X6_token_L60]
    by_cases g : (w.1 24 p0.toNatClampNeg) ≤ (w.1 19 31)
    · rw [if_pos g]; exact ⟨rfl, Int.le_refl _⟩
    · rw [if_neg g]
      split
      · obtain ⟨h1, h2⟩ := ih _ (k_J_e (x := (w.1 19 31) + 1) ⟨in_s0 h.2.2.2.2.2.1.1 g (k_Jsz h _).2, in_le1 g (k_Jsz h _).2⟩ h)
        refine ⟨h1, ?_⟩
        have h3 : ((w.1 19 31) + 1).toInt ≤ _ := h2
        rw [i_add1 g] at h3
        omega
      · exact ⟨rfl, Int.le_refl _⟩
theorem T_token_L5 {S : Nat} {p0 p1 : Int32} : ∀ (k : Nat) (w : Sg), k_J S w → 300 - (w.1 19 30).toInt.toNat < k → (w.1 19 30).toInt ≤ ((f_X6_token_L5 p0 p1 k w).1 19 30).toInt ∧ ((f_X6_token_L5 p0 p1 k w).1 19 30).toInt ≤ ((f_X6_token_L5 p0 p1 k w).1 19 31).toInt := by
  intro k
  induction k with
  | zero => intro w h hm; exact absurd hm (Nat.not_lt_zero _)
  | succ k ih =>
    intro w h hm
    rw [f_X6_token_L5]
    by_cases g : (w.1 24 p0.toNatClampNeg) ≤ (w.1 19 30)
    · rw [if_pos g]
      obtain ⟨h1, h2⟩ := T_token_L60 (p0 := p0) (p1 := p1) 301 _ (k_J_e h.2.2.2.2.1 h)
      rw [h1]
      exact ⟨Int.le_refl _, h2⟩
    · rw [if_neg g]
      split
      · obtain ⟨h1, h2⟩ := T_token_L60 (p0 := p0) (p1 := p1) 301 _ (k_J_e h.2.2.2.2.1 h)
        rw [h1]
        exact ⟨Int.le_refl _, h2⟩
      · have hb := k_J_b (x := (w.1 19 30) + 1) ⟨in_s0 h.2.2.2.2.1.1 g (k_Jsz h _).2, in_le1 g (k_Jsz h _).2⟩ h
        obtain ⟨h1, h2⟩ := ih _ hb (in_sm h.2.2.2.2.1.1 g (k_Jsz h _).2 hm)
        refine ⟨?_, h2⟩
        have h3 : ((w.1 19 30) + 1).toInt ≤ _ := h1
        rw [i_add1 g] at h3
        omega
theorem T_token {S : Nat} {z : Sg} {p0 p1 : Int32} (hf : 0 ≤ p1.toInt ∧ p1.toInt ≤ 300) (hI : k_J S z) : p1.toInt ≤ ((f_X6_token z p0 p1).1 19 30).toInt ∧ ((f_X6_token z p0 p1).1 19 30).toInt ≤ ((f_X6_token z p0 p1).1 19 31).toInt :=
  T_token_L5 301 _ (k_J_b hf hI) (by show 300 - p1.toInt.toNat < 301; omega)
theorem num_ne {z : Sg} {p : Int32} (h : ¬ f_X6_number z p < 0) : ¬ (z.1 19 31) = (z.1 19 30) := by
  intro e
  unfold f_X6_number at h
  rw [if_pos e] at h
  exact h (by decide)
theorem l_ma {a : Int64} {d : Int32} (ha : 0 ≤ a.toInt ∧ a.toInt < 10000000000) (hd : 0 ≤ d.toInt ∧ d.toInt ≤ 9) : ((10 * a) + d.toInt64).toInt = 10 * a.toInt + d.toInt := by
  have e10 : (10 : Int64).toInt = 10 := rfl
  have h1 : (10 * a).toInt = 10 * a.toInt := by
    rw [Int64.toInt_mul, e10]
    exact Int.bmod_eq_of_le_mul_two (by simp; omega) (by simp; omega)
  rw [Int64.toInt_add, h1, i_2l]
  exact Int.bmod_eq_of_le_mul_two (by simp; omega) (by simp; omega)
theorem num_le_L37 {z : Sg} {p : Int32} (he : (z.1 19 31).toInt ≤ 300) : ∀ (k m : Nat) (a : Int64) (i : Int32), 0 ≤ i.toInt → (z.1 19 31).toInt ≤ i.toInt + m → 0 ≤ a.toInt → (a.toInt + 1) * 10 ^ m ≤ 10000000000 → -1 ≤ (f_X6_number_L37 z p k a i).toInt ∧ (f_X6_number_L37 z p k a i).toInt < 10000000000 := by
  intro k
  induction k with
  | zero =>
    intro m a i h0 h1 h2 h3
    rw [f_X6_number_L37]
    decide
  | succ k ih =>
    intro m a i h0 h1 h2 h3
    have hp0 : (0 : Int) < 10 ^ m := Int.pow_pos (by decide)
    have hp : (1 : Int) ≤ 10 ^ m := hp0
    have ha : a.toInt < 10000000000 := by
      have h5 : (a.toInt + 1) * 1 ≤ (a.toInt + 1) * 10 ^ m := Int.mul_le_mul_of_nonneg_left hp (by omega)
      omega
    rw [f_X6_number_L37]
    by_cases g : (z.1 19 31) ≤ i
    · rw [if_pos g]; exact ⟨by omega, ha⟩
    · rw [if_neg g]
      have g2 := g
      simp only [Int32.le_iff_toInt_le] at g2
      obtain ⟨m', rfl⟩ : ∃ m', m = m' + 1 := ⟨m - 1, by omega⟩
      split
      · exact ⟨by decide, by decide⟩
      · next h5 =>
        split
        · next h6 =>
          have hd0 := nn_of h5
          have hd9 : (z.1 25 ((300 * p) + i).toNatClampNeg - 48).toInt ≤ 9 := by
            simp only [Int32.le_iff_toInt_le] at h6
            have : (9 : Int32).toInt = 9 := rfl
            omega
          have e := l_ma (a := a) ⟨h2, ha⟩ ⟨hd0, hd9⟩
          have hi1 := i_add1 g
          refine ih m' _ _ (by rw [hi1]; omega) (by rw [hi1]; omega) (by rw [e]; omega) ?_
          rw [e]
          have h7 : (10 * a.toInt + (z.1 25 ((300 * p) + i).toNatClampNeg - 48).toInt + 1) * 10 ^ m' ≤ (10 * (a.toInt + 1)) * 10 ^ m' := Int.mul_le_mul_of_nonneg_right (by omega) (Int.pow_nonneg (by decide))
          have h8 : (10 * (a.toInt + 1)) * 10 ^ m' = (a.toInt + 1) * 10 ^ (m' + 1) := by
            rw [Int.pow_succ, Int.mul_comm 10 (a.toInt + 1), Int.mul_assoc, Int.mul_comm 10 (10 ^ m')]
          omega
        · exact ⟨by decide, by decide⟩
theorem num_le {S : Nat} {z : Sg} {p : Int32} (hI : k_J S z) : -1 ≤ (f_X6_number z p).toInt ∧ (f_X6_number z p).toInt < 10000000000 := by
  unfold f_X6_number
  split
  · exact ⟨by decide, by decide⟩
  · split
    · next h2 =>
      refine num_le_L37 hI.2.2.2.2.2.1.2 _ 10 _ _ hI.2.2.2.2.1.1 ?_ (by decide) (by decide)
      simp only [Int32.le_iff_toInt_le] at h2
      have e10 : (10 : Int32).toInt = 10 := rfl
      have e : ((z.1 19 31) - (z.1 19 30)).toInt = (z.1 19 31).toInt - (z.1 19 30).toInt := by
        have h3 := hI.2.2.2.2.1
        have h4 := hI.2.2.2.2.2.1
        rw [Int32.toInt_sub]
        exact Int.bmod_eq_of_le_mul_two (by simp; omega) (by simp; omega)
      rw [e, e10] at h2
      omega
    · exact ⟨by decide, by decide⟩
theorem row19 {z : Sg} {s b : Int32} {p d e : Int64} : (f_X6_row z s p b d e).1 19 = z.1 19 := by
  unfold f_X6_row
  split
  · split
    · split
      · rfl
      · split
        · rfl
        · rfl
    · split
      · rfl
      · split
        · rfl
        · rfl
  · rfl
theorem tell19 {z : Sg} {a b : Int32} {d : Int64} : (f_X6_tell z a b d).1 19 30 = z.1 19 30 ∧ (f_X6_tell z a b d).1 19 31 = z.1 19 31 := by
  unfold f_X6_tell
  split
  · exact ⟨rfl, rfl⟩
  · exact ⟨rfl, rfl⟩
