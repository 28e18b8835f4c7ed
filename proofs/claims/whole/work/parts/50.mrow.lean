theorem J_app {S t : Nat} {z : Sg} {s o : Int32} (hI : k_J S z) (ht : t ≤ 11) (hR : k_R t s z) (ho : 0 ≤ o.toInt ∧ o.toInt < (100 : Nat)) (h : (z.1 39 o.toNatClampNeg) = 0 ∨ ¬ z.1 40 ((12 * o) + (z.1 39 o.toNatClampNeg) - 1).toNatClampNeg = s) : k_J S (uI (uI z 40 ((12 * o) + (z.1 39 o.toNatClampNeg)).toNatClampNeg s) 39 o.toNatClampNeg ((z.1 39 o.toNatClampNeg) + 1)) ∧ k_R t s (uI (uI z 40 ((12 * o) + (z.1 39 o.toNatClampNeg)).toNatClampNeg s) 39 o.toNatClampNeg ((z.1 39 o.toNatClampNeg) + 1)) := by
  have hlt := rv_lt hI ht hR ho h
  have hix := rv_ix1 hI ho
  have hle : (z.1 39 o.toNatClampNeg).toInt ≤ t := by
    rcases hR o.toNatClampNeg (by rw [clampEq]; omega) with h3 | ⟨h3, h4⟩
    · exact h3
    · rcases h with h | h
      · rw [h] at h3
        have : (0 : Int32).toInt = 0 := rfl
        omega
      · have h0 : ¬ (z.1 39 o.toNatClampNeg) = 0 := fun e => by
          rw [e] at h3
          have : (0 : Int32).toInt = 0 := rfl
          omega
        rw [rv_ix hI ho h0] at h
        exact absurd h4 h
  have hadd : ((z.1 39 o.toNatClampNeg) + 1).toInt = (z.1 39 o.toNatClampNeg).toInt + 1 := by
    rw [Int32.toInt_add]
    have : (1 : Int32).toInt = 1 := rfl
    rw [this]
    exact Int.bmod_eq_of_le_mul_two (by simp; omega) (by simp; omega)
  have hoc : o.toNatClampNeg < 100 := by rw [clampEq]; omega
  generalize hr : z.1 39 o.toNatClampNeg = r at hlt hix hle hadd ⊢
  rw [hix]
  generalize o.toNatClampNeg = q at hr hoc ⊢
  refine ⟨⟨hI.1, hI.2.1, hI.2.2.1, hI.2.2.2.1, hI.2.2.2.2.1, hI.2.2.2.2.2.1, hI.2.2.2.2.2.2.1, hI.2.2.2.2.2.2.2.1, hI.2.2.2.2.2.2.2.2.1, hI.2.2.2.2.2.2.2.2.2.1, fun k => ?_⟩, fun k hk => ?_⟩
  · show 0 ≤ (upd (z.1 39) q (r + 1) k).toInt ∧ (upd (z.1 39) q (r + 1) k).toInt ≤ 12
    unfold upd
    split
    · rw [hadd]; omega
    · exact hI.2.2.2.2.2.2.2.2.2.2 k
  · show (upd (z.1 39) q (r + 1) k).toInt ≤ t ∨ ((upd (z.1 39) q (r + 1) k).toInt = t + 1 ∧ upd (z.1 40) (12 * q + r.toInt.toNat) s (12 * k + (upd (z.1 39) q (r + 1) k).toInt.toNat - 1) = s)
    by_cases e : k = q
    · subst e
      have e1 : upd (z.1 39) k (r + 1) k = r + 1 := by simp [upd]
      rw [e1, hadd]
      by_cases h5 : r.toInt + 1 ≤ t
      · exact Or.inl h5
      · refine Or.inr ⟨by omega, ?_⟩
        have e2 : 12 * k + (r.toInt + 1).toNat - 1 = 12 * k + r.toInt.toNat := by omega
        rw [e2]
        simp [upd]
    · have e1 : upd (z.1 39) q (r + 1) k = z.1 39 k := by simp [upd, e]
      rw [e1]
      have hrk := hI.2.2.2.2.2.2.2.2.2.2 k
      rcases hR k hk with h5 | ⟨h5, h6⟩
      · exact Or.inl h5
      · refine Or.inr ⟨h5, ?_⟩
        have e2 : ¬ 12 * k + (z.1 39 k).toInt.toNat - 1 = 12 * q + r.toInt.toNat := by omega
        simp only [upd, if_neg e2]
        exact h6
theorem JR_row {S t : Nat} {z : Sg} {s b : Int32} {p d e : Int64} (ht : t ≤ 11) (hR : k_R t s z) (ho : 0 ≤ p.toInt) (hI : k_J S z) : k_J S (f_X6_row z s p b d e) ∧ k_R t s (f_X6_row z s p b d e) := by
  unfold f_X6_row
  by_cases h1 : p ≤ 99
  · rw [if_pos h1]
    have hb := ro_b ho h1
    generalize p.toInt32 = o at hb ⊢
    by_cases h2 : (z.1 36 o.toNatClampNeg) = 0
    · rw [if_pos h2]
      have hI2 : k_J S (uJ (uJ (uI z 36 o.toNatClampNeg b) 37 o.toNatClampNeg d) 38 o.toNatClampNeg e) := k_J_uJ (k_J_uJ (k_J_u (by decide) hI))
      have hR2 : k_R t s (uJ (uJ (uI z 36 o.toNatClampNeg b) 37 o.toNatClampNeg d) 38 o.toNatClampNeg e) := hR
      by_cases h3 : (z.1 39 o.toNatClampNeg) = 0
      · rw [if_pos h3]
        exact J_app hI2 ht hR2 hb (Or.inl h3)
      · rw [if_neg h3]
        by_cases h4 : (z.1 40 (((12 * o) + (z.1 39 o.toNatClampNeg)) - 1).toNatClampNeg) = s
        · rw [if_pos h4]; exact ⟨hI2, hR2⟩
        · rw [if_neg h4]
          exact J_app hI2 ht hR2 hb (Or.inr h4)
    · rw [if_neg h2]
      by_cases h3 : (z.1 39 o.toNatClampNeg) = 0
      · rw [if_pos h3]
        exact J_app hI ht hR hb (Or.inl h3)
      · rw [if_neg h3]
        by_cases h4 : (z.1 40 (((12 * o) + (z.1 39 o.toNatClampNeg)) - 1).toNatClampNeg) = s
        · rw [if_pos h4]; exact ⟨hI, hR⟩
        · rw [if_neg h4]
          exact J_app hI ht hR hb (Or.inr h4)
  · rw [if_neg h1]; exact ⟨hI, hR⟩
theorem R_tell {t : Nat} {z : Sg} {s a b : Int32} {d : Int64} (hR : k_R t s z) : k_R t s (f_X6_tell z a b d) := by
  unfold f_X6_tell
  split
  · exact hR
  · exact hR
theorem R_token_L60 {t : Nat} {s p0 p1 : Int32} : ∀ (k : Nat) (w : Sg), k_R t s w → k_R t s (f_X6_token_L60 p0 p1 k w) := by
  intro k
  induction k with
  | zero => intro w h; rw [f_X6_token_L60]; exact h
  | succ k ih =>
    intro w h
    rw [f_X6_token_L60]
    split
    · exact h
    · split
      · exact ih _ h
      · exact h
theorem R_token_L5 {t : Nat} {s p0 p1 : Int32} : ∀ (k : Nat) (w : Sg), k_R t s w → k_R t s (f_X6_token_L5 p0 p1 k w) := by
  intro k
  induction k with
  | zero => intro w h; rw [f_X6_token_L5]; exact h
  | succ k ih =>
    intro w h
    rw [f_X6_token_L5]
    split
    · exact R_token_L60 _ _ h
    · split
      · exact R_token_L60 _ _ h
      · exact ih _ h
theorem R_token {t : Nat} {z : Sg} {s p0 p1 : Int32} (hR : k_R t s z) : k_R t s (f_X6_token z p0 p1) := R_token_L5 _ _ hR
