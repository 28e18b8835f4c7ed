/-! ===== indices in their rows ===== -/
theorem in_lt {x m : Int32} {n : Nat} (h0 : 0 ≤ x.toInt) (h1 : ¬ m ≤ x) (hm : m.toInt = n) : vp_in x n := by
  refine vp_in_iff.mpr ⟨h0, ?_⟩
  simp only [Int32.le_iff_toInt_le] at h1
  omega
theorem in_lt3 {x m : Int32} {n : Nat} (h0 : 0 ≤ x.toInt) (h1 : ¬ m ≤ x) (hm : m.toInt ≤ n) : vp_in x n := by
  refine vp_in_iff.mpr ⟨h0, ?_⟩
  simp only [Int32.le_iff_toInt_le] at h1
  omega
theorem i_add1 {x m : Int32} (h1 : ¬ m ≤ x) : (x + 1).toInt = x.toInt + 1 := by
  simp only [Int32.le_iff_toInt_le] at h1
  have h2 := m.toInt_lt
  have h3 := x.le_toInt
  rw [Int32.toInt_add]
  exact Int.bmod_eq_of_le_mul_two (by simp; omega) (by simp; omega)
theorem in_s0 {x m : Int32} {n : Nat} (h0 : 0 ≤ x.toInt) (h1 : ¬ m ≤ x) (hm : m.toInt ≤ n) : 0 ≤ (x + 1).toInt := by
  rw [i_add1 h1]; omega
theorem in_sm {x m : Int32} {n k : Nat} (h0 : 0 ≤ x.toInt) (h1 : ¬ m ≤ x) (hm : m.toInt ≤ n) (hk : n - x.toInt.toNat < k + 1) : n - (x + 1).toInt.toNat < k := by
  rw [i_add1 h1]
  simp only [Int32.le_iff_toInt_le] at h1
  omega
