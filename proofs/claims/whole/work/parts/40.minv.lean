/-! ===== the reference: indices, and what always holds of its state ===== -/
theorem mul_ti {K s : Int32} {k l : Nat} (hK : K.toInt = k) (hs : 0 ≤ s.toInt ∧ s.toInt < l) (hb : k * l < 2 ^ 31) : (K * s).toInt = k * s.toInt ∧ (k : Int) * s.toInt ≤ k * (l - 1) := by
  have h1 : (k : Int) * s.toInt ≤ k * ((l : Int) - 1) := Int.mul_le_mul_of_nonneg_left (by omega) (by omega)
  have h0 : 0 ≤ (k : Int) * s.toInt := Int.mul_nonneg (by omega) hs.1
  have h2 : (k : Int) * ((l : Int) - 1) = (k * l : Nat) - k := by
    rw [Int.mul_sub, Int.mul_one]; simp
  refine ⟨?_, h1⟩
  rw [Int32.toInt_mul, hK]
  exact Int.bmod_eq_of_le_mul_two (by simp; omega) (by simp; omega)
theorem ix0 {K s : Int32} {k l : Nat} (hK : K.toInt = k) (hs : 0 ≤ s.toInt ∧ s.toInt < l) (hk : 0 < k) (hb : k * l < 2 ^ 31) : vp_in (K * s) (k * l) := by
  obtain ⟨e, h1⟩ := mul_ti hK hs hb
  have h0 : 0 ≤ (k : Int) * s.toInt := Int.mul_nonneg (by omega) hs.1
  have h2 : (k : Int) * ((l : Int) - 1) = (k * l : Nat) - k := by
    rw [Int.mul_sub, Int.mul_one]; simp
  rw [vp_in_iff, e]
  omega
theorem add_ti {K s x : Int32} {k l : Nat} (hK : K.toInt = k) (hs : 0 ≤ s.toInt ∧ s.toInt < l) (hx : 0 ≤ x.toInt ∧ x.toInt ≤ k) (hb : k * l < 2 ^ 31) : (K * s + x).toInt = k * s.toInt + x.toInt := by
  obtain ⟨e, h1⟩ := mul_ti hK hs hb
  have h0 : 0 ≤ (k : Int) * s.toInt := Int.mul_nonneg (by omega) hs.1
  have h2 : (k : Int) * ((l : Int) - 1) = (k * l : Nat) - k := by
    rw [Int.mul_sub, Int.mul_one]; simp
  rw [Int32.toInt_add, e]
  exact Int.bmod_eq_of_le_mul_two (by simp; omega) (by simp; omega)
theorem ix1 {K s x : Int32} {k l : Nat} (hK : K.toInt = k) (hs : 0 ≤ s.toInt ∧ s.toInt < l) (hx : 0 ≤ x.toInt ∧ x.toInt < k) (hb : k * l < 2 ^ 31) : vp_in (K * s + x) (k * l) := by
  obtain ⟨e, h1⟩ := mul_ti hK hs hb
  have h0 : 0 ≤ (k : Int) * s.toInt := Int.mul_nonneg (by omega) hs.1
  have h2 : (k : Int) * ((l : Int) - 1) = (k * l : Nat) - k := by
    rw [Int.mul_sub, Int.mul_one]; simp
  rw [vp_in_iff, add_ti hK hs ⟨hx.1, by omega⟩ hb]
  omega
theorem ix2 {K s x : Int32} {k l : Nat} (hK : K.toInt = k) (hs : 0 ≤ s.toInt ∧ s.toInt < l) (hx : 1 ≤ x.toInt ∧ x.toInt ≤ k) (hb : k * l < 2 ^ 31) : vp_in (K * s + x - 1) (k * l) := by
  obtain ⟨e, h1⟩ := mul_ti hK hs hb
  have h0 : 0 ≤ (k : Int) * s.toInt := Int.mul_nonneg (by omega) hs.1
  have h2 : (k : Int) * ((l : Int) - 1) = (k * l : Nat) - k := by
    rw [Int.mul_sub, Int.mul_one]; simp
  have e2 := add_ti hK hs ⟨by omega, hx.2⟩ hb
  have e3 : (K * s + x - 1).toInt = k * s.toInt + x.toInt - 1 := by
    rw [Int32.toInt_sub, e2]
    have : (1 : Int32).toInt = 1 := rfl
    rw [this]
    exact Int.bmod_eq_of_le_mul_two (by simp; omega) (by simp; omega)
  rw [vp_in_iff, e3]
  omega
def k_J (S : Nat) (z : Sg) : Prop :=
  (S ≤ 12 ∧ (z.1 19 1).toInt = S) ∧
  (0 ≤ (z.1 19 14).toInt ∧ (z.1 19 14).toInt ≤ 60) ∧
  (0 ≤ (z.1 19 18).toInt ∧ (z.1 19 18).toInt ≤ 12) ∧
  (0 ≤ (z.1 19 25).toInt ∧ (z.1 19 25).toInt ≤ 200) ∧
  (0 ≤ (z.1 19 30).toInt ∧ (z.1 19 30).toInt ≤ 300) ∧
  (0 ≤ (z.1 19 31).toInt ∧ (z.1 19 31).toInt ≤ 300) ∧
  (∀ k, 0 ≤ (z.1 24 k).toInt ∧ (z.1 24 k).toInt ≤ 300) ∧
  (∀ k, 0 ≤ (z.1 27 k).toInt ∧ (z.1 27 k).toInt ≤ 6) ∧
  (∀ k, (z.1 25 k).toInt8.toInt32 = z.1 25 k) ∧
  (∀ k, 0 ≤ (z.1 35 k).toInt ∧ (z.1 35 k).toInt < 12) ∧
  (∀ k, 0 ≤ (z.1 39 k).toInt ∧ (z.1 39 k).toInt ≤ 12)
theorem k_J_of {S : Nat} {z w : Sg} (hI : k_J S z) (h19 : w.1 19 = z.1 19) (h24 : w.1 24 = z.1 24) (h25 : w.1 25 = z.1 25) (h27 : w.1 27 = z.1 27) (h35 : w.1 35 = z.1 35) (h39 : w.1 39 = z.1 39) : k_J S w := by
  unfold k_J
  rw [h19, h24, h25, h27, h35, h39]
  exact hI
theorem k_J_u {S r k : Nat} {x : Int32} {z : Sg} (hr : r ≠ 19 ∧ r ≠ 24 ∧ r ≠ 25 ∧ r ≠ 27 ∧ r ≠ 35 ∧ r ≠ 39) (hI : k_J S z) : k_J S (uI z r k x) :=
  k_J_of hI (uI_r hr.1.symm) (uI_r hr.2.1.symm) (uI_r hr.2.2.1.symm) (uI_r hr.2.2.2.1.symm) (uI_r hr.2.2.2.2.1.symm) (uI_r hr.2.2.2.2.2.symm)
theorem k_J_uJ {S r k : Nat} {x : Int64} {z : Sg} (hI : k_J S z) : k_J S (uJ z r k x) := hI
theorem k_J_f {S : Nat} {x : Int32} {z : Sg} (hI : k_J S z) : k_J S (uI z 19 0 x) := hI
theorem k_J_b {S : Nat} {x : Int32} {z : Sg} (h : 0 ≤ x.toInt ∧ x.toInt ≤ 300) (hI : k_J S z) : k_J S (uI z 19 30 x) :=
  ⟨hI.1, hI.2.1, hI.2.2.1, hI.2.2.2.1, h, hI.2.2.2.2.2⟩
theorem k_J_e {S : Nat} {x : Int32} {z : Sg} (h : 0 ≤ x.toInt ∧ x.toInt ≤ 300) (hI : k_J S z) : k_J S (uI z 19 31 x) :=
  ⟨hI.1, hI.2.1, hI.2.2.1, hI.2.2.2.1, hI.2.2.2.2.1, h, hI.2.2.2.2.2.2⟩
theorem k_J_t {S : Nat} {x : Int32} {z : Sg} (h : 0 ≤ x.toInt ∧ x.toInt ≤ 200) (hI : k_J S z) : k_J S (uI z 19 25 x) :=
  ⟨hI.1, hI.2.1, hI.2.2.1, h, hI.2.2.2.2⟩
theorem k_J_c {S : Nat} {x : Int32} {z : Sg} (h : 0 ≤ x.toInt ∧ x.toInt ≤ 12) (hI : k_J S z) : k_J S (uI z 19 18 x) :=
  ⟨hI.1, hI.2.1, h, hI.2.2.2⟩
theorem k_J_h {S : Nat} {x : Int32} {z : Sg} (h : 0 ≤ x.toInt ∧ x.toInt ≤ 60) (hI : k_J S z) : k_J S (uI z 19 14 x) :=
  ⟨hI.1, h, hI.2.2⟩
theorem k_J_ch {S k : Nat} {x : Int32} {z : Sg} (h : 0 ≤ x.toInt ∧ x.toInt < 12) (hI : k_J S z) : k_J S (uI z 35 k x) := by
  refine ⟨hI.1, hI.2.1, hI.2.2.1, hI.2.2.2.1, hI.2.2.2.2.1, hI.2.2.2.2.2.1, hI.2.2.2.2.2.2.1, hI.2.2.2.2.2.2.2.1, hI.2.2.2.2.2.2.2.2.1, fun j => ?_, hI.2.2.2.2.2.2.2.2.2.2⟩
  show 0 ≤ (upd (z.1 35) k x j).toInt ∧ (upd (z.1 35) k x j).toInt < 12
  unfold upd
  split
  · exact h
  · exact hI.2.2.2.2.2.2.2.2.2.1 j
theorem k_Jsz {S : Nat} {z : Sg} (hI : k_J S z) (k : Nat) : 0 ≤ (z.1 24 k).toInt ∧ (z.1 24 k).toInt ≤ 300 := hI.2.2.2.2.2.2.1 k
theorem lt_of12 {S : Nat} {s : Int32} (hS : S ≤ 12) (h : 0 ≤ s.toInt ∧ s.toInt < S) : 0 ≤ s.toInt ∧ s.toInt < (12 : Nat) := by omega
theorem in12 {s : Int32} (h : 0 ≤ s.toInt ∧ s.toInt < (12 : Nat)) : vp_in s 12 := vp_in_iff.mpr h
