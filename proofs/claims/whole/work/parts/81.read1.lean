/-! ===== calls that only ask: the reference answers as the class does ===== -/
theorem ix_n {K s x : Int32} {k l : Nat} (hK : K.toInt = k) (hs : 0 ≤ s.toInt ∧ s.toInt < l) (hx : 0 ≤ x.toInt ∧ x.toInt ≤ k) (hb : k * l < 2 ^ 31) : (K * s + x).toNatClampNeg = k * s.toNatClampNeg + x.toNatClampNeg := by
  rw [clampEq, clampEq, clampEq, add_ti hK hs hx hb]
  obtain ⟨n, hn⟩ := Int.eq_ofNat_of_zero_le hs.1
  obtain ⟨m, hm⟩ := Int.eq_ofNat_of_zero_le hx.1
  rw [hn, hm]
  have e : (k : Int) * (n : Int) + (m : Int) = ((k * n + m : Nat) : Int) := by simp
  rw [e]
  simp only [Int.toNat_natCast]
theorem ix_m {K s : Int32} {k l : Nat} (hK : K.toInt = k) (hs : 0 ≤ s.toInt ∧ s.toInt < l) (hb : k * l < 2 ^ 31) : (K * s).toNatClampNeg = k * s.toNatClampNeg := by
  rw [clampEq, clampEq, (mul_ti hK hs hb).1]
  obtain ⟨n, hn⟩ := Int.eq_ofNat_of_zero_le hs.1
  rw [hn]
  have e : (k : Int) * (n : Int) = ((k * n : Nat) : Int) := by simp
  rw [e]
  simp only [Int.toNat_natCast]
theorem q_f {S : Nat} {z w : Sg} {x : Int32} (h : q_I S z w) : q_I S z (uI w 19 0 x) := h
theorem q_12 {S : Nat} {z w : Sg} (h : q_I S z w) : S ≤ 12 := h.1.1.1.1
theorem sec_cases {S : Nat} {z w : Sg} (h : q_I S z w) (p : Int32) : (f_X6_isSection w p = 0 ∧ (f_X5_existing z p).1 = 3) ∨ (¬ f_X6_isSection w p = 0 ∧ (f_X5_existing z p).1 = 0 ∧ (0 ≤ p.toInt ∧ p.toInt < S) ∧ p.toNatClampNeg < S ∧ q_s z w p.toNatClampNeg) := by
  have e1 : z.1 0 1 = w.1 19 1 := h.2.2.1.1
  have e2 := h.1.1.1.2
  unfold f_X6_isSection f_X5_existing
  rw [e1] at e2 ⊢
  by_cases a : p < 0
  · left; rw [if_pos a, if_pos a]; exact ⟨rfl, rfl⟩
  · by_cases b : w.1 19 1 ≤ p
    · left; rw [if_neg a, if_neg a, if_pos b, if_pos b]; exact ⟨rfl, rfl⟩
    · right
      rw [if_neg a, if_neg a, if_neg b, if_neg b]
      have a0 := nn_of a
      have b0 : p.toInt < S := by
        simp only [Int32.le_iff_toInt_le] at b
        omega
      have hc : p.toNatClampNeg < S := by rw [clampEq]; omega
      exact ⟨by decide, rfl, ⟨a0, b0⟩, hc, h.2.2.1.2.1 _ hc⟩
theorem key_cases (z w : Sg) (k : Int32) : (f_X5_isKey z k = 0 ∧ f_X6_in w k.toInt64 0 9 = 0) ∨ (¬ f_X5_isKey z k = 0 ∧ ¬ f_X6_in w k.toInt64 0 9 = 0 ∧ (0 ≤ k.toInt ∧ k.toInt < (10 : Nat))) := by
  have e0 : (0 : Int64).toInt = 0 := rfl
  have e9 : (9 : Int64).toInt = 9 := rfl
  have i0 : (0 : Int32).toInt = 0 := rfl
  have i10 : (10 : Int32).toInt = 10 := rfl
  have hk := i_2l k
  unfold f_X5_isKey f_X6_in
  by_cases a : k < 0
  · left
    have b : k.toInt64 < 0 := by
      simp only [Int32.lt_iff_toInt_lt, Int64.lt_iff_toInt_lt] at a ⊢; omega
    rw [if_pos a, if_pos b]; exact ⟨rfl, rfl⟩
  · have b : ¬ k.toInt64 < 0 := by
      simp only [Int32.lt_iff_toInt_lt, Int64.lt_iff_toInt_lt] at a ⊢; omega
    rw [if_neg a, if_neg b]
    by_cases g : (10 : Int32) ≤ k
    · left
      have g2 : (9 : Int64) < k.toInt64 := by
        simp only [Int32.le_iff_toInt_le, Int64.lt_iff_toInt_lt] at g ⊢; omega
      rw [if_pos g, if_pos g2]; exact ⟨rfl, rfl⟩
    · right
      have g2 : ¬ (9 : Int64) < k.toInt64 := by
        simp only [Int32.le_iff_toInt_le, Int64.lt_iff_toInt_lt] at g ⊢; omega
      rw [if_neg g, if_neg g2]
      have a0 := nn_of a
      simp only [Int32.le_iff_toInt_le] at g
      exact ⟨by decide, by decide, a0, by omega⟩
theorem obj_cases (z w : Sg) (k : Int32) : (f_X5_isObject z k.toInt64 = 0 ∧ f_X6_isObject w k = 0) ∨ (¬ f_X5_isObject z k.toInt64 = 0 ∧ ¬ f_X6_isObject w k = 0 ∧ (0 ≤ k.toInt ∧ k.toInt < (100 : Nat))) := by
  have e0 : (0 : Int64).toInt = 0 := rfl
  have e9 : (100 : Int64).toInt = 100 := rfl
  have i0 : (0 : Int32).toInt = 0 := rfl
  have i10 : (100 : Int32).toInt = 100 := rfl
  have hk := i_2l k
  unfold f_X5_isObject f_X6_isObject
  by_cases a : k < 0
  · left
    have b : k.toInt64 < 0 := by
      simp only [Int32.lt_iff_toInt_lt, Int64.lt_iff_toInt_lt] at a ⊢; omega
    rw [if_pos a, if_pos b]; exact ⟨rfl, rfl⟩
  · have b : ¬ k.toInt64 < 0 := by
      simp only [Int32.lt_iff_toInt_lt, Int64.lt_iff_toInt_lt] at a ⊢; omega
    rw [if_neg a, if_neg b]
    by_cases g : (100 : Int32) ≤ k
    · left
      have g2 : (100 : Int64) ≤ k.toInt64 := by
        simp only [Int32.le_iff_toInt_le, Int64.le_iff_toInt_le] at g ⊢; omega
      rw [if_pos g, if_pos g2]; exact ⟨rfl, rfl⟩
    · right
      have g2 : ¬ (100 : Int64) ≤ k.toInt64 := by
        simp only [Int32.le_iff_toInt_le, Int64.le_iff_toInt_le] at g ⊢; omega
      rw [if_neg g, if_neg g2]
      have a0 := nn_of a
      simp only [Int32.le_iff_toInt_le] at g
      exact ⟨by decide, by decide, a0, by omega⟩
theorem sim_octet {S : Nat} {z w : Sg} (h : q_I S z w) (p0 p1 : Int32) : f_X6_octet w p0 p1 = ((f_X5_octet z p0 p1).2, uI w 19 0 (if (f_X5_octet z p0 p1).1 = 0 then 0 else if (f_X5_octet z p0 p1).1 = 3 then 1 else 2)) := by
  unfold f_X6_octet f_X5_octet
  rcases sec_cases h p0 with ⟨h1, h2⟩ | ⟨h1, h2, h3, hc, hs⟩
  · rw [h2, if_pos h1]; rfl
  · rw [if_neg h1, if_pos h2, hs.2.2.2.2.1]
    by_cases a : p1 < 0
    · rw [if_pos a, if_pos a]; rfl
    · rw [if_neg a, if_neg a]
      by_cases b : p1 < w.1 24 p0.toNatClampNeg
      · rw [if_pos b, if_pos b]
        have hz := k_Jsz h.2.1.1 p0.toNatClampNeg
        have a0 := nn_of a
        have b0 := b
        simp only [Int32.lt_iff_toInt_lt] at b0
        have h12 := q_12 h
        rw [ix_n (k := 300) (l := 12) rfl ⟨h3.1, by omega⟩ ⟨a0, by omega⟩ (by decide), ← hs.2.2.2.2.2.2.2.1 p1.toNatClampNeg (by rw [clampEq]; omega)]
        rfl
      · rw [if_neg b, if_neg b]; rfl
theorem sim_value {S : Nat} {z w : Sg} (h : q_I S z w) (p0 p1 : Int32) : f_X6_value w p0 p1 = ((f_X5_value z p0 p1).2, uI w 19 0 (if (f_X5_value z p0 p1).1 = 0 then 0 else if (f_X5_value z p0 p1).1 = 3 then 1 else 2)) := by
  unfold f_X6_value f_X5_value
  rcases sec_cases h p0 with ⟨h1, h2⟩ | ⟨h1, h2, h3, hc, hs⟩
  · rw [h2, if_pos h1]; rfl
  · rw [if_neg h1, if_pos h2]
    rcases key_cases z w p1 with ⟨k1, k2⟩ | ⟨k1, k2, k3⟩
    · rw [if_pos k1, if_pos k2]; rfl
    · rw [if_neg k1, if_neg k2]
      have h12 := q_12 h
      have hk : p1.toNatClampNeg < 10 := by rw [clampEq]; omega
      rw [ix_n (k := 10) (l := 12) rfl ⟨h3.1, by omega⟩ ⟨k3.1, by omega⟩ (by decide), ← hs.2.2.2.2.2.2.2.2.2.2.1 _ hk, ← hs.2.2.2.2.2.2.2.2.2.2.2 _ hk]
      by_cases g : z.1 (46 + 6 * p0.toNatClampNeg + 5) p1.toNatClampNeg = 0
      · rw [if_pos g, (h.1.2.2.1 _ hc).1 _ hk g]; rfl
      · rw [if_neg g]; rfl
theorem sim_kind {S : Nat} {z w : Sg} (h : q_I S z w) (p0 : Int32) : f_X6_kind w p0 = ((f_X5_kind z p0).2, uI w 19 0 (if (f_X5_kind z p0).1 = 0 then 0 else 1)) := by
  have hK : q_K z w := h.2.2.2.2.1
  unfold f_X6_kind f_X5_kind
  rcases obj_cases z w p0 with ⟨h1, h2⟩ | ⟨h1, h2, h3⟩
  · rw [if_pos h1, if_pos h2]; rfl
  · rw [if_neg h1, if_neg h2, hK.1]; rfl
theorem in_01 (w : Sg) (k : Int32) : (f_X6_in w k.toInt64 0 1 = 0 ∧ ¬ k = 0 ∧ ¬ k = 1) ∨ (¬ f_X6_in w k.toInt64 0 1 = 0 ∧ (k = 0 ∨ k = 1)) := by
  have e0 : (0 : Int64).toInt = 0 := rfl
  have e9 : (1 : Int64).toInt = 1 := rfl
  have i0 : (0 : Int32).toInt = 0 := rfl
  have i10 : (1 : Int32).toInt = 1 := rfl
  have hk := i_2l k
  unfold f_X6_in
  simp only [Int64.lt_iff_toInt_lt, ← Int32.toInt_inj (y := (0 : Int32)) (x := k), ← Int32.toInt_inj (y := (1 : Int32)) (x := k), hk, e0, e9, i0, i10]
  by_cases a : k.toInt < 0
  · left; rw [if_pos a]; exact ⟨rfl, by omega, by omega⟩
  · by_cases b : 1 < k.toInt
    · left; rw [if_neg a, if_pos b]; exact ⟨rfl, by omega, by omega⟩
    · right; rw [if_neg a, if_neg b]; exact ⟨by decide, by omega⟩
theorem sim_place {S : Nat} {z w : Sg} (h : q_I S z w) (p0 p1 : Int32) : f_X6_place w p0 p1 = ((f_X5_place z p0 p1).2, uI w 19 0 (if (f_X5_place z p0 p1).1 = 0 then 0 else 1)) := by
  have hK : q_K z w := h.2.2.2.2.1
  unfold f_X6_place f_X5_place
  rcases obj_cases z w p0 with ⟨h1, h2⟩ | ⟨h1, h2, h3⟩
  · rw [if_pos h1, if_pos h2]; rfl
  · rw [if_neg h1, if_neg h2, hK.1, hK.2.1, hK.2.2]
    rcases in_01 w p1 with ⟨g1, g2, g3⟩ | ⟨g1, g2⟩
    · rw [if_pos g1, if_neg g2, if_neg g3]; rfl
    · rw [if_neg g1]
      rcases g2 with g2 | g2
      · rw [if_pos g2, if_pos g2]
        by_cases a : w.1 36 p0.toNatClampNeg = 0
        · rw [if_pos a, if_pos a]; rfl
        · rw [if_neg a, if_neg a]; rfl
      · have g3 : ¬ p1 = 0 := by rw [g2]; decide
        rw [if_neg g3, if_neg g3, if_pos g2]
        by_cases a : w.1 36 p0.toNatClampNeg = 0
        · rw [if_pos a, if_pos a]; rfl
        · rw [if_neg a, if_neg a]; rfl
theorem in_02 (w : Sg) (k : Int32) : (f_X6_in w k.toInt64 0 2 = 0 ∧ ¬ k = 0 ∧ ¬ k = 1 ∧ ¬ k = 2) ∨ (¬ f_X6_in w k.toInt64 0 2 = 0 ∧ (k = 0 ∨ k = 1 ∨ k = 2)) := by
  have e0 : (0 : Int64).toInt = 0 := rfl
  have e9 : (2 : Int64).toInt = 2 := rfl
  have i0 : (0 : Int32).toInt = 0 := rfl
  have i10 : (1 : Int32).toInt = 1 := rfl
  have i20 : (2 : Int32).toInt = 2 := rfl
  have hk := i_2l k
  unfold f_X6_in
  simp only [Int64.lt_iff_toInt_lt, ← Int32.toInt_inj (y := (0 : Int32)) (x := k), ← Int32.toInt_inj (y := (1 : Int32)) (x := k), ← Int32.toInt_inj (y := (2 : Int32)) (x := k), hk, e0, e9, i0, i10, i20]
  by_cases a : k.toInt < 0
  · left; rw [if_pos a]; exact ⟨rfl, by omega, by omega, by omega⟩
  · by_cases b : 2 < k.toInt
    · left; rw [if_neg a, if_pos b]; exact ⟨rfl, by omega, by omega, by omega⟩
    · right; rw [if_neg a, if_neg b]; exact ⟨by decide, by omega⟩
theorem sim_told {S : Nat} {z w : Sg} (h : q_I S z w) (p0 p1 : Int32) : f_X6_told w p0 p1 = ((f_X5_told z p0 p1).2, uI w 19 0 (if (f_X5_told z p0 p1).1 = 0 then 0 else 1)) := by
  have hT : q_T z w := h.2.2.2.2.2.1
  have hb := h.2.1.1.2.2.2.1
  have i0 : (0 : Int32).toInt = 0 := rfl
  have i1 : (-1 : Int32).toInt = -1 := rfl
  unfold f_X6_told f_X5_told
  rw [hT.1, hT.2.1, hT.2.2.1, hT.2.2.2]
  by_cases a : p0 = -1
  · have a1 : ¬ p0 < -1 := by rw [a]; decide
    have a2 : ¬ w.1 19 25 ≤ p0 := by
      rw [a]; simp only [Int32.le_iff_toInt_le]; omega
    have a3 : p0 < 0 := by rw [a]; decide
    rw [if_neg a1, if_neg a2, if_pos a3, if_pos a, if_pos a]; rfl
  · simp only [if_neg a]
    by_cases b : p0 < -1
    · rw [if_pos b, if_pos b]; rfl
    · rw [if_neg b, if_neg b]
      have c0 : ¬ p0 < 0 := by
        simp only [Int32.lt_iff_toInt_lt, ← Int32.toInt_inj] at a b ⊢; omega
      by_cases d : w.1 19 25 ≤ p0
      · have d2 : ¬ p0 < w.1 19 25 := by
          simp only [Int32.lt_iff_toInt_lt, Int32.le_iff_toInt_le] at d ⊢; omega
        rw [if_pos d, if_neg d2]; rfl
      · have d2 : p0 < w.1 19 25 := by
          simp only [Int32.lt_iff_toInt_lt, Int32.le_iff_toInt_le] at d ⊢; omega
        rw [if_neg d, if_pos d2, if_neg c0]
        rcases in_02 w p1 with ⟨g1, g2, g3, g4⟩ | ⟨g1, g2⟩
        · rw [if_pos g1, if_neg g2, if_neg g3, if_neg g4]; rfl
        · rw [if_neg g1]
          rcases g2 with g2 | g2 | g2
          · rw [if_pos g2, if_pos g2]; rfl
          · have g3 : ¬ p1 = 0 := by rw [g2]; decide
            rw [if_neg g3, if_neg g3, if_pos g2, if_pos g2]; rfl
          · have g3 : ¬ p1 = 0 := by rw [g2]; decide
            have g4 : ¬ p1 = 1 := by rw [g2]; decide
            rw [if_neg g3, if_neg g3, if_neg g4, if_neg g4, if_pos g2]; rfl
/-! the first with a key -/
theorem sim_fk {S : Nat} {z w : Sg} (h : q_I S z w) {p : Int32} (hp : 0 ≤ p.toInt ∧ p.toInt < (10 : Nat)) (hk : ¬ f_X5_isKey z p = 0) (hf : w.1 19 0 = 0) : ∀ (k : Nat) (i : Int32), 0 ≤ i.toInt → 12 - i.toInt.toNat < k → f_X6_trailer_L23 p k w i = (f_X1_firstWithKey_L2 z p k i, w) := by
  have hZ := h.2.2.2.2.2.2.1
  have hb := h.1.1.2.2.1
  have h12 := q_12 h
  have hK : p.toNatClampNeg < 10 := by rw [clampEq]; omega
  intro k
  induction k with
  | zero => intro i _ h2; omega
  | succ k ih =>
    intro i h0 h2
    rw [f_X6_trailer_L23, f_X1_firstWithKey_L2, ← hZ.1]
    by_cases a : z.1 6 1 ≤ i
    · rw [if_pos a, if_pos a, if_pos (by rw [hf]; decide)]
    · rw [if_neg a, if_neg a, if_pos hf]
      have a0 := a
      simp only [Int32.le_iff_toInt_le] at a0
      have e1 := i_add1 a
      obtain ⟨c, c1, c2, c3⟩ := hZ.2.1.2 i.toNatClampNeg (by rw [clampEq]; omega)
      have hs := h.2.2.1.2.1 c c1
      have hcI : (nI c).toInt = c := nI_toInt (by omega)
      have hcc : (nI c).toNatClampNeg = c := nI_clamp (by omega)
      rw [c2, c3]
      dsimp only
      rw [if_neg hk, ix_n (k := 10) (l := 12) rfl (by rw [hcI]; omega) ⟨hp.1, by omega⟩ (by decide), hcc, ← hs.2.2.2.2.2.2.2.2.2.2.2 _ hK, ih (i + 1) (by rw [e1]; omega) (by rw [e1]; omega)]
      by_cases g : z.1 (46 + 6 * c + 5) p.toNatClampNeg = 0
      · rw [if_pos g, if_pos g]
      · rw [if_neg g, if_neg g, (k_Is h.1.1 c1).1]
theorem tr_L23 {p : Int32} {w : Sg} (hf : w.1 19 0 = 1) : ∀ (k : Nat) (i : Int32), f_X6_trailer_L23 p k w i = (0, w) := by
  intro k i
  cases k with
  | zero => rw [f_X6_trailer_L23]
  | succ k =>
    rw [f_X6_trailer_L23, hf]
    split
    · rw [if_neg (show ¬ (1 : Int32) ≤ 0 by decide)]
    · rw [if_neg (show ¬ (1 : Int32) = 0 by decide), if_neg (show ¬ (1 : Int32) ≤ 0 by decide)]
theorem sim_trailer {S : Nat} {z w : Sg} (h : q_I S z w) (p0 : Int32) : f_X6_trailer w p0 = ((f_X5_trailer z p0).2, uI w 19 0 (if (f_X5_trailer z p0).1 = 0 then 0 else 1)) := by
  unfold f_X6_trailer f_X5_trailer
  rcases key_cases z w p0 with ⟨k1, k2⟩ | ⟨k1, k2, k3⟩
  · rw [if_pos k1, if_pos k2, tr_L23 rfl]; rfl
  · rw [if_neg k1, if_neg k2]
    have h' : q_I S z (uI w 19 0 0) := q_f h
    rw [sim_fk h' k3 k1 rfl 13 0 (by decide) (by decide)]
    rfl
