/-! ===== heads, sections ===== -/
theorem nI_cl {i : Int32} (h : 0 ≤ i.toInt) : nI i.toNatClampNeg = i := by
  apply Int32.toInt_inj.mp
  have h2 := i.toInt_lt
  rw [clampEq, nI_toInt (by omega)]
  omega
theorem sim_ix {z w : Sg} {p : Int64} (hH : q_H z w) : ∀ (k : Nat) (i : Int32), f_X0_indexAt_L2 z p k i = f_X6_findHead_L2 w p k i := by
  intro k
  induction k with
  | zero => intro i; rw [f_X0_indexAt_L2, f_X6_findHead_L2]
  | succ k ih =>
    intro i
    rw [f_X0_indexAt_L2, f_X6_findHead_L2, hH.1, hH.2.1, ih]
theorem sim_index {z w : Sg} (hH : q_H z w) (p : Int64) : f_X0_indexAt z p = f_X6_findHead w p := sim_ix hH _ _
theorem fh_bL {w : Sg} {p : Int64} (hb : 0 ≤ (w.1 19 14).toInt ∧ (w.1 19 14).toInt ≤ 60) : ∀ (k : Nat) (i : Int32), 0 ≤ i.toInt → 60 - i.toInt.toNat < k → 0 ≤ (f_X6_findHead_L2 w p k i).toInt ∧ (f_X6_findHead_L2 w p k i).toInt ≤ (w.1 19 14).toInt := by
  intro k
  induction k with
  | zero => intro i _ h; omega
  | succ k ih =>
    intro i h0 h1
    rw [f_X6_findHead_L2]
    by_cases a : w.1 19 14 ≤ i
    · rw [if_pos a]; omega
    · rw [if_neg a]
      have e1 := i_add1 a
      have a0 := a
      simp only [Int32.le_iff_toInt_le] at a0
      split
      · omega
      · exact ih (i + 1) (by rw [e1]; omega) (by rw [e1]; omega)
theorem fh_b {w : Sg} (hb : 0 ≤ (w.1 19 14).toInt ∧ (w.1 19 14).toInt ≤ 60) (p : Int64) : 0 ≤ (f_X6_findHead w p).toInt ∧ (f_X6_findHead w p).toInt ≤ (w.1 19 14).toInt := fh_bL hb _ _ (by decide) (by decide)
theorem q_hd {S : Nat} {z w z' w' : Sg} (h : q_I S z w) (hz : ∀ r, r ≠ 2 → r ≠ 3 → r ≠ 4 → r ≠ 5 → z'.1 r = z.1 r ∧ z'.2.1 r = z.2.1 r) (ho : z'.2.2 = z.2.2) (h2 : 0 ≤ (z'.1 2 3).toInt ∧ (z'.1 2 3).toInt ≤ 60) (hp : ∀ k, k < (z'.1 2 3).toInt.toNat → 0 ≤ (z'.2.1 3 k).toInt) (hw : ∀ r, 20 ≤ r → r ≤ 44 → r ≠ 32 → r ≠ 33 → r ≠ 34 → w'.1 r = w.1 r ∧ w'.2.1 r = w.2.1 r) (h19 : ∀ k, k ≠ 0 → k ≠ 14 → w'.1 19 k = w.1 19 k) (hH : q_H z' w') : q_I S z' w' := by
  have hc' : ∀ r, r ≠ 2 → r ≠ 3 → r ≠ 4 → r ≠ 5 → z'.1 r = z.1 r := fun r a b c d => (hz r a b c d).1
  have hj' : ∀ r, r ≠ 2 → r ≠ 3 → r ≠ 4 → r ≠ 5 → z'.2.1 r = z.2.1 r := fun r a b c d => (hz r a b c d).2
  have mi : ∀ r, 20 ≤ r → r ≤ 44 → r ≠ 32 → r ≠ 33 → r ≠ 34 → w'.1 r = w.1 r := fun r a b c d e => (hw r a b c d e).1
  have mj : ∀ r, 20 ≤ r → r ≤ 44 → r ≠ 32 → r ≠ 33 → r ≠ 34 → w'.2.1 r = w.2.1 r := fun r a b c d e => (hw r a b c d e).2
  obtain ⟨⟨h1, h2', h3⟩, ⟨hJ, hV⟩, h6, h7⟩ := h
  refine ⟨⟨⟨by rw [hc' 0 (by omega) (by omega) (by omega) (by omega)]; exact h1.1, h2, by rw [hc' 6 (by omega) (by omega) (by omega) (by omega)]; exact h1.2.2.1, by rw [hc' 6 (by omega) (by omega) (by omega) (by omega)]; exact h1.2.2.2.1, by rw [hc' 6 (by omega) (by omega) (by omega) (by omega)]; exact h1.2.2.2.2.1, by rw [ho]; exact h1.2.2.2.2.2.1, by rw [ho]; exact h1.2.2.2.2.2.2.1, by rw [ho]; exact h1.2.2.2.2.2.2.2.1, fun d hd => ?_, by unfold k_T; rw [hc' 18 (by omega) (by omega) (by omega) (by omega)]; exact k_IT h1⟩, ?_, ⟨fun d hd => ?_, hp, ?_⟩⟩, ⟨?_, ?_⟩, ⟨?_, fun d hd => ?_, fun d a b => ?_⟩, hH, ?_⟩
  · unfold k_IS
    rw [hc' (46 + 6 * d) (by omega) (by omega) (by omega) (by omega), hc' (46 + 6 * d + 1) (by omega) (by omega) (by omega) (by omega), hc' (46 + 6 * d + 3) (by omega) (by omega) (by omega) (by omega)]
    exact k_Is h1 hd
  · intro r i d; rw [ho]; exact h2' r i d
  · unfold q_y
    rw [hc' (46 + 6 * d) (by omega) (by omega) (by omega) (by omega), hj' (46 + 6 * d) (by omega) (by omega) (by omega) (by omega), hc' (46 + 6 * d + 4) (by omega) (by omega) (by omega) (by omega), hc' (46 + 6 * d + 5) (by omega) (by omega) (by omega) (by omega)]
    exact h3.1 d hd
  · rw [hc' 8 (by omega) (by omega) (by omega) (by omega)]; exact h3.2.2
  · unfold k_J
    rw [h19 1 (by decide) (by decide), h19 18 (by decide) (by decide), h19 25 (by decide) (by decide), h19 30 (by decide) (by decide), h19 31 (by decide) (by decide), mi 24 (by omega) (by omega) (by omega) (by omega) (by omega), mi 25 (by omega) (by omega) (by omega) (by omega) (by omega), mi 27 (by omega) (by omega) (by omega) (by omega) (by omega), mi 35 (by omega) (by omega) (by omega) (by omega) (by omega), mi 39 (by omega) (by omega) (by omega) (by omega) (by omega), ← hH.1]
    exact ⟨hJ.1, h2, hJ.2.2⟩
  · unfold k_V
    rw [mi 26 (by omega) (by omega) (by omega) (by omega) (by omega), mi 28 (by omega) (by omega) (by omega) (by omega) (by omega), mi 29 (by omega) (by omega) (by omega) (by omega) (by omega)]
    exact hV
  · rw [hc' 0 (by omega) (by omega) (by omega) (by omega), h19 1 (by decide) (by decide)]; exact h6.1
  · refine q_s_m (fun r a b => hz r (by omega) (by omega) (by omega) (by omega)) ?_ (h6.2.1 d hd)
    unfold m_s
    rw [mi 20 (by omega) (by omega) (by omega) (by omega) (by omega), mi 24 (by omega) (by omega) (by omega) (by omega) (by omega), mi 25 (by omega) (by omega) (by omega) (by omega) (by omega), mi 26 (by omega) (by omega) (by omega) (by omega) (by omega), mi 27 (by omega) (by omega) (by omega) (by omega) (by omega), mi 28 (by omega) (by omega) (by omega) (by omega) (by omega), mi 29 (by omega) (by omega) (by omega) (by omega) (by omega), mi 30 (by omega) (by omega) (by omega) (by omega) (by omega), mi 31 (by omega) (by omega) (by omega) (by omega) (by omega), mj 21 (by omega) (by omega) (by omega) (by omega) (by omega), mj 22 (by omega) (by omega) (by omega) (by omega) (by omega), mj 23 (by omega) (by omega) (by omega) (by omega) (by omega)]
    exact ⟨⟨rfl, rfl, rfl, rfl, rfl, rfl⟩, ⟨rfl, rfl, rfl⟩, fun _ _ => rfl, fun _ _ => ⟨rfl, rfl⟩, fun _ _ => ⟨rfl, rfl⟩⟩
  · unfold q_n
    rw [mi 24 (by omega) (by omega) (by omega) (by omega) (by omega), mi 25 (by omega) (by omega) (by omega) (by omega) (by omega), mi 27 (by omega) (by omega) (by omega) (by omega) (by omega), mi 28 (by omega) (by omega) (by omega) (by omega) (by omega), mi 29 (by omega) (by omega) (by omega) (by omega) (by omega), mi 30 (by omega) (by omega) (by omega) (by omega) (by omega), mi 31 (by omega) (by omega) (by omega) (by omega) (by omega)]
    exact h6.2.2 d a b
  · unfold q_K q_T q_C q_R q_F k_C
    rw [ho, hc' 6 (by omega) (by omega) (by omega) (by omega), hc' 8 (by omega) (by omega) (by omega) (by omega), hc' 11 (by omega) (by omega) (by omega) (by omega), hc' 12 (by omega) (by omega) (by omega) (by omega), hc' 13 (by omega) (by omega) (by omega) (by omega), hc' 15 (by omega) (by omega) (by omega) (by omega), hj' 9 (by omega) (by omega) (by omega) (by omega), hj' 10 (by omega) (by omega) (by omega) (by omega), hj' 14 (by omega) (by omega) (by omega) (by omega), h19 18 (by decide) (by decide), h19 25 (by decide) (by decide), mi 35 (by omega) (by omega) (by omega) (by omega) (by omega), mi 36 (by omega) (by omega) (by omega) (by omega) (by omega), mi 39 (by omega) (by omega) (by omega) (by omega) (by omega), mi 40 (by omega) (by omega) (by omega) (by omega) (by omega), mi 41 (by omega) (by omega) (by omega) (by omega) (by omega), mi 42 (by omega) (by omega) (by omega) (by omega) (by omega), mj 37 (by omega) (by omega) (by omega) (by omega) (by omega), mj 38 (by omega) (by omega) (by omega) (by omega) (by omega), mj 43 (by omega) (by omega) (by omega) (by omega) (by omega)]
    exact h7.2
theorem ho_cases (z w : Sg) (k : Int32) : (f_X5_isObject z k.toInt64 = 0 ∧ f_X6_in w k.toInt64 0 99 = 0) ∨ (¬ f_X5_isObject z k.toInt64 = 0 ∧ ¬ f_X6_in w k.toInt64 0 99 = 0) := by
  have e9 : (99 : Int64).toInt = 99 := rfl
  have e10 : (100 : Int64).toInt = 100 := rfl
  unfold f_X5_isObject f_X6_in
  by_cases a : k.toInt64 < 0
  · left; rw [if_pos a, if_pos a]; exact ⟨rfl, rfl⟩
  · rw [if_neg a, if_neg a]
    by_cases g : (100 : Int64) ≤ k.toInt64
    · left
      have g2 : (99 : Int64) < k.toInt64 := by
        simp only [Int64.le_iff_toInt_le, Int64.lt_iff_toInt_lt] at g ⊢; omega
      rw [if_pos g, if_pos g2]; exact ⟨rfl, rfl⟩
    · right
      have g2 : ¬ (99 : Int64) < k.toInt64 := by
        simp only [Int64.le_iff_toInt_le, Int64.lt_iff_toInt_lt] at g ⊢; omega
      rw [if_neg g, if_neg g2]
      exact ⟨by decide, by decide⟩
theorem hg_cases (w : Sg) (k : Int32) : (f_X6_in w k.toInt64 0 99999 = 0 ∧ (k < 0 ∨ ¬ k < 0 ∧ ¬ k ≤ 99999)) ∨ (¬ f_X6_in w k.toInt64 0 99999 = 0 ∧ ¬ k < 0 ∧ k ≤ 99999) := by
  have e0 : (0 : Int64).toInt = 0 := rfl
  have e9 : (99999 : Int64).toInt = 99999 := rfl
  have i0 : (0 : Int32).toInt = 0 := rfl
  have i10 : (99999 : Int32).toInt = 99999 := rfl
  have hk := i_2l k
  unfold f_X6_in
  simp only [Int64.lt_iff_toInt_lt, Int32.lt_iff_toInt_lt, Int32.le_iff_toInt_le, hk, e0, e9, i0, i10]
  by_cases a : k.toInt < 0
  · left; rw [if_pos a]; exact ⟨rfl, by omega⟩
  · by_cases b : 99999 < k.toInt
    · left; rw [if_neg a, if_pos b]; exact ⟨rfl, by omega⟩
    · right; rw [if_neg a, if_neg b]; exact ⟨by decide, by omega, by omega⟩
theorem sim_head {S : Nat} {z w : Sg} (h : q_I S z w) (p0 : Int64) (p1 p2 : Int32) : (f_X6_head w p0 p1 p2).1 = (f_X5_head z p0 p1 p2).2.1 ∧ (f_X6_head w p0 p1 p2).2.1 19 0 = (if (f_X5_head z p0 p1 p2).1 = 0 then 0 else if (f_X5_head z p0 p1 p2).1 = 1 then 1 else 2) ∧ q_I S (f_X5_head z p0 p1 p2).2.2 (f_X6_head w p0 p1 p2).2 := by
  have hH : q_H z w := h.2.2.2.1
  have hb := h.2.1.1.2.1
  have ef := sim_index hH p0
  have fb := fh_b hb p0
  have e60 : (60 : Int32).toInt = 60 := rfl
  unfold f_X6_head f_X5_head
  rcases pl_cases z w p0 with ⟨k1, k2⟩ | ⟨k1, k2, k3⟩
  · rw [if_pos k1, if_pos k2]; exact ⟨rfl, rfl, q_f h⟩
  rw [if_neg k1, if_neg k2]
  rcases ho_cases z w p1 with ⟨l1, l2⟩ | ⟨l1, l2⟩
  · rw [if_pos l1, if_pos l2]; exact ⟨rfl, rfl, q_f h⟩
  rw [if_neg l1, if_neg l2]
  rcases hg_cases w p2 with ⟨n1, n2 | ⟨n2, n3⟩⟩ | ⟨n1, n2, n3⟩
  · rw [if_pos n1, if_pos n2]; exact ⟨rfl, rfl, q_f h⟩
  · rw [if_pos n1, if_neg n2, if_neg n3]; exact ⟨rfl, rfl, q_f h⟩
  rw [if_neg n1, if_neg n2, if_pos n3]
  unfold f_X0_hasRoomFor f_X0_put
  rw [ef]
  by_cases a : f_X6_findHead w p0 = 60
  · rw [if_pos a, if_pos (show (60 : Int32) ≤ f_X6_findHead w p0 by rw [a]; decide), if_pos (show (0 : Int32) = 0 from rfl)]; exact ⟨rfl, rfl, q_f h⟩
  have a0 : (f_X6_findHead w p0).toInt < 60 := by
    rw [← Int32.toInt_inj] at a; omega
  have a1 : f_X6_findHead w p0 < 60 := by simp only [Int32.lt_iff_toInt_lt]; omega
  have a2 : ¬ (60 : Int32) ≤ f_X6_findHead w p0 := by simp only [Int32.le_iff_toInt_le]; omega
  rw [if_neg a, if_neg a2, if_neg (show ¬ (1 : Int32) = 0 by decide), if_pos a1, hH.1]
  dsimp only
  generalize f_X6_findHead w p0 = x at *
  by_cases b : x = w.1 19 14
  · have a0' : (w.1 19 14).toInt < 60 := by rw [← b]; exact a0
    have hp := i_p1 (m := 60) hb.1 a0' (by decide)
    rw [if_pos b, if_pos b]
    refine ⟨rfl, rfl, ?_⟩
    refine q_hd h (fun r a b c d => ⟨?_, ?_⟩) rfl ?_ (fun k hk => ?_) (fun r a b c d e => ⟨?_, ?_⟩) (fun k a b => ?_) ?_
    · rw [uI_r (by omega), uI_r (by omega), uI_r (by omega), uJ_e]
    · show (uJ z 3 x.toNatClampNeg p0).2.1 r = z.2.1 r
      rw [uJ_r (by omega)]
    · show 0 ≤ (w.1 19 14 + 1).toInt ∧ (w.1 19 14 + 1).toInt ≤ 60
      rw [hp]; omega
    · have hk : k < (w.1 19 14 + 1).toInt.toNat := hk
      show 0 ≤ (vp_updL (z.2.1 3) x.toNatClampNeg p0 k).toInt
      by_cases e : k = x.toNatClampNeg
      · rw [e, updL_eq]; exact k3
      · rw [updL_ne e]
        refine h.1.2.2.2.1 k ?_
        rw [hH.1]
        rw [clampEq, b] at e
        omega
    · rw [uI_r (by omega), uI_r (by omega), uI_r (by omega), uJ_e, uI_r (by omega)]
    · show (uJ (uI w 19 0 0) 32 x.toNatClampNeg p0).2.1 r = w.2.1 r
      rw [uJ_r (by omega)]; rfl
    · rw [uI_s, upd_ne b, uI_r (by decide), uI_r (by decide), uJ_e, uI_s, upd_ne a]
    · refine ⟨rfl, ?_, ?_, ?_⟩
      · show vp_updL (z.2.1 3) x.toNatClampNeg p0 = vp_updL (w.2.1 32) x.toNatClampNeg p0
        rw [hH.2.1]
      · show upd (z.1 4) x.toNatClampNeg p1 = upd (w.1 33) x.toNatClampNeg p1
        rw [hH.2.2.1]
      · show upd (z.1 5) x.toNatClampNeg p2 = upd (w.1 34) x.toNatClampNeg p2
        rw [hH.2.2.2]
  · rw [if_neg b, if_neg b]
    refine ⟨hH.1.symm, rfl, ?_⟩
    refine q_hd h (fun r a b c d => ⟨?_, ?_⟩) rfl ?_ (fun k hk => ?_) (fun r a b c d e => ⟨?_, ?_⟩) (fun k a b => ?_) ?_
    · rw [uI_r (by omega), uI_r (by omega), uJ_e]
    · show (uJ z 3 x.toNatClampNeg p0).2.1 r = z.2.1 r
      rw [uJ_r (by omega)]
    · show 0 ≤ (z.1 2 3).toInt ∧ (z.1 2 3).toInt ≤ 60
      rw [hH.1]; exact hb
    · have hk : k < (z.1 2 3).toInt.toNat := hk
      show 0 ≤ (vp_updL (z.2.1 3) x.toNatClampNeg p0 k).toInt
      by_cases e : k = x.toNatClampNeg
      · rw [e, updL_eq]; exact k3
      · rw [updL_ne e]
        exact h.1.2.2.2.1 k hk
    · rw [uI_r (by omega), uI_r (by omega), uI_r (by omega), uJ_e, uI_r (by omega)]
    · show (uJ (uI w 19 0 0) 32 x.toNatClampNeg p0).2.1 r = w.2.1 r
      rw [uJ_r (by omega)]; rfl
    · rw [uI_s, upd_ne b, uI_r (by decide), uI_r (by decide), uJ_e, uI_s, upd_ne a]
    · refine ⟨hH.1, ?_, ?_, ?_⟩
      · show vp_updL (z.2.1 3) x.toNatClampNeg p0 = vp_updL (w.2.1 32) x.toNatClampNeg p0
        rw [hH.2.1]
      · show upd (z.1 4) x.toNatClampNeg p1 = upd (w.1 33) x.toNatClampNeg p1
        rw [hH.2.2.1]
      · show upd (z.1 5) x.toNatClampNeg p2 = upd (w.1 34) x.toNatClampNeg p2
        rw [hH.2.2.2]
/-- the section at a place -/
theorem sim_find_L {S : Nat} {z w : Sg} {p : Int64} (h2 : (w.1 19 1).toInt = S) (h3 : S ≤ 12) (h1 : z.1 0 1 = w.1 19 1) (hp : ∀ c, c < S → z.2.1 (46 + 6 * c) 2 = w.2.1 21 c) : ∀ (k : Nat) (i : Int32), 0 ≤ i.toInt → 12 - i.toInt.toNat < k → (f_X5_sectionAt_L2 z p k i = none ∧ f_X6_find_L2 w p k i = -1) ∨ ∃ c, c < S ∧ f_X5_sectionAt_L2 z p k i = some c ∧ f_X6_find_L2 w p k i = nI c := by
  intro k
  induction k with
  | zero => intro i _ h; omega
  | succ k ih =>
    intro i h0 h4
    rw [f_X5_sectionAt_L2, f_X6_find_L2, h1]
    by_cases a : w.1 19 1 ≤ i
    · rw [if_pos a, if_pos a]; exact Or.inl ⟨rfl, rfl⟩
    · rw [if_neg a, if_neg a]
      have e1 := i_add1 a
      have a0 := a
      simp only [Int32.le_iff_toInt_le] at a0
      have hc : i.toNatClampNeg < S := by rw [clampEq]; omega
      rw [hp _ hc]
      by_cases b : w.2.1 21 i.toNatClampNeg = p
      · rw [if_pos b, if_pos b]; exact Or.inr ⟨_, hc, rfl, (nI_cl h0).symm⟩
      · rw [if_neg b, if_neg b]
        exact ih (i + 1) (by rw [e1]; omega) (by rw [e1]; omega)
theorem sim_find {S : Nat} {z w : Sg} (h2 : (w.1 19 1).toInt = S) (h3 : S ≤ 12) (h1 : z.1 0 1 = w.1 19 1) (hp : ∀ c, c < S → z.2.1 (46 + 6 * c) 2 = w.2.1 21 c) (p : Int64) : (f_X5_sectionAt z p = none ∧ f_X6_find w p = -1) ∨ ∃ c, c < S ∧ f_X5_sectionAt z p = some c ∧ f_X6_find w p = nI c := sim_find_L h2 h3 h1 hp _ _ (by decide) (by decide)
theorem ns_lo {z : Sg} {S r : Nat} {a b : Int32} {d f : Int64} (h : r < 46 + 6 * S) : (k_ns z S a b d f).1 r = z.1 r ∧ (k_ns z S a b d f).2.1 r = z.2.1 r ∧ (k_ns z S a b d f).2.2 r = z.2.2 r := ⟨if_pos h, if_pos h, if_pos h⟩
theorem ns_at {z : Sg} {S : Nat} {a b : Int32} {d f : Int64} : (k_ns z S a b d f).1 (46 + 6 * S) = k_nsI a b ∧ (k_ns z S a b d f).2.1 (46 + 6 * S) = k_nsJ d f := by
  refine ⟨?_, ?_⟩
  · show (if 46 + 6 * S < 46 + 6 * S then z.1 (46 + 6 * S) else if 46 + 6 * S = 46 + 6 * S then k_nsI a b else fun _ => 0) = _
    rw [if_neg (by omega), if_pos rfl]
  · show (if 46 + 6 * S < 46 + 6 * S then z.2.1 (46 + 6 * S) else if 46 + 6 * S = 46 + 6 * S then k_nsJ d f else fun _ => 0) = _
    rw [if_neg (by omega), if_pos rfl]
theorem ns_hi {z : Sg} {S r : Nat} {a b : Int32} {d f : Int64} (h : 46 + 6 * S < r) : (k_ns z S a b d f).1 r = fun _ => 0 := by
  show (if r < 46 + 6 * S then z.1 r else if r = 46 + 6 * S then k_nsI a b else fun _ => 0) = _
  rw [if_neg (by omega), if_neg (by omega)]
theorem ns_ho {z : Sg} {S r : Nat} {a b : Int32} {d f : Int64} (h : 46 + 6 * S ≤ r) : (k_ns z S a b d f).2.2 r = fun _ => none := by
  show (if r < 46 + 6 * S then z.2.2 r else fun _ => none) = _
  rw [if_neg (by omega)]
