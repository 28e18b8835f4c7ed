theorem pl_cases (z w : Sg) (p : Int64) : (f_X5_isPlace z p = 0 ∧ f_X6_in w p 0 9999999999 = 0) ∨ (¬ f_X5_isPlace z p = 0 ∧ ¬ f_X6_in w p 0 9999999999 = 0 ∧ 0 ≤ p.toInt) := by
  unfold f_X5_isPlace f_X6_in
  by_cases a : p < 0
  · left; rw [if_pos a]; exact ⟨rfl, rfl⟩
  · rw [if_neg a]
    by_cases b : (9999999999 : Int64) < p
    · left; rw [if_pos b]; exact ⟨rfl, rfl⟩
    · right
      rw [if_neg b]
      refine ⟨by decide, by decide, ?_⟩
      have e0 : (0 : Int64).toInt = 0 := rfl
      simp only [Int64.lt_iff_toInt_lt] at a; omega
theorem pn_cases (z w : Sg) (p : Int64) : (f_X5_isPlaceOrNone z p = 0 ∧ f_X6_in w p (-1) 9999999999 = 0) ∨ (¬ f_X5_isPlaceOrNone z p = 0 ∧ ¬ f_X6_in w p (-1) 9999999999 = 0 ∧ -1 ≤ p.toInt) := by
  have e0 : (0 : Int64).toInt = 0 := rfl
  have e1 : (-1 : Int64).toInt = -1 := rfl
  unfold f_X5_isPlaceOrNone f_X5_isPlace f_X6_in
  by_cases a : p = -1
  · right
    have a1 : ¬ p < -1 := by rw [a]; decide
    have a2 : ¬ (9999999999 : Int64) < p := by rw [a]; decide
    rw [if_pos a, if_neg a1, if_neg a2]
    exact ⟨by decide, by decide, by rw [a]; decide⟩
  · rw [if_neg a]
    have a' := a
    rw [← Int64.toInt_inj] at a'
    by_cases b : p < 0
    · left
      have b1 : p < -1 := by
        simp only [Int64.lt_iff_toInt_lt] at b ⊢; omega
      rw [if_pos b, if_pos b1, if_pos rfl]; exact ⟨rfl, rfl⟩
    · have b1 : ¬ p < -1 := by
        simp only [Int64.lt_iff_toInt_lt] at b ⊢; omega
      rw [if_neg b, if_neg b1]
      by_cases d : (9999999999 : Int64) < p
      · left; rw [if_pos d, if_pos rfl]; exact ⟨rfl, rfl⟩
      · right
        rw [if_neg d, if_neg (by decide)]
        refine ⟨by decide, by decide, ?_⟩
        simp only [Int64.lt_iff_toInt_lt] at b; omega
theorem uJ_e {z : Sg} {r k : Nat} {x : Int64} : (uJ z r k x).1 = z.1 := rfl
theorem sim_beside {S : Nat} {z w : Sg} (h : q_I S z w) (p0 : Int32) (p1 : Int64) : (f_X6_beside w p0 p1).1 = (f_X5_beside z p0 p1).2.1 ∧ (f_X6_beside w p0 p1).2.1 19 0 = (if (f_X5_beside z p0 p1).1 = 0 then 0 else if (f_X5_beside z p0 p1).1 = 3 then 1 else 2) ∧ q_I S (f_X5_beside z p0 p1).2.2 (f_X6_beside w p0 p1).2 := by
  unfold f_X6_beside f_X5_beside
  rcases sec_cases h p0 with ⟨h1, h2⟩ | ⟨h1, h2, h3, hc, hs⟩
  · rw [h2, if_pos h1]; exact ⟨rfl, rfl, q_f h⟩
  · have hIS := k_Is h.1.1 hc
    have hy := h.1.2.2.1 _ hc
    rw [if_neg h1, if_pos h2]
    by_cases a : z.1 (46 + 6 * p0.toNatClampNeg) 1 = 0
    · have a' : ¬ w.1 20 p0.toNatClampNeg = 1 := by rw [← hs.1, a]; decide
      rw [if_pos a, if_neg a']
      rcases pn_cases z w p1 with ⟨k1, k2⟩ | ⟨k1, k2, k3⟩
      · rw [if_pos k1, if_pos k2]; exact ⟨rfl, rfl, q_f h⟩
      · rw [if_neg k1, if_neg k2]
        refine ⟨hs.2.2.2.1.symm, rfl, ?_⟩
        dsimp only
        generalize p0.toNatClampNeg = c at *
        have e0 : (uJ z (46 + 6 * c) 4 p1).2.1 (46 + 6 * c) = vp_updL (z.2.1 (46 + 6 * c)) 4 p1 := uJ_s
        have er : ∀ r, r ≠ 46 + 6 * c → (uJ z (46 + 6 * c) 4 p1).2.1 r = z.2.1 r := fun r a => uJ_r a
        have m23 : (uJ (uI w 19 0 0) 23 c p1).2.1 23 = vp_updL (w.2.1 23) c p1 := rfl
        refine q_sec h hc (fun r hr => ⟨rfl, er r (by omega)⟩) rfl hIS ?_ (fun r a b => ⟨?_, ?_⟩) (fun k hk => ?_) (fun d hd hne => ?_) ?_ (k_J_uJ (k_J_f h.2.1.1)) h.2.1.2
        · unfold q_y
          rw [e0, uJ_e]
          refine ⟨hy.1, hy.2.1, ?_, fun g => absurd a g, hy.2.2.2.2⟩
          rw [updL_eq]; exact k3
        · rw [uJ_e, uI_r (by omega)]
        · rw [uJ_r (by omega)]; rfl
        · rw [uJ_e, uI_s, upd_ne hk]
        · unfold m_s
          rw [m23]
          exact ⟨⟨rfl, rfl, rfl, updL_ne hne, rfl, rfl⟩, ⟨rfl, rfl, rfl⟩, fun k hk => rfl, fun k hk => ⟨rfl, rfl⟩, fun k hk => ⟨rfl, rfl⟩⟩
        · unfold q_s
          rw [e0, m23, uJ_e]
          refine ⟨hs.1, hs.2.1, hs.2.2.1, ?_, hs.2.2.2.2⟩
          rw [updL_eq, updL_eq]
    · have a1 := hIS.2.1.resolve_left a
      have a' : w.1 20 p0.toNatClampNeg = 1 := by rw [← hs.1, a1]
      rw [if_neg a, if_pos a']; exact ⟨rfl, rfl, q_f h⟩
theorem wd_cases (z w : Sg) (k : Int32) : (f_X5_isWidth z k = 0 ∧ f_X6_in w k.toInt64 0 4 = 0) ∨ (¬ f_X5_isWidth z k = 0 ∧ ¬ f_X6_in w k.toInt64 0 4 = 0 ∧ (0 ≤ k.toInt ∧ k.toInt ≤ 4)) := by
  have e0 : (0 : Int64).toInt = 0 := rfl
  have e9 : (4 : Int64).toInt = 4 := rfl
  have i0 : (0 : Int32).toInt = 0 := rfl
  have i10 : (4 : Int32).toInt = 4 := rfl
  have hk := i_2l k
  unfold f_X5_isWidth f_X6_in
  by_cases a : k < 0
  · left
    have b : k.toInt64 < 0 := by
      simp only [Int32.lt_iff_toInt_lt, Int64.lt_iff_toInt_lt] at a ⊢; omega
    rw [if_pos a, if_pos b]; exact ⟨rfl, rfl⟩
  · have b : ¬ k.toInt64 < 0 := by
      simp only [Int32.lt_iff_toInt_lt, Int64.lt_iff_toInt_lt] at a ⊢; omega
    rw [if_neg a, if_neg b]
    by_cases g : (4 : Int32) < k
    · left
      have g2 : (4 : Int64) < k.toInt64 := by
        simp only [Int32.lt_iff_toInt_lt, Int64.lt_iff_toInt_lt] at g ⊢; omega
      rw [if_pos g, if_pos g2]; exact ⟨rfl, rfl⟩
    · right
      have g2 : ¬ (4 : Int64) < k.toInt64 := by
        simp only [Int32.lt_iff_toInt_lt, Int64.lt_iff_toInt_lt] at g ⊢; omega
      rw [if_neg g, if_neg g2]
      have a0 := nn_of a
      simp only [Int32.lt_iff_toInt_lt] at g
      exact ⟨by decide, by decide, a0, by omega⟩
theorem sim_widths {S : Nat} {z w : Sg} (h : q_I S z w) (p0 p1 p2 p3 : Int32) : (f_X6_widths w p0 p1 p2 p3).1 = (f_X5_widths z p0 p1 p2 p3).2.1 ∧ (f_X6_widths w p0 p1 p2 p3).2.1 19 0 = (if (f_X5_widths z p0 p1 p2 p3).1 = 0 then 0 else if (f_X5_widths z p0 p1 p2 p3).1 = 3 then 1 else 2) ∧ q_I S (f_X5_widths z p0 p1 p2 p3).2.2 (f_X6_widths w p0 p1 p2 p3).2 := by
  unfold f_X6_widths f_X5_widths
  rcases sec_cases h p0 with ⟨h1, h2⟩ | ⟨h1, h2, h3, hc, hs⟩
  · rw [h2, if_pos h1]; exact ⟨rfl, rfl, q_f h⟩
  · have hIS := k_Is h.1.1 hc
    have hy := h.1.2.2.1 _ hc
    have h12 := q_12 h
    rw [if_neg h1, if_pos h2]
    by_cases a : z.1 (46 + 6 * p0.toNatClampNeg) 1 = 1
    · have a' : ¬ w.1 20 p0.toNatClampNeg = 0 := by rw [← hs.1, a]; decide
      rw [if_pos a, if_neg a']
      rcases wd_cases z w p1 with ⟨k1, k2⟩ | ⟨k1, k2, k3⟩
      · rw [if_pos k1, if_pos k2]; exact ⟨rfl, rfl, q_f h⟩
      rw [if_neg k1, if_neg k2]
      rcases wd_cases z w p2 with ⟨k4, k5⟩ | ⟨k4, k5, k6⟩
      · rw [if_pos k4, if_pos k5]; exact ⟨rfl, rfl, q_f h⟩
      rw [if_neg k4, if_neg k5]
      rcases wd_cases z w p3 with ⟨k7, k8⟩ | ⟨k7, k8, k9⟩
      · rw [if_pos k7, if_pos k8]; exact ⟨rfl, rfl, q_f h⟩
      rw [if_neg k7, if_neg k8]
      rw [ix_m (k := 3) (l := 12) rfl ⟨h3.1, by omega⟩ (by decide), ix_n (k := 3) (l := 12) (x := 1) rfl ⟨h3.1, by omega⟩ (by decide) (by decide), ix_n (k := 3) (l := 12) (x := 2) rfl ⟨h3.1, by omega⟩ (by decide) (by decide)]
      have n1 : (1 : Int32).toNatClampNeg = 1 := rfl
      have n2 : (2 : Int32).toNatClampNeg = 2 := rfl
      rw [n1, n2]
      generalize p0.toNatClampNeg = c at *
      have e0 : (uI (uI (uI z (46 + 6 * c) 7 p1) (46 + 6 * c) 8 p2) (46 + 6 * c) 9 p3).1 (46 + 6 * c) = upd (upd (upd (z.1 (46 + 6 * c)) 7 p1) 8 p2) 9 p3 := by rw [uI_s, uI_s, uI_s]
      have er : ∀ r, r ≠ 46 + 6 * c → (uI (uI (uI z (46 + 6 * c) 7 p1) (46 + 6 * c) 8 p2) (46 + 6 * c) 9 p3).1 r = z.1 r := fun r a => by rw [uI_r a, uI_r a, uI_r a]
      have ej : (uI (uI (uI z (46 + 6 * c) 7 p1) (46 + 6 * c) 8 p2) (46 + 6 * c) 9 p3).2 = z.2 := rfl
      have m26 : (uI (uI (uI (uI w 19 0 0) 26 (3 * c) p1) 26 (3 * c + 1) p2) 26 (3 * c + 2) p3).1 26 = upd (upd (upd (w.1 26) (3 * c) p1) (3 * c + 1) p2) (3 * c + 2) p3 := rfl
      refine ⟨?_, rfl, ?_⟩
      · unfold f_X3_rowWidth
        dsimp only
        rw [e0]
        rfl
      dsimp only
      refine q_sec h hc (fun r hr => ⟨er r (by omega), rfl⟩) rfl ?_ ?_ (fun r a b => ⟨?_, ?_⟩) (fun k hk => ?_) (fun d hd hne => ?_) ?_ (k_J_u (by decide) (k_J_u (by decide) (k_J_u (by decide) (k_J_f h.2.1.1)))) (V_26 k9 (V_26 k6 (V_26 k3 h.2.1.2)))
      · unfold k_IS
        rw [e0, er _ (by omega), er _ (by omega)]
        exact hIS
      · unfold q_y
        rw [e0, ej, er _ (by omega), er _ (by omega)]
        exact ⟨hy.1, hy.2.1, hy.2.2.1, hy.2.2.2.1, k3, k6, k9⟩
      · rw [uI_r (by omega), uI_r (by omega), uI_r (by omega), uI_r (by omega)]
      · rfl
      · rw [uI_r (by decide), uI_r (by decide), uI_r (by decide), uI_s, upd_ne hk]
      · unfold m_s
        rw [m26]
        refine ⟨⟨rfl, rfl, rfl, rfl, rfl, rfl⟩, ⟨?_, ?_, ?_⟩, fun k hk => rfl, fun k hk => ⟨rfl, rfl⟩, fun k hk => ⟨rfl, rfl⟩⟩
        · rw [upd_ne (by omega), upd_ne (by omega), upd_ne (by omega)]
        · rw [upd_ne (by omega), upd_ne (by omega), upd_ne (by omega)]
        · rw [upd_ne (by omega), upd_ne (by omega), upd_ne (by omega)]
      · unfold q_s
        rw [e0, ej, er (46 + 6 * c + 1) (by omega), er (46 + 6 * c + 2) (by omega), er (46 + 6 * c + 3) (by omega), er (46 + 6 * c + 4) (by omega), er (46 + 6 * c + 5) (by omega), m26]
        refine ⟨hs.1, hs.2.1, hs.2.2.1, hs.2.2.2.1, hs.2.2.2.2.1, ⟨?_, ?_, ?_⟩, hs.2.2.2.2.2.2⟩
        · show p1 = upd (upd (upd (w.1 26) (3 * c) p1) (3 * c + 1) p2) (3 * c + 2) p3 (3 * c)
          rw [upd_ne (show 3 * c ≠ 3 * c + 2 by omega), upd_ne (show 3 * c ≠ 3 * c + 1 by omega), upd_eq]
        · show p2 = upd (upd (upd (w.1 26) (3 * c) p1) (3 * c + 1) p2) (3 * c + 2) p3 (3 * c + 1)
          rw [upd_ne (show 3 * c + 1 ≠ 3 * c + 2 by omega), upd_eq]
        · show p3 = upd (upd (upd (w.1 26) (3 * c) p1) (3 * c + 1) p2) (3 * c + 2) p3 (3 * c + 2)
          rw [upd_eq]
    · have a1 := hIS.2.1.resolve_right a
      have a' : w.1 20 p0.toNatClampNeg = 0 := by rw [← hs.1, a1]
      rw [if_neg a, if_pos a']; exact ⟨rfl, rfl, q_f h⟩
theorem rg_cases (w : Sg) (k : Int32) : (f_X6_in w k.toInt64 0 999 = 0 ∧ (k < 0 ∨ ¬ k < 0 ∧ ¬ k ≤ 999)) ∨ (¬ f_X6_in w k.toInt64 0 999 = 0 ∧ ¬ k < 0 ∧ k ≤ 999 ∧ (0 ≤ k.toInt ∧ k.toInt ≤ 999)) := by
  have e0 : (0 : Int64).toInt = 0 := rfl
  have e9 : (999 : Int64).toInt = 999 := rfl
  have i0 : (0 : Int32).toInt = 0 := rfl
  have i10 : (999 : Int32).toInt = 999 := rfl
  have hk := i_2l k
  unfold f_X6_in
  simp only [Int64.lt_iff_toInt_lt, Int32.lt_iff_toInt_lt, Int32.le_iff_toInt_le, hk, e0, e9, i0, i10]
  by_cases a : k.toInt < 0
  · left; rw [if_pos a]; exact ⟨rfl, by omega⟩
  · by_cases b : 999 < k.toInt
    · left; rw [if_neg a, if_pos b]; exact ⟨rfl, by omega⟩
    · right; rw [if_neg a, if_neg b]; exact ⟨by decide, by omega, by omega, by omega, by omega⟩
theorem rm_cases (w : Sg) (k : Int32) : (f_X6_in w k.toInt64 1 100 = 0 ∧ (k < 1 ∨ ¬ k < 1 ∧ ¬ k ≤ 100)) ∨ (¬ f_X6_in w k.toInt64 1 100 = 0 ∧ ¬ k < 1 ∧ k ≤ 100 ∧ (1 ≤ k.toInt ∧ k.toInt ≤ 100)) := by
  have e0 : (1 : Int64).toInt = 1 := rfl
  have e9 : (100 : Int64).toInt = 100 := rfl
  have i0 : (1 : Int32).toInt = 1 := rfl
  have i10 : (100 : Int32).toInt = 100 := rfl
  have hk := i_2l k
  unfold f_X6_in
  simp only [Int64.lt_iff_toInt_lt, Int32.lt_iff_toInt_lt, Int32.le_iff_toInt_le, hk, e0, e9, i0, i10]
  by_cases a : k.toInt < 1
  · left; rw [if_pos a]; exact ⟨rfl, by omega⟩
  · by_cases b : 100 < k.toInt
    · left; rw [if_neg a, if_pos b]; exact ⟨rfl, by omega⟩
    · right; rw [if_neg a, if_neg b]; exact ⟨by decide, by omega, by omega, by omega, by omega⟩
theorem sim_run {S : Nat} {z w : Sg} (h : q_I S z w) (p0 p1 p2 : Int32) : (f_X6_run w p0 p1 p2).1 = (f_X5_run z p0 p1 p2).2.1 ∧ (f_X6_run w p0 p1 p2).2.1 19 0 = (if (f_X5_run z p0 p1 p2).1 = 0 then 0 else if (f_X5_run z p0 p1 p2).1 = 3 then 1 else if (f_X5_run z p0 p1 p2).1 = 1 then 2 else 3) ∧ q_I S (f_X5_run z p0 p1 p2).2.2 (f_X6_run w p0 p1 p2).2 := by
  unfold f_X6_run f_X5_run
  rcases sec_cases h p0 with ⟨h1, h2⟩ | ⟨h1, h2, h3, hc, hs⟩
  · rw [h2, if_pos h1]; exact ⟨rfl, rfl, q_f h⟩
  · have hIS := k_Is h.1.1 hc
    have hy := h.1.2.2.1 _ hc
    have h12 := q_12 h
    rw [if_neg h1, if_pos h2]
    by_cases a : z.1 (46 + 6 * p0.toNatClampNeg) 1 = 1
    · have a' : ¬ w.1 20 p0.toNatClampNeg = 0 := by rw [← hs.1, a]; decide
      rw [if_pos a, if_neg a']
      rcases rg_cases w p1 with ⟨k1, k2 | ⟨k2, k3⟩⟩ | ⟨k1, k2, k3, k4⟩
      · rw [if_pos k1, if_pos k2]; exact ⟨rfl, rfl, q_f h⟩
      · rw [if_pos k1, if_neg k2, if_neg k3]; exact ⟨rfl, rfl, q_f h⟩
      rw [if_neg k1, if_neg k2, if_pos k3]
      rcases rm_cases w p2 with ⟨l1, l2 | ⟨l2, l3⟩⟩ | ⟨l1, l2, l3, l4⟩
      · rw [if_pos l1, if_pos l2]; exact ⟨rfl, rfl, q_f h⟩
      · rw [if_pos l1, if_neg l2, if_neg l3]; exact ⟨rfl, rfl, q_f h⟩
      rw [if_neg l1, if_neg l2, if_pos l3, hs.2.2.2.2.2.2.1]
      have hz := h.2.1.1.2.2.2.2.2.2.2.1 p0.toNatClampNeg
      have e6 : (6 : Int32).toInt = 6 := rfl
      by_cases b : w.1 27 p0.toNatClampNeg = 6
      · rw [if_pos b, if_neg (by rw [b]; decide)]; exact ⟨rfl, rfl, q_f h⟩
      have b0 : (w.1 27 p0.toNatClampNeg).toInt < 6 := by
        rw [← Int32.toInt_inj] at b; omega
      rw [if_neg b, if_pos (by simp only [Int32.lt_iff_toInt_lt]; omega)]
      refine ⟨rfl, rfl, ?_⟩
      dsimp only
      rw [ix_n (k := 6) (l := 12) rfl ⟨h3.1, by omega⟩ ⟨hz.1, by omega⟩ (by decide)]
      have hn : (w.1 27 p0.toNatClampNeg).toNatClampNeg < 6 := by rw [clampEq]; omega
      have hp := i_p1 (m := 6) hz.1 b0 (by decide)
      generalize hx : w.1 27 p0.toNatClampNeg = x at *
      generalize p0.toNatClampNeg = c at *
      generalize x.toNatClampNeg = n at *
      have e0 : (uI (uI (uI z (46 + 6 * c + 2) n p1) (46 + 6 * c + 3) n p2) (46 + 6 * c) 12 (x + 1)).1 (46 + 6 * c) = upd (z.1 (46 + 6 * c)) 12 (x + 1) := by rw [uI_s, uI_r (by omega), uI_r (by omega)]
      have e2 : (uI (uI (uI z (46 + 6 * c + 2) n p1) (46 + 6 * c + 3) n p2) (46 + 6 * c) 12 (x + 1)).1 (46 + 6 * c + 2) = upd (z.1 (46 + 6 * c + 2)) n p1 := by rw [uI_r (by omega), uI_r (by omega), uI_s]
      have e3 : (uI (uI (uI z (46 + 6 * c + 2) n p1) (46 + 6 * c + 3) n p2) (46 + 6 * c) 12 (x + 1)).1 (46 + 6 * c + 3) = upd (z.1 (46 + 6 * c + 3)) n p2 := by rw [uI_r (by omega), uI_s, uI_r (by omega)]
      have er : ∀ r, r ≠ 46 + 6 * c → r ≠ 46 + 6 * c + 2 → r ≠ 46 + 6 * c + 3 → (uI (uI (uI z (46 + 6 * c + 2) n p1) (46 + 6 * c + 3) n p2) (46 + 6 * c) 12 (x + 1)).1 r = z.1 r := fun r a b d => by rw [uI_r a, uI_r d, uI_r b]
      have ej : (uI (uI (uI z (46 + 6 * c + 2) n p1) (46 + 6 * c + 3) n p2) (46 + 6 * c) 12 (x + 1)).2 = z.2 := rfl
      have m27 : (uI (uI (uI (uI w 19 0 0) 28 (6 * c + n) p1) 29 (6 * c + n) p2) 27 c (x + 1)).1 27 = upd (w.1 27) c (x + 1) := rfl
      have m28 : (uI (uI (uI (uI w 19 0 0) 28 (6 * c + n) p1) 29 (6 * c + n) p2) 27 c (x + 1)).1 28 = upd (w.1 28) (6 * c + n) p1 := rfl
      have m29 : (uI (uI (uI (uI w 19 0 0) 28 (6 * c + n) p1) 29 (6 * c + n) p2) 27 c (x + 1)).1 29 = upd (w.1 29) (6 * c + n) p2 := rfl
      refine q_sec h hc (fun r hr => ⟨er r (by omega) (by omega) (by omega), rfl⟩) rfl ?_ ?_ (fun r a b => ⟨?_, ?_⟩) (fun k hk => ?_) (fun d hd hne => ?_) ?_ (J_27 ⟨by omega, by omega⟩ (k_J_u (by decide) (k_J_u (by decide) (k_J_f h.2.1.1)))) ?_
      · unfold k_IS
        rw [e0, e3, er _ (by omega) (by omega) (by omega)]
        refine ⟨hIS.1, hIS.2.1, hIS.2.2.1, ⟨?_, ?_⟩, hIS.2.2.2.2.1, fun k => ?_⟩
        · rw [upd_eq]; omega
        · rw [upd_eq]; omega
        · unfold upd
          split
          · omega
          · exact hIS.2.2.2.2.2 k
      · unfold q_y
        rw [e0, ej, er _ (by omega) (by omega) (by omega), er _ (by omega) (by omega) (by omega)]
        exact hy
      · rw [uI_r (by omega), uI_r (by omega), uI_r (by omega), uI_r (by omega)]
      · rfl
      · rw [uI_r (by decide), uI_r (by decide), uI_r (by decide), uI_s, upd_ne hk]
      · unfold m_s
        rw [m27, m28, m29]
        exact ⟨⟨rfl, rfl, rfl, rfl, rfl, upd_ne hne⟩, ⟨rfl, rfl, rfl⟩, fun k hk => rfl, fun k hk => ⟨upd_ne (by omega), upd_ne (by omega)⟩, fun k hk => ⟨rfl, rfl⟩⟩
      · unfold q_s
        rw [e0, e2, e3, ej, er (46 + 6 * c + 1) (by omega) (by omega) (by omega), er (46 + 6 * c + 4) (by omega) (by omega) (by omega), er (46 + 6 * c + 5) (by omega) (by omega) (by omega), m27, m28, m29]
        refine ⟨hs.1, hs.2.1, hs.2.2.1, hs.2.2.2.1, hs.2.2.2.2.1, hs.2.2.2.2.2.1, ?_, hs.2.2.2.2.2.2.2.1, fun k hk => ?_, fun k hk => ?_, hs.2.2.2.2.2.2.2.2.2.2⟩
        · rw [upd_eq, upd_eq]
        · unfold upd
          by_cases e : k = n
          · rw [if_pos e, if_pos (by omega)]
          · rw [if_neg e, if_neg (by omega)]; exact hs.2.2.2.2.2.2.2.2.1 k hk
        · unfold upd
          by_cases e : k = n
          · rw [if_pos e, if_pos (by omega)]
          · rw [if_neg e, if_neg (by omega)]; exact hs.2.2.2.2.2.2.2.2.2.1 k hk
      · exact V_29 l4.2 (V_28 k4 h.2.1.2)
    · have a1 := hIS.2.1.resolve_right a
      have a' : w.1 20 p0.toNatClampNeg = 0 := by rw [← hs.1, a1]
      rw [if_neg a, if_pos a']; exact ⟨rfl, rfl, q_f h⟩
theorem nar_1 : vp_nar .boolean 1 = 1 := by decide +kernel
theorem nar_0 : vp_nar .boolean 0 = 0 := by decide +kernel
theorem sim_key {S : Nat} {z w : Sg} (h : q_I S z w) (p0 p1 p2 : Int32) : (f_X6_key w p0 p1 p2).1 = (f_X5_key z p0 p1 p2).2.1 ∧ (f_X6_key w p0 p1 p2).2.1 19 0 = (if (f_X5_key z p0 p1 p2).1 = 0 then 0 else if (f_X5_key z p0 p1 p2).1 = 3 then 1 else 2) ∧ q_I S (f_X5_key z p0 p1 p2).2.2 (f_X6_key w p0 p1 p2).2 := by
  unfold f_X6_key f_X5_key
  rcases sec_cases h p0 with ⟨h1, h2⟩ | ⟨h1, h2, h3, hc, hs⟩
  · rw [h2, if_pos h1]; exact ⟨rfl, rfl, q_f h⟩
  · have hIS := k_Is h.1.1 hc
    have hy := h.1.2.2.1 _ hc
    have h12 := q_12 h
    rw [if_neg h1, if_pos h2]
    rcases key_cases z w p1 with ⟨k1, k2⟩ | ⟨k1, k2, k3⟩
    · rw [if_pos k1, if_pos k2]; exact ⟨rfl, rfl, q_f h⟩
    rw [if_neg k1, if_neg k2]
    have hk : p1.toNatClampNeg < 10 := by rw [clampEq]; omega
    rw [ix_n (k := 10) (l := 12) rfl ⟨h3.1, by omega⟩ ⟨k3.1, by omega⟩ (by decide), ← hs.2.2.2.2.2.2.2.2.2.2.2 _ hk, nar_1]
    have key : q_I S (uI (uI z (46 + 6 * p0.toNatClampNeg + 5) p1.toNatClampNeg 1) (46 + 6 * p0.toNatClampNeg + 4) p1.toNatClampNeg p2) (uI (uI (uI w 19 0 0) 30 (10 * p0.toNatClampNeg + p1.toNatClampNeg) 1) 31 (10 * p0.toNatClampNeg + p1.toNatClampNeg) p2) := by
      generalize p0.toNatClampNeg = c at *
      generalize p1.toNatClampNeg = n at *
      have e5 : (uI (uI z (46 + 6 * c + 5) n 1) (46 + 6 * c + 4) n p2).1 (46 + 6 * c + 5) = upd (z.1 (46 + 6 * c + 5)) n 1 := by rw [uI_r (by omega), uI_s]
      have e4 : (uI (uI z (46 + 6 * c + 5) n 1) (46 + 6 * c + 4) n p2).1 (46 + 6 * c + 4) = upd (z.1 (46 + 6 * c + 4)) n p2 := by rw [uI_s, uI_r (by omega)]
      have er : ∀ r, r ≠ 46 + 6 * c + 4 → r ≠ 46 + 6 * c + 5 → (uI (uI z (46 + 6 * c + 5) n 1) (46 + 6 * c + 4) n p2).1 r = z.1 r := fun r a b => by rw [uI_r a, uI_r b]
      have ej : (uI (uI z (46 + 6 * c + 5) n 1) (46 + 6 * c + 4) n p2).2 = z.2 := rfl
      have m30 : (uI (uI (uI w 19 0 0) 30 (10 * c + n) 1) 31 (10 * c + n) p2).1 30 = upd (w.1 30) (10 * c + n) 1 := rfl
      have m31 : (uI (uI (uI w 19 0 0) 30 (10 * c + n) 1) 31 (10 * c + n) p2).1 31 = upd (w.1 31) (10 * c + n) p2 := rfl
      refine q_sec h hc (fun r hr => ⟨er r (by omega) (by omega), rfl⟩) rfl ?_ ?_ (fun r a b => ⟨?_, ?_⟩) (fun k hk => ?_) (fun d hd hne => ?_) ?_ (k_J_u (by decide) (k_J_u (by decide) (k_J_f h.2.1.1))) h.2.1.2
      · unfold k_IS
        rw [er (46 + 6 * c) (by omega) (by omega), er (46 + 6 * c + 1) (by omega) (by omega), er (46 + 6 * c + 3) (by omega) (by omega)]
        exact hIS
      · unfold q_y
        rw [e4, e5, ej, er (46 + 6 * c) (by omega) (by omega)]
        refine ⟨fun k hk => ?_, hy.2⟩
        unfold upd
        by_cases e : k = n
        · rw [if_pos e, if_pos e]; intro g; exact absurd g (by decide)
        · rw [if_neg e, if_neg e]; exact hy.1 k hk
      · rw [uI_r (by omega), uI_r (by omega), uI_r (by omega)]
      · rfl
      · rw [uI_r (by decide), uI_r (by decide), uI_s, upd_ne hk]
      · unfold m_s
        rw [m30, m31]
        exact ⟨⟨rfl, rfl, rfl, rfl, rfl, rfl⟩, ⟨rfl, rfl, rfl⟩, fun k hk => rfl, fun k hk => ⟨rfl, rfl⟩, fun k hk => ⟨upd_ne (by omega), upd_ne (by omega)⟩⟩
      · unfold q_s
        rw [e4, e5, ej, er (46 + 6 * c) (by omega) (by omega), er (46 + 6 * c + 1) (by omega) (by omega), er (46 + 6 * c + 2) (by omega) (by omega), er (46 + 6 * c + 3) (by omega) (by omega), m30, m31]
        refine ⟨hs.1, hs.2.1, hs.2.2.1, hs.2.2.2.1, hs.2.2.2.2.1, hs.2.2.2.2.2.1, hs.2.2.2.2.2.2.1, hs.2.2.2.2.2.2.2.1, hs.2.2.2.2.2.2.2.2.1, hs.2.2.2.2.2.2.2.2.2.1, fun k hk => ?_, fun k hk => ?_⟩
        · unfold upd
          by_cases e : k = n
          · rw [if_pos e, if_pos (by omega)]
          · rw [if_neg e, if_neg (by omega)]; exact hs.2.2.2.2.2.2.2.2.2.2.1 k hk
        · unfold upd
          by_cases e : k = n
          · rw [if_pos e, if_pos (by omega)]
          · rw [if_neg e, if_neg (by omega)]; exact hs.2.2.2.2.2.2.2.2.2.2.2 k hk
    by_cases g : z.1 (46 + 6 * p0.toNatClampNeg + 5) p1.toNatClampNeg = 0
    · rw [if_pos g, if_pos g]; exact ⟨rfl, rfl, key⟩
    · rw [if_neg g, if_neg g]; exact ⟨rfl, rfl, key⟩
