/-! ===== calls that change a section ===== -/
theorem upd_ne {f : Nat → Int32} {k j : Nat} {x : Int32} (h : j ≠ k) : upd f k x j = f j := if_neg h
theorem upd_eq {f : Nat → Int32} {k : Nat} {x : Int32} : upd f k x k = x := if_pos rfl
theorem updL_ne {f : Nat → Int64} {k j : Nat} {x : Int64} (h : j ≠ k) : vp_updL f k x j = f j := if_neg h
theorem updL_eq {f : Nat → Int64} {k : Nat} {x : Int64} : vp_updL f k x k = x := if_pos rfl
/-- what the reference has of a section is the same -/
def m_s (w w' : Sg) (c : Nat) : Prop := (w'.1 20 c = w.1 20 c ∧ w'.2.1 21 c = w.2.1 21 c ∧ w'.2.1 22 c = w.2.1 22 c ∧ w'.2.1 23 c = w.2.1 23 c ∧ w'.1 24 c = w.1 24 c ∧ w'.1 27 c = w.1 27 c) ∧ (w'.1 26 (3 * c) = w.1 26 (3 * c) ∧ w'.1 26 (3 * c + 1) = w.1 26 (3 * c + 1) ∧ w'.1 26 (3 * c + 2) = w.1 26 (3 * c + 2)) ∧ (∀ k, k < 300 → w'.1 25 (300 * c + k) = w.1 25 (300 * c + k)) ∧ (∀ k, k < 6 → w'.1 28 (6 * c + k) = w.1 28 (6 * c + k) ∧ w'.1 29 (6 * c + k) = w.1 29 (6 * c + k)) ∧ ∀ k, k < 10 → w'.1 30 (10 * c + k) = w.1 30 (10 * c + k) ∧ w'.1 31 (10 * c + k) = w.1 31 (10 * c + k)
theorem q_s_m {z z' w w' : Sg} {c : Nat} (hz : ∀ r, 46 + 6 * c ≤ r → r < 46 + 6 * c + 6 → z'.1 r = z.1 r ∧ z'.2.1 r = z.2.1 r) (hw : m_s w w' c) (h : q_s z w c) : q_s z' w' c := by
  obtain ⟨⟨a1, a2, a3, a4, a5, a6⟩, ⟨b1, b2, b3⟩, d1, d2, d3⟩ := hw
  obtain ⟨g1, g2, g3, g4, g5, ⟨g6, g7, g8⟩, g9, g10, g11, g12, g13, g14⟩ := h
  unfold q_s
  rw [(hz (46 + 6 * c) (by omega) (by omega)).1, (hz (46 + 6 * c) (by omega) (by omega)).2, (hz (46 + 6 * c + 1) (by omega) (by omega)).1, (hz (46 + 6 * c + 2) (by omega) (by omega)).1, (hz (46 + 6 * c + 3) (by omega) (by omega)).1, (hz (46 + 6 * c + 4) (by omega) (by omega)).1, (hz (46 + 6 * c + 5) (by omega) (by omega)).1, a1, a2, a3, a4, a5, a6, b1, b2, b3]
  exact ⟨g1, g2, g3, g4, g5, ⟨g6, g7, g8⟩, g9, fun k hk => (g10 k hk).trans (d1 k hk).symm, fun k hk => (g11 k hk).trans (d2 k hk).1.symm, fun k hk => (g12 k hk).trans (d2 k hk).2.symm, fun k hk => (g13 k hk).trans (d3 k hk).2.symm, fun k hk => (g14 k hk).trans (d3 k hk).1.symm⟩
theorem q_n_m {w w' : Sg} {c : Nat} (hw : m_s w w' c) (h : q_n w c) : q_n w' c := by
  obtain ⟨⟨a1, a2, a3, a4, a5, a6⟩, -, d1, d2, d3⟩ := hw
  obtain ⟨g1, g2, g3, g4, g5⟩ := h
  exact ⟨a5.trans g1, a6.trans g2, fun k hk => (d1 k hk).trans (g3 k hk), fun k hk => ⟨(d2 k hk).1.trans (g4 k hk).1, (d2 k hk).2.trans (g4 k hk).2⟩, fun k hk => ⟨(d3 k hk).1.trans (g5 k hk).1, (d3 k hk).2.trans (g5 k hk).2⟩⟩
theorem q_sec {S c : Nat} {z w z' w' : Sg} (h : q_I S z w) (hc : c < S) (hz : ∀ r, r < 46 + 6 * c ∨ 46 + 6 * c + 6 ≤ r → z'.1 r = z.1 r ∧ z'.2.1 r = z.2.1 r) (ho : z'.2.2 = z.2.2) (hIS : k_IS z' c) (hy : q_y z' c)
    (hw : ∀ r, 32 ≤ r → r ≤ 44 → w'.1 r = w.1 r ∧ w'.2.1 r = w.2.1 r) (h19 : ∀ k, k ≠ 0 → w'.1 19 k = w.1 19 k) (hm : ∀ d, d < 12 → d ≠ c → m_s w w' d) (hs : q_s z' w' c) (hJ : k_J S w') (hV : k_V w') : q_I S z' w' := by
  have hc' : ∀ r, r < 46 → z'.1 r = z.1 r := fun r h => (hz r (by omega)).1
  have hj' : ∀ r, r < 46 → z'.2.1 r = z.2.1 r := fun r h => (hz r (by omega)).2
  have mi : ∀ r, 32 ≤ r → r ≤ 44 → w'.1 r = w.1 r := fun r a b => (hw r a b).1
  have mj : ∀ r, 32 ≤ r → r ≤ 44 → w'.2.1 r = w.2.1 r := fun r a b => (hw r a b).2
  have h12 := q_12 h
  obtain ⟨⟨h1, h2, h3⟩, -, h6, h7⟩ := h
  refine ⟨⟨⟨by rw [hc' 0 (by omega)]; exact h1.1, by rw [hc' 2 (by omega)]; exact h1.2.1, by rw [hc' 6 (by omega)]; exact h1.2.2.1, by rw [hc' 6 (by omega)]; exact h1.2.2.2.1, by rw [hc' 6 (by omega)]; exact h1.2.2.2.2.1, by rw [ho]; exact h1.2.2.2.2.2.1, by rw [ho]; exact h1.2.2.2.2.2.2.1, by rw [ho]; exact h1.2.2.2.2.2.2.2.1, fun d hd => ?_, by unfold k_T; rw [hc' 18 (by omega)]; exact k_IT h1⟩, ?_, ⟨fun d hd => ?_, ?_, ?_⟩⟩, ⟨hJ, hV⟩, ⟨?_, fun d hd => ?_, fun d a b => ?_⟩, ?_⟩
  · by_cases e : d = c
    · rw [e]; exact hIS
    · unfold k_IS
      rw [(hz (46 + 6 * d) (by omega)).1, (hz (46 + 6 * d + 1) (by omega)).1, (hz (46 + 6 * d + 3) (by omega)).1]
      exact k_Is h1 hd
  · intro r i d; rw [ho]; exact h2 r i d
  · by_cases e : d = c
    · rw [e]; exact hy
    · unfold q_y
      rw [(hz (46 + 6 * d) (by omega)).1, (hz (46 + 6 * d) (by omega)).2, (hz (46 + 6 * d + 4) (by omega)).1, (hz (46 + 6 * d + 5) (by omega)).1]
      exact h3.1 d hd
  · rw [hc' 2 (by omega), hj' 3 (by omega)]; exact h3.2.1
  · rw [hc' 8 (by omega)]; exact h3.2.2
  · rw [hc' 0 (by omega), h19 1 (by decide)]; exact h6.1
  · by_cases e : d = c
    · rw [e]; exact hs
    · exact q_s_m (fun r a b => hz r (by omega)) (hm d (by omega) e) (h6.2.1 d hd)
  · exact q_n_m (hm d b (by omega)) (h6.2.2 d a b)
  · unfold q_Z q_H q_K q_T q_C q_R q_F k_C
    rw [ho, hc' 2 (by omega), hc' 4 (by omega), hc' 5 (by omega), hc' 6 (by omega), hc' 8 (by omega), hc' 11 (by omega), hc' 12 (by omega), hc' 13 (by omega), hc' 15 (by omega), hj' 3 (by omega), hj' 9 (by omega), hj' 10 (by omega), hj' 14 (by omega), h19 14 (by decide), h19 18 (by decide), h19 25 (by decide), mi 33 (by decide) (by decide), mi 34 (by decide) (by decide), mi 35 (by decide) (by decide), mi 36 (by decide) (by decide), mi 39 (by decide) (by decide), mi 40 (by decide) (by decide), mi 41 (by decide) (by decide), mi 42 (by decide) (by decide), mj 32 (by decide) (by decide), mj 37 (by decide) (by decide), mj 38 (by decide) (by decide), mj 43 (by decide) (by decide)]
    exact h7
theorem J_24 {S k : Nat} {z : Sg} {x : Int32} (h : 0 ≤ x.toInt ∧ x.toInt ≤ 300) (hI : k_J S z) : k_J S (uI z 24 k x) := by
  refine ⟨hI.1, hI.2.1, hI.2.2.1, hI.2.2.2.1, hI.2.2.2.2.1, hI.2.2.2.2.2.1, fun j => ?_, hI.2.2.2.2.2.2.2⟩
  show 0 ≤ (upd (z.1 24) k x j).toInt ∧ (upd (z.1 24) k x j).toInt ≤ 300
  unfold upd
  split
  · exact h
  · exact hI.2.2.2.2.2.2.1 j
theorem J_27 {S k : Nat} {z : Sg} {x : Int32} (h : 0 ≤ x.toInt ∧ x.toInt ≤ 6) (hI : k_J S z) : k_J S (uI z 27 k x) := by
  refine ⟨hI.1, hI.2.1, hI.2.2.1, hI.2.2.2.1, hI.2.2.2.2.1, hI.2.2.2.2.2.1, hI.2.2.2.2.2.2.1, fun j => ?_, hI.2.2.2.2.2.2.2.2⟩
  show 0 ≤ (upd (z.1 27) k x j).toInt ∧ (upd (z.1 27) k x j).toInt ≤ 6
  unfold upd
  split
  · exact h
  · exact hI.2.2.2.2.2.2.2.1 j
theorem J_25 {S k : Nat} {z : Sg} {x : Int32} (h : x.toInt8.toInt32 = x) (hI : k_J S z) : k_J S (uI z 25 k x) := by
  refine ⟨hI.1, hI.2.1, hI.2.2.1, hI.2.2.2.1, hI.2.2.2.2.1, hI.2.2.2.2.2.1, hI.2.2.2.2.2.2.1, hI.2.2.2.2.2.2.2.1, fun j => ?_, hI.2.2.2.2.2.2.2.2.2⟩
  show (upd (z.1 25) k x j).toInt8.toInt32 = upd (z.1 25) k x j
  unfold upd
  split
  · exact h
  · exact hI.2.2.2.2.2.2.2.2.1 j
theorem nar_byte (x : Int32) : (vp_nar .byte x).toInt8.toInt32 = vp_nar .byte x := by
  have e : vp_nar .byte x = x.toInt8.toInt32 := rfl
  rw [e, Int8.toInt8_toInt32]
theorem V_26 {k : Nat} {z : Sg} {x : Int32} (h : 0 ≤ x.toInt ∧ x.toInt ≤ 4) (hV : k_V z) : k_V (uI z 26 k x) := by
  refine ⟨fun j => ?_, hV.2⟩
  show 0 ≤ (upd (z.1 26) k x j).toInt ∧ (upd (z.1 26) k x j).toInt ≤ 4
  unfold upd
  split
  · exact h
  · exact hV.1 j
theorem V_28 {k : Nat} {z : Sg} {x : Int32} (h : 0 ≤ x.toInt ∧ x.toInt ≤ 999) (hV : k_V z) : k_V (uI z 28 k x) := by
  refine ⟨hV.1, fun j => ?_, hV.2.2⟩
  show 0 ≤ (upd (z.1 28) k x j).toInt ∧ (upd (z.1 28) k x j).toInt ≤ 999
  unfold upd
  split
  · exact h
  · exact hV.2.1 j
theorem V_29 {k : Nat} {z : Sg} {x : Int32} (h : x.toInt ≤ 100) (hV : k_V z) : k_V (uI z 29 k x) := by
  refine ⟨hV.1, hV.2.1, fun j => ?_⟩
  show (upd (z.1 29) k x j).toInt ≤ 100
  unfold upd
  split
  · exact h
  · exact hV.2.2 j
theorem i_p1 {x : Int32} {m : Int} (h0 : 0 ≤ x.toInt) (h : x.toInt < m) (hm : m ≤ 100000) : (x + 1).toInt = x.toInt + 1 := by
  rw [Int32.toInt_add]
  have : (1 : Int32).toInt = 1 := rfl
  rw [this]
  exact Int.bmod_eq_of_le_mul_two (by simp; omega) (by simp; omega)
theorem sim_add {S : Nat} {z w : Sg} (h : q_I S z w) (p0 p1 : Int32) : (f_X6_add w p0 p1).1 = (f_X5_add z p0 p1).2.1 ∧ (f_X6_add w p0 p1).2.1 19 0 = (if (f_X5_add z p0 p1).1 = 0 then 0 else if (f_X5_add z p0 p1).1 = 3 then 1 else 2) ∧ q_I S (f_X5_add z p0 p1).2.2 (f_X6_add w p0 p1).2 := by
  unfold f_X6_add f_X5_add
  rcases sec_cases h p0 with ⟨h1, h2⟩ | ⟨h1, h2, h3, hc, hs⟩
  · rw [h2, if_pos h1]; exact ⟨rfl, rfl, q_f h⟩
  · have hz := k_Jsz h.2.1.1 p0.toNatClampNeg
    have e5 := hs.2.2.2.2.1
    have h12 := q_12 h
    have e300 : (300 : Int32).toInt = 300 := rfl
    rw [if_neg h1, if_pos h2, e5]
    by_cases a : w.1 24 p0.toNatClampNeg = 300
    · have b : ¬ w.1 24 p0.toNatClampNeg < 300 := by rw [a]; decide
      rw [if_pos a, if_neg b]; exact ⟨rfl, rfl, q_f h⟩
    · have b0 : (w.1 24 p0.toNatClampNeg).toInt < 300 := by
        rw [← Int32.toInt_inj] at a; omega
      have b : w.1 24 p0.toNatClampNeg < 300 := by
        simp only [Int32.lt_iff_toInt_lt]; omega
      rw [if_neg a, if_pos b]
      refine ⟨rfl, rfl, ?_⟩
      dsimp only
      rw [ix_n (k := 300) (l := 12) rfl ⟨h3.1, by omega⟩ ⟨hz.1, by omega⟩ (by decide)]
      have hn : (w.1 24 p0.toNatClampNeg).toNatClampNeg < 300 := by rw [clampEq]; omega
      have hp := i_p1 (m := 300) hz.1 b0 (by decide)
      generalize hx : w.1 24 p0.toNatClampNeg = x at *
      generalize p0.toNatClampNeg = c at *
      generalize x.toNatClampNeg = n at *
      have e0 : (uI (uI z (46 + 6 * c + 1) n (vp_nar .byte p1)) (46 + 6 * c) 6 (x + 1)).1 (46 + 6 * c) = upd (z.1 (46 + 6 * c)) 6 (x + 1) := by rw [uI_s, uI_r (by omega)]
      have e1 : (uI (uI z (46 + 6 * c + 1) n (vp_nar .byte p1)) (46 + 6 * c) 6 (x + 1)).1 (46 + 6 * c + 1) = upd (z.1 (46 + 6 * c + 1)) n (vp_nar .byte p1) := by rw [uI_r (by omega), uI_s]
      have er : ∀ r, r ≠ 46 + 6 * c → r ≠ 46 + 6 * c + 1 → (uI (uI z (46 + 6 * c + 1) n (vp_nar .byte p1)) (46 + 6 * c) 6 (x + 1)).1 r = z.1 r := fun r a b => by rw [uI_r a, uI_r b]
      have ej : (uI (uI z (46 + 6 * c + 1) n (vp_nar .byte p1)) (46 + 6 * c) 6 (x + 1)).2 = z.2 := rfl
      have m24 : (uI (uI (uI w 19 0 0) 25 (300 * c + n) (vp_nar .byte p1)) 24 c (x + 1)).1 24 = upd (w.1 24) c (x + 1) := rfl
      have m25 : (uI (uI (uI w 19 0 0) 25 (300 * c + n) (vp_nar .byte p1)) 24 c (x + 1)).1 25 = upd (w.1 25) (300 * c + n) (vp_nar .byte p1) := rfl
      have hIS := k_Is h.1.1 hc
      have hy := h.1.2.2.1 c hc
      refine q_sec h hc (fun r hr => ⟨er r (by omega) (by omega), rfl⟩) rfl ?_ ?_ (fun r a b => ⟨?_, ?_⟩) (fun k hk => ?_) (fun d hd hne => ?_) ?_ (J_24 ⟨by omega, by omega⟩ (J_25 (nar_byte _) (k_J_f h.2.1.1))) h.2.1.2
      · unfold k_IS
        rw [e0, e1, er _ (by omega) (by omega)]
        refine ⟨hIS.1, hIS.2.1, ⟨?_, ?_⟩, hIS.2.2.2.1, fun k => ?_, hIS.2.2.2.2.2⟩
        · rw [upd_eq]; omega
        · rw [upd_eq]; omega
        · unfold upd
          split
          · exact nar_byte _
          · exact hIS.2.2.2.2.1 k
      · unfold q_y
        rw [e0, ej, er _ (by omega) (by omega), er _ (by omega) (by omega)]
        exact hy
      · rw [uI_r (by omega), uI_r (by omega), uI_r (by omega)]
      · rfl
      · rw [uI_r (by decide), uI_r (by decide), uI_s, upd_ne hk]
      · unfold m_s
        rw [m24, m25]
        exact ⟨⟨rfl, rfl, rfl, rfl, upd_ne hne, rfl⟩, ⟨rfl, rfl, rfl⟩, fun k hk => upd_ne (by omega), fun k hk => ⟨rfl, rfl⟩, fun k hk => ⟨rfl, rfl⟩⟩
      · unfold q_s
        rw [e0, e1, ej, er (46 + 6 * c + 2) (by omega) (by omega), er (46 + 6 * c + 3) (by omega) (by omega), er (46 + 6 * c + 4) (by omega) (by omega), er (46 + 6 * c + 5) (by omega) (by omega), m24, m25]
        refine ⟨hs.1, hs.2.1, hs.2.2.1, hs.2.2.2.1, ?_, hs.2.2.2.2.2.1, hs.2.2.2.2.2.2.1, fun k hk => ?_, hs.2.2.2.2.2.2.2.2⟩
        · rw [upd_eq, upd_eq]
        · unfold upd
          by_cases e : k = n
          · rw [if_pos e, if_pos (by omega)]
          · rw [if_neg e, if_neg (by omega)]; exact hs.2.2.2.2.2.2.2.1 k hk
