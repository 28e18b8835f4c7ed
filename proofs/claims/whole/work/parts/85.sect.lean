theorem q_C_up {S L : Nat} {z w : Sg} (h : q_C S L z w) : q_C (S + 1) L z w := ⟨h.1, fun i hi => by
  obtain ⟨c, a, b⟩ := h.2 i hi
  exact ⟨c, by omega, b⟩⟩
theorem k_C_up {S : Nat} {w : Sg} (h : k_C S w) : k_C (S + 1) w := ⟨fun i hi => by
  have := h.1 i hi
  omega, h.2⟩
/-- a section more -/
theorem q_new {S : Nat} {z w z' w' : Sg} (h : q_I S z w) (hS : S < 12) (hi : ∀ r, r < 46 + 6 * S → r ≠ 0 → z'.1 r = z.1 r) (hj : ∀ r, r < 46 + 6 * S → z'.2.1 r = z.2.1 r) (h0 : (z'.1 0 1).toInt = (S + 1 : Nat)) (ho : ∀ r, r ≠ 1 → r < 46 + 6 * S → z'.2.2 r = z.2.2 r) (hoh : ∀ r, 46 + 6 * S ≤ r → z'.2.2 r = fun _ => none) (h1 : z'.2.2 1 = va_up (z.2.2 1) S (some S))
    (hIS : k_IS z' S) (hy : q_y z' S) (hw : ∀ r, 32 ≤ r → r ≤ 44 → w'.1 r = w.1 r ∧ w'.2.1 r = w.2.1 r) (h19 : ∀ k, k ≠ 0 → k ≠ 1 → w'.1 19 k = w.1 19 k) (h191 : w'.1 19 1 = z'.1 0 1) (hm : ∀ d, d < 12 → d ≠ S → m_s w w' d) (hs : q_s z' w' S)
    (m24 : w'.1 24 = w.1 24) (m25 : w'.1 25 = w.1 25) (m27 : w'.1 27 = w.1 27) (hV : k_V w') : q_I (S + 1) z' w' := by
  have mi : ∀ r, 32 ≤ r → r ≤ 44 → w'.1 r = w.1 r := fun r a b => (hw r a b).1
  have mj : ∀ r, 32 ≤ r → r ≤ 44 → w'.2.1 r = w.2.1 r := fun r a b => (hw r a b).2
  obtain ⟨⟨g1, g2, g3⟩, ⟨gJ, gV⟩, g6, g7⟩ := h
  refine ⟨⟨⟨⟨by omega, h0⟩, by rw [hi 2 (by omega) (by decide)]; exact g1.2.1, by rw [hi 6 (by omega) (by decide)]; exact g1.2.2.1, by rw [hi 6 (by omega) (by decide)]; exact g1.2.2.2.1, by rw [hi 6 (by omega) (by decide)]; exact g1.2.2.2.2.1, fun i hiS => ?_, fun i c hc => ?_, fun c hc => ?_, fun d hd => ?_, by unfold k_T; rw [hi 18 (by omega) (by decide)]; exact k_IT g1⟩, fun r i c hc => ?_, ⟨fun d hd => ?_, ?_, ?_⟩⟩, ⟨?_, hV⟩, ⟨h191.symm, fun d hd => ?_, fun d a b => ?_⟩, ?_⟩
  · rw [h1]
    unfold va_up
    by_cases e : i = S
    · rw [if_pos e, e]
    · rw [if_neg e]; exact g1.2.2.2.2.2.1 i (by omega)
  · rw [ho 7 (by decide) (by omega)] at hc
    have := g1.2.2.2.2.2.2.1 i c hc
    omega
  · rw [ho 18 (by decide) (by omega)] at hc
    have := g1.2.2.2.2.2.2.2.1 c hc
    omega
  · by_cases e : d = S
    · rw [e]; exact hIS
    · unfold k_IS
      rw [hi (46 + 6 * d) (by omega) (by omega), hi (46 + 6 * d + 1) (by omega) (by omega), hi (46 + 6 * d + 3) (by omega) (by omega)]
      exact k_Is g1 (by omega)
  · by_cases e : r = 1
    · rw [e, h1] at hc
      unfold va_up at hc
      by_cases e2 : i = S
      · rw [if_pos e2] at hc
        cases hc
        omega
      · rw [if_neg e2] at hc
        have := g2 1 i c hc
        omega
    · by_cases e2 : r < 46 + 6 * S
      · rw [ho r e e2] at hc
        have := g2 r i c hc
        omega
      · rw [hoh r (by omega)] at hc
        cases hc
  · by_cases e : d = S
    · rw [e]; exact hy
    · unfold q_y
      rw [hi (46 + 6 * d) (by omega) (by omega), hj (46 + 6 * d) (by omega), hi (46 + 6 * d + 4) (by omega) (by omega), hi (46 + 6 * d + 5) (by omega) (by omega)]
      exact g3.1 d (by omega)
  · rw [hi 2 (by omega) (by decide), hj 3 (by omega)]; exact g3.2.1
  · rw [hi 8 (by omega) (by decide)]; exact g3.2.2
  · unfold k_J
    rw [h19 14 (by decide) (by decide), h19 18 (by decide) (by decide), h19 25 (by decide) (by decide), h19 30 (by decide) (by decide), h19 31 (by decide) (by decide), m24, m25, m27, mi 35 (by decide) (by decide), mi 39 (by decide) (by decide), h191]
    exact ⟨⟨by omega, h0⟩, gJ.2⟩
  · by_cases e : d = S
    · rw [e]; exact hs
    · exact q_s_m (fun r a b => ⟨hi r (by omega) (by omega), hj r (by omega)⟩) (hm d (by omega) e) (g6.2.1 d (by omega))
  · exact q_n_m (hm d b (by omega)) (g6.2.2 d (by omega) b)
  · have q1 : q_Z S z' w' := by
      unfold q_Z q_H q_K q_T q_C q_R q_F k_C
      rw [ho 7 (by decide) (by omega), hi 2 (by omega) (by decide), hi 4 (by omega) (by decide), hi 5 (by omega) (by decide), hi 6 (by omega) (by decide), hi 8 (by omega) (by decide), hi 11 (by omega) (by decide), hi 12 (by omega) (by decide), hi 13 (by omega) (by decide), hi 15 (by omega) (by decide), hj 3 (by omega), hj 9 (by omega), hj 10 (by omega), hj 14 (by omega), h19 14 (by decide) (by decide), h19 18 (by decide) (by decide), h19 25 (by decide) (by decide), mi 33 (by decide) (by decide), mi 34 (by decide) (by decide), mi 35 (by decide) (by decide), mi 36 (by decide) (by decide), mi 39 (by decide) (by decide), mi 40 (by decide) (by decide), mi 41 (by decide) (by decide), mi 42 (by decide) (by decide), mj 32 (by decide) (by decide), mj 37 (by decide) (by decide), mj 38 (by decide) (by decide), mj 43 (by decide) (by decide)]
      exact g7
    exact ⟨q1.1, q1.2.1, q1.2.2.1, ⟨q1.2.2.2.1.1, q_C_up q1.2.2.2.1.2.1, q1.2.2.2.1.2.2.1, k_C_up q1.2.2.2.1.2.2.2⟩, q1.2.2.2.2⟩
/-- the new section on both sides -/
theorem q_born {S : Nat} {z w : Sg} (h : q_I S z w) (hS : S < 12) {a : Int32} (ha : a = 0 ∨ a = 1) {d f : Int64} (hf : -1 ≤ f.toInt) (n : Int32) (hn : n = nI S) (m : Nat) (hm : m = S) : q_I (S + 1) (uI (uO (k_ns z S n a d f) 1 m (some S)) 0 1 (n + 1)) (uI (uI (uI (uI (uJ (uJ (uJ (uI (uI w 19 0 0) 20 m a) 21 m d) 22 m f) 23 m (-1)) 26 (3 * m) 1) 26 (3 * m + 1) 2) 26 (3 * m + 2) 1) 19 1 (n + 1)) := by
  subst hm
  subst hn
  have hn1 : (nI m + 1).toInt = (m + 1 : Nat) := by
    rw [nI_1, nI_toInt (by omega)]
  have e0 : (uI (uO (k_ns z m (nI m) a d f) 1 m (some m)) 0 1 (nI m + 1)).1 (46 + 6 * m) = k_nsI (nI m) a := by
    rw [uI_r (by omega)]; exact (ns_at (z := z) (S := m) (a := nI m) (b := a) (d := d) (f := f)).1
  have ej : (uI (uO (k_ns z m (nI m) a d f) 1 m (some m)) 0 1 (nI m + 1)).2.1 (46 + 6 * m) = k_nsJ d f := (ns_at (z := z) (S := m) (a := nI m) (b := a) (d := d) (f := f)).2
  have er : ∀ r, 46 + 6 * m < r → (uI (uO (k_ns z m (nI m) a d f) 1 m (some m)) 0 1 (nI m + 1)).1 r = fun _ => 0 := fun r hr => by
    rw [uI_r (by omega)]; exact ns_hi (z := z) (S := m) (a := nI m) (b := a) (d := d) (f := f) hr
  have hq := h.2.2.1.2.2 m (Nat.le_refl _) hS
  have m26 : (uI (uI (uI (uI (uJ (uJ (uJ (uI (uI w 19 0 0) 20 m a) 21 m d) 22 m f) 23 m (-1)) 26 (3 * m) 1) 26 (3 * m + 1) 2) 26 (3 * m + 2) 1) 19 1 (nI m + 1)).1 26 = upd (upd (upd (w.1 26) (3 * m) 1) (3 * m + 1) 2) (3 * m + 2) 1 := rfl
  have m20 : (uI (uI (uI (uI (uJ (uJ (uJ (uI (uI w 19 0 0) 20 m a) 21 m d) 22 m f) 23 m (-1)) 26 (3 * m) 1) 26 (3 * m + 1) 2) 26 (3 * m + 2) 1) 19 1 (nI m + 1)).1 20 = upd (w.1 20) m a := rfl
  have m21 : (uI (uI (uI (uI (uJ (uJ (uJ (uI (uI w 19 0 0) 20 m a) 21 m d) 22 m f) 23 m (-1)) 26 (3 * m) 1) 26 (3 * m + 1) 2) 26 (3 * m + 2) 1) 19 1 (nI m + 1)).2.1 21 = vp_updL (w.2.1 21) m d := rfl
  have m22 : (uI (uI (uI (uI (uJ (uJ (uJ (uI (uI w 19 0 0) 20 m a) 21 m d) 22 m f) 23 m (-1)) 26 (3 * m) 1) 26 (3 * m + 1) 2) 26 (3 * m + 2) 1) 19 1 (nI m + 1)).2.1 22 = vp_updL (w.2.1 22) m f := rfl
  have m23 : (uI (uI (uI (uI (uJ (uJ (uJ (uI (uI w 19 0 0) 20 m a) 21 m d) 22 m f) 23 m (-1)) 26 (3 * m) 1) 26 (3 * m + 1) 2) 26 (3 * m + 2) 1) 19 1 (nI m + 1)).2.1 23 = vp_updL (w.2.1 23) m (-1) := rfl
  refine q_new h hS (fun r x b => ?_) (fun r x => ?_) hn1 (fun r x b => ?_) (fun r x => ?_) ?_ ?_ ?_ (fun r a b => ⟨?_, ?_⟩) (fun k a b => ?_) rfl (fun d hd hne => ?_) ?_ rfl rfl rfl ?_
  · rw [uI_r b]; exact (ns_lo (z := z) (S := m) (a := nI m) (b := a) (d := d) (f := f) x).1
  · exact (ns_lo (z := z) (S := m) (a := nI m) (b := a) (d := d) (f := f) x).2.1
  · show va_up (k_ns z m (nI m) a d f).2.2 1 (va_up ((k_ns z m (nI m) a d f).2.2 1) m (some m)) r = _
    unfold va_up
    rw [if_neg x]; exact (ns_lo (z := z) (S := m) (a := nI m) (b := a) (d := d) (f := f) b).2.2
  · show va_up (k_ns z m (nI m) a d f).2.2 1 (va_up ((k_ns z m (nI m) a d f).2.2 1) m (some m)) r = _
    unfold va_up
    rw [if_neg (by omega)]; exact ns_ho (z := z) (S := m) (a := nI m) (b := a) (d := d) (f := f) x
  · show va_up (k_ns z m (nI m) a d f).2.2 1 (va_up ((k_ns z m (nI m) a d f).2.2 1) m (some m)) 1 = _
    have : (k_ns z m (nI m) a d f).2.2 1 = z.2.2 1 := (ns_lo (z := z) (S := m) (a := nI m) (b := a) (d := d) (f := f) (by omega)).2.2
    rw [this]
    rfl
  · unfold k_IS
    rw [e0, er _ (by omega), er _ (by omega)]
    exact ⟨rfl, ha, ⟨show 0 ≤ (0 : Int32).toInt by decide, show (0 : Int32).toInt ≤ 300 by decide⟩, ⟨show 0 ≤ (0 : Int32).toInt by decide, show (0 : Int32).toInt ≤ 6 by decide⟩, fun k => rfl, fun k => show (0 : Int32).toInt ≤ 100 by decide⟩
  · unfold q_y
    rw [e0, ej, er _ (by omega), er _ (by omega)]
    exact ⟨fun k hk _ => rfl, hf, show -1 ≤ (-1 : Int64).toInt by decide, fun _ => rfl, ⟨show 0 ≤ (1 : Int32).toInt by decide, show (1 : Int32).toInt ≤ 4 by decide⟩, ⟨show 0 ≤ (2 : Int32).toInt by decide, show (2 : Int32).toInt ≤ 4 by decide⟩, ⟨show 0 ≤ (1 : Int32).toInt by decide, show (1 : Int32).toInt ≤ 4 by decide⟩⟩
  · rw [uI_r (by omega), uI_r (by omega), uI_r (by omega), uI_r (by omega), uJ_e, uJ_e, uJ_e, uI_r (by omega), uI_r (by omega)]
  · show (uJ (uJ (uJ (uI (uI w 19 0 0) 20 m _) 21 m _) 22 m _) 23 m (-1)).2.1 r = w.2.1 r
    rw [uJ_r (by omega), uJ_r (by omega), uJ_r (by omega)]; rfl
  · rw [uI_s, upd_ne b, uI_r (by decide), uI_r (by decide), uI_r (by decide), uJ_e, uJ_e, uJ_e, uI_r (by decide), uI_s, upd_ne a]
  · unfold m_s
    rw [m20, m21, m22, m23, m26]
    refine ⟨⟨upd_ne hne, updL_ne hne, updL_ne hne, updL_ne hne, rfl, rfl⟩, ⟨?_, ?_, ?_⟩, fun k hk => rfl, fun k hk => ⟨rfl, rfl⟩, fun k hk => ⟨rfl, rfl⟩⟩
    · rw [upd_ne (by omega), upd_ne (by omega), upd_ne (by omega)]
    · rw [upd_ne (by omega), upd_ne (by omega), upd_ne (by omega)]
    · rw [upd_ne (by omega), upd_ne (by omega), upd_ne (by omega)]
  · unfold q_s
    rw [e0, ej, er _ (by omega), er _ (by omega), er _ (by omega), er _ (by omega), er _ (by omega), m20, m21, m22, m23, m26]
    refine ⟨upd_eq.symm, updL_eq.symm, updL_eq.symm, updL_eq.symm, hq.1.symm, ⟨?_, ?_, upd_eq.symm⟩, hq.2.1.symm, fun k hk => (hq.2.2.1 k hk).symm, fun k hk => (hq.2.2.2.1 k hk).1.symm, fun k hk => (hq.2.2.2.1 k hk).2.symm, fun k hk => (hq.2.2.2.2 k hk).2.symm, fun k hk => (hq.2.2.2.2 k hk).1.symm⟩
    · show (1 : Int32) = upd (upd (upd (w.1 26) (3 * m) 1) (3 * m + 1) 2) (3 * m + 2) 1 (3 * m)
      rw [upd_ne (show 3 * m ≠ 3 * m + 2 by omega), upd_ne (show 3 * m ≠ 3 * m + 1 by omega), upd_eq]
    · show (2 : Int32) = upd (upd (upd (w.1 26) (3 * m) 1) (3 * m + 1) 2) (3 * m + 2) 1 (3 * m + 1)
      rw [upd_ne (show 3 * m + 1 ≠ 3 * m + 2 by omega), upd_eq]
  · exact V_26 (by decide) (V_26 (by decide) (V_26 (by decide) h.2.1.2))
theorem sim_section {S : Nat} {z w : Sg} (h : q_I S z w) (p0 : Int32) (p1 p2 : Int64) : (f_X6_section w p0 p1 p2).1 = (f_X5_section S z p0 p1 p2).2.1 ∧ (f_X6_section w p0 p1 p2).2.1 19 0 = (if (f_X5_section S z p0 p1 p2).1 = 0 then 0 else if (f_X5_section S z p0 p1 p2).1 = 1 then 1 else 2) ∧ ((f_X5_section S z p0 p1 p2).1 = 0 → q_I (S + 1) (f_X5_section S z p0 p1 p2).2.2 (f_X6_section w p0 p1 p2).2) ∧ (¬ (f_X5_section S z p0 p1 p2).1 = 0 → (f_X5_section S z p0 p1 p2).2.2 = z ∧ q_I S z (f_X6_section w p0 p1 p2).2) := by
  have h12 := q_12 h
  have e1 : z.1 0 1 = w.1 19 1 := h.2.2.1.1
  have e2 : (w.1 19 1).toInt = S := h.2.1.1.1.2
  have e12 : (12 : Int32).toInt = 12 := rfl
  have key : ∀ a : Int32, (a = 0 ∨ a = 1) → p0 = a → (f_X6_section w p0 p1 p2).1 = (f_X5_section S z p0 p1 p2).2.1 ∧ (f_X6_section w p0 p1 p2).2.1 19 0 = (if (f_X5_section S z p0 p1 p2).1 = 0 then 0 else if (f_X5_section S z p0 p1 p2).1 = 1 then 1 else 2) ∧ ((f_X5_section S z p0 p1 p2).1 = 0 → q_I (S + 1) (f_X5_section S z p0 p1 p2).2.2 (f_X6_section w p0 p1 p2).2) ∧ (¬ (f_X5_section S z p0 p1 p2).1 = 0 → (f_X5_section S z p0 p1 p2).2.2 = z ∧ q_I S z (f_X6_section w p0 p1 p2).2) := by
    intro a ha hp
    have hx : f_X5_section S z p0 p1 p2 = if (f_X5_isPlace z p1) = 0 then (1, 0, z) else match (f_X5_sectionAt z p1) with
      | none => if (f_X5_isPlaceOrNone z p2) = 0 then (1, 0, z) else if (z.1 0 1) < 12 then (0, (z.1 0 1), (uI (uO (k_ns z S (z.1 0 1) p0 p1 p2) 1 (z.1 0 1).toNatClampNeg (some S)) 0 1 ((z.1 0 1) + 1))) else (2, 0, z)
      | some _ => (1, 0, z) := by
      unfold f_X5_section
      rcases ha with ha | ha
      · first | (rw [if_pos (by rw [hp, ha])]; done) | (rw [if_pos (by rw [hp, ha])]; rfl)
      · first | (rw [if_neg (by rw [hp, ha]; decide), if_pos (by rw [hp, ha])]; done) | (rw [if_neg (by rw [hp, ha]; decide), if_pos (by rw [hp, ha])]; rfl)
    have hin : ¬ f_X6_in w p0.toInt64 0 1 = 0 := by
      rcases in_01 w p0 with ⟨_, b, c⟩ | ⟨b, _⟩
      · exact absurd hp (by rcases ha with ha | ha <;> rw [ha] <;> assumption)
      · exact b
    rw [hx]
    unfold f_X6_section
    rw [if_neg hin]
    rcases pl_cases z w p1 with ⟨k1, k2⟩ | ⟨k1, k2, k3⟩
    · rw [if_pos k1, if_pos k2]; exact ⟨rfl, rfl, fun g => absurd g (show ¬ (1 : Nat) = 0 by decide), fun _ => ⟨rfl, q_f h⟩⟩
    rw [if_neg k1, if_neg k2]
    rcases sim_find e2 h12 e1 (fun c hc => (h.2.2.1.2.1 c hc).2.1) p1 with ⟨f1, f2⟩ | ⟨c, fc, f1, f2⟩
    · rw [f1, f2, if_neg (by decide)]
      dsimp only
      rcases pn_cases z w p2 with ⟨l1, l2⟩ | ⟨l1, l2, l3⟩
      · rw [if_pos l1, if_pos l2]; exact ⟨rfl, rfl, fun g => absurd g (show ¬ (1 : Nat) = 0 by decide), fun _ => ⟨rfl, q_f h⟩⟩
      rw [if_neg l1, if_neg l2, e1]
      by_cases b : w.1 19 1 = 12
      · rw [if_pos b, if_neg (by rw [b]; decide)]; exact ⟨rfl, rfl, fun g => absurd g (show ¬ (2 : Nat) = 0 by decide), fun _ => ⟨rfl, q_f h⟩⟩
      have b0 : (w.1 19 1).toInt < 12 := by
        rw [← Int32.toInt_inj] at b; omega
      have hn : w.1 19 1 = nI S := by
        apply Int32.toInt_inj.mp
        rw [nI_toInt (by omega)]; omega
      rw [if_neg b, if_pos (by simp only [Int32.lt_iff_toInt_lt]; omega)]
      have i3 : (3 : Int32).toInt = (3 : Nat) := rfl
      have hr : 0 ≤ (w.1 19 1).toInt ∧ (w.1 19 1).toInt < (12 : Nat) := by omega
      rw [ix_m (k := 3) (l := 12) rfl hr (by decide), ix_n (k := 3) (l := 12) (x := 1) rfl hr (by decide) (by decide), ix_n (k := 3) (l := 12) (x := 2) rfl hr (by decide) (by decide)]
      refine ⟨?_, rfl, fun _ => ?_, fun g => absurd rfl g⟩
      · show w.1 19 1 + 1 - 1 = w.1 19 1
        rw [Int32.add_sub_cancel]
      · exact q_born h (by omega) (by rw [hp]; exact ha) l3 (w.1 19 1) hn _ (by rw [clampEq]; omega)
    · rw [f1, f2, if_pos (nI_pos' (by omega))]
      exact ⟨rfl, rfl, fun g => absurd g (show ¬ (1 : Nat) = 0 by decide), fun _ => ⟨rfl, q_f h⟩⟩
  by_cases a0 : p0 = 0
  · exact key 0 (Or.inl rfl) a0
  by_cases a1 : p0 = 1
  · exact key 1 (Or.inr rfl) a1
  have hx : f_X5_section S z p0 p1 p2 = (1, 0, z) := by
    unfold f_X5_section
    rw [if_neg a0, if_neg a1]
  have hin : f_X6_in w p0.toInt64 0 1 = 0 := by
    rcases in_01 w p0 with ⟨b, _, _⟩ | ⟨_, b⟩
    · exact b
    · rcases b with b | b
      · exact absurd b a0
      · exact absurd b a1
  rw [hx]
  unfold f_X6_section
  rw [if_pos hin]
  exact ⟨rfl, rfl, fun g => absurd g (show ¬ (1 : Nat) = 0 by decide), fun _ => ⟨rfl, q_f h⟩⟩
