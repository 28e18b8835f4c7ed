/-! ===== going through the chain, on both sides ===== -/
theorem thr_eq (u : Sg) (c : Nat) : f_X5_goThrough u c = match (f_X5_besideToGoTo (f_X1_enter u c) c).1 with
    | none => f_X5_beforeToGoTo (f_X2_readRowsOf (f_X5_besideToGoTo (f_X1_enter u c) c).2 c) c
    | some d => f_X5_beforeToGoTo (f_X2_readRowsOf (f_X1_enter (f_X2_readRowsOf (f_X5_besideToGoTo (f_X1_enter u c) c).2 c) d) d) c := by
  unfold f_X5_goThrough
  dsimp only
  cases (f_X5_besideToGoTo (f_X1_enter u c) c).1 with
  | none => exact opt_eta _
  | some d => exact opt_eta _
theorem push_C {S c d L : Nat} {v : Sg} {p : Int64} {b : Int32} (hJ : k_J S v) (hC : k_C S v) (hV : k_V v) (hl : (v.1 19 18).toInt = L) (hT : f_X6_goOn v (nI c) p b = (nI d, uI (uI v 35 L (nI d)) 19 18 (v.1 19 18 + 1))) : k_C S (uI (uI v 35 L (nI d)) 19 18 (v.1 19 18 + 1)) ∧ L < 12 := by
  have g := goOn_all (s := nI c) (b := b) (p := p) hJ hC hV
  rw [hT] at g
  refine ⟨g.2.1, ?_⟩
  have h1 : (v.1 19 18 + 1).toInt ≤ 12 := g.1.2.2.1.2
  have h2 := hJ.2.2.1
  have e1 := i_p1 (x := v.1 19 18) (m := 13) (by omega) (by omega) (by decide)
  omega
theorem rfs.trans {x y z : Sg} (h : rfs x y) (g : rfs y z) : rfs x z := fun r a b => ⟨(g r a b).1.trans (h r a b).1, (g r a b).2.trans (h r a b).2⟩
theorem cls.trans {x y z : Sg} (h : cls x y) (g : cls y z) : cls x z := ⟨fun r a => ⟨(g.1 r a).1.trans (h.1 r a).1, (g.1 r a).2.trans (h.1 r a).2⟩, g.2.trans h.2⟩
theorem cfo_hi {r : Nat} (h : 19 ≤ r) : cfo r = false := by
  unfold cfo
  have h1 : (r == 6) = false := by simp; omega
  have h2 : Nat.ble r 14 = false := by
    rw [← Bool.not_eq_true, Nat.ble_eq]; omega
  have h3 : (r == 17) = false := by simp; omega
  have h4 : (r == 18) = false := by simp; omega
  rw [h1, h2, h3, h4, Bool.and_false]; rfl
theorem mfo_c {r : Nat} (h : r < 19 ∨ 46 ≤ r) : mfo r = false := by
  unfold mfo
  have h1 : (r == 19) = false := by simp; omega
  have h2 : (Nat.ble 36 r && Nat.ble r 43) = false := by
    rw [← Bool.not_eq_true, Bool.and_eq_true, Nat.ble_eq, Nat.ble_eq]; omega
  rw [h1, h2]; rfl
theorem rfs_cf {u u' : Sg} (h : cf u u') : rfs u u' := fun r a _ => h.1 r (cfo_hi a)
theorem cls_mf {v v' : Sg} (h : mf v v') : cls v v' := ⟨fun r a => h.1 r (mfo_c a), h.2.1⟩
theorem rfs_enter {u : Sg} {d : Nat} : rfs u (f_X1_enter u d) := by
  unfold f_X1_enter
  split
  · exact rfs.rf
  · exact rfs_uI (by omega) (rfs_uO rfs.rf)
/-- the rows of a section and of what is beside it -/
theorem sim_whole {S L c : Nat} {u v : Sg} (h : q_M S L u v) (hl : (v.1 19 18).toInt = (L + 1 : Nat)) (hs : v.1 35 L = nI c) (hc : c < S) : ∃ (M : Nat) (u8 w8 : Sg), L + 1 ≤ M ∧ q_M S M u8 w8 ∧ w8.1 19 18 = u8.1 6 1 ∧ (w8.1 19 18).toInt = M ∧ f_X6_readWhole v (nI c) = w8 ∧ f_X5_goThrough u c = f_X5_beforeToGoTo u8 c ∧ rfs u u8 ∧ cls v w8 := by
  have hj := h.2.1.1.2.2.1
  have h12 := h.1.1.1.1
  have hL : L < 12 := by omega
  obtain ⟨h2, -, hn2⟩ := M_enter h hL hc hs
  have hcc : (nI c).toNatClampNeg = c := nI_clamp (by omega)
  have hlen : v.1 19 18 = (f_X1_enter u c).1 6 1 := by
    apply Int32.toInt_inj.mp
    rw [hl, hn2]
  rw [thr_eq]
  have hr2 : rfs u (f_X1_enter u c) := rfs_enter
  generalize f_X1_enter u c = u2 at *
  have fin : ∀ (u4 v4 : Sg), q_M S (L + 1) u4 v4 → cf u2 u4 → mf v v4 → (q_M S (L + 1) (f_X2_readRowsOf u4 c) (f_X6_readRows v4 (nI c)) ∧ (f_X6_readRows v4 (nI c)).1 19 18 = (f_X2_readRowsOf u4 c).1 6 1 ∧ ((f_X6_readRows v4 (nI c)).1 19 18).toInt = (L + 1 : Nat) ∧ rfs u (f_X2_readRowsOf u4 c) ∧ cls v (f_X6_readRows v4 (nI c))) := by
    intro u4 v4 h4 hu hv
    obtain ⟨a, b, d⟩ := M_rows (c := c) h4 (by omega) (by rw [hv.2.2.1]; omega) hc (by rw [(hv.1 35 rfl).1]; exact hs)
    refine ⟨a, ?_, ?_, hr2.trans ((rfs_cf hu).trans (rfs_cf b)), (cls_mf hv).trans (cls_mf d)⟩
    · rw [d.2.2.1, b.2.2.1, hv.2.2.1, hu.2.2.1]; exact hlen
    · rw [d.2.2.1, hv.2.2.1]; exact hl
  unfold f_X6_readWhole
  rw [hcc]
  rcases sim_beside2 h2 hlen hc with ⟨a, b⟩ | ⟨a, b⟩
  · rw [b]
    dsimp only
    obtain ⟨f1, f2, f3, f4, f5⟩ := fin u2 v h2 cf.rf mf.rf
    refine ⟨L + 1, _, _, Nat.le_refl _, f1, f2, f3, ?_, rfl, f4, f5⟩
    by_cases k0 : v.1 20 c = 0
    · have n0 : v.2.1 23 c < 0 := Classical.byContradiction fun x => a ⟨k0, x⟩
      rw [if_pos k0, if_pos n0]
    · rw [if_neg k0]
  · rw [if_pos a.1, if_neg a.2]
    rcases b with ⟨k, b1, b2⟩ | ⟨d, hd, b1, b2⟩
    · rw [b1, b2]
      dsimp only
      obtain ⟨f1, f2, f3, f4, f5⟩ := fin _ _ (M_tell (a := k) (b := nI c) (d := v.2.1 23 c) h2) (cf_tell cf.rf) (mf_tell mf.rf)
      refine ⟨L + 1, _, _, Nat.le_refl _, f1, f2, f3, ?_, rfl, f4, f5⟩
      rw [if_pos (by decide)]
    · obtain ⟨pC, pL⟩ := push_C h2.2.1.1 h2.2.1.2.2 h2.2.1.2.1 hl b2
      obtain ⟨g1, g2, g3, g4⟩ := M_push h2 hd hl pL pC
      rw [b1, b2]
      dsimp only
      rw [if_neg (nI_pos (by omega))]
      have hc4 : cls v (uI (uI v 35 (L + 1) (nI d)) 19 18 (v.1 19 18 + 1)) := cls_uI (by decide) (cls_uI (by decide) cls.rf)
      generalize uI (uI v 35 (L + 1) (nI d)) 19 18 (v.1 19 18 + 1) = v4 at *
      obtain ⟨r1, r2, r3⟩ := M_rows (c := c) g1 (by omega) (by omega) hc (by rw [show L + 1 - 1 = L by omega, g4 L (by omega)]; exact hs)
      have s35 : (f_X6_readRows v4 (nI c)).1 35 (L + 1) = nI d := by rw [(r3.1 35 rfl).1]; exact g3
      obtain ⟨e1, -, e3⟩ := M_enter r1 pL hd s35
      have sl : ((f_X6_readRows v4 (nI c)).1 19 18).toInt = (L + 1 + 1 : Nat) := by rw [r3.2.2.1]; exact g2
      obtain ⟨t1, t2, t3⟩ := M_rows (c := d) e1 (by omega) (by omega) hd s35
      refine ⟨L + 1 + 1, _, _, by omega, t1, ?_, ?_, rfl, rfl, hr2.trans ((rfs_cf r2).trans (rfs_enter.trans (rfs_cf t2))), hc4.trans ((cls_mf r3).trans (cls_mf t3))⟩
      · apply Int32.toInt_inj.mp
        rw [t3.2.2.1, t2.2.2.1, sl, e3]
      · rw [t3.2.2.1]; exact sl
theorem sim_through {S L c : Nat} {u v : Sg} (h : q_M S L u v) (hl : (v.1 19 18).toInt = (L + 1 : Nat)) (hs : v.1 35 L = nI c) (hc : c < S) : ∃ (M : Nat) (x : Option Nat) (u' v' : Sg), f_X5_goThrough u c = (x, u') ∧ L + 1 ≤ M ∧ q_M S M u' v' ∧ (rfs u u' ∧ cls v v') ∧
    ((x = none ∧ (v'.1 19 18).toInt = M ∧ ∀ (p0 : Int64) (k : Nat), f_X6_read_L67 p0 (k + 1) v (nI c) = f_X6_read_L67 p0 k v' (-1)) ∨ ∃ d, d < S ∧ x = some d ∧ (v'.1 19 18).toInt = (M + 1 : Nat) ∧ v'.1 35 M = nI d ∧ ∀ (p0 : Int64) (k : Nat), f_X6_read_L67 p0 (k + 1) v (nI c) = f_X6_read_L67 p0 k v' (nI d)) := by
  obtain ⟨M, u8, w8, hM, h8, hlen, hlM, hw, ht, hr8, hc8⟩ := sim_whole h hl hs hc
  have h12 := h.1.1.1.1
  have hcc : (nI c).toNatClampNeg = c := nI_clamp (by omega)
  rw [ht]
  have step : ∀ (p0 : Int64) (k : Nat), f_X6_read_L67 p0 (k + 1) v (nI c) = (if w8.2.1 22 c < 0 then f_X6_read_L67 p0 k w8 (-1) else f_X6_read_L67 p0 k (f_X6_goOn w8 (nI c) (w8.2.1 22 c) 0).2 (f_X6_goOn w8 (nI c) (w8.2.1 22 c) 0).1) := by
    intro p0 k
    rw [f_X6_read_L67, if_neg (nI_pos (by omega)), hw]
    dsimp only
    rw [hcc]
  rcases sim_before h8 hlen hc with ⟨a, b⟩ | ⟨a, b⟩
  · refine ⟨M, none, u8, w8, b, hM, h8, ⟨hr8, hc8⟩, Or.inl ⟨rfl, hlM, fun p0 k => ?_⟩⟩
    rw [step, if_pos a]
  · rcases b with ⟨k, b1, b2⟩ | ⟨d, hd, b1, b2⟩
    · refine ⟨M, none, _, _, b1, hM, M_tell h8, ⟨hr8.trans (rfs_cf (cf_tell cf.rf)), hc8.trans (cls_mf (mf_tell mf.rf))⟩, Or.inl ⟨rfl, ?_, fun p0 k => ?_⟩⟩
      · rw [(mf_tell (mf.rf (z := w8))).2.2.1]; exact hlM
      · rw [step, if_neg a, b2]
    · obtain ⟨pC, pL⟩ := push_C h8.2.1.1 h8.2.1.2.2 h8.2.1.2.1 hlM b2
      obtain ⟨g1, g2, g3, g4⟩ := M_push h8 hd hlM pL pC
      refine ⟨M, some d, _, _, b1, hM, g1, ⟨hr8, hc8.trans (cls_uI (by decide) (cls_uI (by decide) cls.rf))⟩, Or.inr ⟨d, hd, rfl, g2, g3, fun p0 k => ?_⟩⟩
      rw [step, if_neg a, b2]
theorem sim_loop {S : Nat} {p0 : Int64} : ∀ (k L c : Nat) (u v : Sg) (i : Int32), q_M S L u v → (v.1 19 18).toInt = (L + 1 : Nat) → v.1 35 L = nI c → c < S → 0 ≤ i.toInt → i.toInt ≤ L → 11 - L < k → ∃ (M : Nat) (u' v' : Sg), q_M S M u' v' ∧ (rfs u u' ∧ cls v v') ∧ (v'.1 19 18).toInt = M ∧ f_X5_read_L22 p0 (k + 1) u (some c) i = (f_X1_countObjects (f_X1_listFree (f_X5_judgeObjects u')), f_X1_listFree (f_X5_judgeObjects u')) ∧ f_X6_read_L67 p0 (k + 2) v (nI c) = f_X6_read_L113 p0 101 v' 0 0 := by
  intro k
  induction k with
  | zero => intro L c u v i _ _ _ _ _ _ g; omega
  | succ k ih =>
    intro L c u v i h hl hs hc h0 hi hk
    have hj := h.2.1.1.2.2.1
    have i12 : (12 : Int32).toInt = 12 := rfl
    have hni : ¬ (12 : Int32) ≤ i := by simp only [Int32.le_iff_toInt_le]; omega
    have e1 := i_p1 (x := i) (m := 12) h0 (by omega) (by decide)
    obtain ⟨M, x, u', v', ht, hM, h', hfr, hx⟩ := sim_through h hl hs hc
    rw [f_X5_read_L22]
    dsimp only
    rw [if_neg hni, ht]
    dsimp only
    rcases hx with ⟨x1, x2, x3⟩ | ⟨d, hd, x1, x2, x3, x4⟩
    · rw [x1]
      dsimp only
      refine ⟨M, u', v', h', hfr, x2, ?_, ?_⟩
      · rw [f_X5_read_L22]
        dsimp only
        split <;> rfl
      · rw [x3 p0 (k + 2), f_X6_read_L67, if_pos (by decide)]
    · rw [x1]
      dsimp only
      have hjM := h'.2.1.1.2.2.1
      obtain ⟨M2, u2, v2, g1, gf, g2, g3, g4⟩ := ih M d u' v' (i + 1) h' x2 x3 hd (by omega) (by omega) (by omega)
      refine ⟨M2, u2, v2, g1, ⟨hfr.1.trans gf.1, hfr.2.trans gf.2⟩, g2, g3, ?_⟩
      rw [x4 p0 (k + 2)]
      exact g4
/-! the start of a reading -/
def cm : Nat → Sg → Int32 → Sg
  | 0, w, _ => w
  | k + 1, w, i => if (100 : Int32) ≤ i then w else cm k (uI (uI w 36 i.toNatClampNeg 0) 39 i.toNatClampNeg 0) (i + 1)
theorem read_17 {p0 : Int64} : ∀ (k : Nat) (w : Sg) (i : Int32), 0 ≤ i.toInt → 100 - i.toInt.toNat < k → f_X6_read_L17 p0 k w i = (if (0 : Int32) ≤ (f_X6_find (cm k w i) p0) then f_X6_read_L67 p0 14 (uI (uI (cm k w i) 35 ((0 : Int32).toNatClampNeg) (f_X6_find (cm k w i) p0)) 19 18 1) (f_X6_find (cm k w i) p0) else ((-1), cm k w i)) := by
  intro k
  induction k with
  | zero => intro w i _ g; omega
  | succ k ih =>
    intro w i h0 hk
    rw [f_X6_read_L17, cm]
    by_cases g : (100 : Int32) ≤ i
    · rw [if_pos g, if_pos g]
    · rw [if_neg g, if_neg g]
      have e1 := i_add1 g
      have i100 : (100 : Int32).toInt = 100 := rfl
      simp only [Int32.le_iff_toInt_le] at g
      exact ih _ _ (by rw [e1]; omega) (by rw [e1]; omega)
theorem cm_J {S : Nat} : ∀ (k : Nat) (w : Sg) (i : Int32), k_J S w → k_J S (cm k w i) := by
  intro k
  induction k with
  | zero => intro w i h; exact h
  | succ k ih =>
    intro w i h
    rw [cm]
    split
    · exact h
    · exact ih _ _ (k_J_39 (k_J_u (by decide) h))
/-- what is cleared, and what stays -/
def q_cl (n : Nat) (u0 v0 u v : Sg) : Prop := (u.1 8 = v.1 36 ∧ ∀ o, 0 ≤ (u.1 8 o).toInt ∧ (u.1 8 o).toInt ≤ 4) ∧ (∀ o, o < n → u.1 8 o = 0 ∧ u.1 11 o = 0 ∧ u.1 16 o = 0 ∧ v.1 39 o = 0) ∧ (u.2 = u0.2 ∧ ∀ r, r ≠ 8 → r ≠ 11 → r ≠ 16 → u.1 r = u0.1 r) ∧ (v.2 = v0.2 ∧ ∀ r, r ≠ 36 → r ≠ 39 → v.1 r = v0.1 r)
theorem sim_cl {u0 v0 : Sg} : ∀ (k : Nat) (u v : Sg) (i : Int32), 0 ≤ i.toInt → i.toInt ≤ 100 → 100 - i.toInt.toNat < k → q_cl i.toInt.toNat u0 v0 u v → q_cl 100 u0 v0 (f_X1_clear_L17 k u i) (cm k v i) := by
  intro k
  induction k with
  | zero => intro u v i _ _ g; omega
  | succ k ih =>
    intro u v i h0 h1 hk h
    rw [f_X1_clear_L17, cm]
    have i100 : (100 : Int32).toInt = 100 := rfl
    by_cases g : (100 : Int32) ≤ i
    · rw [if_pos g, if_pos g]
      simp only [Int32.le_iff_toInt_le] at g
      have e : i.toInt.toNat = 100 := by omega
      rw [e] at h
      exact h
    · rw [if_neg g, if_neg g, nar_0]
      have e1 := i_add1 g
      simp only [Int32.le_iff_toInt_le] at g
      obtain ⟨⟨a1, a2⟩, b, ⟨c1, c2⟩, d1, d2⟩ := h
      refine ih _ _ _ (by rw [e1]; omega) (by rw [e1]; omega) (by rw [e1]; omega) ⟨⟨?_, ?_⟩, fun o ho => ?_, ⟨c1, fun r x y z => ?_⟩, d1, fun r x y => ?_⟩
      · show upd (u.1 8) i.toNatClampNeg 0 = upd (v.1 36) i.toNatClampNeg 0
        rw [a1]
      · exact bd_up (f := u.1 8) a2 (by decide)
      · show upd (u.1 8) i.toNatClampNeg 0 o = 0 ∧ upd (u.1 11) i.toNatClampNeg 0 o = 0 ∧ upd (u.1 16) i.toNatClampNeg 0 o = 0 ∧ upd (v.1 39) i.toNatClampNeg 0 o = 0
        by_cases e : o = i.toNatClampNeg
        · rw [e, upd_eq, upd_eq, upd_eq, upd_eq]; exact ⟨rfl, rfl, rfl, rfl⟩
        · rw [upd_ne e, upd_ne e, upd_ne e, upd_ne e]
          rw [clampEq] at e
          exact b o (by rw [e1] at ho; omega)
      · rw [uI_r z, uI_r y, uI_r x]; exact c2 r x y z
      · rw [uI_r y, uI_r x]; exact d2 r x y
theorem M_start {S : Nat} {z w : Sg} (h : q_I S z w) : q_M S 0 (f_X1_clear z) (cm 101 (uI (uI (uI w 19 0 0) 19 18 0) 19 25 0) 0) ∧ ((cm 101 (uI (uI (uI w 19 0 0) 19 18 0) 19 25 0) 0).1 19 18).toInt = (0 : Nat) ∧ (∀ o, o < 100 → (f_X1_clear z).1 8 o = 0) ∧ rfs z (f_X1_clear z) ∧ cls w (cm 101 (uI (uI (uI w 19 0 0) 19 18 0) 19 25 0) 0) := by
  have hJ : k_J S (cm 101 (uI (uI (uI w 19 0 0) 19 18 0) 19 25 0) 0) := cm_J _ _ _ (J_start h.2.1.1)
  have hI : k_I S (f_X1_clear z) := I_clear h.1.1
  have hz : q_cl 100 (uI (uI (uI z 6 1 0) 6 9 0) 6 12 0) (uI (uI (uI w 19 0 0) 19 18 0) 19 25 0) (f_X1_clear z) (cm 101 (uI (uI (uI w 19 0 0) 19 18 0) 19 25 0) 0) := by
    unfold f_X1_clear
    refine sim_cl 101 _ _ 0 (by decide) (by decide) (by decide) ⟨⟨h.2.2.2.2.1.1, h.1.2.2.2.2⟩, fun o ho => absurd ho (Nat.not_lt_zero _), ⟨rfl, fun _ _ _ _ => rfl⟩, rfl, fun _ _ _ => rfl⟩
  generalize f_X1_clear z = u at *
  generalize cm 101 (uI (uI (uI w 19 0 0) 19 18 0) 19 25 0) 0 = v at *
  obtain ⟨⟨a1, a2⟩, b, ⟨c1, c2⟩, d1, d2⟩ := hz
  have cu : u.2 = z.2 := c1
  have cr : ∀ r, r ≠ 6 → r ≠ 8 → r ≠ 11 → r ≠ 16 → u.1 r = z.1 r := fun r x y w' t => by
    rw [c2 r y w' t, uI_r x, uI_r x, uI_r x]
  have dv : v.2 = w.2 := d1
  have dr : ∀ r, r ≠ 19 → r ≠ 36 → r ≠ 39 → v.1 r = w.1 r := fun r x y t => by
    rw [d2 r y t, uI_r x, uI_r x, uI_r x]
  have c6 : u.1 6 = (uI (uI (uI z 6 1 0) 6 9 0) 6 12 0).1 6 := c2 6 (by decide) (by decide) (by decide)
  have d19 : v.1 19 = (uI (uI (uI w 19 0 0) 19 18 0) 19 25 0).1 19 := d2 19 (by decide) (by decide)
  have k61 : u.1 6 1 = 0 := by rw [c6]; rfl
  have k69 : u.1 6 9 = 0 := by rw [c6]; rfl
  have k612 : u.1 6 12 = 0 := by rw [c6]; rfl
  have m18 : v.1 19 18 = 0 := by rw [d19]; rfl
  have m25 : v.1 19 25 = 0 := by rw [d19]; rfl
  have m0 : v.1 19 0 = 0 := by rw [d19]; rfl
  have m1 : v.1 19 1 = w.1 19 1 := by rw [d19]; rfl
  have m14 : v.1 19 14 = w.1 19 14 := by rw [d19]; rfl
  have z0 : (0 : Int32).toInt = 0 := rfl
  obtain ⟨⟨h1, h2, h3⟩, ⟨h4, h5⟩, h6, h7⟩ := h
  refine ⟨⟨⟨hI, ?_, ⟨fun d hd => ?_, ?_, a2⟩⟩, ⟨hJ, ?_, ⟨fun i hi => ?_, fun i j _ hj => ?_⟩⟩, ⟨⟨?_, fun d hd => ?_, fun d x y => ?_⟩, ?_⟩, ⟨⟨⟨a1, ?_, ?_⟩, fun o ho => ?_, a2⟩, ⟨?_, ?_, ?_, ?_⟩, ⟨?_, fun i hi => absurd hi (Nat.not_lt_zero _)⟩⟩, fun o ho => (b o ho).2.2.1, k612, m0⟩, by rw [m18]; rfl, fun o ho => (b o ho).1, fun r x y => ⟨cr r (by omega) (by omega) (by omega) (by omega), by rw [cu]⟩, ⟨fun r x => ⟨dr r (by omega) (by omega) (by omega), by rw [dv]⟩, by rw [dv]⟩⟩
  · intro r i c; rw [cu]; exact h2 r i c
  · unfold q_y
    rw [cr (46 + 6 * d) (by omega) (by omega) (by omega) (by omega), cr (46 + 6 * d + 4) (by omega) (by omega) (by omega) (by omega), cr (46 + 6 * d + 5) (by omega) (by omega) (by omega) (by omega), cu]
    exact h3.1 d hd
  · rw [cr 2 (by omega) (by omega) (by omega) (by omega), cu]; exact h3.2.1
  · unfold k_V
    rw [dr 26 (by decide) (by decide) (by decide), dr 28 (by decide) (by decide) (by decide), dr 29 (by decide) (by decide) (by decide)]
    exact h5
  · rw [m18] at hi; exact absurd hi (Nat.not_lt_zero _)
  · rw [m18] at hj; exact absurd hj (Nat.not_lt_zero _)
  · rw [cr 0 (by omega) (by omega) (by omega) (by omega), m1]; exact h6.1
  · refine q_s_m (fun r x y => ⟨cr r (by omega) (by omega) (by omega) (by omega), by rw [cu]⟩) ?_ (h6.2.1 d hd)
    unfold m_s
    rw [dr 20 (by decide) (by decide) (by decide), dr 24 (by decide) (by decide) (by decide), dr 25 (by decide) (by decide) (by decide), dr 26 (by decide) (by decide) (by decide), dr 27 (by decide) (by decide) (by decide), dr 28 (by decide) (by decide) (by decide), dr 29 (by decide) (by decide) (by decide), dr 30 (by decide) (by decide) (by decide), dr 31 (by decide) (by decide) (by decide), dv]
    exact ⟨⟨rfl, rfl, rfl, rfl, rfl, rfl⟩, ⟨rfl, rfl, rfl⟩, fun _ _ => rfl, fun _ _ => ⟨rfl, rfl⟩, fun _ _ => ⟨rfl, rfl⟩⟩
  · unfold q_n
    rw [dr 24 (by decide) (by decide) (by decide), dr 25 (by decide) (by decide) (by decide), dr 27 (by decide) (by decide) (by decide), dr 28 (by decide) (by decide) (by decide), dr 29 (by decide) (by decide) (by decide), dr 30 (by decide) (by decide) (by decide), dr 31 (by decide) (by decide) (by decide)]
    exact h6.2.2 d x y
  · unfold q_H
    rw [cr 2 (by omega) (by omega) (by omega) (by omega), cr 4 (by omega) (by omega) (by omega) (by omega), cr 5 (by omega) (by omega) (by omega) (by omega), cu, m14, dr 33 (by decide) (by decide) (by decide), dr 34 (by decide) (by decide) (by decide), dv]
    exact h7.1
  · rw [cu, dv]; exact h7.2.1.2.1
  · rw [cu, dv]; exact h7.2.1.2.2
  · obtain ⟨o1, o2, o3, o4⟩ := b o ho
    rw [o2, o4]
    exact ⟨⟨by decide, by decide⟩, rfl, fun p hp => absurd hp (Nat.not_lt_zero _)⟩
  · rw [k69, m25]
  · rw [cr 12 (by omega) (by omega) (by omega) (by omega), dr 41 (by decide) (by decide) (by decide)]; exact h7.2.2.1.2.1
  · rw [cr 13 (by omega) (by omega) (by omega) (by omega), dr 42 (by decide) (by decide) (by decide)]; exact h7.2.2.1.2.2.1
  · rw [cu, dv]; exact h7.2.2.1.2.2.2
  · rw [k61]; rfl
