/-! ===== judging objects, free ones, the whole reading ===== -/
def jend (v : Sg) (p : Int32) (a : Int64) : Sg :=
  if v.1 36 p.toNatClampNeg = 1 then (if p ≤ 0 then v else if a < 0 then v else f_X6_tell v 6 p a)
  else if v.1 36 p.toNatClampNeg = 2 then
    (if (f_X6_findHead v (v.2.1 37 p.toNatClampNeg)) = (v.1 19 14) then f_X6_tell (uI v 36 p.toNatClampNeg 4) 7 p (v.2.1 37 p.toNatClampNeg)
    else if (v.1 33 ((f_X6_findHead v (v.2.1 37 p.toNatClampNeg)).toNatClampNeg)) = p then
      (if ((v.1 34 ((f_X6_findHead v (v.2.1 37 p.toNatClampNeg)).toNatClampNeg)) : Int32).toInt64 = (v.2.1 38 p.toNatClampNeg) then v else f_X6_tell (uI v 36 p.toNatClampNeg 4) 7 p (v.2.1 37 p.toNatClampNeg))
    else f_X6_tell (uI v 36 p.toNatClampNeg 4) 7 p (v.2.1 37 p.toNatClampNeg))
  else v
theorem tell36 {z : Sg} {a b : Int32} {d : Int64} : (f_X6_tell z a b d).1 36 = z.1 36 := by
  unfold f_X6_tell
  split <;> rfl
theorem judge_L {u v : Sg} {p : Int32} (hH : q_H u v) (hp : ∀ j, j < (v.1 19 14).toInt.toNat → 0 ≤ (v.2.1 32 j).toInt) (hb : (v.1 19 14).toInt ≤ 60) : ∀ (k : Nat) (a : Int64) (i : Int32), 0 ≤ i.toInt → 60 - i.toInt.toNat < k → (a = -1 ∨ 0 ≤ a.toInt) → f_X6_judge_L7 v p k a i = jend v p (f_X0_leastPlaceOf_L7 u p k a i) ∧ (f_X0_leastPlaceOf_L7 u p k a i = -1 ∨ 0 ≤ (f_X0_leastPlaceOf_L7 u p k a i).toInt) := by
  intro k
  induction k with
  | zero => intro a i _ g; omega
  | succ k ih =>
    intro a i h0 hk ha
    have ham : -1 ≤ a.toInt := by
      rcases ha with ha | ha
      · rw [ha]; decide
      · omega
    have hi := m1_iff ham
    rw [f_X6_judge_L7, f_X0_leastPlaceOf_L7, hH.1]
    by_cases g : v.1 19 14 ≤ i
    · rw [if_pos g, if_pos g]
      refine ⟨?_, ha⟩
      unfold jend
      by_cases w1 : v.1 36 p.toNatClampNeg = 1
      · have w2 : ¬ v.1 36 p.toNatClampNeg = 2 := by rw [w1]; decide
        rw [if_pos w1, if_pos w1]
        by_cases p0 : p ≤ 0
        · rw [if_pos p0, if_pos p0, if_neg w2]
        · rw [if_neg p0, if_neg p0]
          by_cases a0 : a < 0
          · rw [if_pos a0, if_pos a0, if_neg w2]
          · rw [if_neg a0, if_neg a0]
            dsimp only
            rw [if_neg (by rw [tell36]; exact w2)]
      · rw [if_neg w1, if_neg w1]
    · rw [if_neg g, if_neg g]
      have e1 := i_add1 g
      simp only [Int32.le_iff_toInt_le] at g
      have hpl := hp i.toNatClampNeg (by rw [clampEq]; omega)
      rw [hH.2.1, hH.2.2.1]
      have k1 := ih (v.2.1 32 i.toNatClampNeg) (i + 1) (by rw [e1]; omega) (by rw [e1]; omega) (Or.inr hpl)
      have k2 := ih a (i + 1) (by rw [e1]; omega) (by rw [e1]; omega) ha
      by_cases o : v.1 33 i.toNatClampNeg = p
      · rw [if_pos o, if_pos o]
        by_cases a0 : a = -1
        · rw [if_pos (hi.mpr a0), if_pos a0]; exact k1
        · rw [if_neg (fun x => a0 (hi.mp x)), if_neg a0]
          by_cases l : a ≤ v.2.1 32 i.toNatClampNeg
          · rw [if_pos l, if_pos l]; exact k2
          · rw [if_neg l, if_neg l]; exact k1
      · rw [if_neg o, if_neg o]; exact k2
theorem M_w4 {S L o : Nat} {u v : Sg} (h : q_M S L u v) : q_M S L (uI u 8 o 4) (uI v 36 o 4) := by
  refine M_of h (cf_uI ⟨rfl, by decide⟩ cf.rf) (mf_uI ⟨rfl, by decide⟩ mf.rf) (k_I_u (by decide) h.1.1) (k_J_u (by decide) h.2.1.1) ⟨⟨?_, h.2.2.2.1.1.1.2⟩, h.2.2.2.1.1.2.1, bd_up h.2.2.2.1.1.2.2 (by decide)⟩ h.2.2.2.1.2.1
  show upd (u.1 8) o 4 = upd (v.1 36) o 4
  rw [h.2.2.2.1.1.1.1]
/-- one object, as the class judges it -/
def cj (u : Sg) (i : Int32) : Sg := if (u.1 8 i.toNatClampNeg) = 1 then f_X5_judgeFree u i else if (u.1 8 i.toNatClampNeg) = 2 then f_X5_judgeUsed u i else u
theorem tell8 {z : Sg} {a b : Int32} {d : Int64} : (f_X1_tell z a b d).1 8 = z.1 8 := by
  unfold f_X1_tell
  split <;> rfl
theorem cj_8 {u : Sg} {i : Int32} {j : Nat} (h : j ≠ i.toNatClampNeg) : (cj u i).1 8 j = u.1 8 j := by
  unfold cj
  split
  · unfold f_X5_judgeFree
    dsimp only
    repeat' (first | rfl | (rw [tell8]; done) | split)
  · split
    · unfold f_X5_judgeUsed
      dsimp only
      split
      · rw [tell8, uI_s, upd_ne h]
      · rfl
    · rfl
theorem sim_judge {S L : Nat} {u v : Sg} (h : q_M S L u v) {i : Int32} (hi : 0 ≤ i.toInt) : q_M S L (cj u i) (f_X6_judge v i) := by
  have hH := h.2.2.1.2
  have hK := h.2.2.2.1.1.1
  have hb := h.2.1.1.2.1
  have hp : ∀ j, j < (v.1 19 14).toInt.toNat → 0 ≤ (v.2.1 32 j).toInt := by
    rw [← hH.1, ← hH.2.1]; exact h.1.2.2.2.1
  obtain ⟨j1, j2⟩ := judge_L (p := i) hH hp hb.2 61 (-1) 0 (by decide) (by decide) (Or.inl rfl)
  have i0 : (0 : Int32).toInt = 0 := rfl
  unfold f_X6_judge
  rw [j1]
  unfold cj jend f_X5_judgeFree f_X5_judgeUsed f_X0_leastPlaceOf f_X0_standsAt
  rw [hK.1, hK.2.1, hK.2.2]
  generalize f_X0_leastPlaceOf_L7 u i 61 (-1) 0 = a at *
  have ham : -1 ≤ a.toInt := by
    rcases j2 with ha | ha
    · rw [ha]; decide
    · omega
  have hm := m1_iff ham
  by_cases w1 : v.1 36 i.toNatClampNeg = 1
  · rw [if_pos w1, if_pos w1]
    by_cases z0 : i = 0
    · rw [if_pos z0, if_pos (by rw [z0]; decide)]; exact h
    · rw [if_neg z0, if_neg (show ¬ i ≤ 0 by
        rw [← Int32.toInt_inj] at z0
        simp only [Int32.le_iff_toInt_le]; omega)]
      by_cases a0 : a = -1
      · rw [if_pos a0, if_pos (hm.mpr a0)]; exact h
      · rw [if_neg a0, if_neg (fun x => a0 (hm.mp x))]; exact M_tell h
  · rw [if_neg w1, if_neg w1]
    by_cases w2 : v.1 36 i.toNatClampNeg = 2
    · rw [if_pos w2, if_pos w2, hH.1, sim_index hH, hH.2.2.1, hH.2.2.2]
      have fb := fh_b hb (v.2.1 37 i.toNatClampNeg)
      have hT : q_M S L (f_X1_tell (uI u 8 i.toNatClampNeg 4) 7 i (v.2.1 37 i.toNatClampNeg)) (f_X6_tell (uI v 36 i.toNatClampNeg 4) 7 i (v.2.1 37 i.toNatClampNeg)) := M_tell (M_w4 h)
      generalize f_X6_findHead v (v.2.1 37 i.toNatClampNeg) = x at *
      by_cases e : x = v.1 19 14
      · rw [if_pos e, if_pos (show v.1 19 14 ≤ x by rw [e]; exact Int32.le_refl _), if_pos rfl]; exact hT
      · have e2 : ¬ v.1 19 14 ≤ x := by
          rw [← Int32.toInt_inj] at e
          simp only [Int32.le_iff_toInt_le]; omega
        rw [if_neg e, if_neg e2]
        by_cases o : v.1 33 x.toNatClampNeg = i
        · rw [if_pos o, if_pos o]
          by_cases y : (v.1 34 x.toNatClampNeg).toInt64 = v.2.1 38 i.toNatClampNeg
          · rw [if_pos y, if_pos y, if_neg (by decide)]; exact h
          · rw [if_neg y, if_neg y, if_pos rfl]; exact hT
        · rw [if_neg o, if_neg o, if_pos rfl]; exact hT
    · rw [if_neg w2, if_neg w2]; exact h
theorem jo_eq (k : Nat) (u : Sg) (i : Int32) : f_X5_judgeObjects_L2 (k + 1) u i = if (100 : Int32) ≤ i then u else f_X5_judgeObjects_L2 k (cj u i) (i + 1) := by
  rw [f_X5_judgeObjects_L2]
  unfold cj
  split
  · rfl
  · split
    · rfl
    · split <;> rfl
theorem jo_8 : ∀ (k : Nat) (u : Sg) (i : Int32) (j : Nat), 0 ≤ i.toInt → j < i.toInt.toNat → (f_X5_judgeObjects_L2 k u i).1 8 j = u.1 8 j := by
  intro k
  induction k with
  | zero => intro u i j _ _; rw [f_X5_judgeObjects_L2]
  | succ k ih =>
    intro u i j h0 hj
    rw [jo_eq]
    by_cases g : (100 : Int32) ≤ i
    · rw [if_pos g]
    · rw [if_neg g]
      have e1 := i_add1 g
      rw [ih (cj u i) (i + 1) j (by rw [e1]; omega) (by rw [e1]; omega)]
      exact cj_8 (by rw [clampEq]; omega)
theorem sim_judges {S L : Nat} {p0 : Int64} : ∀ (k : Nat) (u v : Sg) (many i : Int32), q_M S L u v → 0 ≤ i.toInt → 100 - i.toInt.toNat < k → q_M S L (f_X5_judgeObjects_L2 k u i) (f_X6_read_L113 p0 k v many i).2 ∧ (f_X6_read_L113 p0 k v many i).1 = f_X1_countObjects_L4 (f_X5_judgeObjects_L2 k u i) k many i := by
  intro k
  induction k with
  | zero => intro u v many i _ _ g; omega
  | succ k ih =>
    intro u v many i h h0 hk
    have i100 : (100 : Int32).toInt = 100 := rfl
    rw [f_X6_read_L113, jo_eq, f_X1_countObjects_L4]
    by_cases g : (100 : Int32) ≤ i
    · rw [if_pos g, if_pos g, if_pos g]
      exact ⟨h, rfl⟩
    · rw [if_neg g, if_neg g, if_neg g]
      dsimp only
      have e1 := i_add1 g
      simp only [Int32.le_iff_toInt_le] at g
      have hj := sim_judge h h0
      have e8 : (f_X5_judgeObjects_L2 k (cj u i) (i + 1)).1 8 i.toNatClampNeg = (f_X6_judge v i).1 36 i.toNatClampNeg := by
        rw [jo_8 k (cj u i) (i + 1) _ (by rw [e1]; omega) (by rw [e1, clampEq]; omega), hj.2.2.2.1.1.1.1]
      have hnn := hj.2.2.2.1.1.2.2 i.toNatClampNeg
      rw [hj.2.2.2.1.1.1.1] at hnn
      have z0 : (0 : Int32).toInt = 0 := rfl
      rw [e8]
      by_cases x : (f_X6_judge v i).1 36 i.toNatClampNeg = 0
      · rw [if_pos x, if_pos (show (f_X6_judge v i).1 36 i.toNatClampNeg ≤ 0 by rw [x]; decide)]
        exact ih _ _ _ _ hj (by rw [e1]; omega) (by rw [e1]; omega)
      · rw [if_neg x, if_neg (show ¬ (f_X6_judge v i).1 36 i.toNatClampNeg ≤ 0 by
          rw [← Int32.toInt_inj] at x
          simp only [Int32.le_iff_toInt_le]; omega)]
        exact ih _ _ _ _ hj (by rw [e1]; omega) (by rw [e1]; omega)
theorem co_row {z z' : Sg} (h : z.1 8 = z'.1 8) : ∀ (k : Nat) (a i : Int32), f_X1_countObjects_L4 z k a i = f_X1_countObjects_L4 z' k a i := by
  intro k
  induction k with
  | zero => intro a i; rw [f_X1_countObjects_L4, f_X1_countObjects_L4]
  | succ k ih =>
    intro a i
    rw [f_X1_countObjects_L4, f_X1_countObjects_L4, h, ih, ih]
/-! free ones of the class -/
theorem t32 {a : Int64} (h : 0 ≤ a.toInt ∧ a.toInt < 2 ^ 31) : a.toInt32 = nI a.toInt.toNat ∧ a.toInt32.toNatClampNeg = a.toInt.toNat := by
  have e := l2i_small h.1 h.2
  refine ⟨?_, by rw [clampEq, e]⟩
  apply Int32.toInt_inj.mp
  rw [e, nI_toInt (by omega)]
  omega
theorem gow {w : Sg} {a : Int64} {acc : List Int32} (hl : ∀ o, o < 100 → (w.1 16 o = 0 ↔ nI o ∉ acc)) : (f_X1_goesOnWith w a = 0 ∧ ¬ ((0 < a.toInt ∧ a.toInt < 100) ∧ w.1 8 a.toInt.toNat = 1 ∧ a.toInt32 ∉ acc)) ∨ (¬ f_X1_goesOnWith w a = 0 ∧ ((0 < a.toInt ∧ a.toInt < 100) ∧ w.1 8 a.toInt.toNat = 1 ∧ a.toInt32 ∉ acc)) := by
  have e0 : (0 : Int64).toInt = 0 := rfl
  have e100 : (100 : Int64).toInt = 100 := rfl
  unfold f_X1_goesOnWith f_X5_isObject
  by_cases a0 : a = 0
  · left
    rw [if_pos a0]
    refine ⟨rfl, fun x => ?_⟩
    rw [a0] at x
    have := x.1.1
    omega
  · rw [if_neg a0]
    rw [← Int64.toInt_inj] at a0
    by_cases a1 : a < 0
    · left
      rw [if_pos a1, if_pos rfl]
      refine ⟨rfl, fun x => ?_⟩
      simp only [Int64.lt_iff_toInt_lt] at a1
      omega
    · rw [if_neg a1]
      simp only [Int64.lt_iff_toInt_lt] at a1
      by_cases a2 : (100 : Int64) ≤ a
      · left
        rw [if_pos a2, if_pos rfl]
        refine ⟨rfl, fun x => ?_⟩
        simp only [Int64.le_iff_toInt_le] at a2
        omega
      · rw [if_neg a2, if_neg (by decide)]
        simp only [Int64.le_iff_toInt_le] at a2
        obtain ⟨t1, t2⟩ := t32 (a := a) ⟨by omega, by omega⟩
        rw [t2, t1]
        by_cases k1 : w.1 8 a.toInt.toNat = 1
        · rw [if_pos k1]
          by_cases k2 : w.1 16 a.toInt.toNat = 0
          · right
            rw [if_pos k2]
            exact ⟨by decide, ⟨by omega, by omega⟩, k1, (hl _ (by omega)).mp k2⟩
          · left
            rw [if_neg k2]
            exact ⟨rfl, fun x => k2 ((hl _ (by omega)).mpr x.2.2)⟩
        · left
          rw [if_neg k1]
          exact ⟨rfl, fun x => k1 x.2.1⟩
def lfr (w w' : Sg) : Prop := w'.2 = w.2 ∧ (∀ r, r ≠ 6 → r ≠ 15 → r ≠ 16 → w'.1 r = w.1 r) ∧ ∀ k, k ≠ 12 → w'.1 6 k = w.1 6 k
theorem frl_s {kd : Nat → Int32} {pl : Nat → Int64} {k : Nat} {acc : List Int32} {n : Int64} : frl kd pl (k + 1) acc n = if (0 < n.toInt ∧ n.toInt < 100) ∧ kd n.toInt.toNat = 1 ∧ n.toInt32 ∉ acc then frl kd pl k (acc ++ [n.toInt32]) (pl n.toInt.toNat) else acc := rfl
theorem lf_L {kd : Nat → Int32} {pl : Nat → Int64} : ∀ (k n : Nat) (w : Sg) (a : Int64) (acc : List Int32), w.1 8 = kd → w.2.1 9 = pl → acc.length = n → n ≤ 100 → 100 - n < k → (w.1 6 12).toInt = n → (∀ j, j < n → acc[j]? = some (w.1 15 j)) → (∀ o, o < 100 → (w.1 16 o = 0 ↔ nI o ∉ acc)) → (((f_X1_listFree_L23 k w a (nI n)).1 6 12).toInt = (frl kd pl (100 - n) acc a).length ∧ ∀ j, j < (frl kd pl (100 - n) acc a).length → (frl kd pl (100 - n) acc a)[j]? = some ((f_X1_listFree_L23 k w a (nI n)).1 15 j)) ∧ lfr w (f_X1_listFree_L23 k w a (nI n)) := by
  intro k
  induction k with
  | zero => intro n w a acc _ _ _ _ g; omega
  | succ k ih =>
    intro n w a acc h8 h9 hn h100 hk hc h15 h16
    rw [f_X1_listFree_L23]
    by_cases g : n = 100
    · have g' : (100 : Int32) ≤ nI n := by rw [g]; decide
      have e : 100 - n = 0 := by omega
      rw [if_pos g', e]
      refine ⟨⟨?_, fun j hj => ?_⟩, rfl, fun _ _ _ _ => rfl, fun _ _ => rfl⟩
      · show _ = (acc.length : Int)
        omega
      · exact h15 j (by rw [← hn]; exact hj)
    · have g' : ¬ (100 : Int32) ≤ nI n := nI_ge (show n < 100 by omega) (by decide)
      obtain ⟨m, em⟩ : ∃ m, 100 - n = m + 1 := ⟨99 - n, by omega⟩
      have em2 : 100 - (n + 1) = m := by omega
      rw [if_neg g', em, frl_s]
      have hg := gow (a := a) h16
      rw [h8] at hg
      rcases hg with ⟨x1, x2⟩ | ⟨x1, x2⟩
      · rw [if_pos x1, if_neg x2]
        refine ⟨⟨by rw [hn]; exact hc, fun j hj => h15 j (by rw [← hn]; exact hj)⟩, rfl, fun _ _ _ _ => rfl, fun _ _ => rfl⟩
      · rw [if_neg x1, if_pos x2, nar_1, h9]
        obtain ⟨t1, t2⟩ := t32 (a := a) ⟨by omega, by omega⟩
        rw [t2, t1, nI_1, nI_clamp (by omega)]
        have o100 : a.toInt.toNat < 100 := by omega
        have hmem := x2.2.2
        rw [t1] at hmem
        generalize a.toInt.toNat = o at *
        have hr := ih (n + 1) (uI (uI (uI w 16 o 1) 15 n (nI o)) 6 12 (nI (n + 1))) (pl o) (acc ++ [nI o]) h8 h9 (by rw [List.length_append]; simp; omega) (by omega) (by omega) (by
          show (nI (n + 1)).toInt = _
          rw [nI_toInt (by omega)]) (fun j hj => by
          show (acc ++ [nI o])[j]? = some (upd (w.1 15) n (nI o) j)
          by_cases e : j = n
          · rw [e, upd_eq, ← hn]; simp
          · rw [upd_ne e, List.getElem?_append_left (by omega)]
            exact h15 j (by omega)) (fun q hq => by
          show upd (w.1 16) o 1 q = 0 ↔ _
          rw [List.mem_append, List.mem_singleton]
          by_cases e : q = o
          · rw [e, upd_eq]
            exact ⟨fun x => absurd x (by decide), fun x => absurd (Or.inr rfl) x⟩
          · rw [upd_ne e, h16 q hq]
            have : ¬ nI q = nI o := fun x => e ((nI_eq (by omega) (by omega)).mp x)
            exact ⟨fun x y => y.elim x this, fun x y => x (Or.inl y)⟩)
        rw [em2] at hr
        refine ⟨hr.1, hr.2.1, fun r a b c => ?_, fun q hq => ?_⟩
        · rw [hr.2.2.1 r a b c, uI_r a, uI_r b, uI_r c]
        · rw [hr.2.2.2 q hq, uI_s, upd_ne hq]
          rfl
theorem lf_F {z : Sg} (h16 : ∀ o, o < 100 → z.1 16 o = 0) (h12 : z.1 6 12 = 0) : q_F (f_X1_listFree z) ∧ lfr z (f_X1_listFree z) := by
  have key : ∀ a : Int64, ((((f_X1_listFree_L23 101 z a 0).1 6 12).toInt = (frl (z.1 8) (z.2.1 9) 100 [] a).length ∧ ∀ j, j < (frl (z.1 8) (z.2.1 9) 100 [] a).length → (frl (z.1 8) (z.2.1 9) 100 [] a)[j]? = some ((f_X1_listFree_L23 101 z a 0).1 15 j)) ∧ lfr z (f_X1_listFree_L23 101 z a 0)) := fun a =>
    lf_L (kd := z.1 8) (pl := z.2.1 9) 101 0 z a [] rfl rfl rfl (by decide) (by decide) (by rw [h12]; rfl) (fun j hj => absurd hj (Nat.not_lt_zero _)) (fun o ho => ⟨fun _ x => absurd x List.not_mem_nil, fun _ => h16 o ho⟩)
  have hf : f_X1_listFree z = f_X1_listFree_L23 101 z (if z.1 8 0 = 1 then z.2.1 9 0 else 0) 0 := by
    unfold f_X1_listFree
    have e : (0 : Int32).toNatClampNeg = 0 := rfl
    rw [e]
    split <;> rfl
  rw [hf]
  obtain ⟨k1, k2⟩ := key (if z.1 8 0 = 1 then z.2.1 9 0 else 0)
  refine ⟨?_, k2⟩
  unfold q_F frs
  rw [k2.2.1 8 (by decide) (by decide) (by decide), k2.1]
  exact k1
theorem l113_18 {p0 : Int64} : ∀ (k : Nat) (v : Sg) (many i : Int32), (f_X6_read_L113 p0 k v many i).2.1 19 18 = v.1 19 18 := by
  intro k
  induction k with
  | zero => intro v many i; rw [f_X6_read_L113]
  | succ k ih =>
    intro v many i
    have hj : (f_X6_judge v i).1 19 18 = v.1 19 18 := (judge_ind (P := fun w => w.1 19 18 = v.1 19 18) rfl (fun w h => h) (fun w a b d h => ((mf_tell (mf.rf (z := w))).2.2.1).trans h) 61 (-1) 0)
    rw [f_X6_read_L113]
    split
    · rfl
    · dsimp only
      split
      · rw [ih, hj]
      · rw [ih, hj]
theorem cf_cj {u : Sg} {i : Int32} : cf u (cj u i) := by
  unfold cj f_X5_judgeFree f_X5_judgeUsed
  dsimp only
  repeat' (first | exact cf.rf | exact cf_tell cf.rf | exact cf_tell (cf_uI ⟨rfl, by decide⟩ cf.rf) | split)
theorem cf_jo : ∀ (k : Nat) (u : Sg) (i : Int32), cf u (f_X5_judgeObjects_L2 k u i) := by
  intro k
  induction k with
  | zero => intro u i; rw [f_X5_judgeObjects_L2]; exact cf.rf
  | succ k ih =>
    intro u i
    rw [jo_eq]
    split
    · exact cf.rf
    · exact cf_cj.trans (ih _ _)
theorem mf_113 {p0 : Int64} : ∀ (k : Nat) (v : Sg) (many i : Int32), mf v (f_X6_read_L113 p0 k v many i).2 := by
  intro k
  induction k with
  | zero => intro v many i; rw [f_X6_read_L113]; exact mf.rf
  | succ k ih =>
    intro v many i
    have hj : mf v (f_X6_judge v i) := judge_ind (P := fun w => mf v w) mf.rf (fun w h => mf_uI ⟨rfl, by decide⟩ h) (fun w a b d h => mf_tell h) 61 (-1) 0
    rw [f_X6_read_L113]
    split
    · exact mf.rf
    · dsimp only
      split
      · exact hj.trans (ih _ _ _)
      · exact hj.trans (ih _ _ _)
theorem rfs_lf {w w' : Sg} (h : lfr w w') : rfs w w' := fun r a b => ⟨h.2.1 r (by omega) (by omega) (by omega), by rw [h.1]⟩
theorem sim_read {S : Nat} {z w : Sg} (h : q_I S z w) (p0 : Int64) : (f_X6_read w p0).1 = (f_X5_read z p0).1 ∧ q_I S (f_X5_read z p0).2 (f_X6_read w p0).2 ∧ rfs z (f_X5_read z p0).2 ∧ cls w (f_X6_read w p0).2 := by
  obtain ⟨hM, hl, h8, hrz, hcw⟩ := M_start h
  have hr : f_X6_read w p0 = _ := read_17 (p0 := p0) 101 (uI (uI (uI w 19 0 0) 19 18 0) 19 25 0) 0 (by decide) (by decide)
  unfold f_X5_read
  rw [hr]
  dsimp only
  generalize cm 101 (uI (uI (uI w 19 0 0) 19 18 0) 19 25 0) 0 = v at *
  generalize f_X1_clear z = u at *
  have h12 := q_12 h
  rcases find_M hM p0 with ⟨f1, f2⟩ | ⟨c, fc, f1, f2⟩
  · rw [f1, f2, if_neg (by decide)]
    refine ⟨rfl, ⟨hM.1, ⟨hM.2.1.1, hM.2.1.2.1⟩, hM.2.2.1.1, hM.2.2.1.2, hM.2.2.2.1.1.1, hM.2.2.2.1.2.1, ?_, ?_⟩, hrz, hcw⟩
    · have e61 : (u.1 6 1).toInt = (0 : Nat) := hM.2.2.2.1.2.2.1
      have en : (u.1 6 1).toInt.toNat = 0 := by omega
      refine ⟨?_, ?_, ?_, hM.2.1.2.2⟩
      · apply Int32.toInt_inj.mp; rw [e61, hl]
      · rw [en]; exact hM.2.2.2.1.2.2
      · rw [en]; exact hM.2.2.2.1.1.2.1
    · unfold q_F frs
      rw [if_neg (by rw [h8 0 (by decide)]; decide)]
      have : frl (u.1 8) (u.2.1 9) 100 [] 0 = [] := by
        rw [frl_s, if_neg (fun x => absurd x.1.1 (by decide))]
      rw [this, hM.2.2.2.2.2.1]
      exact ⟨rfl, fun i hi => absurd hi (Nat.not_lt_zero _)⟩
  · rw [f1, f2, if_pos (nI_pos' (by omega))]
    dsimp only
    have e0 : (0 : Int32).toNatClampNeg = 0 := rfl
    rw [e0]
    have hv1 : v.1 19 18 + 1 = 1 := by
      have : v.1 19 18 = 0 := by apply Int32.toInt_inj.mp; rw [hl]; rfl
      rw [this]; rfl
    have hC : k_C S (uI (uI v 35 0 (nI c)) 19 18 (v.1 19 18 + 1)) := by
      rw [hv1]
      refine ⟨fun i hi => ?_, fun i j hij hj => ?_⟩
      · have hi : i < (1 : Int32).toInt.toNat := hi
        have e1 : (1 : Int32).toInt = 1 := rfl
        have : i = 0 := by omega
        rw [this]
        show (upd (v.1 35) 0 (nI c) 0).toInt < S
        rw [upd_eq, nI_toInt (by omega)]; omega
      · have hj : j < (1 : Int32).toInt.toNat := hj
        have e1 : (1 : Int32).toInt = 1 := rfl
        omega
    obtain ⟨g1, g2, g3, g4⟩ := M_push hM fc hl (by decide) hC
    rw [hv1] at g1 g2 g3
    obtain ⟨M, u', v', k1, kf, k2, k3, k4⟩ := sim_loop (p0 := p0) 12 0 c u _ 0 g1 g2 g3 fc (by decide) (by decide) (by decide)
    rw [k3, k4]
    dsimp only
    obtain ⟨s1, s2⟩ := sim_judges (p0 := p0) 101 u' v' 0 0 k1 (by decide) (by decide)
    have hcnt : f_X1_countObjects (f_X1_listFree (f_X5_judgeObjects u')) = f_X1_countObjects_L4 (f_X5_judgeObjects_L2 101 u' 0) 101 0 0 := by
      unfold f_X1_countObjects f_X5_judgeObjects
      refine co_row ?_ _ _ _
      exact (lf_F s1.2.2.2.2.1 s1.2.2.2.2.2.1).2.2.1 8 (by decide) (by decide) (by decide)
    rw [hcnt]
    refine ⟨s2, ?_, hrz.trans (kf.1.trans ((rfs_cf (cf_jo 101 u' 0)).trans (rfs_lf (lf_F s1.2.2.2.2.1 s1.2.2.2.2.2.1).2))), hcw.trans ((cls_uI (by decide) (cls_uI (by decide) cls.rf)).trans (kf.2.trans (cls_mf (mf_113 _ _ _ _))))⟩
    have hlen : ((f_X6_read_L113 p0 101 v' 0 0).2.1 19 18).toInt = M := by
      have : (f_X6_read_L113 p0 101 v' 0 0).2.1 19 18 = v'.1 19 18 := l113_18 _ _ _ _
      rw [this]; exact k2
    unfold f_X5_judgeObjects
    generalize (f_X6_read_L113 p0 101 v' 0 0).2 = vv at *
    generalize f_X5_judgeObjects_L2 101 u' 0 = uu at *
    obtain ⟨q1, q2, q3, q4⟩ := lf_F s1.2.2.2.2.1 s1.2.2.2.2.2.1
    have hI : k_I S (f_X1_listFree uu) := I_listFree s1.1.1
    generalize f_X1_listFree uu = y at *
    obtain ⟨⟨h1, h2, h3⟩, ⟨h4, h5, h6⟩, ⟨h7, h8'⟩, ⟨h9, h10, h11⟩, -⟩ := s1
    have e61 : y.1 6 1 = uu.1 6 1 := q4 1 (by decide)
    have en : (y.1 6 1).toInt.toNat = M := by
      have := h11.1
      rw [e61]; omega
    refine ⟨⟨hI, ?_, ⟨fun d hd => ?_, ?_, ?_⟩⟩, ⟨h4, h5⟩, ⟨?_, fun d hd => ?_, h7.2.2⟩, ?_, ?_, ?_, ⟨?_, ?_, ?_, h6⟩, q1⟩
    · intro r i d; rw [q2]; exact h2 r i d
    · unfold q_y
      rw [q3 (46 + 6 * d) (by omega) (by omega) (by omega), q3 (46 + 6 * d + 4) (by omega) (by omega) (by omega), q3 (46 + 6 * d + 5) (by omega) (by omega) (by omega), q2]
      exact h3.1 d hd
    · rw [q3 2 (by decide) (by decide) (by decide), q2]; exact h3.2.1
    · rw [q3 8 (by decide) (by decide) (by decide)]; exact h3.2.2
    · rw [q3 0 (by decide) (by decide) (by decide)]; exact h7.1
    · exact q_s_m (fun r a b => ⟨q3 r (by omega) (by omega) (by omega), by rw [q2]⟩) ⟨⟨rfl, rfl, rfl, rfl, rfl, rfl⟩, ⟨rfl, rfl, rfl⟩, fun _ _ => rfl, fun _ _ => ⟨rfl, rfl⟩, fun _ _ => ⟨rfl, rfl⟩⟩ (h7.2.1 d hd)
    · unfold q_H
      rw [q3 2 (by decide) (by decide) (by decide), q3 4 (by decide) (by decide) (by decide), q3 5 (by decide) (by decide) (by decide), q2]
      exact h8'
    · unfold q_K
      rw [q3 8 (by decide) (by decide) (by decide), q2]
      exact h9.1
    · unfold q_T
      rw [q4 9 (by decide), q3 12 (by decide) (by decide) (by decide), q3 13 (by decide) (by decide) (by decide), q2]
      exact h10
    · rw [e61]
      apply Int32.toInt_inj.mp
      rw [h11.1, hlen]
    · rw [en]
      unfold q_C
      rw [e61, q2]
      exact h11
    · rw [en]
      unfold q_R
      rw [q3 11 (by decide) (by decide) (by decide)]
      exact h9.2.1
