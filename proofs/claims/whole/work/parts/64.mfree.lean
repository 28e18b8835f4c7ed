/-! ===== the reference's list of free ones ===== -/
def k_F (w : Sg) (m : Int32) : Prop := 0 ≤ m.toInt ∧ (∀ i, i < m.toInt.toNat → 0 < (w.1 44 i).toInt ∧ (w.1 44 i).toInt < 100) ∧ ∀ i j, i < j → j < m.toInt.toNat → w.1 44 i ≠ w.1 44 j
theorem fo_99 {w : Sg} {m : Int32} (h : k_F w m) : m.toInt ≤ 99 := by
  have key := php 99 m.toInt.toNat (fun i => (w.1 44 i).toInt.toNat - 1) (fun i hi => by
    have := h.2.1 i hi
    show (w.1 44 i).toInt.toNat - 1 < 99
    omega) (fun i j hij hj => by
    have h1 := h.2.1 i (by omega)
    have h2 := h.2.1 j hj
    have h3 := h.2.2 i j hij hj
    show (w.1 44 i).toInt.toNat - 1 ≠ (w.1 44 j).toInt.toNat - 1
    intro e
    exact h3 (Int32.toInt_inj.mp (by omega)))
  omega
theorem fo_100 {w : Sg} {m : Int32} (h : k_F w m) : m.toInt ≤ (100 : Nat) := by
  have := fo_99 h
  omega
theorem nx_t {n : Int64} (h : 0 < n.toInt ∧ n.toInt < 100) : n.toInt32.toInt = n.toInt := l2i_small (by omega) (by omega)
theorem nx_in {n : Int64} (h : 0 < n.toInt ∧ n.toInt < 100) : vp_in n.toInt32 100 := by
  rw [vp_in_iff, nx_t h]
  omega
theorem fo_add {w : Sg} {m : Int32} {n : Int64} (h : k_F w m) (hn : (0 < n.toInt ∧ n.toInt < 100) ∧ ∀ j, j < m.toInt.toNat → (w.1 44 j).toInt64 ≠ n) : k_F (uI w 44 m.toNatClampNeg n.toInt32) (m + 1) := by
  have h0 := h.1
  have h9 := fo_99 h
  have e1 : (m + 1).toInt = m.toInt + 1 := i_addb (by have : (1 : Int32).toInt = 1 := rfl; rw [this]; omega)
  have e4 : (uI w 44 m.toNatClampNeg n.toInt32).1 44 = upd (w.1 44) m.toInt.toNat n.toInt32 := by rw [uI_s]; rfl
  unfold k_F
  rw [e1, e4]
  refine ⟨by omega, fun i hi => ?_, fun i j hij hj => ?_⟩
  · unfold upd
    split
    · rw [nx_t hn.1]; exact hn.1
    · exact h.2.1 i (by omega)
  · have d1 : ¬ i = m.toInt.toNat := by omega
    simp only [upd, if_neg d1]
    by_cases d2 : j = m.toInt.toNat
    · rw [if_pos d2]
      intro e
      refine hn.2 i (by omega) (Int64.toInt_inj.mp ?_)
      rw [i_2l, e, nx_t hn.1]
    · rw [if_neg d2]; exact h.2.2 i j hij (by omega)
theorem fo_in {w : Sg} {m : Int32} {n : Int64} (h : k_F w m) (hn : (0 < n.toInt ∧ n.toInt < 100) ∧ ∀ j, j < m.toInt.toNat → (w.1 44 j).toInt64 ≠ n) : vp_in m 100 := by
  have h9 := fo_99 h
  exact vp_in_iff.mpr ⟨h.1, by omega⟩
theorem fo_out {w : Sg} {m i g : Int32} {n : Int64} (hi : m ≤ i) (h : ¬ g = 0 → (0 < n.toInt ∧ n.toInt < 100) ∧ ∀ j, j < i.toInt.toNat → (w.1 44 j).toInt64 ≠ n) : ¬ g = 0 → (0 < n.toInt ∧ n.toInt < 100) ∧ ∀ j, j < m.toInt.toNat → (w.1 44 j).toInt64 ≠ n := fun hg => by
  simp only [Int32.le_iff_toInt_le] at hi
  exact ⟨(h hg).1, fun j hj => (h hg).2 j (by omega)⟩
theorem fo_st {w : Sg} {m i : Int32} {n : Int64} (hi : ¬ m ≤ i) (h0 : 0 ≤ i.toInt) (h : (0 < n.toInt ∧ n.toInt < 100) ∧ ∀ j, j < i.toInt.toNat → (w.1 44 j).toInt64 ≠ n) (hn : ¬ (w.1 44 i.toNatClampNeg).toInt64 = n) : (0 < n.toInt ∧ n.toInt < 100) ∧ ∀ j, j < (i + 1).toInt.toNat → (w.1 44 j).toInt64 ≠ n := by
  rw [i_add1 hi]
  refine ⟨h.1, fun j hj => ?_⟩
  by_cases e : j = i.toInt.toNat
  · rw [e]; exact hn
  · exact h.2 j (by omega)
theorem fo_m0 {k : Nat} {g m : Int32} {x : Nat} {w : Sg} (hm : (if g = 0 then 0 else 100 - m.toInt.toNat) < k + 1) (hg : ¬ g = 0) (h : k_F w m) : (if (0 : Int32) = 0 then 0 else x) < k := by
  have h9 := fo_99 h
  rw [if_neg hg] at hm
  rw [if_pos rfl]
  omega
theorem fo_m1 {k : Nat} {g m : Int32} {w : Sg} (hm : (if g = 0 then 0 else 100 - m.toInt.toNat) < k + 1) (hg : ¬ g = 0) (h : k_F w m) : (if (1 : Int32) = 0 then 0 else 100 - (m + 1).toInt.toNat) < k := by
  have h9 := fo_99 h
  have h0 := h.1
  have e1 : (m + 1).toInt = m.toInt + 1 := i_addb (by have : (1 : Int32).toInt = 1 := rfl; rw [this]; omega)
  rw [if_neg hg] at hm
  rw [if_neg (by decide), e1]
  omega
theorem fo_i {x m : Int32} {w : Sg} (h : k_F w m) (h1 : ¬ x < -1) (h2 : ¬ x = -1) (h3 : ¬ m ≤ x) : vp_in x 100 := tld_in h1 h3 h2 (fo_100 h)
theorem fo_n0 {n : Int64} (h1 : ¬ n ≤ 0) (h2 : ¬ (100 : Int64) ≤ n) : 0 < n.toInt ∧ n.toInt < 100 := by
  simp only [Int64.le_iff_toInt_le] at h1 h2
  have e1 : (0 : Int64).toInt = 0 := rfl
  have e2 : (100 : Int64).toInt = 100 := rfl
  omega

def f_X6_free_L78 (p0 : Int32) (many : Int32) (next : Int64) (K : Int32 → Sg → (Int32 × Sg)) : Nat → Sg → Int32 → Int32 → Int32 × Sg
  | 0, u, _, _ => (0, u)
  | k + 1, u, goes, i =>
    if many ≤ i then
      K goes u
    else
      if goes = 0 then
        f_X6_free_L78 p0 many next K k u 0 (i + 1)
      else
        if ((u.1 44 i.toNatClampNeg) : Int32).toInt64 = next then
          f_X6_free_L78 p0 many next K k u 0 (i + 1)
        else
          f_X6_free_L78 p0 many next K k u 1 (i + 1)
termination_by k9 => k9
def f_X6_free_L49 (p0 : Int32) : Nat → Sg → Int32 → Int64 → Int32 → Int32 × Sg
  | 0, w, _, _, _ => (0, w)
  | k + 1, w, many, next, goes =>
    if goes = 0 then
      if p0 = (-1) then
        (many, w)
      else
        if many ≤ p0 then
          ((-1), w)
        else
          ((w.1 44 p0.toNatClampNeg), w)
    else
      if next ≤ 0 then
        f_X6_free_L78 p0 many next (fun goes2 w2 =>
            if goes2 = 0 then
              f_X6_free_L49 p0 k w2 many next 0
            else
              if (w2.1 36 (((next : Int64).toInt32).toNatClampNeg)) = 1 then
                f_X6_free_L49 p0 k (uI w2 44 many.toNatClampNeg ((next : Int64).toInt32)) (many + 1) (w2.2.1 37 (((next : Int64).toInt32).toNatClampNeg)) 1
              else
                f_X6_free_L49 p0 k w2 many next 0) 101 w 0 0
      else
        if (100 : Int64) ≤ next then
          f_X6_free_L78 p0 many next (fun goes2 w2 =>
              if goes2 = 0 then
                f_X6_free_L49 p0 k w2 many next 0
              else
                if (w2.1 36 (((next : Int64).toInt32).toNatClampNeg)) = 1 then
                  f_X6_free_L49 p0 k (uI w2 44 many.toNatClampNeg ((next : Int64).toInt32)) (many + 1) (w2.2.1 37 (((next : Int64).toInt32).toNatClampNeg)) 1
                else
                  f_X6_free_L49 p0 k w2 many next 0) 101 w 0 0
        else
          f_X6_free_L78 p0 many next (fun goes2 w2 =>
              if goes2 = 0 then
                f_X6_free_L49 p0 k w2 many next 0
              else
                if (w2.1 36 (((next : Int64).toInt32).toNatClampNeg)) = 1 then
                  f_X6_free_L49 p0 k (uI w2 44 many.toNatClampNeg ((next : Int64).toInt32)) (many + 1) (w2.2.1 37 (((next : Int64).toInt32).toNatClampNeg)) 1
                else
                  f_X6_free_L49 p0 k w2 many next 0) 101 w 1 0
termination_by k9 => k9
def f_X6_free (z : Sg) (p0 : Int32) : Int32 × Sg :=
  if p0 < (-1) then
    (0, (uI z 19 0 1))
  else
    if (z.1 36 ((0 : Int32).toNatClampNeg)) = 1 then
      f_X6_free_L49 p0 101 (uI z 19 0 0) 0 (z.2.1 37 ((0 : Int32).toNatClampNeg)) 1
    else
      f_X6_free_L49 p0 101 (uI z 19 0 0) 0 0 1
set_option maxHeartbeats 4000000 in
set_option maxRecDepth 100000 in
theorem c_X6_free (l : Launch) (E : Ev) (S sz : Nat) (z : Sg) (p0 : Int32) (hI : k_J S z) : k_Met l yX6_free cX6_free 7 (some .int) ({ frames := 0, cells := 0, slots := 0, locals := 0 }) [.ref (E.2.2 19), .int p0] E (46 + 6 * S) z sz (fun v u => v = some (.int ((f_X6_free z p0).1)) ∧ u = (f_X6_free z p0).2) 0 0 := by
  refine k_body (by decide +kernel) (Nat.le_of_ble_eq_true rfl) ?_
  intro p e s m below meth cd ls hx hb hr hml hown hlocks hts hW hl
  have L78 : ∀ (many : Int32) (next : Int64), ∀ (K : Int32 → Sg → (Int32 × Sg)), (∀ (goes2 : Int32) (w2 : Sg) (H : Heap) (locs : List Loc) (ls : Array Slot), (k_J S w2) → (k_F w2 many) → (¬ goes2 = 0 → (0 < next.toInt ∧ next.toInt < 100) ∧ ∀ j, j < many.toInt.toNat → (w2.1 44 j).toInt64 ≠ next) → k_W E (46 + 6 * S) w2 (k_A E (46 + 6 * S) z s.heap.size) s H locs → lv_has ls 7 [(0, .ref (E.2.2 19)), (1, .int p0), (2, .int many), (3, .long next), (5, .int goes2)] → K goes2 w2 = (f_X6_free z p0) → W p l e ({ frames := 0, cells := 0, slots := 0, locals := 0 }) s m ([.ref (E.2.2 19), .int p0] : List Value).toArray below meth cd H locs 0 0 (MQ below (k_Q (fun v u => v = some (.int ((f_X6_free z p0).1)) ∧ u = (f_X6_free z p0).2) E (46 + 6 * S) z s.heap.size) ([.ref (E.2.2 19), .int p0] : List Value).toArray s 0 0 (k_A E (46 + 6 * S) z s.heap.size)) (F0 m 115 ls [])) → ∀ (k : Nat) (u : Sg) (goes : Int32) (i : Int32) (H : Heap) (locs : List Loc) (ls : Array Slot), (k_J S u) → (k_F u many) → (0 ≤ i.toInt) → (¬ goes = 0 → (0 < next.toInt ∧ next.toInt < 100) ∧ ∀ j, j < i.toInt.toNat → (u.1 44 j).toInt64 ≠ next) → 100 - i.toInt.toNat < k → k_W E (46 + 6 * S) u (k_A E (46 + 6 * S) z s.heap.size) s H locs → lv_has ls 7 [(0, .ref (E.2.2 19)), (1, .int p0), (2, .int many), (3, .long next), (5, .int goes), (6, .int i)] → f_X6_free_L78 p0 many next K k u goes i = (f_X6_free z p0) → W p l e ({ frames := 0, cells := 0, slots := 0, locals := 0 }) s m ([.ref (E.2.2 19), .int p0] : List Value).toArray below meth cd H locs 0 0 (MQ below (k_Q (fun v u => v = some (.int ((f_X6_free z p0).1)) ∧ u = (f_X6_free z p0).2) E (46 + 6 * S) z s.heap.size) ([.ref (E.2.2 19), .int p0] : List Value).toArray s 0 0 (k_A E (46 + 6 * S) z s.heap.size)) (F0 m 78 ls []) := by
    intro many next K hK
    intro k
    induction k with
    | zero =>
      intro u goes i H locs ls hi0 hi1 hi2 hi3 hm
      exact absurd hm (Nat.not_lt_zero _)
    | succ k ih =>
      intro u goes i H locs ls hi0 hi1 hi2 hi3 hm hW hl hG
      refine lv_iload hx hb dX6_free_78 (lv_at hl 5 rfl) ?_
      refine lv_iload_n hx hb dX6_free_80 rfl (lv_at hl 2 rfl) ?_
      refine lv_icmp_ge (tgt := 115) hx hb dX6_free_81 (by decide) (fun h1 => ?_) (fun h1 => ?_)
      · exact hK goes u _ _ _ (hi0) (hi1) (fo_out h1 hi3) hW (lv_sub hl [0, 1, 2, 3, 4] rfl) (Eq.symm (hG.symm.trans (by simp only [f_X6_free_L78, if_pos h1])))
      · refine lv_iload hx hb dX6_free_84 (lv_at hl 4 rfl) ?_
        refine lv_if_eq (tgt := 106) hx hb dX6_free_86 (by decide) (fun h2 => ?_) (fun h2 => ?_)
        · refine lv_iconst (v := 0) hx hb dX6_free_106 (by decide) ?_
          refine lv_istore (lv' := [(5, .int 0), (0, .ref (E.2.2 19)), (1, .int p0), (2, .int many), (3, .long next), (6, .int i)]) hx hb dX6_free_107 hl (by decide) rfl (fun ls hl => ?_)
          refine lv_iinc (v := i + 1) (lv' := [(6, .int (i + 1)), (5, .int 0), (0, .ref (E.2.2 19)), (1, .int p0), (2, .int many), (3, .long next)]) hx hb dX6_free_109 hl (k := 5) rfl rfl (by decide) rfl (fun ls hl => ?_)
          refine lv_goto (tgt := 78) hx hb dX6_free_112 (by decide) ?_
          exact ih u 0 (i + 1) _ _ _ (hi0) (hi1) (in_s0 hi2 h1 (fo_100 hi1)) (fun h9 => by first | exact absurd rfl h9 | exact fo_st h1 hi2 (hi3 h2) hno98) (in_sm hi2 h1 (fo_100 hi1) hm) hW (lv_sub hl [2, 3, 4, 5, 1, 0] rfl) (Eq.symm (hG.symm.trans (by simp only [f_X6_free_L78, if_neg h1, if_pos h2])))
        · refine lv_aload_n hx hb dX6_free_89 rfl (lv_at hl 0 rfl) ?_
          refine k_get hx hb hts inlX6 hown hW 19 (by omega) k_c19 rfl 29 (by decide) lf_RX6_85 rfl (v := .ref (E.2.2 44)) rfl dX6_free_90 ?_
          refine lv_iload hx hb dX6_free_93 (lv_at hl 5 rfl) ?_
          refine k_iald hx hb hW 44 100 (by omega) k_c44 (v := (u.1 44 i.toNatClampNeg)) (by exact in_lt3 hi2 h1 (fo_100 hi1)) rfl dX6_free_95 ?_
          refine lv_i2l (v := ((u.1 44 i.toNatClampNeg) : Int32).toInt64) hx hb dX6_free_96 rfl ?_
          refine lv_lload_n hx hb dX6_free_97 rfl (lv_at hl 3 rfl) ?_
          refine k_lif_eq (tgt := 106) hx hb dX6_free_98 dX6_free_99 (by decide) (fun h3 => ?_) (fun h3 => ?_)
          · refine lv_iconst (v := 0) hx hb dX6_free_106 (by decide) ?_
            refine lv_istore (lv' := [(5, .int 0), (0, .ref (E.2.2 19)), (1, .int p0), (2, .int many), (3, .long next), (6, .int i)]) hx hb dX6_free_107 hl (by decide) rfl (fun ls hl => ?_)
            refine lv_iinc (v := i + 1) (lv' := [(6, .int (i + 1)), (5, .int 0), (0, .ref (E.2.2 19)), (1, .int p0), (2, .int many), (3, .long next)]) hx hb dX6_free_109 hl (k := 5) rfl rfl (by decide) rfl (fun ls hl => ?_)
            refine lv_goto (tgt := 78) hx hb dX6_free_112 (by decide) ?_
            exact ih u 0 (i + 1) _ _ _ (hi0) (hi1) (in_s0 hi2 h1 (fo_100 hi1)) (fun h9 => by first | exact absurd rfl h9 | exact fo_st h1 hi2 (hi3 h2) h3) (in_sm hi2 h1 (fo_100 hi1) hm) hW (lv_sub hl [2, 3, 4, 5, 1, 0] rfl) (Eq.symm (hG.symm.trans (by simp only [f_X6_free_L78, if_neg h1, if_neg h2, if_pos h3])))
          · refine lv_iconst (v := 1) hx hb dX6_free_102 (by decide) ?_
            refine lv_goto (tgt := 107) hx hb dX6_free_103 (by decide) ?_
            refine lv_istore (lv' := [(5, .int 1), (0, .ref (E.2.2 19)), (1, .int p0), (2, .int many), (3, .long next), (6, .int i)]) hx hb dX6_free_107 hl (by decide) rfl (fun ls hl => ?_)
            refine lv_iinc (v := i + 1) (lv' := [(6, .int (i + 1)), (5, .int 1), (0, .ref (E.2.2 19)), (1, .int p0), (2, .int many), (3, .long next)]) hx hb dX6_free_109 hl (k := 5) rfl rfl (by decide) rfl (fun ls hl => ?_)
            refine lv_goto (tgt := 78) hx hb dX6_free_112 (by decide) ?_
            exact ih u 1 (i + 1) _ _ _ (hi0) (hi1) (in_s0 hi2 h1 (fo_100 hi1)) (fun h9 => by first | exact absurd rfl h9 | exact fo_st h1 hi2 (hi3 h2) h3) (in_sm hi2 h1 (fo_100 hi1) hm) hW (lv_sub hl [2, 3, 4, 5, 1, 0] rfl) (Eq.symm (hG.symm.trans (by simp only [f_X6_free_L78, if_neg h1, if_neg h2, if_neg h3])))
  have L49 : ∀ (k : Nat) (w : Sg) (many : Int32) (next : Int64) (goes : Int32) (H : Heap) (locs : List Loc) (ls : Array Slot), (k_J S w) → (k_F w many) → (¬ p0 < -1) → (if goes = 0 then 0 else 100 - many.toInt.toNat) < k → k_W E (46 + 6 * S) w (k_A E (46 + 6 * S) z s.heap.size) s H locs → lv_has ls 7 [(0, .ref (E.2.2 19)), (1, .int p0), (2, .int many), (3, .long next), (5, .int goes)] → f_X6_free_L49 p0 k w many next goes = (f_X6_free z p0) → W p l e ({ frames := 0, cells := 0, slots := 0, locals := 0 }) s m ([.ref (E.2.2 19), .int p0] : List Value).toArray below meth cd H locs 0 0 (MQ below (k_Q (fun v u => v = some (.int ((f_X6_free z p0).1)) ∧ u = (f_X6_free z p0).2) E (46 + 6 * S) z s.heap.size) ([.ref (E.2.2 19), .int p0] : List Value).toArray s 0 0 (k_A E (46 + 6 * S) z s.heap.size)) (F0 m 49 ls []) := by
    intro k
    induction k with
    | zero =>
      intro w many next goes H locs ls hi0 hi1 hi2 hm
      exact absurd hm (Nat.not_lt_zero _)
    | succ k ih =>
      intro w many next goes H locs ls hi0 hi1 hi2 hm hW hl hG
      refine lv_iload hx hb dX6_free_49 (lv_at hl 4 rfl) ?_
      refine lv_if_eq (tgt := 165) hx hb dX6_free_51 (by decide) (fun h4 => ?_) (fun h4 => ?_)
      · refine lv_iload_n hx hb dX6_free_165 rfl (lv_at hl 1 rfl) ?_
        refine lv_iconst (v := (-1)) hx hb dX6_free_166 (by decide) ?_
        refine lv_icmp_ne (tgt := 174) hx hb dX6_free_167 (by decide) (fun h5 => ?_) (fun h5 => ?_)
        · refine lv_iload_n hx hb dX6_free_174 rfl (lv_at hl 1 rfl) ?_
          refine lv_iload_n hx hb dX6_free_175 rfl (lv_at hl 2 rfl) ?_
          refine lv_icmp_ge (tgt := 188) hx hb dX6_free_176 (by decide) (fun h6 => ?_) (fun h6 => ?_)
          · refine lv_iconst (v := (-1)) hx hb dX6_free_188 (by decide) ?_
            have hR : (f_X6_free z p0) = ((-1), w) := (hG.symm.trans (by simp only [f_X6_free_L49, if_pos h4, if_neg h5, if_pos h6]))
            exact k_iret hx hb hr rfl hlocks hW ⟨by rw [hR], by rw [hR]⟩ dX6_free_189
          · refine lv_aload_n hx hb dX6_free_179 rfl (lv_at hl 0 rfl) ?_
            refine k_get hx hb hts inlX6 hown hW 19 (by omega) k_c19 rfl 29 (by decide) lf_RX6_85 rfl (v := .ref (E.2.2 44)) rfl dX6_free_180 ?_
            refine lv_iload_n hx hb dX6_free_183 rfl (lv_at hl 1 rfl) ?_
            refine k_iald hx hb hW 44 100 (by omega) k_c44 (v := (w.1 44 p0.toNatClampNeg)) (by exact fo_i hi1 hi2 h5 h6) rfl dX6_free_184 ?_
            refine lv_goto (tgt := 189) hx hb dX6_free_185 (by decide) ?_
            have hR : (f_X6_free z p0) = ((w.1 44 p0.toNatClampNeg), w) := (hG.symm.trans (by simp only [f_X6_free_L49, if_pos h4, if_neg h5, if_neg h6]))
            exact k_iret hx hb hr rfl hlocks hW ⟨by rw [hR], by rw [hR]⟩ dX6_free_189
        · refine lv_iload_n hx hb dX6_free_170 rfl (lv_at hl 2 rfl) ?_
          refine lv_goto (tgt := 189) hx hb dX6_free_171 (by decide) ?_
          have hR : (f_X6_free z p0) = (many, w) := (hG.symm.trans (by simp only [f_X6_free_L49, if_pos h4, if_pos h5]))
          exact k_iret hx hb hr rfl hlocks hW ⟨by rw [hR], by rw [hR]⟩ dX6_free_189
      · refine lv_lload_n hx hb dX6_free_54 rfl (lv_at hl 3 rfl) ?_
        refine lv_lconst (v := 0) hx hb dX6_free_55 (by decide) ?_
        refine k_lif_le (tgt := 72) hx hb dX6_free_56 dX6_free_57 (by decide) (fun h7 => ?_) (fun h7 => ?_)
        · refine lv_iconst (v := 0) hx hb dX6_free_72 (by decide) ?_
          refine lv_istore (lv' := [(5, .int 0), (0, .ref (E.2.2 19)), (1, .int p0), (2, .int many), (3, .long next)]) hx hb dX6_free_73 hl (by decide) rfl (fun ls hl => ?_)
          refine lv_iconst (v := 0) hx hb dX6_free_75 (by decide) ?_
          refine lv_istore (lv' := [(6, .int 0), (5, .int 0), (0, .ref (E.2.2 19)), (1, .int p0), (2, .int many), (3, .long next)]) hx hb dX6_free_76 hl (by decide) rfl (fun ls hl => ?_)
          refine L78 many next (fun goes2 w2 =>
              if goes2 = 0 then
                f_X6_free_L49 p0 k w2 many next 0
              else
                if (w2.1 36 (((next : Int64).toInt32).toNatClampNeg)) = 1 then
                  f_X6_free_L49 p0 k (uI w2 44 many.toNatClampNeg ((next : Int64).toInt32)) (many + 1) (w2.2.1 37 (((next : Int64).toInt32).toNatClampNeg)) 1
                else
                  f_X6_free_L49 p0 k w2 many next 0) ?_ 101 w 0 0 _ _ _ (hi0) (hi1) (by decide) (fun h9 => by first | exact absurd rfl h9 | exact ⟨fo_n0 h7 hno64, fun j h => absurd h (Nat.not_lt_zero _)⟩) (by decide) hW (lv_sub hl [2, 3, 4, 5, 1, 0] rfl) (Eq.symm (hG.symm.trans (by simp only [f_X6_free_L49, if_neg h4, if_pos h7])))
          intro goes2 w2 H locs ls xi0 xi1 xi2 hW hl hG
          refine lv_iload hx hb dX6_free_115 (lv_at hl 4 rfl) ?_
          refine lv_if_eq (tgt := 135) hx hb dX6_free_117 (by decide) (fun h8 => ?_) (fun h8 => ?_)
          · refine lv_iconst (v := 0) hx hb dX6_free_135 (by decide) ?_
            refine lv_istore (lv' := [(5, .int 0), (0, .ref (E.2.2 19)), (1, .int p0), (2, .int many), (3, .long next)]) hx hb dX6_free_136 hl (by decide) rfl (fun ls hl => ?_)
            refine lv_iload hx hb dX6_free_138 (lv_at hl 0 rfl) ?_
            refine lv_if_eq (tgt := 49) hx hb dX6_free_140 (by decide) (fun _ => ?_) (fun h9 => absurd h9 (by decide))
            exact ih w2 many next 0 _ _ _ (xi0) (by first | exact xi1 | exact fo_add xi1 (xi2 h8)) (hi2) (by first | exact fo_m0 hm h4 hi1 | exact fo_m1 hm h4 hi1) hW (lv_sub hl [1, 2, 3, 4, 0] rfl) (Eq.symm (hG.symm.trans (by first | rfl | simp only [if_pos h8])))
          · refine lv_aload_n hx hb dX6_free_120 rfl (lv_at hl 0 rfl) ?_
            refine k_get hx hb hts inlX6 hown hW 19 (by omega) k_c19 rfl 20 (by decide) lf_RX6_61 rfl (v := .ref (E.2.2 36)) rfl dX6_free_121 ?_
            refine lv_lload_n hx hb dX6_free_124 rfl (lv_at hl 3 rfl) ?_
            refine lv_l2i (v := (next : Int64).toInt32) hx hb dX6_free_125 rfl ?_
            refine k_iald hx hb hW 36 100 (by omega) k_c36 (v := (w2.1 36 (((next : Int64).toInt32).toNatClampNeg))) (by exact nx_in (xi2 h8).1) rfl dX6_free_126 ?_
            refine lv_iconst (v := 1) hx hb dX6_free_127 (by decide) ?_
            refine lv_icmp_ne (tgt := 135) hx hb dX6_free_128 (by decide) (fun h10 => ?_) (fun h10 => ?_)
            · refine lv_iconst (v := 0) hx hb dX6_free_135 (by decide) ?_
              refine lv_istore (lv' := [(5, .int 0), (0, .ref (E.2.2 19)), (1, .int p0), (2, .int many), (3, .long next)]) hx hb dX6_free_136 hl (by decide) rfl (fun ls hl => ?_)
              refine lv_iload hx hb dX6_free_138 (lv_at hl 0 rfl) ?_
              refine lv_if_eq (tgt := 49) hx hb dX6_free_140 (by decide) (fun _ => ?_) (fun h11 => absurd h11 (by decide))
              exact ih w2 many next 0 _ _ _ (xi0) (by first | exact xi1 | exact fo_add xi1 (xi2 h8)) (hi2) (by first | exact fo_m0 hm h4 hi1 | exact fo_m1 hm h4 hi1) hW (lv_sub hl [1, 2, 3, 4, 0] rfl) (Eq.symm (hG.symm.trans (by first | rfl | simp only [if_neg h8, if_neg h10])))
            · refine lv_iconst (v := 1) hx hb dX6_free_131 (by decide) ?_
              refine lv_goto (tgt := 136) hx hb dX6_free_132 (by decide) ?_
              refine lv_istore (lv' := [(5, .int 1), (0, .ref (E.2.2 19)), (1, .int p0), (2, .int many), (3, .long next)]) hx hb dX6_free_136 hl (by decide) rfl (fun ls hl => ?_)
              refine lv_iload hx hb dX6_free_138 (lv_at hl 0 rfl) ?_
              refine lv_if_eq (tgt := 49) hx hb dX6_free_140 (by decide) (fun h12 => absurd h12 (by decide)) (fun _ => ?_)
              refine lv_aload_n hx hb dX6_free_143 rfl (lv_at hl 1 rfl) ?_
              refine k_get hx hb hts inlX6 hown hW 19 (by omega) k_c19 rfl 29 (by decide) lf_RX6_85 rfl (v := .ref (E.2.2 44)) rfl dX6_free_144 ?_
              refine lv_iload_n hx hb dX6_free_147 rfl (lv_at hl 3 rfl) ?_
              refine lv_lload_n hx hb dX6_free_148 rfl (lv_at hl 4 rfl) ?_
              refine lv_l2i (v := (next : Int64).toInt32) hx hb dX6_free_149 rfl ?_
              refine k_iast hx hb hW 44 100 (by omega) k_c44 (by exact fo_in xi1 (xi2 h8)) dX6_free_150 (fun H locs hW => ?_)
              refine lv_iinc (v := many + 1) (lv' := [(2, .int (many + 1)), (5, .int 1), (0, .ref (E.2.2 19)), (1, .int p0), (3, .long next)]) hx hb dX6_free_151 hl (k := 3) rfl rfl (by decide) rfl (fun ls hl => ?_)
              refine lv_aload_n hx hb dX6_free_154 rfl (lv_at hl 2 rfl) ?_
              refine k_get hx hb hts inlX6 hown hW 19 (by omega) k_c19 rfl 21 (by decide) lf_RX6_64 rfl (v := .ref (E.2.2 37)) rfl dX6_free_155 ?_
              refine lv_lload_n hx hb dX6_free_158 rfl (lv_at hl 4 rfl) ?_
              refine lv_l2i (v := (next : Int64).toInt32) hx hb dX6_free_159 rfl ?_
              refine k_lald hx hb hW 37 100 (by omega) k_c37 (v := (w2.2.1 37 (((next : Int64).toInt32).toNatClampNeg))) (by exact nx_in (xi2 h8).1) rfl dX6_free_160 ?_
              refine lv_lstore_n (lv' := [(3, .long (w2.2.1 37 (((next : Int64).toInt32).toNatClampNeg))), (2, .int (many + 1)), (5, .int 1), (0, .ref (E.2.2 19)), (1, .int p0)]) hx hb dX6_free_161 rfl hl (by decide) rfl (fun ls hl => ?_)
              refine lv_goto (tgt := 49) hx hb dX6_free_162 (by decide) ?_
              exact ih (uI w2 44 many.toNatClampNeg ((next : Int64).toInt32)) (many + 1) (w2.2.1 37 (((next : Int64).toInt32).toNatClampNeg)) 1 _ _ _ ((k_J_u (by decide) xi0)) (by first | exact xi1 | exact fo_add xi1 (xi2 h8)) (hi2) (by first | exact fo_m0 hm h4 hi1 | exact fo_m1 hm h4 hi1) hW (lv_sub hl [3, 4, 1, 0, 2] rfl) (Eq.symm (hG.symm.trans (by first | rfl | simp only [if_neg h8, if_pos h10])))
        · refine lv_lload_n hx hb dX6_free_60 rfl (lv_at hl 3 rfl) ?_
          refine lv_ldc2 (v := 100) hx hb hown (hts _ lc_RX6_115) dX6_free_61 ?_
          refine k_lif_ge (tgt := 72) hx hb dX6_free_64 dX6_free_65 (by decide) (fun h13 => ?_) (fun h13 => ?_)
          · refine lv_iconst (v := 0) hx hb dX6_free_72 (by decide) ?_
            refine lv_istore (lv' := [(5, .int 0), (0, .ref (E.2.2 19)), (1, .int p0), (2, .int many), (3, .long next)]) hx hb dX6_free_73 hl (by decide) rfl (fun ls hl => ?_)
            refine lv_iconst (v := 0) hx hb dX6_free_75 (by decide) ?_
            refine lv_istore (lv' := [(6, .int 0), (5, .int 0), (0, .ref (E.2.2 19)), (1, .int p0), (2, .int many), (3, .long next)]) hx hb dX6_free_76 hl (by decide) rfl (fun ls hl => ?_)
            refine L78 many next (fun goes2 w2 =>
                if goes2 = 0 then
                  f_X6_free_L49 p0 k w2 many next 0
                else
                  if (w2.1 36 (((next : Int64).toInt32).toNatClampNeg)) = 1 then
                    f_X6_free_L49 p0 k (uI w2 44 many.toNatClampNeg ((next : Int64).toInt32)) (many + 1) (w2.2.1 37 (((next : Int64).toInt32).toNatClampNeg)) 1
                  else
                    f_X6_free_L49 p0 k w2 many next 0) ?_ 101 w 0 0 _ _ _ (hi0) (hi1) (by decide) (fun h9 => by first | exact absurd rfl h9 | exact ⟨fo_n0 h7 h13, fun j h => absurd h (Nat.not_lt_zero _)⟩) (by decide) hW (lv_sub hl [2, 3, 4, 5, 1, 0] rfl) (Eq.symm (hG.symm.trans (by simp only [f_X6_free_L49, if_neg h4, if_neg h7, if_pos h13])))
            intro goes2 w2 H locs ls xi0 xi1 xi2 hW hl hG
            refine lv_iload hx hb dX6_free_115 (lv_at hl 4 rfl) ?_
            refine lv_if_eq (tgt := 135) hx hb dX6_free_117 (by decide) (fun h14 => ?_) (fun h14 => ?_)
            · refine lv_iconst (v := 0) hx hb dX6_free_135 (by decide) ?_
              refine lv_istore (lv' := [(5, .int 0), (0, .ref (E.2.2 19)), (1, .int p0), (2, .int many), (3, .long next)]) hx hb dX6_free_136 hl (by decide) rfl (fun ls hl => ?_)
              refine lv_iload hx hb dX6_free_138 (lv_at hl 0 rfl) ?_
              refine lv_if_eq (tgt := 49) hx hb dX6_free_140 (by decide) (fun _ => ?_) (fun h15 => absurd h15 (by decide))
              exact ih w2 many next 0 _ _ _ (xi0) (by first | exact xi1 | exact fo_add xi1 (xi2 h14)) (hi2) (by first | exact fo_m0 hm h4 hi1 | exact fo_m1 hm h4 hi1) hW (lv_sub hl [1, 2, 3, 4, 0] rfl) (Eq.symm (hG.symm.trans (by first | rfl | simp only [if_pos h14])))
            · refine lv_aload_n hx hb dX6_free_120 rfl (lv_at hl 0 rfl) ?_
              refine k_get hx hb hts inlX6 hown hW 19 (by omega) k_c19 rfl 20 (by decide) lf_RX6_61 rfl (v := .ref (E.2.2 36)) rfl dX6_free_121 ?_
              refine lv_lload_n hx hb dX6_free_124 rfl (lv_at hl 3 rfl) ?_
              refine lv_l2i (v := (next : Int64).toInt32) hx hb dX6_free_125 rfl ?_
              refine k_iald hx hb hW 36 100 (by omega) k_c36 (v := (w2.1 36 (((next : Int64).toInt32).toNatClampNeg))) (by exact nx_in (xi2 h14).1) rfl dX6_free_126 ?_
              refine lv_iconst (v := 1) hx hb dX6_free_127 (by decide) ?_
              refine lv_icmp_ne (tgt := 135) hx hb dX6_free_128 (by decide) (fun h16 => ?_) (fun h16 => ?_)
              · refine lv_iconst (v := 0) hx hb dX6_free_135 (by decide) ?_
                refine lv_istore (lv' := [(5, .int 0), (0, .ref (E.2.2 19)), (1, .int p0), (2, .int many), (3, .long next)]) hx hb dX6_free_136 hl (by decide) rfl (fun ls hl => ?_)
                refine lv_iload hx hb dX6_free_138 (lv_at hl 0 rfl) ?_
                refine lv_if_eq (tgt := 49) hx hb dX6_free_140 (by decide) (fun _ => ?_) (fun h17 => absurd h17 (by decide))
                exact ih w2 many next 0 _ _ _ (xi0) (by first | exact xi1 | exact fo_add xi1 (xi2 h14)) (hi2) (by first | exact fo_m0 hm h4 hi1 | exact fo_m1 hm h4 hi1) hW (lv_sub hl [1, 2, 3, 4, 0] rfl) (Eq.symm (hG.symm.trans (by first | rfl | simp only [if_neg h14, if_neg h16])))
              · refine lv_iconst (v := 1) hx hb dX6_free_131 (by decide) ?_
                refine lv_goto (tgt := 136) hx hb dX6_free_132 (by decide) ?_
                refine lv_istore (lv' := [(5, .int 1), (0, .ref (E.2.2 19)), (1, .int p0), (2, .int many), (3, .long next)]) hx hb dX6_free_136 hl (by decide) rfl (fun ls hl => ?_)
                refine lv_iload hx hb dX6_free_138 (lv_at hl 0 rfl) ?_
                refine lv_if_eq (tgt := 49) hx hb dX6_free_140 (by decide) (fun h18 => absurd h18 (by decide)) (fun _ => ?_)
                refine lv_aload_n hx hb dX6_free_143 rfl (lv_at hl 1 rfl) ?_
                refine k_get hx hb hts inlX6 hown hW 19 (by omega) k_c19 rfl 29 (by decide) lf_RX6_85 rfl (v := .ref (E.2.2 44)) rfl dX6_free_144 ?_
                refine lv_iload_n hx hb dX6_free_147 rfl (lv_at hl 3 rfl) ?_
                refine lv_lload_n hx hb dX6_free_148 rfl (lv_at hl 4 rfl) ?_
                refine lv_l2i (v := (next : Int64).toInt32) hx hb dX6_free_149 rfl ?_
                refine k_iast hx hb hW 44 100 (by omega) k_c44 (by exact fo_in xi1 (xi2 h14)) dX6_free_150 (fun H locs hW => ?_)
                refine lv_iinc (v := many + 1) (lv' := [(2, .int (many + 1)), (5, .int 1), (0, .ref (E.2.2 19)), (1, .int p0), (3, .long next)]) hx hb dX6_free_151 hl (k := 3) rfl rfl (by decide) rfl (fun ls hl => ?_)
                refine lv_aload_n hx hb dX6_free_154 rfl (lv_at hl 2 rfl) ?_
                refine k_get hx hb hts inlX6 hown hW 19 (by omega) k_c19 rfl 21 (by decide) lf_RX6_64 rfl (v := .ref (E.2.2 37)) rfl dX6_free_155 ?_
                refine lv_lload_n hx hb dX6_free_158 rfl (lv_at hl 4 rfl) ?_
                refine lv_l2i (v := (next : Int64).toInt32) hx hb dX6_free_159 rfl ?_
                refine k_lald hx hb hW 37 100 (by omega) k_c37 (v := (w2.2.1 37 (((next : Int64).toInt32).toNatClampNeg))) (by exact nx_in (xi2 h14).1) rfl dX6_free_160 ?_
                refine lv_lstore_n (lv' := [(3, .long (w2.2.1 37 (((next : Int64).toInt32).toNatClampNeg))), (2, .int (many + 1)), (5, .int 1), (0, .ref (E.2.2 19)), (1, .int p0)]) hx hb dX6_free_161 rfl hl (by decide) rfl (fun ls hl => ?_)
                refine lv_goto (tgt := 49) hx hb dX6_free_162 (by decide) ?_
                exact ih (uI w2 44 many.toNatClampNeg ((next : Int64).toInt32)) (many + 1) (w2.2.1 37 (((next : Int64).toInt32).toNatClampNeg)) 1 _ _ _ ((k_J_u (by decide) xi0)) (by first | exact xi1 | exact fo_add xi1 (xi2 h14)) (hi2) (by first | exact fo_m0 hm h4 hi1 | exact fo_m1 hm h4 hi1) hW (lv_sub hl [3, 4, 1, 0, 2] rfl) (Eq.symm (hG.symm.trans (by first | rfl | simp only [if_neg h14, if_pos h16])))
          · refine lv_iconst (v := 1) hx hb dX6_free_68 (by decide) ?_
            refine lv_goto (tgt := 73) hx hb dX6_free_69 (by decide) ?_
            refine lv_istore (lv' := [(5, .int 1), (0, .ref (E.2.2 19)), (1, .int p0), (2, .int many), (3, .long next)]) hx hb dX6_free_73 hl (by decide) rfl (fun ls hl => ?_)
            refine lv_iconst (v := 0) hx hb dX6_free_75 (by decide) ?_
            refine lv_istore (lv' := [(6, .int 0), (5, .int 1), (0, .ref (E.2.2 19)), (1, .int p0), (2, .int many), (3, .long next)]) hx hb dX6_free_76 hl (by decide) rfl (fun ls hl => ?_)
            refine L78 many next (fun goes2 w2 =>
                if goes2 = 0 then
                  f_X6_free_L49 p0 k w2 many next 0
                else
                  if (w2.1 36 (((next : Int64).toInt32).toNatClampNeg)) = 1 then
                    f_X6_free_L49 p0 k (uI w2 44 many.toNatClampNeg ((next : Int64).toInt32)) (many + 1) (w2.2.1 37 (((next : Int64).toInt32).toNatClampNeg)) 1
                  else
                    f_X6_free_L49 p0 k w2 many next 0) ?_ 101 w 1 0 _ _ _ (hi0) (hi1) (by decide) (fun h9 => by first | exact absurd rfl h9 | exact ⟨fo_n0 h7 h13, fun j h => absurd h (Nat.not_lt_zero _)⟩) (by decide) hW (lv_sub hl [2, 3, 4, 5, 1, 0] rfl) (Eq.symm (hG.symm.trans (by simp only [f_X6_free_L49, if_neg h4, if_neg h7, if_neg h13])))
            intro goes2 w2 H locs ls xi0 xi1 xi2 hW hl hG
            refine lv_iload hx hb dX6_free_115 (lv_at hl 4 rfl) ?_
            refine lv_if_eq (tgt := 135) hx hb dX6_free_117 (by decide) (fun h19 => ?_) (fun h19 => ?_)
            · refine lv_iconst (v := 0) hx hb dX6_free_135 (by decide) ?_
              refine lv_istore (lv' := [(5, .int 0), (0, .ref (E.2.2 19)), (1, .int p0), (2, .int many), (3, .long next)]) hx hb dX6_free_136 hl (by decide) rfl (fun ls hl => ?_)
              refine lv_iload hx hb dX6_free_138 (lv_at hl 0 rfl) ?_
              refine lv_if_eq (tgt := 49) hx hb dX6_free_140 (by decide) (fun _ => ?_) (fun h20 => absurd h20 (by decide))
              exact ih w2 many next 0 _ _ _ (xi0) (by first | exact xi1 | exact fo_add xi1 (xi2 h19)) (hi2) (by first | exact fo_m0 hm h4 hi1 | exact fo_m1 hm h4 hi1) hW (lv_sub hl [1, 2, 3, 4, 0] rfl) (Eq.symm (hG.symm.trans (by first | rfl | simp only [if_pos h19])))
            · refine lv_aload_n hx hb dX6_free_120 rfl (lv_at hl 0 rfl) ?_
              refine k_get hx hb hts inlX6 hown hW 19 (by omega) k_c19 rfl 20 (by decide) lf_RX6_61 rfl (v := .ref (E.2.2 36)) rfl dX6_free_121 ?_
              refine lv_lload_n hx hb dX6_free_124 rfl (lv_at hl 3 rfl) ?_
              refine lv_l2i (v := (next : Int64).toInt32) hx hb dX6_free_125 rfl ?_
              refine k_iald hx hb hW 36 100 (by omega) k_c36 (v := (w2.1 36 (((next : Int64).toInt32).toNatClampNeg))) (by exact nx_in (xi2 h19).1) rfl dX6_free_126 ?_
              refine lv_iconst (v := 1) hx hb dX6_free_127 (by decide) ?_
              refine lv_icmp_ne (tgt := 135) hx hb dX6_free_128 (by decide) (fun h21 => ?_) (fun h21 => ?_)
              · refine lv_iconst (v := 0) hx hb dX6_free_135 (by decide) ?_
                refine lv_istore (lv' := [(5, .int 0), (0, .ref (E.2.2 19)), (1, .int p0), (2, .int many), (3, .long next)]) hx hb dX6_free_136 hl (by decide) rfl (fun ls hl => ?_)
                refine lv_iload hx hb dX6_free_138 (lv_at hl 0 rfl) ?_
                refine lv_if_eq (tgt := 49) hx hb dX6_free_140 (by decide) (fun _ => ?_) (fun h22 => absurd h22 (by decide))
                exact ih w2 many next 0 _ _ _ (xi0) (by first | exact xi1 | exact fo_add xi1 (xi2 h19)) (hi2) (by first | exact fo_m0 hm h4 hi1 | exact fo_m1 hm h4 hi1) hW (lv_sub hl [1, 2, 3, 4, 0] rfl) (Eq.symm (hG.symm.trans (by first | rfl | simp only [if_neg h19, if_neg h21])))
              · refine lv_iconst (v := 1) hx hb dX6_free_131 (by decide) ?_
                refine lv_goto (tgt := 136) hx hb dX6_free_132 (by decide) ?_
                refine lv_istore (lv' := [(5, .int 1), (0, .ref (E.2.2 19)), (1, .int p0), (2, .int many), (3, .long next)]) hx hb dX6_free_136 hl (by decide) rfl (fun ls hl => ?_)
                refine lv_iload hx hb dX6_free_138 (lv_at hl 0 rfl) ?_
                refine lv_if_eq (tgt := 49) hx hb dX6_free_140 (by decide) (fun h23 => absurd h23 (by decide)) (fun _ => ?_)
                refine lv_aload_n hx hb dX6_free_143 rfl (lv_at hl 1 rfl) ?_
                refine k_get hx hb hts inlX6 hown hW 19 (by omega) k_c19 rfl 29 (by decide) lf_RX6_85 rfl (v := .ref (E.2.2 44)) rfl dX6_free_144 ?_
                refine lv_iload_n hx hb dX6_free_147 rfl (lv_at hl 3 rfl) ?_
                refine lv_lload_n hx hb dX6_free_148 rfl (lv_at hl 4 rfl) ?_
                refine lv_l2i (v := (next : Int64).toInt32) hx hb dX6_free_149 rfl ?_
                refine k_iast hx hb hW 44 100 (by omega) k_c44 (by exact fo_in xi1 (xi2 h19)) dX6_free_150 (fun H locs hW => ?_)
                refine lv_iinc (v := many + 1) (lv' := [(2, .int (many + 1)), (5, .int 1), (0, .ref (E.2.2 19)), (1, .int p0), (3, .long next)]) hx hb dX6_free_151 hl (k := 3) rfl rfl (by decide) rfl (fun ls hl => ?_)
                refine lv_aload_n hx hb dX6_free_154 rfl (lv_at hl 2 rfl) ?_
                refine k_get hx hb hts inlX6 hown hW 19 (by omega) k_c19 rfl 21 (by decide) lf_RX6_64 rfl (v := .ref (E.2.2 37)) rfl dX6_free_155 ?_
                refine lv_lload_n hx hb dX6_free_158 rfl (lv_at hl 4 rfl) ?_
                refine lv_l2i (v := (next : Int64).toInt32) hx hb dX6_free_159 rfl ?_
                refine k_lald hx hb hW 37 100 (by omega) k_c37 (v := (w2.2.1 37 (((next : Int64).toInt32).toNatClampNeg))) (by exact nx_in (xi2 h19).1) rfl dX6_free_160 ?_
                refine lv_lstore_n (lv' := [(3, .long (w2.2.1 37 (((next : Int64).toInt32).toNatClampNeg))), (2, .int (many + 1)), (5, .int 1), (0, .ref (E.2.2 19)), (1, .int p0)]) hx hb dX6_free_161 rfl hl (by decide) rfl (fun ls hl => ?_)
                refine lv_goto (tgt := 49) hx hb dX6_free_162 (by decide) ?_
                exact ih (uI w2 44 many.toNatClampNeg ((next : Int64).toInt32)) (many + 1) (w2.2.1 37 (((next : Int64).toInt32).toNatClampNeg)) 1 _ _ _ ((k_J_u (by decide) xi0)) (by first | exact xi1 | exact fo_add xi1 (xi2 h19)) (hi2) (by first | exact fo_m0 hm h4 hi1 | exact fo_m1 hm h4 hi1) hW (lv_sub hl [3, 4, 1, 0, 2] rfl) (Eq.symm (hG.symm.trans (by first | rfl | simp only [if_neg h19, if_pos h21])))
  have hl : lv_has ls 7 [(0, .ref (E.2.2 19)), (1, .int p0)] := hl
  refine lv_aload_n hx hb dX6_free_0 rfl (lv_at hl 0 rfl) ?_
  refine lv_iload_n hx hb dX6_free_1 rfl (lv_at hl 1 rfl) ?_
  refine lv_iconst (v := (-1)) hx hb dX6_free_2 (by decide) ?_
  refine lv_icmp_lt (tgt := 10) hx hb dX6_free_3 (by decide) (fun h24 => ?_) (fun h24 => ?_)
  · refine lv_iconst (v := 1) hx hb dX6_free_10 (by decide) ?_
    refine k_putI hx hb hts inlX6 tyX6_ok nmX6 hown hW 19 (by omega) k_c19 rfl 0 (by decide) lf_RX6_88 rfl rfl (tyX6_ok 0 (by decide)) (Nat.le_of_ble_eq_true rfl) ks_X6_0 dX6_free_11 (fun H locs hW => ?_)
    refine lv_aload_n hx hb dX6_free_14 rfl (lv_at hl 0 rfl) ?_
    refine k_get hx hb hts inlX6 hown hW 19 (by omega) k_c19 rfl 0 (by decide) lf_RX6_88 rfl (v := .int 1) rfl dX6_free_15 ?_
    refine lv_if_le (tgt := 23) hx hb dX6_free_18 (by decide) (fun h25 => absurd h25 (by decide)) (fun _ => ?_)
    refine lv_iconst (v := 0) hx hb dX6_free_21 (by decide) ?_
    have hR : (f_X6_free z p0) = (0, (uI z 19 0 1)) := (by simp only [f_X6_free, if_pos h24])
    exact k_iret hx hb hr rfl hlocks hW ⟨by rw [hR], by rw [hR]⟩ dX6_free_22
  · refine lv_iconst (v := 0) hx hb dX6_free_6 (by decide) ?_
    refine lv_goto (tgt := 11) hx hb dX6_free_7 (by decide) ?_
    refine k_putI hx hb hts inlX6 tyX6_ok nmX6 hown hW 19 (by omega) k_c19 rfl 0 (by decide) lf_RX6_88 rfl rfl (tyX6_ok 0 (by decide)) (Nat.le_of_ble_eq_true rfl) ks_X6_0 dX6_free_11 (fun H locs hW => ?_)
    refine lv_aload_n hx hb dX6_free_14 rfl (lv_at hl 0 rfl) ?_
    refine k_get hx hb hts inlX6 hown hW 19 (by omega) k_c19 rfl 0 (by decide) lf_RX6_88 rfl (v := .int 0) rfl dX6_free_15 ?_
    refine lv_if_le (tgt := 23) hx hb dX6_free_18 (by decide) (fun _ => ?_) (fun h26 => absurd h26 (by decide))
    refine lv_iconst (v := 0) hx hb dX6_free_23 (by decide) ?_
    refine lv_istore_n (lv' := [(2, .int 0), (0, .ref (E.2.2 19)), (1, .int p0)]) hx hb dX6_free_24 rfl hl (by decide) rfl (fun ls hl => ?_)
    refine lv_aload_n hx hb dX6_free_25 rfl (lv_at hl 1 rfl) ?_
    refine k_get hx hb hts inlX6 hown hW 19 (by omega) k_c19 rfl 20 (by decide) lf_RX6_61 rfl (v := .ref (E.2.2 36)) rfl dX6_free_26 ?_
    refine lv_iconst (v := 0) hx hb dX6_free_29 (by decide) ?_
    refine k_iald hx hb hW 36 100 (by omega) k_c36 (v := (z.1 36 ((0 : Int32).toNatClampNeg))) (by exact vp_in_iff.mpr (by decide)) rfl dX6_free_30 ?_
    refine lv_iconst (v := 1) hx hb dX6_free_31 (by decide) ?_
    refine lv_icmp_ne (tgt := 44) hx hb dX6_free_32 (by decide) (fun h27 => ?_) (fun h27 => ?_)
    · refine lv_lconst (v := 0) hx hb dX6_free_44 (by decide) ?_
      refine lv_lstore_n (lv' := [(3, .long 0), (2, .int 0), (0, .ref (E.2.2 19)), (1, .int p0)]) hx hb dX6_free_45 rfl hl (by decide) rfl (fun ls hl => ?_)
      refine lv_iconst (v := 1) hx hb dX6_free_46 (by decide) ?_
      refine lv_istore (lv' := [(5, .int 1), (3, .long 0), (2, .int 0), (0, .ref (E.2.2 19)), (1, .int p0)]) hx hb dX6_free_47 hl (by decide) rfl (fun ls hl => ?_)
      exact L49 101 (uI z 19 0 0) 0 0 1 _ _ _ ((k_J_f hI)) (⟨by decide, fun i h => absurd h (Nat.not_lt_zero _), fun i j _ h => absurd h (Nat.not_lt_zero _)⟩) (h24) (by decide) hW (lv_sub hl [3, 4, 2, 1, 0] rfl) (Eq.symm (by simp only [f_X6_free, if_neg h24, if_neg h27]))
    · refine lv_aload_n hx hb dX6_free_35 rfl (lv_at hl 1 rfl) ?_
      refine k_get hx hb hts inlX6 hown hW 19 (by omega) k_c19 rfl 21 (by decide) lf_RX6_64 rfl (v := .ref (E.2.2 37)) rfl dX6_free_36 ?_
      refine lv_iconst (v := 0) hx hb dX6_free_39 (by decide) ?_
      refine k_lald hx hb hW 37 100 (by omega) k_c37 (v := (z.2.1 37 ((0 : Int32).toNatClampNeg))) (by exact vp_in_iff.mpr (by decide)) rfl dX6_free_40 ?_
      refine lv_goto (tgt := 45) hx hb dX6_free_41 (by decide) ?_
      refine lv_lstore_n (lv' := [(3, .long (z.2.1 37 ((0 : Int32).toNatClampNeg))), (2, .int 0), (0, .ref (E.2.2 19)), (1, .int p0)]) hx hb dX6_free_45 rfl hl (by decide) rfl (fun ls hl => ?_)
      refine lv_iconst (v := 1) hx hb dX6_free_46 (by decide) ?_
      refine lv_istore (lv' := [(5, .int 1), (3, .long (z.2.1 37 ((0 : Int32).toNatClampNeg))), (2, .int 0), (0, .ref (E.2.2 19)), (1, .int p0)]) hx hb dX6_free_47 hl (by decide) rfl (fun ls hl => ?_)
      exact L49 101 (uI z 19 0 0) 0 (z.2.1 37 ((0 : Int32).toNatClampNeg)) 1 _ _ _ ((k_J_f hI)) (⟨by decide, fun i h => absurd h (Nat.not_lt_zero _), fun i j _ h => absurd h (Nat.not_lt_zero _)⟩) (h24) (by decide) hW (lv_sub hl [3, 4, 2, 1, 0] rfl) (Eq.symm (by simp only [f_X6_free, if_neg h24, if_pos h27]))
