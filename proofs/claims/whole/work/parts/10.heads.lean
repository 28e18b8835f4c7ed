def f_X5_isObject (z : Sg) (p0 : Int64) : Int32 :=
  if p0 < 0 then
    0
  else
    if (100 : Int64) ≤ p0 then
      0
    else
      1
set_option maxHeartbeats 4000000 in
set_option maxRecDepth 100000 in
theorem c_X5_isObject (l : Launch) (E : Ev) (S sz : Nat) (z : Sg) (p0 : Int64) : k_Met l yX5_isObject cX5_isObject 2 (some .boolean) ({ frames := 0, cells := 0, slots := 0, locals := 0 }) [.long p0] E (46 + 6 * S) z sz (fun v u => v = some (.int (f_X5_isObject z p0)) ∧ u = z) 0 0 := by
  refine k_body (by decide +kernel) (Nat.le_of_ble_eq_true rfl) ?_
  intro p e s m below meth cd ls hx hb hr hml hown hlocks hts hW hl
  have hl : lv_has ls 2 [(0, .long p0)] := hl
  refine lv_lload_n hx hb dX5_isObject_0 rfl (lv_at hl 0 rfl) ?_
  refine lv_lconst (v := 0) hx hb dX5_isObject_1 (by decide) ?_
  refine k_lif_lt (tgt := 18) hx hb dX5_isObject_2 dX5_isObject_3 (by decide) (fun h1 => ?_) (fun h1 => ?_)
  · refine lv_iconst (v := 0) hx hb dX5_isObject_18 (by decide) ?_
    have hR : (f_X5_isObject z p0) = 0 := (by simp only [f_X5_isObject, if_pos h1])
    exact k_iret hx hb hr rfl hlocks hW ⟨by rw [hR], rfl⟩ dX5_isObject_19
  · refine lv_lload_n hx hb dX5_isObject_6 rfl (lv_at hl 0 rfl) ?_
    refine lv_ldc2 (v := 100) hx hb hown (hts _ lc_RX5_240) dX5_isObject_7 ?_
    refine k_lif_ge (tgt := 18) hx hb dX5_isObject_10 dX5_isObject_11 (by decide) (fun h2 => ?_) (fun h2 => ?_)
    · refine lv_iconst (v := 0) hx hb dX5_isObject_18 (by decide) ?_
      have hR : (f_X5_isObject z p0) = 0 := (by simp only [f_X5_isObject, if_neg h1, if_pos h2])
      exact k_iret hx hb hr rfl hlocks hW ⟨by rw [hR], rfl⟩ dX5_isObject_19
    · refine lv_iconst (v := 1) hx hb dX5_isObject_14 (by decide) ?_
      refine lv_goto (tgt := 19) hx hb dX5_isObject_15 (by decide) ?_
      have hR : (f_X5_isObject z p0) = 1 := (by simp only [f_X5_isObject, if_neg h1, if_neg h2])
      exact k_iret hx hb hr rfl hlocks hW ⟨by rw [hR], rfl⟩ dX5_isObject_19

def f_X5_isKey (z : Sg) (p0 : Int32) : Int32 :=
  if p0 < 0 then
    0
  else
    if (10 : Int32) ≤ p0 then
      0
    else
      1
set_option maxHeartbeats 4000000 in
set_option maxRecDepth 100000 in
theorem c_X5_isKey (l : Launch) (E : Ev) (S sz : Nat) (z : Sg) (p0 : Int32) : k_Met l yX5_isKey cX5_isKey 1 (some .boolean) ({ frames := 0, cells := 0, slots := 0, locals := 0 }) [.int p0] E (46 + 6 * S) z sz (fun v u => v = some (.int (f_X5_isKey z p0)) ∧ u = z) 0 0 := by
  refine k_body (by decide +kernel) (Nat.le_of_ble_eq_true rfl) ?_
  intro p e s m below meth cd ls hx hb hr hml hown hlocks hts hW hl
  have hl : lv_has ls 1 [(0, .int p0)] := hl
  refine lv_iload_n hx hb dX5_isKey_0 rfl (lv_at hl 0 rfl) ?_
  refine lv_if_lt (tgt := 14) hx hb dX5_isKey_1 (by decide) (fun h1 => ?_) (fun h1 => ?_)
  · refine lv_iconst (v := 0) hx hb dX5_isKey_14 (by decide) ?_
    have hR : (f_X5_isKey z p0) = 0 := (by simp only [f_X5_isKey, if_pos h1])
    exact k_iret hx hb hr rfl hlocks hW ⟨by rw [hR], rfl⟩ dX5_isKey_15
  · refine lv_iload_n hx hb dX5_isKey_4 rfl (lv_at hl 0 rfl) ?_
    refine lv_bipush (v := 10) hx hb dX5_isKey_5 (by decide) ?_
    refine lv_icmp_ge (tgt := 14) hx hb dX5_isKey_7 (by decide) (fun h2 => ?_) (fun h2 => ?_)
    · refine lv_iconst (v := 0) hx hb dX5_isKey_14 (by decide) ?_
      have hR : (f_X5_isKey z p0) = 0 := (by simp only [f_X5_isKey, if_neg h1, if_pos h2])
      exact k_iret hx hb hr rfl hlocks hW ⟨by rw [hR], rfl⟩ dX5_isKey_15
    · refine lv_iconst (v := 1) hx hb dX5_isKey_10 (by decide) ?_
      refine lv_goto (tgt := 15) hx hb dX5_isKey_11 (by decide) ?_
      have hR : (f_X5_isKey z p0) = 1 := (by simp only [f_X5_isKey, if_neg h1, if_neg h2])
      exact k_iret hx hb hr rfl hlocks hW ⟨by rw [hR], rfl⟩ dX5_isKey_15

def f_X5_isPlace (z : Sg) (p0 : Int64) : Int32 :=
  if p0 < 0 then
    0
  else
    if (9999999999 : Int64) < p0 then
      0
    else
      1
set_option maxHeartbeats 4000000 in
set_option maxRecDepth 100000 in
theorem c_X5_isPlace (l : Launch) (E : Ev) (S sz : Nat) (z : Sg) (p0 : Int64) : k_Met l yX5_isPlace cX5_isPlace 2 (some .boolean) ({ frames := 0, cells := 0, slots := 0, locals := 0 }) [.long p0] E (46 + 6 * S) z sz (fun v u => v = some (.int (f_X5_isPlace z p0)) ∧ u = z) 0 0 := by
  refine k_body (by decide +kernel) (Nat.le_of_ble_eq_true rfl) ?_
  intro p e s m below meth cd ls hx hb hr hml hown hlocks hts hW hl
  have hl : lv_has ls 2 [(0, .long p0)] := hl
  refine lv_lload_n hx hb dX5_isPlace_0 rfl (lv_at hl 0 rfl) ?_
  refine lv_lconst (v := 0) hx hb dX5_isPlace_1 (by decide) ?_
  refine k_lif_lt (tgt := 18) hx hb dX5_isPlace_2 dX5_isPlace_3 (by decide) (fun h1 => ?_) (fun h1 => ?_)
  · refine lv_iconst (v := 0) hx hb dX5_isPlace_18 (by decide) ?_
    have hR : (f_X5_isPlace z p0) = 0 := (by simp only [f_X5_isPlace, if_pos h1])
    exact k_iret hx hb hr rfl hlocks hW ⟨by rw [hR], rfl⟩ dX5_isPlace_19
  · refine lv_lload_n hx hb dX5_isPlace_6 rfl (lv_at hl 0 rfl) ?_
    refine lv_ldc2 (v := 9999999999) hx hb hown (hts _ lc_RX5_238) dX5_isPlace_7 ?_
    refine k_lif_gt (tgt := 18) hx hb dX5_isPlace_10 dX5_isPlace_11 (by decide) (fun h2 => ?_) (fun h2 => ?_)
    · refine lv_iconst (v := 0) hx hb dX5_isPlace_18 (by decide) ?_
      have hR : (f_X5_isPlace z p0) = 0 := (by simp only [f_X5_isPlace, if_neg h1, if_pos h2])
      exact k_iret hx hb hr rfl hlocks hW ⟨by rw [hR], rfl⟩ dX5_isPlace_19
    · refine lv_iconst (v := 1) hx hb dX5_isPlace_14 (by decide) ?_
      refine lv_goto (tgt := 19) hx hb dX5_isPlace_15 (by decide) ?_
      have hR : (f_X5_isPlace z p0) = 1 := (by simp only [f_X5_isPlace, if_neg h1, if_neg h2])
      exact k_iret hx hb hr rfl hlocks hW ⟨by rw [hR], rfl⟩ dX5_isPlace_19

def f_X5_isPlaceOrNone (z : Sg) (p0 : Int64) : Int32 :=
  if p0 = (-1) then
    1
  else
    if (f_X5_isPlace z p0) = 0 then
      0
    else
      1
set_option maxHeartbeats 4000000 in
set_option maxRecDepth 100000 in
theorem c_X5_isPlaceOrNone (l : Launch) (E : Ev) (S sz : Nat) (z : Sg) (p0 : Int64) : k_Met l yX5_isPlaceOrNone cX5_isPlaceOrNone 2 (some .boolean) ({ frames := 1, cells := 0, slots := 0, locals := 21 }) [.long p0] E (46 + 6 * S) z sz (fun v u => v = some (.int (f_X5_isPlaceOrNone z p0)) ∧ u = z) 0 0 := by
  refine k_body (by decide +kernel) (Nat.le_of_ble_eq_true rfl) ?_
  intro p e s m below meth cd ls hx hb hr hml hown hlocks hts hW hl
  have hl : lv_has ls 2 [(0, .long p0)] := hl
  refine lv_lload_n hx hb dX5_isPlaceOrNone_0 rfl (lv_at hl 0 rfl) ?_
  refine lv_ldc2 (v := (-1)) hx hb hown (hts _ lc_RX5_194) dX5_isPlaceOrNone_1 ?_
  refine k_lif_eq (tgt := 15) hx hb dX5_isPlaceOrNone_4 dX5_isPlaceOrNone_5 (by decide) (fun h1 => ?_) (fun h1 => ?_)
  · refine lv_iconst (v := 1) hx hb dX5_isPlaceOrNone_15 (by decide) ?_
    refine lv_goto (tgt := 20) hx hb dX5_isPlaceOrNone_16 (by decide) ?_
    have hR : (f_X5_isPlaceOrNone z p0) = 1 := (by simp only [f_X5_isPlaceOrNone, if_pos h1])
    exact k_iret hx hb hr rfl hlocks hW ⟨by rw [hR], rfl⟩ dX5_isPlaceOrNone_20
  · refine lv_lload_n hx hb dX5_isPlaceOrNone_8 rfl (lv_at hl 0 rfl) ?_
    refine k_callS (rest := []) hx hb hml hown hts (c_X5_isPlace l E S _ z p0) lm_RX5_49 ls_X5_isPlace li_X5 lk_X5_isPlace (show k_nm yX5_isPlace 1 by decide +kernel) ⟨Nat.le_of_ble_eq_true rfl, Nat.le_of_ble_eq_true rfl⟩ rfl rfl ⟨Nat.le_of_ble_eq_true rfl, Nat.le_of_ble_eq_true rfl⟩ hl.1 rfl (Nat.le_of_ble_eq_true rfl) dX5_isPlaceOrNone_9 hW (fun v z1 H locs hp hW => ?_)
    obtain ⟨rfl, hz1⟩ := hp
    rw [hz1] at hW
    refine W.eq (g2 := F0 m 12 ls [.int (f_X5_isPlace z p0)]) rfl ?_
    refine lv_if_eq (tgt := 19) hx hb dX5_isPlaceOrNone_12 (by decide) (fun h2 => ?_) (fun h2 => ?_)
    · refine lv_iconst (v := 0) hx hb dX5_isPlaceOrNone_19 (by decide) ?_
      have hR : (f_X5_isPlaceOrNone z p0) = 0 := (by simp only [f_X5_isPlaceOrNone, if_neg h1, if_pos h2])
      exact k_iret hx hb hr rfl hlocks hW ⟨by rw [hR], rfl⟩ dX5_isPlaceOrNone_20
    · refine lv_iconst (v := 1) hx hb dX5_isPlaceOrNone_15 (by decide) ?_
      refine lv_goto (tgt := 20) hx hb dX5_isPlaceOrNone_16 (by decide) ?_
      have hR : (f_X5_isPlaceOrNone z p0) = 1 := (by simp only [f_X5_isPlaceOrNone, if_neg h1, if_neg h2])
      exact k_iret hx hb hr rfl hlocks hW ⟨by rw [hR], rfl⟩ dX5_isPlaceOrNone_20

def f_X5_isWidth (z : Sg) (p0 : Int32) : Int32 :=
  if p0 < 0 then
    0
  else
    if (4 : Int32) < p0 then
      0
    else
      1
set_option maxHeartbeats 4000000 in
set_option maxRecDepth 100000 in
theorem c_X5_isWidth (l : Launch) (E : Ev) (S sz : Nat) (z : Sg) (p0 : Int32) : k_Met l yX5_isWidth cX5_isWidth 1 (some .boolean) ({ frames := 0, cells := 0, slots := 0, locals := 0 }) [.int p0] E (46 + 6 * S) z sz (fun v u => v = some (.int (f_X5_isWidth z p0)) ∧ u = z) 0 0 := by
  refine k_body (by decide +kernel) (Nat.le_of_ble_eq_true rfl) ?_
  intro p e s m below meth cd ls hx hb hr hml hown hlocks hts hW hl
  have hl : lv_has ls 1 [(0, .int p0)] := hl
  refine lv_iload_n hx hb dX5_isWidth_0 rfl (lv_at hl 0 rfl) ?_
  refine lv_if_lt (tgt := 13) hx hb dX5_isWidth_1 (by decide) (fun h1 => ?_) (fun h1 => ?_)
  · refine lv_iconst (v := 0) hx hb dX5_isWidth_13 (by decide) ?_
    have hR : (f_X5_isWidth z p0) = 0 := (by simp only [f_X5_isWidth, if_pos h1])
    exact k_iret hx hb hr rfl hlocks hW ⟨by rw [hR], rfl⟩ dX5_isWidth_14
  · refine lv_iload_n hx hb dX5_isWidth_4 rfl (lv_at hl 0 rfl) ?_
    refine lv_iconst (v := 4) hx hb dX5_isWidth_5 (by decide) ?_
    refine lv_icmp_gt (tgt := 13) hx hb dX5_isWidth_6 (by decide) (fun h2 => ?_) (fun h2 => ?_)
    · refine lv_iconst (v := 0) hx hb dX5_isWidth_13 (by decide) ?_
      have hR : (f_X5_isWidth z p0) = 0 := (by simp only [f_X5_isWidth, if_neg h1, if_pos h2])
      exact k_iret hx hb hr rfl hlocks hW ⟨by rw [hR], rfl⟩ dX5_isWidth_14
    · refine lv_iconst (v := 1) hx hb dX5_isWidth_9 (by decide) ?_
      refine lv_goto (tgt := 14) hx hb dX5_isWidth_10 (by decide) ?_
      have hR : (f_X5_isWidth z p0) = 1 := (by simp only [f_X5_isWidth, if_neg h1, if_neg h2])
      exact k_iret hx hb hr rfl hlocks hW ⟨by rw [hR], rfl⟩ dX5_isWidth_14

theorem obj_tf {z : Sg} {p0 : Int64} (h : ¬ f_X5_isObject z p0 = 0) : ¬ p0 < 0 ∧ ¬ (100 : Int64) ≤ p0 := by
  unfold f_X5_isObject at h
  by_cases a : p0 < 0
  · rw [if_pos a] at h; exact absurd rfl h
  · by_cases b : (100 : Int64) ≤ p0
    · rw [if_neg a, if_pos b] at h; exact absurd rfl h
    · exact ⟨a, b⟩
theorem obj_ti {z : Sg} {p0 : Int64} (h : ¬ f_X5_isObject z p0 = 0) : 0 ≤ p0.toInt ∧ p0.toInt < 100 := by
  obtain ⟨a, b⟩ := obj_tf h
  simp only [Int64.lt_iff_toInt_lt, Int64.le_iff_toInt_le] at a b
  have e1 : (0 : Int64).toInt = 0 := rfl
  have e2 : (100 : Int64).toInt = 100 := rfl
  omega
theorem obj_in {z : Sg} {p0 : Int64} (h : ¬ f_X5_isObject z p0 = 0) : vp_in p0.toInt32 100 := by
  have h1 := obj_ti h
  rw [vp_in_iff, l2i_small h1.1 (by omega)]
  omega
theorem obj_inI {z : Sg} {p0 : Int32} (h : ¬ f_X5_isObject z p0.toInt64 = 0) : vp_in p0 100 := by
  have h1 := obj_ti h
  rw [i_2l] at h1
  rw [vp_in_iff]
  omega
theorem key_in {z : Sg} {p0 : Int32} (h : ¬ f_X5_isKey z p0 = 0) : vp_in p0 10 := by
  unfold f_X5_isKey at h
  by_cases a : p0 < 0
  · rw [if_pos a] at h; exact absurd rfl h
  · by_cases b : (10 : Int32) ≤ p0
    · rw [if_neg a, if_pos b] at h; exact absurd rfl h
    · rw [vp_in_iff]
      simp only [Int32.lt_iff_toInt_lt, Int32.le_iff_toInt_le] at a b
      have e1 : (0 : Int32).toInt = 0 := rfl
      have e2 : (10 : Int32).toInt = 10 := rfl
      omega
theorem in_ltp {x m : Int32} {n : Nat} (h0 : 0 ≤ x.toInt) (h1 : x < m) (hm : m.toInt = n) : vp_in x n := by
  refine vp_in_iff.mpr ⟨h0, ?_⟩
  simp only [Int32.lt_iff_toInt_lt] at h1
  omega

def f_X0_indexAt_L2 (z : Sg) (p0 : Int64) : Nat → Int32 → Int32
  | 0, _ => 0
  | k + 1, i =>
    if (z.1 2 3) ≤ i then
      (z.1 2 3)
    else
      if (z.2.1 3 i.toNatClampNeg) = p0 then
        i
      else
        f_X0_indexAt_L2 z p0 k (i + 1)
termination_by k9 => k9
def f_X0_indexAt (z : Sg) (p0 : Int64) : Int32 :=
  f_X0_indexAt_L2 z p0 61 0
set_option maxHeartbeats 4000000 in
set_option maxRecDepth 100000 in
theorem c_X0_indexAt (l : Launch) (E : Ev) (S sz : Nat) (z : Sg) (p0 : Int64) (hc : (z.1 2 3).toInt ≤ 60) : k_Met l yX0_indexAt cX0_indexAt 4 (some .int) ({ frames := 0, cells := 0, slots := 0, locals := 0 }) [.ref (E.2.2 2), .long p0] E (46 + 6 * S) z sz (fun v u => v = some (.int (f_X0_indexAt z p0)) ∧ u = z) 0 0 := by
  refine k_body (by decide +kernel) (Nat.le_of_ble_eq_true rfl) ?_
  intro p e s m below meth cd ls hx hb hr hml hown hlocks hts hW hl
  have L2 : ∀ (k : Nat) (i : Int32) (H : Heap) (locs : List Loc) (ls : Array Slot), (0 ≤ i.toInt) → 60 - i.toInt.toNat < k → k_W E (46 + 6 * S) z (k_A E (46 + 6 * S) z s.heap.size) s H locs → lv_has ls 4 [(0, .ref (E.2.2 2)), (1, .long p0), (3, .int i)] → f_X0_indexAt_L2 z p0 k i = (f_X0_indexAt z p0) → W p l e ({ frames := 0, cells := 0, slots := 0, locals := 0 }) s m ([.ref (E.2.2 2), .long p0] : List Value).toArray below meth cd H locs 0 0 (MQ below (k_Q (fun v u => v = some (.int (f_X0_indexAt z p0)) ∧ u = z) E (46 + 6 * S) z s.heap.size) ([.ref (E.2.2 2), .long p0] : List Value).toArray s 0 0 (k_A E (46 + 6 * S) z s.heap.size)) (F0 m 2 ls []) := by
    intro k
    induction k with
    | zero =>
      intro i H locs ls hi0 hm
      exact absurd hm (Nat.not_lt_zero _)
    | succ k ih =>
      intro i H locs ls hi0 hm hW hl hG
      refine lv_iload_n hx hb dX0_indexAt_2 rfl (lv_at hl 2 rfl) ?_
      refine lv_aload_n hx hb dX0_indexAt_3 rfl (lv_at hl 0 rfl) ?_
      refine k_get hx hb hts inlX0 hown hW 2 (by omega) k_c2 rfl 3 (by decide) lf_RX0_22 rfl (v := .int (z.1 2 3)) rfl dX0_indexAt_4 ?_
      refine lv_icmp_ge (tgt := 29) hx hb dX0_indexAt_7 (by decide) (fun h1 => ?_) (fun h1 => ?_)
      · refine lv_aload_n hx hb dX0_indexAt_29 rfl (lv_at hl 0 rfl) ?_
        refine k_get hx hb hts inlX0 hown hW 2 (by omega) k_c2 rfl 3 (by decide) lf_RX0_22 rfl (v := .int (z.1 2 3)) rfl dX0_indexAt_30 ?_
        have hR : (f_X0_indexAt z p0) = (z.1 2 3) := (hG.symm.trans (by simp only [f_X0_indexAt_L2, if_pos h1]))
        exact k_iret hx hb hr rfl hlocks hW ⟨by rw [hR], rfl⟩ dX0_indexAt_33
      · refine lv_aload_n hx hb dX0_indexAt_10 rfl (lv_at hl 0 rfl) ?_
        refine k_get hx hb hts inlX0 hown hW 2 (by omega) k_c2 rfl 0 (by decide) lf_RX0_9 rfl (v := .ref (E.2.2 3)) rfl dX0_indexAt_11 ?_
        refine lv_iload_n hx hb dX0_indexAt_14 rfl (lv_at hl 2 rfl) ?_
        refine k_lald hx hb hW 3 60 (by omega) k_c3 (v := (z.2.1 3 i.toNatClampNeg)) (by exact in_lt3 hi0 h1 hc) rfl dX0_indexAt_15 ?_
        refine lv_lload_n hx hb dX0_indexAt_16 rfl (lv_at hl 1 rfl) ?_
        refine k_lif_ne (tgt := 23) hx hb dX0_indexAt_17 dX0_indexAt_18 (by decide) (fun h2 => ?_) (fun h2 => ?_)
        · refine lv_iinc (v := i + 1) (lv' := [(3, .int (i + 1)), (0, .ref (E.2.2 2)), (1, .long p0)]) hx hb dX0_indexAt_23 hl (k := 2) rfl rfl (by decide) rfl (fun ls hl => ?_)
          refine lv_goto (tgt := 2) hx hb dX0_indexAt_26 (by decide) ?_
          exact ih (i + 1) _ _ _ (in_s0 hi0 h1 hc) (in_sm hi0 h1 hc hm) hW (lv_sub hl [1, 2, 0] rfl) (Eq.symm (hG.symm.trans (by simp only [f_X0_indexAt_L2, if_neg h1, if_neg h2])))
        · refine lv_iload_n hx hb dX0_indexAt_21 rfl (lv_at hl 2 rfl) ?_
          have hR : (f_X0_indexAt z p0) = i := (hG.symm.trans (by simp only [f_X0_indexAt_L2, if_neg h1, if_pos h2]))
          exact k_iret hx hb hr rfl hlocks hW ⟨by rw [hR], rfl⟩ dX0_indexAt_22
  have hl : lv_has ls 4 [(0, .ref (E.2.2 2)), (1, .long p0)] := hl
  refine lv_iconst (v := 0) hx hb dX0_indexAt_0 (by decide) ?_
  refine lv_istore_n (lv' := [(3, .int 0), (0, .ref (E.2.2 2)), (1, .long p0)]) hx hb dX0_indexAt_1 rfl hl (by decide) rfl (fun ls hl => ?_)
  exact L2 61 0 _ _ _ (by decide) (by decide) hW (lv_sub hl [1, 2, 0] rfl) (Eq.symm (by simp only [f_X0_indexAt]))

theorem b_indexAt {z : Sg} {p0 : Int64} (h0 : 0 ≤ (z.1 2 3).toInt) : ∀ (k : Nat) (i : Int32), 0 ≤ i.toInt → i.toInt ≤ (z.1 2 3).toInt → 60 - i.toInt.toNat < k → (z.1 2 3).toInt ≤ 60 → 0 ≤ (f_X0_indexAt_L2 z p0 k i).toInt ∧ (f_X0_indexAt_L2 z p0 k i).toInt ≤ (z.1 2 3).toInt := by
  intro k
  induction k with
  | zero => intro i _ _ h; exact absurd h (Nat.not_lt_zero _)
  | succ k ih =>
    intro i h1 h2 h3 hc
    rw [f_X0_indexAt_L2]
    by_cases g : (z.1 2 3) ≤ i
    · rw [if_pos g]; exact ⟨h0, Int.le_refl _⟩
    · rw [if_neg g]
      split
      · exact ⟨h1, h2⟩
      · refine ih (i + 1) (in_s0 h1 g hc) ?_ (in_sm h1 g hc h3) hc
        rw [i_add1 g]
        simp only [Int32.le_iff_toInt_le] at g
        omega
theorem b_X0_indexAt {S : Nat} {z : Sg} {p0 : Int64} (hI : k_I S z) : 0 ≤ (f_X0_indexAt z p0).toInt ∧ (f_X0_indexAt z p0).toInt ≤ (z.1 2 3).toInt := b_indexAt hI.2.1.1 61 0 (by decide) hI.2.1.1 (by decide) hI.2.1.2

def f_X0_hasRoomFor (z : Sg) (p0 : Int64) : Int32 :=
  if (60 : Int32) ≤ (f_X0_indexAt z p0) then
    0
  else
    1
set_option maxHeartbeats 4000000 in
set_option maxRecDepth 100000 in
theorem c_X0_hasRoomFor (l : Launch) (E : Ev) (S sz : Nat) (z : Sg) (p0 : Int64) (hI : k_I S z) : k_Met l yX0_hasRoomFor cX0_hasRoomFor 3 (some .boolean) ({ frames := 1, cells := 0, slots := 0, locals := 23 }) [.ref (E.2.2 2), .long p0] E (46 + 6 * S) z sz (fun v u => v = some (.int (f_X0_hasRoomFor z p0)) ∧ u = z) 0 0 := by
  refine k_body (by decide +kernel) (Nat.le_of_ble_eq_true rfl) ?_
  intro p e s m below meth cd ls hx hb hr hml hown hlocks hts hW hl
  have hl : lv_has ls 3 [(0, .ref (E.2.2 2)), (1, .long p0)] := hl
  refine lv_aload_n hx hb dX0_hasRoomFor_0 rfl (lv_at hl 0 rfl) ?_
  refine lv_lload_n hx hb dX0_hasRoomFor_1 rfl (lv_at hl 1 rfl) ?_
  refine k_callV (As := [.long p0]) (rest := []) hx hb hml hown hts (c_X0_indexAt l E S _ z p0 hI.2.1.2) lm_RX0_26 ln_X0_indexAt le_X0_indexAt li_X0 lk_X0_indexAt (show k_nm yX0_indexAt 1 by decide +kernel) ⟨Nat.le_of_ble_eq_true rfl, Nat.le_of_ble_eq_true rfl⟩ rfl rfl ⟨Nat.le_of_ble_eq_true rfl, Nat.le_of_ble_eq_true rfl⟩ hl.1 rfl (Nat.le_of_ble_eq_true rfl) dX0_hasRoomFor_2 (by omega) (k_c2 _ _ _) rfl hW (fun v z1 H locs hp hW => ?_)
  obtain ⟨rfl, hz1⟩ := hp
  rw [hz1] at hW
  refine W.eq (g2 := F0 m 5 ls [.int (f_X0_indexAt z p0)]) rfl ?_
  refine lv_bipush (v := 60) hx hb dX0_hasRoomFor_5 (by decide) ?_
  refine lv_icmp_ge (tgt := 14) hx hb dX0_hasRoomFor_7 (by decide) (fun h1 => ?_) (fun h1 => ?_)
  · refine lv_iconst (v := 0) hx hb dX0_hasRoomFor_14 (by decide) ?_
    have hR : (f_X0_hasRoomFor z p0) = 0 := (by simp only [f_X0_hasRoomFor, if_pos h1])
    exact k_iret hx hb hr rfl hlocks hW ⟨by rw [hR], rfl⟩ dX0_hasRoomFor_15
  · refine lv_iconst (v := 1) hx hb dX0_hasRoomFor_10 (by decide) ?_
    refine lv_goto (tgt := 15) hx hb dX0_hasRoomFor_11 (by decide) ?_
    have hR : (f_X0_hasRoomFor z p0) = 1 := (by simp only [f_X0_hasRoomFor, if_neg h1])
    exact k_iret hx hb hr rfl hlocks hW ⟨by rw [hR], rfl⟩ dX0_hasRoomFor_15

def f_X0_put (z : Sg) (p0 : Int64) (p1 : Int32) (p2 : Int32) : Sg :=
  if (f_X0_indexAt z p0) < 60 then
    if (f_X0_indexAt z p0) = (z.1 2 3) then
      (uI (uI (uI (uJ z 3 ((f_X0_indexAt z p0).toNatClampNeg) p0) 4 ((f_X0_indexAt z p0).toNatClampNeg) p1) 5 ((f_X0_indexAt z p0).toNatClampNeg) p2) 2 3 ((z.1 2 3) + 1))
    else
      (uI (uI (uJ z 3 ((f_X0_indexAt z p0).toNatClampNeg) p0) 4 ((f_X0_indexAt z p0).toNatClampNeg) p1) 5 ((f_X0_indexAt z p0).toNatClampNeg) p2)
  else
    z
set_option maxHeartbeats 4000000 in
set_option maxRecDepth 100000 in
theorem c_X0_put (l : Launch) (E : Ev) (S sz : Nat) (z : Sg) (p0 : Int64) (p1 : Int32) (p2 : Int32) (hI : k_I S z) : k_Met l yX0_put cX0_put 6 none ({ frames := 1, cells := 0, slots := 0, locals := 23 }) [.ref (E.2.2 2), .long p0, .int p1, .int p2] E (46 + 6 * S) z sz (fun v u => v = none ∧ u = (f_X0_put z p0 p1 p2)) 0 0 := by
  refine k_body (by decide +kernel) (Nat.le_of_ble_eq_true rfl) ?_
  intro p e s m below meth cd ls hx hb hr hml hown hlocks hts hW hl
  have hl : lv_has ls 6 [(0, .ref (E.2.2 2)), (1, .long p0), (3, .int p1), (4, .int p2)] := hl
  refine lv_aload_n hx hb dX0_put_0 rfl (lv_at hl 0 rfl) ?_
  refine lv_lload_n hx hb dX0_put_1 rfl (lv_at hl 1 rfl) ?_
  refine k_callV (As := [.long p0]) (rest := []) hx hb hml hown hts (c_X0_indexAt l E S _ z p0 hI.2.1.2) lm_RX0_26 ln_X0_indexAt le_X0_indexAt li_X0 lk_X0_indexAt (show k_nm yX0_indexAt 1 by decide +kernel) ⟨Nat.le_of_ble_eq_true rfl, Nat.le_of_ble_eq_true rfl⟩ rfl rfl ⟨Nat.le_of_ble_eq_true rfl, Nat.le_of_ble_eq_true rfl⟩ hl.1 rfl (Nat.le_of_ble_eq_true rfl) dX0_put_2 (by omega) (k_c2 _ _ _) rfl hW (fun v z1 H locs hp hW => ?_)
  obtain ⟨rfl, hz1⟩ := hp
  rw [hz1] at hW
  refine W.eq (g2 := F0 m 5 ls [.int (f_X0_indexAt z p0)]) rfl ?_
  refine lv_istore (lv' := [(5, .int (f_X0_indexAt z p0)), (0, .ref (E.2.2 2)), (1, .long p0), (3, .int p1), (4, .int p2)]) hx hb dX0_put_5 hl (by decide) rfl (fun ls hl => ?_)
  refine lv_iload hx hb dX0_put_7 (lv_at hl 0 rfl) ?_
  refine lv_bipush (v := 60) hx hb dX0_put_9 (by decide) ?_
  refine lv_icmp_lt (tgt := 15) hx hb dX0_put_11 (by decide) (fun h1 => ?_) (fun h1 => ?_)
  · refine lv_aload_n hx hb dX0_put_15 rfl (lv_at hl 1 rfl) ?_
    refine k_get hx hb hts inlX0 hown hW 2 (by omega) k_c2 rfl 0 (by decide) lf_RX0_9 rfl (v := .ref (E.2.2 3)) rfl dX0_put_16 ?_
    refine lv_iload hx hb dX0_put_19 (lv_at hl 0 rfl) ?_
    refine lv_lload_n hx hb dX0_put_21 rfl (lv_at hl 2 rfl) ?_
    refine k_last hx hb hW 3 60 (by omega) k_c3 (by exact in_ltp (b_X0_indexAt hI).1 h1 rfl) dX0_put_22 (fun H locs hW => ?_)
    refine lv_aload_n hx hb dX0_put_23 rfl (lv_at hl 1 rfl) ?_
    refine k_get hx hb hts inlX0 hown hW 2 (by omega) k_c2 rfl 1 (by decide) lf_RX0_15 rfl (v := .ref (E.2.2 4)) rfl dX0_put_24 ?_
    refine lv_iload hx hb dX0_put_27 (lv_at hl 0 rfl) ?_
    refine lv_iload_n hx hb dX0_put_29 rfl (lv_at hl 3 rfl) ?_
    refine k_iast hx hb hW 4 60 (by omega) k_c4 (by exact in_ltp (b_X0_indexAt hI).1 h1 rfl) dX0_put_30 (fun H locs hW => ?_)
    refine lv_aload_n hx hb dX0_put_31 rfl (lv_at hl 1 rfl) ?_
    refine k_get hx hb hts inlX0 hown hW 2 (by omega) k_c2 rfl 2 (by decide) lf_RX0_19 rfl (v := .ref (E.2.2 5)) rfl dX0_put_32 ?_
    refine lv_iload hx hb dX0_put_35 (lv_at hl 0 rfl) ?_
    refine lv_iload hx hb dX0_put_37 (lv_at hl 4 rfl) ?_
    refine k_iast hx hb hW 5 60 (by omega) k_c5 (by exact in_ltp (b_X0_indexAt hI).1 h1 rfl) dX0_put_39 (fun H locs hW => ?_)
    refine lv_iload hx hb dX0_put_40 (lv_at hl 0 rfl) ?_
    refine lv_aload_n hx hb dX0_put_42 rfl (lv_at hl 1 rfl) ?_
    refine k_get hx hb hts inlX0 hown hW 2 (by omega) k_c2 rfl 3 (by decide) lf_RX0_22 rfl (v := .int (z.1 2 3)) rfl dX0_put_43 ?_
    refine lv_icmp_ne (tgt := 59) hx hb dX0_put_46 (by decide) (fun h2 => ?_) (fun h2 => ?_)
    · have hR : (f_X0_put z p0 p1 p2) = (uI (uI (uJ z 3 ((f_X0_indexAt z p0).toNatClampNeg) p0) 4 ((f_X0_indexAt z p0).toNatClampNeg) p1) 5 ((f_X0_indexAt z p0).toNatClampNeg) p2) := (by simp only [f_X0_put, if_pos h1, if_neg h2])
      exact k_vret hx hb hr hlocks hW ⟨rfl, by rw [hR]⟩ dX0_put_59
    · refine lv_aload_n hx hb dX0_put_49 rfl (lv_at hl 1 rfl) ?_
      refine lv_dup hx hb dX0_put_50 rfl ?_
      refine k_get hx hb hts inlX0 hown hW 2 (by omega) k_c2 rfl 3 (by decide) lf_RX0_22 rfl (v := .int (z.1 2 3)) rfl dX0_put_51 ?_
      refine lv_iconst (v := 1) hx hb dX0_put_54 (by decide) ?_
      refine lv_iadd hx hb dX0_put_55 ?_
      refine k_putI hx hb hts inlX0 tyX0_ok nmX0 hown hW 2 (by omega) k_c2 rfl 3 (by decide) lf_RX0_22 rfl rfl (tyX0_ok 3 (by decide)) (Nat.le_of_ble_eq_true rfl) ks_X0_3 dX0_put_56 (fun H locs hW => ?_)
      have hR : (f_X0_put z p0 p1 p2) = (uI (uI (uI (uJ z 3 ((f_X0_indexAt z p0).toNatClampNeg) p0) 4 ((f_X0_indexAt z p0).toNatClampNeg) p1) 5 ((f_X0_indexAt z p0).toNatClampNeg) p2) 2 3 ((z.1 2 3) + 1)) := (by simp only [f_X0_put, if_pos h1, if_pos h2])
      exact k_vret hx hb hr hlocks hW ⟨rfl, by rw [hR]⟩ dX0_put_59
  · have hR : (f_X0_put z p0 p1 p2) = z := (by simp only [f_X0_put, if_neg h1])
    exact k_vret hx hb hr hlocks hW ⟨rfl, by rw [hR]⟩ dX0_put_14

def f_X0_standsAt (z : Sg) (p0 : Int64) (p1 : Int32) (p2 : Int64) : Int32 :=
  if (z.1 2 3) ≤ (f_X0_indexAt z p0) then
    0
  else
    if (z.1 4 ((f_X0_indexAt z p0).toNatClampNeg)) = p1 then
      if ((z.1 5 ((f_X0_indexAt z p0).toNatClampNeg)) : Int32).toInt64 = p2 then
        1
      else
        0
    else
      0
set_option maxHeartbeats 4000000 in
set_option maxRecDepth 100000 in
theorem c_X0_standsAt (l : Launch) (E : Ev) (S sz : Nat) (z : Sg) (p0 : Int64) (p1 : Int32) (p2 : Int64) (hI : k_I S z) : k_Met l yX0_standsAt cX0_standsAt 7 (some .boolean) ({ frames := 1, cells := 0, slots := 0, locals := 23 }) [.ref (E.2.2 2), .long p0, .int p1, .long p2] E (46 + 6 * S) z sz (fun v u => v = some (.int (f_X0_standsAt z p0 p1 p2)) ∧ u = z) 0 0 := by
  refine k_body (by decide +kernel) (Nat.le_of_ble_eq_true rfl) ?_
  intro p e s m below meth cd ls hx hb hr hml hown hlocks hts hW hl
  have hl : lv_has ls 7 [(0, .ref (E.2.2 2)), (1, .long p0), (3, .int p1), (4, .long p2)] := hl
  refine lv_aload_n hx hb dX0_standsAt_0 rfl (lv_at hl 0 rfl) ?_
  refine lv_lload_n hx hb dX0_standsAt_1 rfl (lv_at hl 1 rfl) ?_
  refine k_callV (As := [.long p0]) (rest := []) hx hb hml hown hts (c_X0_indexAt l E S _ z p0 hI.2.1.2) lm_RX0_26 ln_X0_indexAt le_X0_indexAt li_X0 lk_X0_indexAt (show k_nm yX0_indexAt 1 by decide +kernel) ⟨Nat.le_of_ble_eq_true rfl, Nat.le_of_ble_eq_true rfl⟩ rfl rfl ⟨Nat.le_of_ble_eq_true rfl, Nat.le_of_ble_eq_true rfl⟩ hl.1 rfl (Nat.le_of_ble_eq_true rfl) dX0_standsAt_2 (by omega) (k_c2 _ _ _) rfl hW (fun v z1 H locs hp hW => ?_)
  obtain ⟨rfl, hz1⟩ := hp
  rw [hz1] at hW
  refine W.eq (g2 := F0 m 5 ls [.int (f_X0_indexAt z p0)]) rfl ?_
  refine lv_istore (lv' := [(6, .int (f_X0_indexAt z p0)), (0, .ref (E.2.2 2)), (1, .long p0), (3, .int p1), (4, .long p2)]) hx hb dX0_standsAt_5 hl (by decide) rfl (fun ls hl => ?_)
  refine lv_iload hx hb dX0_standsAt_7 (lv_at hl 0 rfl) ?_
  refine lv_aload_n hx hb dX0_standsAt_9 rfl (lv_at hl 1 rfl) ?_
  refine k_get hx hb hts inlX0 hown hW 2 (by omega) k_c2 rfl 3 (by decide) lf_RX0_22 rfl (v := .int (z.1 2 3)) rfl dX0_standsAt_10 ?_
  refine lv_icmp_ge (tgt := 45) hx hb dX0_standsAt_13 (by decide) (fun h1 => ?_) (fun h1 => ?_)
  · refine lv_iconst (v := 0) hx hb dX0_standsAt_45 (by decide) ?_
    have hR : (f_X0_standsAt z p0 p1 p2) = 0 := (by simp only [f_X0_standsAt, if_pos h1])
    exact k_iret hx hb hr rfl hlocks hW ⟨by rw [hR], rfl⟩ dX0_standsAt_46
  · refine lv_aload_n hx hb dX0_standsAt_16 rfl (lv_at hl 1 rfl) ?_
    refine k_get hx hb hts inlX0 hown hW 2 (by omega) k_c2 rfl 1 (by decide) lf_RX0_15 rfl (v := .ref (E.2.2 4)) rfl dX0_standsAt_17 ?_
    refine lv_iload hx hb dX0_standsAt_20 (lv_at hl 0 rfl) ?_
    refine k_iald hx hb hW 4 60 (by omega) k_c4 (v := (z.1 4 ((f_X0_indexAt z p0).toNatClampNeg))) (by exact in_lt3 (b_X0_indexAt hI).1 h1 hI.2.1.2) rfl dX0_standsAt_22 ?_
    refine lv_iload_n hx hb dX0_standsAt_23 rfl (lv_at hl 3 rfl) ?_
    refine lv_icmp_ne (tgt := 45) hx hb dX0_standsAt_24 (by decide) (fun h2 => ?_) (fun h2 => ?_)
    · refine lv_iconst (v := 0) hx hb dX0_standsAt_45 (by decide) ?_
      have hR : (f_X0_standsAt z p0 p1 p2) = 0 := (by simp only [f_X0_standsAt, if_neg h1, if_neg h2])
      exact k_iret hx hb hr rfl hlocks hW ⟨by rw [hR], rfl⟩ dX0_standsAt_46
    · refine lv_aload_n hx hb dX0_standsAt_27 rfl (lv_at hl 1 rfl) ?_
      refine k_get hx hb hts inlX0 hown hW 2 (by omega) k_c2 rfl 2 (by decide) lf_RX0_19 rfl (v := .ref (E.2.2 5)) rfl dX0_standsAt_28 ?_
      refine lv_iload hx hb dX0_standsAt_31 (lv_at hl 0 rfl) ?_
      refine k_iald hx hb hW 5 60 (by omega) k_c5 (v := (z.1 5 ((f_X0_indexAt z p0).toNatClampNeg))) (by exact in_lt3 (b_X0_indexAt hI).1 h1 hI.2.1.2) rfl dX0_standsAt_33 ?_
      refine lv_i2l (v := ((z.1 5 ((f_X0_indexAt z p0).toNatClampNeg)) : Int32).toInt64) hx hb dX0_standsAt_34 rfl ?_
      refine lv_lload hx hb dX0_standsAt_35 (lv_at hl 4 rfl) ?_
      refine k_lif_ne (tgt := 45) hx hb dX0_standsAt_37 dX0_standsAt_38 (by decide) (fun h3 => ?_) (fun h3 => ?_)
      · refine lv_iconst (v := 0) hx hb dX0_standsAt_45 (by decide) ?_
        have hR : (f_X0_standsAt z p0 p1 p2) = 0 := (by simp only [f_X0_standsAt, if_neg h1, if_pos h2, if_neg h3])
        exact k_iret hx hb hr rfl hlocks hW ⟨by rw [hR], rfl⟩ dX0_standsAt_46
      · refine lv_iconst (v := 1) hx hb dX0_standsAt_41 (by decide) ?_
        refine lv_goto (tgt := 46) hx hb dX0_standsAt_42 (by decide) ?_
        have hR : (f_X0_standsAt z p0 p1 p2) = 1 := (by simp only [f_X0_standsAt, if_neg h1, if_pos h2, if_pos h3])
        exact k_iret hx hb hr rfl hlocks hW ⟨by rw [hR], rfl⟩ dX0_standsAt_46

def f_X0_leastPlaceOf_L7 (z : Sg) (p0 : Int32) : Nat → Int64 → Int32 → Int64
  | 0, _, _ => 0
  | k + 1, a, i =>
    if (z.1 2 3) ≤ i then
      a
    else
      if (z.1 4 i.toNatClampNeg) = p0 then
        if a = (-1) then
          f_X0_leastPlaceOf_L7 z p0 k (z.2.1 3 i.toNatClampNeg) (i + 1)
        else
          if a ≤ (z.2.1 3 i.toNatClampNeg) then
            f_X0_leastPlaceOf_L7 z p0 k a (i + 1)
          else
            f_X0_leastPlaceOf_L7 z p0 k (z.2.1 3 i.toNatClampNeg) (i + 1)
      else
        f_X0_leastPlaceOf_L7 z p0 k a (i + 1)
termination_by k9 => k9
def f_X0_leastPlaceOf (z : Sg) (p0 : Int32) : Int64 :=
  f_X0_leastPlaceOf_L7 z p0 61 (-1) 0
set_option maxHeartbeats 4000000 in
set_option maxRecDepth 100000 in
theorem c_X0_leastPlaceOf (l : Launch) (E : Ev) (S sz : Nat) (z : Sg) (p0 : Int32) (hI : k_I S z) : k_Met l yX0_leastPlaceOf cX0_leastPlaceOf 5 (some .long) ({ frames := 0, cells := 0, slots := 0, locals := 0 }) [.ref (E.2.2 2), .int p0] E (46 + 6 * S) z sz (fun v u => v = some (.long (f_X0_leastPlaceOf z p0)) ∧ u = z) 0 0 := by
  refine k_body (by decide +kernel) (Nat.le_of_ble_eq_true rfl) ?_
  intro p e s m below meth cd ls hx hb hr hml hown hlocks hts hW hl
  have L7 : ∀ (k : Nat) (a : Int64) (i : Int32) (H : Heap) (locs : List Loc) (ls : Array Slot), (0 ≤ i.toInt) → 60 - i.toInt.toNat < k → k_W E (46 + 6 * S) z (k_A E (46 + 6 * S) z s.heap.size) s H locs → lv_has ls 5 [(0, .ref (E.2.2 2)), (1, .int p0), (2, .long a), (4, .int i)] → f_X0_leastPlaceOf_L7 z p0 k a i = (f_X0_leastPlaceOf z p0) → W p l e ({ frames := 0, cells := 0, slots := 0, locals := 0 }) s m ([.ref (E.2.2 2), .int p0] : List Value).toArray below meth cd H locs 0 0 (MQ below (k_Q (fun v u => v = some (.long (f_X0_leastPlaceOf z p0)) ∧ u = z) E (46 + 6 * S) z s.heap.size) ([.ref (E.2.2 2), .int p0] : List Value).toArray s 0 0 (k_A E (46 + 6 * S) z s.heap.size)) (F0 m 7 ls []) := by
    intro k
    induction k with
    | zero =>
      intro a i H locs ls hi0 hm
      exact absurd hm (Nat.not_lt_zero _)
    | succ k ih =>
      intro a i H locs ls hi0 hm hW hl hG
      refine lv_iload hx hb dX0_leastPlaceOf_7 (lv_at hl 3 rfl) ?_
      refine lv_aload_n hx hb dX0_leastPlaceOf_9 rfl (lv_at hl 0 rfl) ?_
      refine k_get hx hb hts inlX0 hown hW 2 (by omega) k_c2 rfl 3 (by decide) lf_RX0_22 rfl (v := .int (z.1 2 3)) rfl dX0_leastPlaceOf_10 ?_
      refine lv_icmp_ge (tgt := 61) hx hb dX0_leastPlaceOf_13 (by decide) (fun h1 => ?_) (fun h1 => ?_)
      · refine lv_lload_n hx hb dX0_leastPlaceOf_61 rfl (lv_at hl 2 rfl) ?_
        have hR : (f_X0_leastPlaceOf z p0) = a := (hG.symm.trans (by simp only [f_X0_leastPlaceOf_L7, if_pos h1]))
        exact k_lret hx hb hr hlocks hW ⟨by rw [hR], rfl⟩ dX0_leastPlaceOf_62
      · refine lv_aload_n hx hb dX0_leastPlaceOf_16 rfl (lv_at hl 0 rfl) ?_
        refine k_get hx hb hts inlX0 hown hW 2 (by omega) k_c2 rfl 1 (by decide) lf_RX0_15 rfl (v := .ref (E.2.2 4)) rfl dX0_leastPlaceOf_17 ?_
        refine lv_iload hx hb dX0_leastPlaceOf_20 (lv_at hl 3 rfl) ?_
        refine k_iald hx hb hW 4 60 (by omega) k_c4 (v := (z.1 4 i.toNatClampNeg)) (by exact in_lt3 hi0 h1 hI.2.1.2) rfl dX0_leastPlaceOf_22 ?_
        refine lv_iload_n hx hb dX0_leastPlaceOf_23 rfl (lv_at hl 1 rfl) ?_
        refine lv_icmp_ne (tgt := 55) hx hb dX0_leastPlaceOf_24 (by decide) (fun h2 => ?_) (fun h2 => ?_)
        · refine lv_iinc (v := i + 1) (lv' := [(4, .int (i + 1)), (0, .ref (E.2.2 2)), (1, .int p0), (2, .long a)]) hx hb dX0_leastPlaceOf_55 hl (k := 3) rfl rfl (by decide) rfl (fun ls hl => ?_)
          refine lv_goto (tgt := 7) hx hb dX0_leastPlaceOf_58 (by decide) ?_
          exact ih a (i + 1) _ _ _ (in_s0 hi0 h1 hI.2.1.2) (in_sm hi0 h1 hI.2.1.2 hm) hW (lv_sub hl [1, 2, 3, 0] rfl) (Eq.symm (hG.symm.trans (by simp only [f_X0_leastPlaceOf_L7, if_neg h1, if_neg h2])))
        · refine lv_lload_n hx hb dX0_leastPlaceOf_27 rfl (lv_at hl 2 rfl) ?_
          refine lv_ldc2 (v := (-1)) hx hb hown (hts _ lc_RX0_30) dX0_leastPlaceOf_28 ?_
          refine k_lif_eq (tgt := 47) hx hb dX0_leastPlaceOf_31 dX0_leastPlaceOf_32 (by decide) (fun h3 => ?_) (fun h3 => ?_)
          · refine lv_aload_n hx hb dX0_leastPlaceOf_47 rfl (lv_at hl 0 rfl) ?_
            refine k_get hx hb hts inlX0 hown hW 2 (by omega) k_c2 rfl 0 (by decide) lf_RX0_9 rfl (v := .ref (E.2.2 3)) rfl dX0_leastPlaceOf_48 ?_
            refine lv_iload hx hb dX0_leastPlaceOf_51 (lv_at hl 3 rfl) ?_
            refine k_lald hx hb hW 3 60 (by omega) k_c3 (v := (z.2.1 3 i.toNatClampNeg)) (by exact in_lt3 hi0 h1 hI.2.1.2) rfl dX0_leastPlaceOf_53 ?_
            refine lv_lstore_n (lv' := [(2, .long (z.2.1 3 i.toNatClampNeg)), (0, .ref (E.2.2 2)), (1, .int p0), (4, .int i)]) hx hb dX0_leastPlaceOf_54 rfl hl (by decide) rfl (fun ls hl => ?_)
            refine lv_iinc (v := i + 1) (lv' := [(4, .int (i + 1)), (2, .long (z.2.1 3 i.toNatClampNeg)), (0, .ref (E.2.2 2)), (1, .int p0)]) hx hb dX0_leastPlaceOf_55 hl (k := 3) rfl rfl (by decide) rfl (fun ls hl => ?_)
            refine lv_goto (tgt := 7) hx hb dX0_leastPlaceOf_58 (by decide) ?_
            exact ih (z.2.1 3 i.toNatClampNeg) (i + 1) _ _ _ (in_s0 hi0 h1 hI.2.1.2) (in_sm hi0 h1 hI.2.1.2 hm) hW (lv_sub hl [2, 3, 1, 0] rfl) (Eq.symm (hG.symm.trans (by simp only [f_X0_leastPlaceOf_L7, if_neg h1, if_pos h2, if_pos h3])))
          · refine lv_aload_n hx hb dX0_leastPlaceOf_35 rfl (lv_at hl 0 rfl) ?_
            refine k_get hx hb hts inlX0 hown hW 2 (by omega) k_c2 rfl 0 (by decide) lf_RX0_9 rfl (v := .ref (E.2.2 3)) rfl dX0_leastPlaceOf_36 ?_
            refine lv_iload hx hb dX0_leastPlaceOf_39 (lv_at hl 3 rfl) ?_
            refine k_lald hx hb hW 3 60 (by omega) k_c3 (v := (z.2.1 3 i.toNatClampNeg)) (by exact in_lt3 hi0 h1 hI.2.1.2) rfl dX0_leastPlaceOf_41 ?_
            refine lv_lload_n hx hb dX0_leastPlaceOf_42 rfl (lv_at hl 2 rfl) ?_
            refine k_lif_ge (tgt := 55) hx hb dX0_leastPlaceOf_43 dX0_leastPlaceOf_44 (by decide) (fun h4 => ?_) (fun h4 => ?_)
            · refine lv_iinc (v := i + 1) (lv' := [(4, .int (i + 1)), (0, .ref (E.2.2 2)), (1, .int p0), (2, .long a)]) hx hb dX0_leastPlaceOf_55 hl (k := 3) rfl rfl (by decide) rfl (fun ls hl => ?_)
              refine lv_goto (tgt := 7) hx hb dX0_leastPlaceOf_58 (by decide) ?_
              exact ih a (i + 1) _ _ _ (in_s0 hi0 h1 hI.2.1.2) (in_sm hi0 h1 hI.2.1.2 hm) hW (lv_sub hl [1, 2, 3, 0] rfl) (Eq.symm (hG.symm.trans (by simp only [f_X0_leastPlaceOf_L7, if_neg h1, if_pos h2, if_neg h3, if_pos h4])))
            · refine lv_aload_n hx hb dX0_leastPlaceOf_47 rfl (lv_at hl 0 rfl) ?_
              refine k_get hx hb hts inlX0 hown hW 2 (by omega) k_c2 rfl 0 (by decide) lf_RX0_9 rfl (v := .ref (E.2.2 3)) rfl dX0_leastPlaceOf_48 ?_
              refine lv_iload hx hb dX0_leastPlaceOf_51 (lv_at hl 3 rfl) ?_
              refine k_lald hx hb hW 3 60 (by omega) k_c3 (v := (z.2.1 3 i.toNatClampNeg)) (by exact in_lt3 hi0 h1 hI.2.1.2) rfl dX0_leastPlaceOf_53 ?_
              refine lv_lstore_n (lv' := [(2, .long (z.2.1 3 i.toNatClampNeg)), (0, .ref (E.2.2 2)), (1, .int p0), (4, .int i)]) hx hb dX0_leastPlaceOf_54 rfl hl (by decide) rfl (fun ls hl => ?_)
              refine lv_iinc (v := i + 1) (lv' := [(4, .int (i + 1)), (2, .long (z.2.1 3 i.toNatClampNeg)), (0, .ref (E.2.2 2)), (1, .int p0)]) hx hb dX0_leastPlaceOf_55 hl (k := 3) rfl rfl (by decide) rfl (fun ls hl => ?_)
              refine lv_goto (tgt := 7) hx hb dX0_leastPlaceOf_58 (by decide) ?_
              exact ih (z.2.1 3 i.toNatClampNeg) (i + 1) _ _ _ (in_s0 hi0 h1 hI.2.1.2) (in_sm hi0 h1 hI.2.1.2 hm) hW (lv_sub hl [2, 3, 1, 0] rfl) (Eq.symm (hG.symm.trans (by simp only [f_X0_leastPlaceOf_L7, if_neg h1, if_pos h2, if_neg h3, if_neg h4])))
  have hl : lv_has ls 5 [(0, .ref (E.2.2 2)), (1, .int p0)] := hl
  refine lv_ldc2 (v := (-1)) hx hb hown (hts _ lc_RX0_30) dX0_leastPlaceOf_0 ?_
  refine lv_lstore_n (lv' := [(2, .long (-1)), (0, .ref (E.2.2 2)), (1, .int p0)]) hx hb dX0_leastPlaceOf_3 rfl hl (by decide) rfl (fun ls hl => ?_)
  refine lv_iconst (v := 0) hx hb dX0_leastPlaceOf_4 (by decide) ?_
  refine lv_istore (lv' := [(4, .int 0), (2, .long (-1)), (0, .ref (E.2.2 2)), (1, .int p0)]) hx hb dX0_leastPlaceOf_5 hl (by decide) rfl (fun ls hl => ?_)
  exact L7 61 (-1) 0 _ _ _ (by decide) (by decide) hW (lv_sub hl [2, 3, 1, 0] rfl) (Eq.symm (by simp only [f_X0_leastPlaceOf]))
