def f_X6_thrown (z : Sg) : Int32 :=
  (z.1 19 0)
set_option maxHeartbeats 4000000 in
set_option maxRecDepth 100000 in
theorem c_X6_thrown (l : Launch) (E : Ev) (S sz : Nat) (z : Sg) : k_Met l yX6_thrown cX6_thrown 1 (some .int) ({ frames := 0, cells := 0, slots := 0, locals := 0 }) [.ref (E.2.2 19)] E (46 + 6 * S) z sz (fun v u => v = some (.int (f_X6_thrown z)) ∧ u = z) 0 0 := by
  refine k_body (by decide +kernel) (Nat.le_of_ble_eq_true rfl) ?_
  intro p e s m below meth cd ls hx hb hr hml hown hlocks hts hW hl
  have hl : lv_has ls 1 [(0, .ref (E.2.2 19))] := hl
  refine lv_aload_n hx hb dX6_thrown_0 rfl (lv_at hl 0 rfl) ?_
  refine k_get hx hb hts inlX6 hown hW 19 (by omega) k_c19 rfl 0 (by decide) lf_RX6_88 rfl (v := .int (z.1 19 0)) rfl dX6_thrown_1 ?_
  have hR : (f_X6_thrown z) = (z.1 19 0) := (by simp only [f_X6_thrown])
  exact k_iret hx hb hr rfl hlocks hW ⟨by rw [hR], rfl⟩ dX6_thrown_4

def f_X6_isSection (z : Sg) (p0 : Int32) : Int32 :=
  if p0 < 0 then
    0
  else
    if (z.1 19 1) ≤ p0 then
      0
    else
      1
set_option maxHeartbeats 4000000 in
set_option maxRecDepth 100000 in
theorem c_X6_isSection (l : Launch) (E : Ev) (S sz : Nat) (z : Sg) (p0 : Int32) : k_Met l yX6_isSection cX6_isSection 2 (some .boolean) ({ frames := 0, cells := 0, slots := 0, locals := 0 }) [.ref (E.2.2 19), .int p0] E (46 + 6 * S) z sz (fun v u => v = some (.int (f_X6_isSection z p0)) ∧ u = z) 0 0 := by
  refine k_body (by decide +kernel) (Nat.le_of_ble_eq_true rfl) ?_
  intro p e s m below meth cd ls hx hb hr hml hown hlocks hts hW hl
  have hl : lv_has ls 2 [(0, .ref (E.2.2 19)), (1, .int p0)] := hl
  refine lv_iload_n hx hb dX6_isSection_0 rfl (lv_at hl 1 rfl) ?_
  refine lv_if_lt (tgt := 16) hx hb dX6_isSection_1 (by decide) (fun h1 => ?_) (fun h1 => ?_)
  · refine lv_iconst (v := 0) hx hb dX6_isSection_16 (by decide) ?_
    have hR : (f_X6_isSection z p0) = 0 := (by simp only [f_X6_isSection, if_pos h1])
    exact k_iret hx hb hr rfl hlocks hW ⟨by rw [hR], rfl⟩ dX6_isSection_17
  · refine lv_iload_n hx hb dX6_isSection_4 rfl (lv_at hl 1 rfl) ?_
    refine lv_aload_n hx hb dX6_isSection_5 rfl (lv_at hl 0 rfl) ?_
    refine k_get hx hb hts inlX6 hown hW 19 (by omega) k_c19 rfl 1 (by decide) lf_RX6_92 rfl (v := .int (z.1 19 1)) rfl dX6_isSection_6 ?_
    refine lv_icmp_ge (tgt := 16) hx hb dX6_isSection_9 (by decide) (fun h2 => ?_) (fun h2 => ?_)
    · refine lv_iconst (v := 0) hx hb dX6_isSection_16 (by decide) ?_
      have hR : (f_X6_isSection z p0) = 0 := (by simp only [f_X6_isSection, if_neg h1, if_pos h2])
      exact k_iret hx hb hr rfl hlocks hW ⟨by rw [hR], rfl⟩ dX6_isSection_17
    · refine lv_iconst (v := 1) hx hb dX6_isSection_12 (by decide) ?_
      refine lv_goto (tgt := 17) hx hb dX6_isSection_13 (by decide) ?_
      have hR : (f_X6_isSection z p0) = 1 := (by simp only [f_X6_isSection, if_neg h1, if_neg h2])
      exact k_iret hx hb hr rfl hlocks hW ⟨by rw [hR], rfl⟩ dX6_isSection_17

def f_X6_in (z : Sg) (p0 : Int64) (p1 : Int64) (p2 : Int64) : Int32 :=
  if p0 < p1 then
    0
  else
    if p2 < p0 then
      0
    else
      1
set_option maxHeartbeats 4000000 in
set_option maxRecDepth 100000 in
theorem c_X6_in (l : Launch) (E : Ev) (S sz : Nat) (z : Sg) (p0 : Int64) (p1 : Int64) (p2 : Int64) : k_Met l yX6_in cX6_in 6 (some .boolean) ({ frames := 0, cells := 0, slots := 0, locals := 0 }) [.long p0, .long p1, .long p2] E (46 + 6 * S) z sz (fun v u => v = some (.int (f_X6_in z p0 p1 p2)) ∧ u = z) 0 0 := by
  refine k_body (by decide +kernel) (Nat.le_of_ble_eq_true rfl) ?_
  intro p e s m below meth cd ls hx hb hr hml hown hlocks hts hW hl
  have hl : lv_has ls 6 [(0, .long p0), (2, .long p1), (4, .long p2)] := hl
  refine lv_lload_n hx hb dX6_in_0 rfl (lv_at hl 0 rfl) ?_
  refine lv_lload_n hx hb dX6_in_1 rfl (lv_at hl 1 rfl) ?_
  refine k_lif_lt (tgt := 17) hx hb dX6_in_2 dX6_in_3 (by decide) (fun h1 => ?_) (fun h1 => ?_)
  · refine lv_iconst (v := 0) hx hb dX6_in_17 (by decide) ?_
    have hR : (f_X6_in z p0 p1 p2) = 0 := (by simp only [f_X6_in, if_pos h1])
    exact k_iret hx hb hr rfl hlocks hW ⟨by rw [hR], rfl⟩ dX6_in_18
  · refine lv_lload_n hx hb dX6_in_6 rfl (lv_at hl 0 rfl) ?_
    refine lv_lload hx hb dX6_in_7 (lv_at hl 2 rfl) ?_
    refine k_lif_gt (tgt := 17) hx hb dX6_in_9 dX6_in_10 (by decide) (fun h2 => ?_) (fun h2 => ?_)
    · refine lv_iconst (v := 0) hx hb dX6_in_17 (by decide) ?_
      have hR : (f_X6_in z p0 p1 p2) = 0 := (by simp only [f_X6_in, if_neg h1, if_pos h2])
      exact k_iret hx hb hr rfl hlocks hW ⟨by rw [hR], rfl⟩ dX6_in_18
    · refine lv_iconst (v := 1) hx hb dX6_in_13 (by decide) ?_
      refine lv_goto (tgt := 18) hx hb dX6_in_14 (by decide) ?_
      have hR : (f_X6_in z p0 p1 p2) = 1 := (by simp only [f_X6_in, if_neg h1, if_neg h2])
      exact k_iret hx hb hr rfl hlocks hW ⟨by rw [hR], rfl⟩ dX6_in_18

def f_X6_isObject (z : Sg) (p0 : Int32) : Int32 :=
  if p0 < 0 then
    0
  else
    if (100 : Int32) ≤ p0 then
      0
    else
      1
set_option maxHeartbeats 4000000 in
set_option maxRecDepth 100000 in
theorem c_X6_isObject (l : Launch) (E : Ev) (S sz : Nat) (z : Sg) (p0 : Int32) : k_Met l yX6_isObject cX6_isObject 1 (some .boolean) ({ frames := 0, cells := 0, slots := 0, locals := 0 }) [.int p0] E (46 + 6 * S) z sz (fun v u => v = some (.int (f_X6_isObject z p0)) ∧ u = z) 0 0 := by
  refine k_body (by decide +kernel) (Nat.le_of_ble_eq_true rfl) ?_
  intro p e s m below meth cd ls hx hb hr hml hown hlocks hts hW hl
  have hl : lv_has ls 1 [(0, .int p0)] := hl
  refine lv_iload_n hx hb dX6_isObject_0 rfl (lv_at hl 0 rfl) ?_
  refine lv_if_lt (tgt := 14) hx hb dX6_isObject_1 (by decide) (fun h1 => ?_) (fun h1 => ?_)
  · refine lv_iconst (v := 0) hx hb dX6_isObject_14 (by decide) ?_
    have hR : (f_X6_isObject z p0) = 0 := (by simp only [f_X6_isObject, if_pos h1])
    exact k_iret hx hb hr rfl hlocks hW ⟨by rw [hR], rfl⟩ dX6_isObject_15
  · refine lv_iload_n hx hb dX6_isObject_4 rfl (lv_at hl 0 rfl) ?_
    refine lv_bipush (v := 100) hx hb dX6_isObject_5 (by decide) ?_
    refine lv_icmp_ge (tgt := 14) hx hb dX6_isObject_7 (by decide) (fun h2 => ?_) (fun h2 => ?_)
    · refine lv_iconst (v := 0) hx hb dX6_isObject_14 (by decide) ?_
      have hR : (f_X6_isObject z p0) = 0 := (by simp only [f_X6_isObject, if_neg h1, if_pos h2])
      exact k_iret hx hb hr rfl hlocks hW ⟨by rw [hR], rfl⟩ dX6_isObject_15
    · refine lv_iconst (v := 1) hx hb dX6_isObject_10 (by decide) ?_
      refine lv_goto (tgt := 15) hx hb dX6_isObject_11 (by decide) ?_
      have hR : (f_X6_isObject z p0) = 1 := (by simp only [f_X6_isObject, if_neg h1, if_neg h2])
      exact k_iret hx hb hr rfl hlocks hW ⟨by rw [hR], rfl⟩ dX6_isObject_15

def f_X6_isBlank (z : Sg) (p0 : Int32) : Int32 :=
  if p0 = 0 then
    1
  else
    if p0 = 9 then
      1
    else
      if p0 = 10 then
        1
      else
        if p0 = 12 then
          1
        else
          if p0 = 13 then
            1
          else
            if p0 = 32 then
              1
            else
              0
set_option maxHeartbeats 4000000 in
set_option maxRecDepth 100000 in
theorem c_X6_isBlank (l : Launch) (E : Ev) (S sz : Nat) (z : Sg) (p0 : Int32) : k_Met l yX6_isBlank cX6_isBlank 1 (some .boolean) ({ frames := 0, cells := 0, slots := 0, locals := 0 }) [.int p0] E (46 + 6 * S) z sz (fun v u => v = some (.int (f_X6_isBlank z p0)) ∧ u = z) 0 0 := by
  refine k_body (by decide +kernel) (Nat.le_of_ble_eq_true rfl) ?_
  intro p e s m below meth cd ls hx hb hr hml hown hlocks hts hW hl
  have hl : lv_has ls 1 [(0, .int p0)] := hl
  refine lv_iload_n hx hb dX6_isBlank_0 rfl (lv_at hl 0 rfl) ?_
  refine lv_if_eq (tgt := 34) hx hb dX6_isBlank_1 (by decide) (fun h1 => ?_) (fun h1 => ?_)
  · refine lv_iconst (v := 1) hx hb dX6_isBlank_34 (by decide) ?_
    refine lv_goto (tgt := 39) hx hb dX6_isBlank_35 (by decide) ?_
    have hR : (f_X6_isBlank z p0) = 1 := (by simp only [f_X6_isBlank, if_pos h1])
    exact k_iret hx hb hr rfl hlocks hW ⟨by rw [hR], rfl⟩ dX6_isBlank_39
  · refine lv_iload_n hx hb dX6_isBlank_4 rfl (lv_at hl 0 rfl) ?_
    refine lv_bipush (v := 9) hx hb dX6_isBlank_5 (by decide) ?_
    refine lv_icmp_eq (tgt := 34) hx hb dX6_isBlank_7 (by decide) (fun h2 => ?_) (fun h2 => ?_)
    · refine lv_iconst (v := 1) hx hb dX6_isBlank_34 (by decide) ?_
      refine lv_goto (tgt := 39) hx hb dX6_isBlank_35 (by decide) ?_
      have hR : (f_X6_isBlank z p0) = 1 := (by simp only [f_X6_isBlank, if_neg h1, if_pos h2])
      exact k_iret hx hb hr rfl hlocks hW ⟨by rw [hR], rfl⟩ dX6_isBlank_39
    · refine lv_iload_n hx hb dX6_isBlank_10 rfl (lv_at hl 0 rfl) ?_
      refine lv_bipush (v := 10) hx hb dX6_isBlank_11 (by decide) ?_
      refine lv_icmp_eq (tgt := 34) hx hb dX6_isBlank_13 (by decide) (fun h3 => ?_) (fun h3 => ?_)
      · refine lv_iconst (v := 1) hx hb dX6_isBlank_34 (by decide) ?_
        refine lv_goto (tgt := 39) hx hb dX6_isBlank_35 (by decide) ?_
        have hR : (f_X6_isBlank z p0) = 1 := (by simp only [f_X6_isBlank, if_neg h1, if_neg h2, if_pos h3])
        exact k_iret hx hb hr rfl hlocks hW ⟨by rw [hR], rfl⟩ dX6_isBlank_39
      · refine lv_iload_n hx hb dX6_isBlank_16 rfl (lv_at hl 0 rfl) ?_
        refine lv_bipush (v := 12) hx hb dX6_isBlank_17 (by decide) ?_
        refine lv_icmp_eq (tgt := 34) hx hb dX6_isBlank_19 (by decide) (fun h4 => ?_) (fun h4 => ?_)
        · refine lv_iconst (v := 1) hx hb dX6_isBlank_34 (by decide) ?_
          refine lv_goto (tgt := 39) hx hb dX6_isBlank_35 (by decide) ?_
          have hR : (f_X6_isBlank z p0) = 1 := (by simp only [f_X6_isBlank, if_neg h1, if_neg h2, if_neg h3, if_pos h4])
          exact k_iret hx hb hr rfl hlocks hW ⟨by rw [hR], rfl⟩ dX6_isBlank_39
        · refine lv_iload_n hx hb dX6_isBlank_22 rfl (lv_at hl 0 rfl) ?_
          refine lv_bipush (v := 13) hx hb dX6_isBlank_23 (by decide) ?_
          refine lv_icmp_eq (tgt := 34) hx hb dX6_isBlank_25 (by decide) (fun h5 => ?_) (fun h5 => ?_)
          · refine lv_iconst (v := 1) hx hb dX6_isBlank_34 (by decide) ?_
            refine lv_goto (tgt := 39) hx hb dX6_isBlank_35 (by decide) ?_
            have hR : (f_X6_isBlank z p0) = 1 := (by simp only [f_X6_isBlank, if_neg h1, if_neg h2, if_neg h3, if_neg h4, if_pos h5])
            exact k_iret hx hb hr rfl hlocks hW ⟨by rw [hR], rfl⟩ dX6_isBlank_39
          · refine lv_iload_n hx hb dX6_isBlank_28 rfl (lv_at hl 0 rfl) ?_
            refine lv_bipush (v := 32) hx hb dX6_isBlank_29 (by decide) ?_
            refine lv_icmp_ne (tgt := 38) hx hb dX6_isBlank_31 (by decide) (fun h6 => ?_) (fun h6 => ?_)
            · refine lv_iconst (v := 0) hx hb dX6_isBlank_38 (by decide) ?_
              have hR : (f_X6_isBlank z p0) = 0 := (by simp only [f_X6_isBlank, if_neg h1, if_neg h2, if_neg h3, if_neg h4, if_neg h5, if_neg h6])
              exact k_iret hx hb hr rfl hlocks hW ⟨by rw [hR], rfl⟩ dX6_isBlank_39
            · refine lv_iconst (v := 1) hx hb dX6_isBlank_34 (by decide) ?_
              refine lv_goto (tgt := 39) hx hb dX6_isBlank_35 (by decide) ?_
              have hR : (f_X6_isBlank z p0) = 1 := (by simp only [f_X6_isBlank, if_neg h1, if_neg h2, if_neg h3, if_neg h4, if_neg h5, if_pos h6])
              exact k_iret hx hb hr rfl hlocks hW ⟨by rw [hR], rfl⟩ dX6_isBlank_39

theorem sec_ti {S : Nat} {z : Sg} {p : Int32} (hI : k_J S z) (h : ¬ f_X6_isSection z p = 0) : 0 ≤ p.toInt ∧ p.toInt < S := by
  unfold f_X6_isSection at h
  by_cases a : p < 0
  · rw [if_pos a] at h; exact absurd rfl h
  · by_cases b : (z.1 19 1) ≤ p
    · rw [if_neg a, if_pos b] at h; exact absurd rfl h
    · have h2 := hI.1.2
      have h3 := nn_of a
      simp only [Int32.le_iff_toInt_le] at b
      omega
theorem sec_12 {S : Nat} {z : Sg} {p : Int32} (hI : k_J S z) (h : ¬ f_X6_isSection z p = 0) : 0 ≤ p.toInt ∧ p.toInt < (12 : Nat) := lt_of12 hI.1.1 (sec_ti hI h)
theorem m_obj {z : Sg} {p : Int32} (h : ¬ f_X6_isObject z p = 0) : vp_in p 100 := by
  unfold f_X6_isObject at h
  by_cases a : p < 0
  · rw [if_pos a] at h; exact absurd rfl h
  · by_cases b : (100 : Int32) ≤ p
    · rw [if_neg a, if_pos b] at h; exact absurd rfl h
    · exact in_ltn a b rfl
theorem m_in {z : Sg} {x a b : Int64} (h : ¬ f_X6_in z x a b = 0) : a ≤ x ∧ x ≤ b := by
  unfold f_X6_in at h
  by_cases h1 : x < a
  · rw [if_pos h1] at h; exact absurd rfl h
  · by_cases h2 : b < x
    · rw [if_neg h1, if_pos h2] at h; exact absurd rfl h
    · simp only [Int64.lt_iff_toInt_lt, Int64.le_iff_toInt_le] at *
      omega
theorem m_inI {z : Sg} {x : Int32} {a b : Int64} {n : Nat} (h : ¬ f_X6_in z x.toInt64 a b = 0) (ha : a.toInt = 0) (hb : b.toInt < n) : 0 ≤ x.toInt ∧ x.toInt < n := by
  have h1 := m_in h
  simp only [Int64.le_iff_toInt_le, i_2l] at h1
  omega

def f_X6_find_L2 (z : Sg) (p0 : Int64) : Nat → Int32 → Int32
  | 0, _ => 0
  | k + 1, i =>
    if (z.1 19 1) ≤ i then
      (-1)
    else
      if (z.2.1 21 i.toNatClampNeg) = p0 then
        i
      else
        f_X6_find_L2 z p0 k (i + 1)
termination_by k9 => k9
def f_X6_find (z : Sg) (p0 : Int64) : Int32 :=
  f_X6_find_L2 z p0 13 0
set_option maxHeartbeats 4000000 in
set_option maxRecDepth 100000 in
theorem c_X6_find (l : Launch) (E : Ev) (S sz : Nat) (z : Sg) (p0 : Int64) (hI : k_J S z) : k_Met l yX6_find cX6_find 4 (some .int) ({ frames := 0, cells := 0, slots := 0, locals := 0 }) [.ref (E.2.2 19), .long p0] E (46 + 6 * S) z sz (fun v u => v = some (.int (f_X6_find z p0)) ∧ u = z) 0 0 := by
  refine k_body (by decide +kernel) (Nat.le_of_ble_eq_true rfl) ?_
  intro p e s m below meth cd ls hx hb hr hml hown hlocks hts hW hl
  have L2 : ∀ (k : Nat) (i : Int32) (H : Heap) (locs : List Loc) (ls : Array Slot), (0 ≤ i.toInt) → 12 - i.toInt.toNat < k → k_W E (46 + 6 * S) z (k_A E (46 + 6 * S) z s.heap.size) s H locs → lv_has ls 4 [(0, .ref (E.2.2 19)), (1, .long p0), (3, .int i)] → f_X6_find_L2 z p0 k i = (f_X6_find z p0) → W p l e ({ frames := 0, cells := 0, slots := 0, locals := 0 }) s m ([.ref (E.2.2 19), .long p0] : List Value).toArray below meth cd H locs 0 0 (MQ below (k_Q (fun v u => v = some (.int (f_X6_find z p0)) ∧ u = z) E (46 + 6 * S) z s.heap.size) ([.ref (E.2.2 19), .long p0] : List Value).toArray s 0 0 (k_A E (46 + 6 * S) z s.heap.size)) (F0 m 2 ls []) := by
    intro k
    induction k with
    | zero =>
      intro i H locs ls hi0 hm
      exact absurd hm (Nat.not_lt_zero _)
    | succ k ih =>
      intro i H locs ls hi0 hm hW hl hG
      have hS2 : (z.1 19 1).toInt ≤ (12 : Nat) := by rw [hI.1.2]; have := hI.1.1; omega
      refine lv_iload_n hx hb dX6_find_2 rfl (lv_at hl 2 rfl) ?_
      refine lv_aload_n hx hb dX6_find_3 rfl (lv_at hl 0 rfl) ?_
      refine k_get hx hb hts inlX6 hown hW 19 (by omega) k_c19 rfl 1 (by decide) lf_RX6_92 rfl (v := .int (z.1 19 1)) rfl dX6_find_4 ?_
      refine lv_icmp_ge (tgt := 29) hx hb dX6_find_7 (by decide) (fun h1 => ?_) (fun h1 => ?_)
      · refine lv_iconst (v := (-1)) hx hb dX6_find_29 (by decide) ?_
        have hR : (f_X6_find z p0) = (-1) := (hG.symm.trans (by simp only [f_X6_find_L2, if_pos h1]))
        exact k_iret hx hb hr rfl hlocks hW ⟨by rw [hR], rfl⟩ dX6_find_30
      · refine lv_aload_n hx hb dX6_find_10 rfl (lv_at hl 0 rfl) ?_
        refine k_get hx hb hts inlX6 hown hW 19 (by omega) k_c19 rfl 3 (by decide) lf_RX6_13 rfl (v := .ref (E.2.2 21)) rfl dX6_find_11 ?_
        refine lv_iload_n hx hb dX6_find_14 rfl (lv_at hl 2 rfl) ?_
        refine k_lald hx hb hW 21 12 (by omega) k_c21 (v := (z.2.1 21 i.toNatClampNeg)) (by exact in_lt3 hi0 h1 (by rw [hI.1.2]; have := hI.1.1; omega)) rfl dX6_find_15 ?_
        refine lv_lload_n hx hb dX6_find_16 rfl (lv_at hl 1 rfl) ?_
        refine k_lif_ne (tgt := 23) hx hb dX6_find_17 dX6_find_18 (by decide) (fun h2 => ?_) (fun h2 => ?_)
        · refine lv_iinc (v := i + 1) (lv' := [(3, .int (i + 1)), (0, .ref (E.2.2 19)), (1, .long p0)]) hx hb dX6_find_23 hl (k := 2) rfl rfl (by decide) rfl (fun ls hl => ?_)
          refine lv_goto (tgt := 2) hx hb dX6_find_26 (by decide) ?_
          exact ih (i + 1) _ _ _ (in_s0 hi0 h1 hS2) (in_sm hi0 h1 hS2 hm) hW (lv_sub hl [1, 2, 0] rfl) (Eq.symm (hG.symm.trans (by simp only [f_X6_find_L2, if_neg h1, if_neg h2])))
        · refine lv_iload_n hx hb dX6_find_21 rfl (lv_at hl 2 rfl) ?_
          have hR : (f_X6_find z p0) = i := (hG.symm.trans (by simp only [f_X6_find_L2, if_neg h1, if_pos h2]))
          exact k_iret hx hb hr rfl hlocks hW ⟨by rw [hR], rfl⟩ dX6_find_22
  have hl : lv_has ls 4 [(0, .ref (E.2.2 19)), (1, .long p0)] := hl
  refine lv_iconst (v := 0) hx hb dX6_find_0 (by decide) ?_
  refine lv_istore_n (lv' := [(3, .int 0), (0, .ref (E.2.2 19)), (1, .long p0)]) hx hb dX6_find_1 rfl hl (by decide) rfl (fun ls hl => ?_)
  exact L2 13 0 _ _ _ (by decide) (by decide) hW (lv_sub hl [1, 2, 0] rfl) (Eq.symm (by simp only [f_X6_find]))

def f_X6_findHead_L2 (z : Sg) (p0 : Int64) : Nat → Int32 → Int32
  | 0, _ => 0
  | k + 1, i =>
    if (z.1 19 14) ≤ i then
      (z.1 19 14)
    else
      if (z.2.1 32 i.toNatClampNeg) = p0 then
        i
      else
        f_X6_findHead_L2 z p0 k (i + 1)
termination_by k9 => k9
def f_X6_findHead (z : Sg) (p0 : Int64) : Int32 :=
  f_X6_findHead_L2 z p0 61 0
set_option maxHeartbeats 4000000 in
set_option maxRecDepth 100000 in
theorem c_X6_findHead (l : Launch) (E : Ev) (S sz : Nat) (z : Sg) (p0 : Int64) (hI : k_J S z) : k_Met l yX6_findHead cX6_findHead 4 (some .int) ({ frames := 0, cells := 0, slots := 0, locals := 0 }) [.ref (E.2.2 19), .long p0] E (46 + 6 * S) z sz (fun v u => v = some (.int (f_X6_findHead z p0)) ∧ u = z) 0 0 := by
  refine k_body (by decide +kernel) (Nat.le_of_ble_eq_true rfl) ?_
  intro p e s m below meth cd ls hx hb hr hml hown hlocks hts hW hl
  have L2 : ∀ (k : Nat) (i : Int32) (H : Heap) (locs : List Loc) (ls : Array Slot), (0 ≤ i.toInt) → 60 - i.toInt.toNat < k → k_W E (46 + 6 * S) z (k_A E (46 + 6 * S) z s.heap.size) s H locs → lv_has ls 4 [(0, .ref (E.2.2 19)), (1, .long p0), (3, .int i)] → f_X6_findHead_L2 z p0 k i = (f_X6_findHead z p0) → W p l e ({ frames := 0, cells := 0, slots := 0, locals := 0 }) s m ([.ref (E.2.2 19), .long p0] : List Value).toArray below meth cd H locs 0 0 (MQ below (k_Q (fun v u => v = some (.int (f_X6_findHead z p0)) ∧ u = z) E (46 + 6 * S) z s.heap.size) ([.ref (E.2.2 19), .long p0] : List Value).toArray s 0 0 (k_A E (46 + 6 * S) z s.heap.size)) (F0 m 2 ls []) := by
    intro k
    induction k with
    | zero =>
      intro i H locs ls hi0 hm
      exact absurd hm (Nat.not_lt_zero _)
    | succ k ih =>
      intro i H locs ls hi0 hm hW hl hG
      refine lv_iload_n hx hb dX6_findHead_2 rfl (lv_at hl 2 rfl) ?_
      refine lv_aload_n hx hb dX6_findHead_3 rfl (lv_at hl 0 rfl) ?_
      refine k_get hx hb hts inlX6 hown hW 19 (by omega) k_c19 rfl 14 (by decide) lf_RX6_119 rfl (v := .int (z.1 19 14)) rfl dX6_findHead_4 ?_
      refine lv_icmp_ge (tgt := 29) hx hb dX6_findHead_7 (by decide) (fun h1 => ?_) (fun h1 => ?_)
      · refine lv_aload_n hx hb dX6_findHead_29 rfl (lv_at hl 0 rfl) ?_
        refine k_get hx hb hts inlX6 hown hW 19 (by omega) k_c19 rfl 14 (by decide) lf_RX6_119 rfl (v := .int (z.1 19 14)) rfl dX6_findHead_30 ?_
        have hR : (f_X6_findHead z p0) = (z.1 19 14) := (hG.symm.trans (by simp only [f_X6_findHead_L2, if_pos h1]))
        exact k_iret hx hb hr rfl hlocks hW ⟨by rw [hR], rfl⟩ dX6_findHead_33
      · refine lv_aload_n hx hb dX6_findHead_10 rfl (lv_at hl 0 rfl) ?_
        refine k_get hx hb hts inlX6 hown hW 19 (by omega) k_c19 rfl 15 (by decide) lf_RX6_49 rfl (v := .ref (E.2.2 32)) rfl dX6_findHead_11 ?_
        refine lv_iload_n hx hb dX6_findHead_14 rfl (lv_at hl 2 rfl) ?_
        refine k_lald hx hb hW 32 60 (by omega) k_c32 (v := (z.2.1 32 i.toNatClampNeg)) (by exact in_lt3 hi0 h1 hI.2.1.2) rfl dX6_findHead_15 ?_
        refine lv_lload_n hx hb dX6_findHead_16 rfl (lv_at hl 1 rfl) ?_
        refine k_lif_ne (tgt := 23) hx hb dX6_findHead_17 dX6_findHead_18 (by decide) (fun h2 => ?_) (fun h2 => ?_)
        · refine lv_iinc (v := i + 1) (lv' := [(3, .int (i + 1)), (0, .ref (E.2.2 19)), (1, .long p0)]) hx hb dX6_findHead_23 hl (k := 2) rfl rfl (by decide) rfl (fun ls hl => ?_)
          refine lv_goto (tgt := 2) hx hb dX6_findHead_26 (by decide) ?_
          exact ih (i + 1) _ _ _ (in_s0 hi0 h1 hI.2.1.2) (in_sm hi0 h1 hI.2.1.2 hm) hW (lv_sub hl [1, 2, 0] rfl) (Eq.symm (hG.symm.trans (by simp only [f_X6_findHead_L2, if_neg h1, if_neg h2])))
        · refine lv_iload_n hx hb dX6_findHead_21 rfl (lv_at hl 2 rfl) ?_
          have hR : (f_X6_findHead z p0) = i := (hG.symm.trans (by simp only [f_X6_findHead_L2, if_neg h1, if_pos h2]))
          exact k_iret hx hb hr rfl hlocks hW ⟨by rw [hR], rfl⟩ dX6_findHead_22
  have hl : lv_has ls 4 [(0, .ref (E.2.2 19)), (1, .long p0)] := hl
  refine lv_iconst (v := 0) hx hb dX6_findHead_0 (by decide) ?_
  refine lv_istore_n (lv' := [(3, .int 0), (0, .ref (E.2.2 19)), (1, .long p0)]) hx hb dX6_findHead_1 rfl hl (by decide) rfl (fun ls hl => ?_)
  exact L2 61 0 _ _ _ (by decide) (by decide) hW (lv_sub hl [1, 2, 0] rfl) (Eq.symm (by simp only [f_X6_findHead]))

def f_X6_isInChain_L2 (z : Sg) (p0 : Int32) : Nat → Int32 → Int32
  | 0, _ => 0
  | k + 1, i =>
    if (z.1 19 18) ≤ i then
      0
    else
      if (z.1 35 i.toNatClampNeg) = p0 then
        1
      else
        f_X6_isInChain_L2 z p0 k (i + 1)
termination_by k9 => k9
def f_X6_isInChain (z : Sg) (p0 : Int32) : Int32 :=
  f_X6_isInChain_L2 z p0 13 0
set_option maxHeartbeats 4000000 in
set_option maxRecDepth 100000 in
theorem c_X6_isInChain (l : Launch) (E : Ev) (S sz : Nat) (z : Sg) (p0 : Int32) (hI : k_J S z) : k_Met l yX6_isInChain cX6_isInChain 3 (some .boolean) ({ frames := 0, cells := 0, slots := 0, locals := 0 }) [.ref (E.2.2 19), .int p0] E (46 + 6 * S) z sz (fun v u => v = some (.int (f_X6_isInChain z p0)) ∧ u = z) 0 0 := by
  refine k_body (by decide +kernel) (Nat.le_of_ble_eq_true rfl) ?_
  intro p e s m below meth cd ls hx hb hr hml hown hlocks hts hW hl
  have L2 : ∀ (k : Nat) (i : Int32) (H : Heap) (locs : List Loc) (ls : Array Slot), (0 ≤ i.toInt) → 12 - i.toInt.toNat < k → k_W E (46 + 6 * S) z (k_A E (46 + 6 * S) z s.heap.size) s H locs → lv_has ls 3 [(0, .ref (E.2.2 19)), (1, .int p0), (2, .int i)] → f_X6_isInChain_L2 z p0 k i = (f_X6_isInChain z p0) → W p l e ({ frames := 0, cells := 0, slots := 0, locals := 0 }) s m ([.ref (E.2.2 19), .int p0] : List Value).toArray below meth cd H locs 0 0 (MQ below (k_Q (fun v u => v = some (.int (f_X6_isInChain z p0)) ∧ u = z) E (46 + 6 * S) z s.heap.size) ([.ref (E.2.2 19), .int p0] : List Value).toArray s 0 0 (k_A E (46 + 6 * S) z s.heap.size)) (F0 m 2 ls []) := by
    intro k
    induction k with
    | zero =>
      intro i H locs ls hi0 hm
      exact absurd hm (Nat.not_lt_zero _)
    | succ k ih =>
      intro i H locs ls hi0 hm hW hl hG
      refine lv_iload_n hx hb dX6_isInChain_2 rfl (lv_at hl 2 rfl) ?_
      refine lv_aload_n hx hb dX6_isInChain_3 rfl (lv_at hl 0 rfl) ?_
      refine k_get hx hb hts inlX6 hown hW 19 (by omega) k_c19 rfl 18 (by decide) lf_RX6_178 rfl (v := .int (z.1 19 18)) rfl dX6_isInChain_4 ?_
      refine lv_icmp_ge (tgt := 28) hx hb dX6_isInChain_7 (by decide) (fun h1 => ?_) (fun h1 => ?_)
      · refine lv_iconst (v := 0) hx hb dX6_isInChain_28 (by decide) ?_
        have hR : (f_X6_isInChain z p0) = 0 := (hG.symm.trans (by simp only [f_X6_isInChain_L2, if_pos h1]))
        exact k_iret hx hb hr rfl hlocks hW ⟨by rw [hR], rfl⟩ dX6_isInChain_29
      · refine lv_aload_n hx hb dX6_isInChain_10 rfl (lv_at hl 0 rfl) ?_
        refine k_get hx hb hts inlX6 hown hW 19 (by omega) k_c19 rfl 19 (by decide) lf_RX6_58 rfl (v := .ref (E.2.2 35)) rfl dX6_isInChain_11 ?_
        refine lv_iload_n hx hb dX6_isInChain_14 rfl (lv_at hl 2 rfl) ?_
        refine k_iald hx hb hW 35 12 (by omega) k_c35 (v := (z.1 35 i.toNatClampNeg)) (by exact in_lt3 hi0 h1 hI.2.2.1.2) rfl dX6_isInChain_15 ?_
        refine lv_iload_n hx hb dX6_isInChain_16 rfl (lv_at hl 1 rfl) ?_
        refine lv_icmp_ne (tgt := 22) hx hb dX6_isInChain_17 (by decide) (fun h2 => ?_) (fun h2 => ?_)
        · refine lv_iinc (v := i + 1) (lv' := [(2, .int (i + 1)), (0, .ref (E.2.2 19)), (1, .int p0)]) hx hb dX6_isInChain_22 hl (k := 2) rfl rfl (by decide) rfl (fun ls hl => ?_)
          refine lv_goto (tgt := 2) hx hb dX6_isInChain_25 (by decide) ?_
          exact ih (i + 1) _ _ _ (in_s0 hi0 h1 hI.2.2.1.2) (in_sm hi0 h1 hI.2.2.1.2 hm) hW (lv_sub hl [1, 2, 0] rfl) (Eq.symm (hG.symm.trans (by simp only [f_X6_isInChain_L2, if_neg h1, if_neg h2])))
        · refine lv_iconst (v := 1) hx hb dX6_isInChain_20 (by decide) ?_
          have hR : (f_X6_isInChain z p0) = 1 := (hG.symm.trans (by simp only [f_X6_isInChain_L2, if_neg h1, if_pos h2]))
          exact k_iret hx hb hr rfl hlocks hW ⟨by rw [hR], rfl⟩ dX6_isInChain_21
  have hl : lv_has ls 3 [(0, .ref (E.2.2 19)), (1, .int p0)] := hl
  refine lv_iconst (v := 0) hx hb dX6_isInChain_0 (by decide) ?_
  refine lv_istore_n (lv' := [(2, .int 0), (0, .ref (E.2.2 19)), (1, .int p0)]) hx hb dX6_isInChain_1 rfl hl (by decide) rfl (fun ls hl => ?_)
  exact L2 13 0 _ _ _ (by decide) (by decide) hW (lv_sub hl [1, 2, 0] rfl) (Eq.symm (by simp only [f_X6_isInChain]))

theorem sz_ne {x : Int32} {n : Nat} {m : Int32} (h : 0 ≤ x.toInt ∧ x.toInt ≤ n) (hm : m.toInt = n) (hne : ¬ x = m) : 0 ≤ x.toInt ∧ x.toInt < n := by
  have : ¬ x.toInt = m.toInt := fun e => hne (Int32.toInt_inj.mp e)
  omega
theorem oc_b {x m : Int32} {n : Nat} (h0 : ¬ x < 0) (h1 : x < m) (hm : m.toInt ≤ n) : 0 ≤ x.toInt ∧ x.toInt < n := by
  have := nn_of h0
  simp only [Int32.lt_iff_toInt_lt] at h1
  omega
theorem b_findHead_L2 {z : Sg} {p0 : Int64} (h0 : 0 ≤ (z.1 19 14).toInt) : ∀ (k : Nat) (i : Int32), 0 ≤ i.toInt → i.toInt ≤ (z.1 19 14).toInt → 60 - i.toInt.toNat < k → (z.1 19 14).toInt ≤ 60 → 0 ≤ (f_X6_findHead_L2 z p0 k i).toInt ∧ (f_X6_findHead_L2 z p0 k i).toInt ≤ (z.1 19 14).toInt := by
  intro k
  induction k with
  | zero => intro i _ _ h; exact absurd h (Nat.not_lt_zero _)
  | succ k ih =>
    intro i h1 h2 h3 hc
    rw [f_X6_findHead_L2]
    by_cases g : (z.1 19 14) ≤ i
    · rw [if_pos g]; exact ⟨h0, Int.le_refl _⟩
    · rw [if_neg g]
      split
      · exact ⟨h1, h2⟩
      · refine ih (i + 1) (in_s0 h1 g hc) ?_ (in_sm h1 g hc h3) hc
        rw [i_add1 g]
        simp only [Int32.le_iff_toInt_le] at g
        omega
theorem b_findHead {S : Nat} {z : Sg} {p0 : Int64} (hI : k_J S z) : 0 ≤ (f_X6_findHead z p0).toInt ∧ (f_X6_findHead z p0).toInt ≤ (60 : Nat) := by
  have h := b_findHead_L2 (p0 := p0) hI.2.1.1 61 0 (by decide) hI.2.1.1 (by decide) hI.2.1.2
  have h2 := hI.2.1.2
  unfold f_X6_findHead
  omega
theorem b_find_L2 {S : Nat} {z : Sg} {p0 : Int64} (hI : k_J S z) : ∀ (k : Nat) (i : Int32), 0 ≤ i.toInt → ¬ (f_X6_find_L2 z p0 k i) < 0 → k ≠ 0 → 0 ≤ (f_X6_find_L2 z p0 k i).toInt ∧ (f_X6_find_L2 z p0 k i).toInt < S ∨ 12 - i.toInt.toNat ≥ k := by
  intro k
  induction k with
  | zero => intro i _ _ h; exact absurd rfl h
  | succ k ih =>
    intro i h1 h2 _
    rw [f_X6_find_L2] at h2 ⊢
    by_cases g : (z.1 19 1) ≤ i
    · rw [if_pos g] at h2; exact absurd (by decide) h2
    · rw [if_neg g] at h2 ⊢
      have hS := hI.1.2
      have hS2 := hI.1.1
      by_cases e : (z.2.1 21 i.toNatClampNeg) = p0
      · rw [if_pos e]
        simp only [Int32.le_iff_toInt_le] at g
        left; omega
      · rw [if_neg e] at h2 ⊢
        have h3 := i_add1 g
        have h4 := in_s0 h1 g (n := 12) (by omega)
        by_cases hk : k = 0
        · right
          simp only [Int32.le_iff_toInt_le] at g
          omega
        · rcases ih (i + 1) h4 h2 hk with h | h
          · exact Or.inl h
          · right
            simp only [Int32.le_iff_toInt_le] at g
            omega
theorem b_find {S : Nat} {z : Sg} {p0 : Int64} (hI : k_J S z) (h : ¬ (f_X6_find z p0) < 0) : 0 ≤ (f_X6_find z p0).toInt ∧ (f_X6_find z p0).toInt < S := by
  rcases b_find_L2 hI 13 0 (by decide) h (by decide) with h | h
  · exact h
  · exact absurd h (by decide)
theorem s12 {S : Nat} {z : Sg} (hI : k_J S z) : 0 ≤ (z.1 19 1).toInt ∧ (z.1 19 1).toInt ≤ (12 : Nat) := by
  have h1 := hI.1.1
  have h2 := hI.1.2
  omega
theorem tld_in {x m : Int32} {n : Nat} (h2 : ¬ x < -1) (h3 : ¬ m ≤ x) (h1 : ¬ x = -1) (hm : m.toInt ≤ n) : vp_in x n := by
  simp only [Int32.lt_iff_toInt_lt, Int32.le_iff_toInt_le, ← Int32.toInt_inj] at h1 h2 h3
  have e1 : (-1 : Int32).toInt = -1 := rfl
  refine vp_in_iff.mpr ⟨?_, ?_⟩ <;> omega
theorem i_den (z : Sg) (k : Nat) (hS : (z.1 19 1).toInt < 12) (h0 : 0 ≤ (z.1 19 1).toInt) : 0 ≤ (z.1 19 1).toInt ∧ (z.1 19 1).toInt < (12 : Nat) := ⟨h0, hS⟩
