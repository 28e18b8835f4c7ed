def f_X4_isBlank (z : Sg) (p0 : Int32) : Int32 :=
  if p0 = 0 then
    1
  else
    if p0 = 9 then
      1
    else
      if p0 = 10 then
        1
      else
        if p0 = 12 then
          1
        else
          if p0 = 13 then
            1
          else
            if p0 = 32 then
              1
            else
              0
set_option maxHeartbeats 4000000 in
set_option maxRecDepth 100000 in
theorem c_X4_isBlank (l : Launch) (E : Ev) (S sz : Nat) (z : Sg) (p0 : Int32) : k_Met l yX4_isBlank cX4_isBlank 1 (some .boolean) ({ frames := 0, cells := 0, slots := 0, locals := 0 }) [.int p0] E (46 + 6 * S) z sz (fun v u => v = some (.int (f_X4_isBlank z p0)) ∧ u = z) 0 0 := by
  refine k_body (by decide +kernel) (Nat.le_of_ble_eq_true rfl) ?_
  intro p e s m below meth cd ls hx hb hr hml hown hlocks hts hW hl
  have hl : lv_has ls 1 [(0, .int p0)] := hl
  refine lv_iload_n hx hb dX4_isBlank_0 rfl (lv_at hl 0 rfl) ?_
  refine lv_if_eq (tgt := 34) hx hb dX4_isBlank_1 (by decide) (fun h1 => ?_) (fun h1 => ?_)
  · refine lv_iconst (v := 1) hx hb dX4_isBlank_34 (by decide) ?_
    refine lv_goto (tgt := 39) hx hb dX4_isBlank_35 (by decide) ?_
    have hR : (f_X4_isBlank z p0) = 1 := (by simp only [f_X4_isBlank, if_pos h1])
    exact k_iret hx hb hr rfl hlocks hW ⟨by rw [hR], rfl⟩ dX4_isBlank_39
  · refine lv_iload_n hx hb dX4_isBlank_4 rfl (lv_at hl 0 rfl) ?_
    refine lv_bipush (v := 9) hx hb dX4_isBlank_5 (by decide) ?_
    refine lv_icmp_eq (tgt := 34) hx hb dX4_isBlank_7 (by decide) (fun h2 => ?_) (fun h2 => ?_)
    · refine lv_iconst (v := 1) hx hb dX4_isBlank_34 (by decide) ?_
      refine lv_goto (tgt := 39) hx hb dX4_isBlank_35 (by decide) ?_
      have hR : (f_X4_isBlank z p0) = 1 := (by simp only [f_X4_isBlank, if_neg h1, if_pos h2])
      exact k_iret hx hb hr rfl hlocks hW ⟨by rw [hR], rfl⟩ dX4_isBlank_39
    · refine lv_iload_n hx hb dX4_isBlank_10 rfl (lv_at hl 0 rfl) ?_
      refine lv_bipush (v := 10) hx hb dX4_isBlank_11 (by decide) ?_
      refine lv_icmp_eq (tgt := 34) hx hb dX4_isBlank_13 (by decide) (fun h3 => ?_) (fun h3 => ?_)
      · refine lv_iconst (v := 1) hx hb dX4_isBlank_34 (by decide) ?_
        refine lv_goto (tgt := 39) hx hb dX4_isBlank_35 (by decide) ?_
        have hR : (f_X4_isBlank z p0) = 1 := (by simp only [f_X4_isBlank, if_neg h1, if_neg h2, if_pos h3])
        exact k_iret hx hb hr rfl hlocks hW ⟨by rw [hR], rfl⟩ dX4_isBlank_39
      · refine lv_iload_n hx hb dX4_isBlank_16 rfl (lv_at hl 0 rfl) ?_
        refine lv_bipush (v := 12) hx hb dX4_isBlank_17 (by decide) ?_
        refine lv_icmp_eq (tgt := 34) hx hb dX4_isBlank_19 (by decide) (fun h4 => ?_) (fun h4 => ?_)
        · refine lv_iconst (v := 1) hx hb dX4_isBlank_34 (by decide) ?_
          refine lv_goto (tgt := 39) hx hb dX4_isBlank_35 (by decide) ?_
          have hR : (f_X4_isBlank z p0) = 1 := (by simp only [f_X4_isBlank, if_neg h1, if_neg h2, if_neg h3, if_pos h4])
          exact k_iret hx hb hr rfl hlocks hW ⟨by rw [hR], rfl⟩ dX4_isBlank_39
        · refine lv_iload_n hx hb dX4_isBlank_22 rfl (lv_at hl 0 rfl) ?_
          refine lv_bipush (v := 13) hx hb dX4_isBlank_23 (by decide) ?_
          refine lv_icmp_eq (tgt := 34) hx hb dX4_isBlank_25 (by decide) (fun h5 => ?_) (fun h5 => ?_)
          · refine lv_iconst (v := 1) hx hb dX4_isBlank_34 (by decide) ?_
            refine lv_goto (tgt := 39) hx hb dX4_isBlank_35 (by decide) ?_
            have hR : (f_X4_isBlank z p0) = 1 := (by simp only [f_X4_isBlank, if_neg h1, if_neg h2, if_neg h3, if_neg h4, if_pos h5])
            exact k_iret hx hb hr rfl hlocks hW ⟨by rw [hR], rfl⟩ dX4_isBlank_39
          · refine lv_iload_n hx hb dX4_isBlank_28 rfl (lv_at hl 0 rfl) ?_
            refine lv_bipush (v := 32) hx hb dX4_isBlank_29 (by decide) ?_
            refine lv_icmp_ne (tgt := 38) hx hb dX4_isBlank_31 (by decide) (fun h6 => ?_) (fun h6 => ?_)
            · refine lv_iconst (v := 0) hx hb dX4_isBlank_38 (by decide) ?_
              have hR : (f_X4_isBlank z p0) = 0 := (by simp only [f_X4_isBlank, if_neg h1, if_neg h2, if_neg h3, if_neg h4, if_neg h5, if_neg h6])
              exact k_iret hx hb hr rfl hlocks hW ⟨by rw [hR], rfl⟩ dX4_isBlank_39
            · refine lv_iconst (v := 1) hx hb dX4_isBlank_34 (by decide) ?_
              refine lv_goto (tgt := 39) hx hb dX4_isBlank_35 (by decide) ?_
              have hR : (f_X4_isBlank z p0) = 1 := (by simp only [f_X4_isBlank, if_neg h1, if_neg h2, if_neg h3, if_neg h4, if_neg h5, if_pos h6])
              exact k_iret hx hb hr rfl hlocks hW ⟨by rw [hR], rfl⟩ dX4_isBlank_39

def f_X4_atEnd (z : Sg) : Int32 :=
  if (z.1 18 1) = (z.1 18 2) then
    1
  else
    0
set_option maxHeartbeats 4000000 in
set_option maxRecDepth 100000 in
theorem c_X4_atEnd (l : Launch) (E : Ev) (S sz : Nat) (z : Sg) : k_Met l yX4_atEnd cX4_atEnd 1 (some .boolean) ({ frames := 0, cells := 0, slots := 0, locals := 0 }) [.ref (E.2.2 18)] E (46 + 6 * S) z sz (fun v u => v = some (.int (f_X4_atEnd z)) ∧ u = z) 0 0 := by
  refine k_body (by decide +kernel) (Nat.le_of_ble_eq_true rfl) ?_
  intro p e s m below meth cd ls hx hb hr hml hown hlocks hts hW hl
  have hl : lv_has ls 1 [(0, .ref (E.2.2 18))] := hl
  refine lv_aload_n hx hb dX4_atEnd_0 rfl (lv_at hl 0 rfl) ?_
  refine k_get hx hb hts inlX4 hown hW 18 (by omega) k_c18 rfl 1 (by decide) lf_RX4_27 rfl (v := .int (z.1 18 1)) rfl dX4_atEnd_1 ?_
  refine lv_aload_n hx hb dX4_atEnd_4 rfl (lv_at hl 0 rfl) ?_
  refine k_get hx hb hts inlX4 hown hW 18 (by omega) k_c18 rfl 2 (by decide) lf_RX4_15 rfl (v := .int (z.1 18 2)) rfl dX4_atEnd_5 ?_
  refine lv_icmp_ne (tgt := 15) hx hb dX4_atEnd_8 (by decide) (fun h1 => ?_) (fun h1 => ?_)
  · refine lv_iconst (v := 0) hx hb dX4_atEnd_15 (by decide) ?_
    have hR : (f_X4_atEnd z) = 0 := (by simp only [f_X4_atEnd, if_neg h1])
    exact k_iret hx hb hr rfl hlocks hW ⟨by rw [hR], rfl⟩ dX4_atEnd_16
  · refine lv_iconst (v := 1) hx hb dX4_atEnd_11 (by decide) ?_
    refine lv_goto (tgt := 16) hx hb dX4_atEnd_12 (by decide) ?_
    have hR : (f_X4_atEnd z) = 1 := (by simp only [f_X4_atEnd, if_pos h1])
    exact k_iret hx hb hr rfl hlocks hW ⟨by rw [hR], rfl⟩ dX4_atEnd_16

def f_X4_byteAt (z : Sg) (p0 : Int32) : Int32 :=
  match (z.2.2 18 0) with
  | none =>
    0
  | some c2 =>
    if p0 < 0 then
      0
    else
      if (z.1 (46 + 6 * c2) 6) ≤ p0 then
        0
      else
        (z.1 (46 + 6 * c2 + 1) p0.toNatClampNeg)
set_option maxHeartbeats 4000000 in
set_option maxRecDepth 100000 in
theorem c_X4_byteAt (l : Launch) (E : Ev) (S sz : Nat) (z : Sg) (p0 : Int32) (hI : k_I S z) : k_Met l yX4_byteAt cX4_byteAt 2 (some .byte) ({ frames := 0, cells := 0, slots := 0, locals := 0 }) [.ref (E.2.2 18), .int p0] E (46 + 6 * S) z sz (fun v u => v = some (.int (f_X4_byteAt z p0)) ∧ u = z) 0 0 := by
  refine k_body (by decide +kernel) (Nat.le_of_ble_eq_true rfl) ?_
  intro p e s m below meth cd ls hx hb hr hml hown hlocks hts hW hl
  have hl : lv_has ls 2 [(0, .ref (E.2.2 18)), (1, .int p0)] := hl
  refine lv_aload_n hx hb dX4_byteAt_0 rfl (lv_at hl 0 rfl) ?_
  refine k_get hx hb hts inlX4 hown hW 18 (by omega) k_c18 rfl 0 (by decide) lf_RX4_9 rfl (v := k_o E (z.2.2 18 0)) rfl dX4_byteAt_1 ?_
  rcases h1 : (z.2.2 18 0) with _ | c2
  · refine W.eq (g2 := F0 m 4 ls [.null]) rfl ?_
    refine lv_ifnullN (tgt := 34) hx hb dX4_byteAt_4 (by decide) ?_
    refine lv_iconst (v := 0) hx hb dX4_byteAt_34 (by decide) ?_
    have hR : (f_X4_byteAt z p0) = 0 := (by simp only [f_X4_byteAt, h1])
    exact k_iret hx hb hr (by first | rfl | exact nar_b ((k_Is hI lc2).2.2.2.2.1 _)) hlocks hW ⟨by rw [hR], rfl⟩ dX4_byteAt_35
  · have lc2 : c2 < S := hI.2.2.2.2.2.2.2.1 _ h1
    refine W.eq (g2 := F0 m 4 ls [.ref (E.2.2 (46 + 6 * c2))]) rfl ?_
    refine lv_ifnull hx hb dX4_byteAt_4 ?_
    refine lv_iload_n hx hb dX4_byteAt_7 rfl (lv_at hl 1 rfl) ?_
    refine lv_if_lt (tgt := 34) hx hb dX4_byteAt_8 (by decide) (fun h3 => ?_) (fun h3 => ?_)
    · refine lv_iconst (v := 0) hx hb dX4_byteAt_34 (by decide) ?_
      have hR : (f_X4_byteAt z p0) = 0 := (by simp only [f_X4_byteAt, h1, if_pos h3])
      exact k_iret hx hb hr (by first | rfl | exact nar_b ((k_Is hI lc2).2.2.2.2.1 _)) hlocks hW ⟨by rw [hR], rfl⟩ dX4_byteAt_35
    · refine lv_iload_n hx hb dX4_byteAt_11 rfl (lv_at hl 1 rfl) ?_
      refine lv_aload_n hx hb dX4_byteAt_12 rfl (lv_at hl 0 rfl) ?_
      refine k_get hx hb hts inlX4 hown hW 18 (by omega) k_c18 rfl 0 (by decide) lf_RX4_9 rfl (v := .ref (E.2.2 (46 + 6 * c2))) (by show some (k_o E (z.2.2 18 0)) = _; rw [h1]; rfl) dX4_byteAt_13 ?_
      refine k_get hx hb hts inlX3 hown hW (46 + 6 * c2) (by omega) (k_cell_sec c2) rfl 6 (by decide) lf_RX4_22 rfl (v := .int (z.1 (46 + 6 * c2) 6)) rfl dX4_byteAt_16 ?_
      refine lv_icmp_ge (tgt := 34) hx hb dX4_byteAt_19 (by decide) (fun h4 => ?_) (fun h4 => ?_)
      · refine lv_iconst (v := 0) hx hb dX4_byteAt_34 (by decide) ?_
        have hR : (f_X4_byteAt z p0) = 0 := (by simp only [f_X4_byteAt, h1, if_neg h3, if_pos h4])
        exact k_iret hx hb hr (by first | rfl | exact nar_b ((k_Is hI lc2).2.2.2.2.1 _)) hlocks hW ⟨by rw [hR], rfl⟩ dX4_byteAt_35
      · refine lv_aload_n hx hb dX4_byteAt_22 rfl (lv_at hl 0 rfl) ?_
        refine k_get hx hb hts inlX4 hown hW 18 (by omega) k_c18 rfl 0 (by decide) lf_RX4_9 rfl (v := .ref (E.2.2 (46 + 6 * c2))) (by show some (k_o E (z.2.2 18 0)) = _; rw [h1]; rfl) dX4_byteAt_23 ?_
        refine k_get hx hb hts inlX3 hown hW (46 + 6 * c2) (by omega) (k_cell_sec c2) rfl 5 (by decide) lf_RX4_44 rfl (v := .ref (E.2.2 (46 + 6 * c2 + 1))) rfl dX4_byteAt_26 ?_
        refine lv_iload_n hx hb dX4_byteAt_29 rfl (lv_at hl 1 rfl) ?_
        refine k_bald hx hb hW (46 + 6 * c2 + 1) 300 (by omega) (k_cell_sb c2) (v := (z.1 (46 + 6 * c2 + 1) p0.toNatClampNeg)) (by exact in_ge h3 h4 (k_Is hI lc2).2.2.1.2) rfl dX4_byteAt_30 ?_
        refine lv_goto (tgt := 35) hx hb dX4_byteAt_31 (by decide) ?_
        have hR : (f_X4_byteAt z p0) = (z.1 (46 + 6 * c2 + 1) p0.toNatClampNeg) := (by simp only [f_X4_byteAt, h1, if_neg h3, if_neg h4])
        exact k_iret hx hb hr (by first | rfl | exact nar_b ((k_Is hI lc2).2.2.2.2.1 _)) hlocks hW ⟨by rw [hR], rfl⟩ dX4_byteAt_35

def f_X4_step_L70 : Nat → Sg → Int32 → Sg
  | 0, w, _ => w
  | k + 1, w, n =>
    if n ≤ (w.1 18 2) then
      w
    else
      if (f_X4_isBlank w (f_X4_byteAt w (w.1 18 2))) = 0 then
        f_X4_step_L70 k (uI w 18 2 ((w.1 18 2) + 1)) n
      else
        w
termination_by k9 => k9
def f_X4_step_L27 : Nat → Sg → Int32 → Sg
  | 0, w, _ => w
  | k + 1, w, n =>
    if n ≤ (w.1 18 1) then
      f_X4_step_L70 301 (uI w 18 2 (w.1 18 1)) n
    else
      if (f_X4_isBlank w (f_X4_byteAt w (w.1 18 1))) = 0 then
        f_X4_step_L70 301 (uI w 18 2 (w.1 18 1)) n
      else
        f_X4_step_L27 k (uI w 18 1 ((w.1 18 1) + 1)) n
termination_by k9 => k9
def f_X4_step (z : Sg) : Sg :=
  match (z.2.2 18 0) with
  | none =>
    f_X4_step_L27 301 (uI z 18 1 (z.1 18 2)) 0
  | some c6 =>
    f_X4_step_L27 301 (uI z 18 1 (z.1 18 2)) (z.1 (46 + 6 * c6) 6)
set_option maxHeartbeats 4000000 in
set_option maxRecDepth 100000 in
theorem c_X4_step (l : Launch) (E : Ev) (S sz : Nat) (z : Sg) (hI : k_I S z) : k_Met l yX4_step cX4_step 2 none ({ frames := 1, cells := 0, slots := 0, locals := 21 }) [.ref (E.2.2 18)] E (46 + 6 * S) z sz (fun v u => v = none ∧ u = (f_X4_step z)) 0 0 := by
  refine k_body (by decide +kernel) (Nat.le_of_ble_eq_true rfl) ?_
  intro p e s m below meth cd ls hx hb hr hml hown hlocks hts hW hl
  have L70 : ∀ (k : Nat) (w : Sg) (n : Int32) (H : Heap) (locs : List Loc) (ls : Array Slot), (k_I S w) → (n.toInt ≤ 300) → 300 - (w.1 18 2).toInt.toNat < k → k_W E (46 + 6 * S) w (k_A E (46 + 6 * S) z s.heap.size) s H locs → lv_has ls 2 [(0, .ref (E.2.2 18)), (1, .int n)] → f_X4_step_L70 k w n = (f_X4_step z) → W p l e ({ frames := 1, cells := 0, slots := 0, locals := 21 }) s m ([.ref (E.2.2 18)] : List Value).toArray below meth cd H locs 0 0 (MQ below (k_Q (fun v u => v = none ∧ u = (f_X4_step z)) E (46 + 6 * S) z s.heap.size) ([.ref (E.2.2 18)] : List Value).toArray s 0 0 (k_A E (46 + 6 * S) z s.heap.size)) (F0 m 70 ls []) := by
    intro k
    induction k with
    | zero =>
      intro w n H locs ls hi0 hi1 hm
      exact absurd hm (Nat.not_lt_zero _)
    | succ k ih =>
      intro w n H locs ls hi0 hi1 hm hW hl hG
      refine lv_aload_n hx hb dX4_step_70 rfl (lv_at hl 0 rfl) ?_
      refine k_get hx hb hts inlX4 hown hW 18 (by omega) k_c18 rfl 2 (by decide) lf_RX4_15 rfl (v := .int (w.1 18 2)) rfl dX4_step_71 ?_
      refine lv_iload_n hx hb dX4_step_74 rfl (lv_at hl 1 rfl) ?_
      refine lv_icmp_ge (tgt := 105) hx hb dX4_step_75 (by decide) (fun h1 => ?_) (fun h1 => ?_)
      · have hR : (f_X4_step z) = w := (hG.symm.trans (by simp only [f_X4_step_L70, if_pos h1]))
        exact k_vret hx hb hr hlocks hW ⟨rfl, by rw [hR]⟩ dX4_step_105
      · refine lv_aload_n hx hb dX4_step_78 rfl (lv_at hl 0 rfl) ?_
        refine lv_aload_n hx hb dX4_step_79 rfl (lv_at hl 0 rfl) ?_
        refine k_get hx hb hts inlX4 hown hW 18 (by omega) k_c18 rfl 2 (by decide) lf_RX4_15 rfl (v := .int (w.1 18 2)) rfl dX4_step_80 ?_
        refine k_callV (As := [.int (w.1 18 2)]) (rest := []) hx hb hml hown hts (c_X4_byteAt l E S _ w (w.1 18 2) hi0) lm_RX4_30 ln_X4_byteAt le_X4_byteAt li_X4 lk_X4_byteAt (show k_nm yX4_byteAt 1 by decide +kernel) ⟨Nat.le_of_ble_eq_true rfl, Nat.le_of_ble_eq_true rfl⟩ rfl rfl ⟨Nat.le_of_ble_eq_true rfl, Nat.le_of_ble_eq_true rfl⟩ hl.1 rfl (Nat.le_of_ble_eq_true rfl) dX4_step_83 (by omega) (k_c18 _ _ _) rfl hW (fun v z1 H locs hp hW => ?_)
        obtain ⟨rfl, hz1⟩ := hp
        rw [hz1] at hW
        refine W.eq (g2 := F0 m 86 ls [.int (f_X4_byteAt w (w.1 18 2))]) rfl ?_
        refine k_callS (rest := []) hx hb hml hown hts (c_X4_isBlank l E S _ w (f_X4_byteAt w (w.1 18 2))) lm_RX4_34 ls_X4_isBlank li_X4 lk_X4_isBlank (show k_nm yX4_isBlank 1 by decide +kernel) ⟨Nat.le_of_ble_eq_true rfl, Nat.le_of_ble_eq_true rfl⟩ rfl rfl ⟨Nat.le_of_ble_eq_true rfl, Nat.le_of_ble_eq_true rfl⟩ hl.1 rfl (Nat.le_of_ble_eq_true rfl) dX4_step_86 hW (fun v z1 H locs hp hW => ?_)
        obtain ⟨rfl, hz1⟩ := hp
        rw [hz1] at hW
        refine W.eq (g2 := F0 m 89 ls [.int (f_X4_isBlank w (f_X4_byteAt w (w.1 18 2)))]) rfl ?_
        refine lv_if_ne (tgt := 105) hx hb dX4_step_89 (by decide) (fun h2 => ?_) (fun h2 => ?_)
        · have hR : (f_X4_step z) = w := (hG.symm.trans (by simp only [f_X4_step_L70, if_neg h1, if_neg h2]))
          exact k_vret hx hb hr hlocks hW ⟨rfl, by rw [hR]⟩ dX4_step_105
        · refine lv_aload_n hx hb dX4_step_92 rfl (lv_at hl 0 rfl) ?_
          refine lv_dup hx hb dX4_step_93 rfl ?_
          refine k_get hx hb hts inlX4 hown hW 18 (by omega) k_c18 rfl 2 (by decide) lf_RX4_15 rfl (v := .int (w.1 18 2)) rfl dX4_step_94 ?_
          refine lv_iconst (v := 1) hx hb dX4_step_97 (by decide) ?_
          refine lv_iadd hx hb dX4_step_98 ?_
          refine k_putI hx hb hts inlX4 tyX4_ok nmX4 hown hW 18 (by omega) k_c18 rfl 2 (by decide) lf_RX4_15 rfl rfl (tyX4_ok 2 (by decide)) (Nat.le_of_ble_eq_true rfl) ks_X4_2 dX4_step_99 (fun H locs hW => ?_)
          refine lv_goto (tgt := 70) hx hb dX4_step_102 (by decide) ?_
          exact ih (uI w 18 2 ((w.1 18 2) + 1)) n _ _ _ (k_I_e (in_s0 (k_IT hi0).2.1 h1 hi1) (in_le1 h1 hi1) hi0) (hi1) (in_sm (k_IT hi0).2.1 h1 hi1 hm) hW (lv_sub hl [0, 1] rfl) (Eq.symm (hG.symm.trans (by simp only [f_X4_step_L70, if_neg h1, if_pos h2])))
  have L27 : ∀ (k : Nat) (w : Sg) (n : Int32) (H : Heap) (locs : List Loc) (ls : Array Slot), (k_I S w) → (n.toInt ≤ 300) → 300 - (w.1 18 1).toInt.toNat < k → k_W E (46 + 6 * S) w (k_A E (46 + 6 * S) z s.heap.size) s H locs → lv_has ls 2 [(0, .ref (E.2.2 18)), (1, .int n)] → f_X4_step_L27 k w n = (f_X4_step z) → W p l e ({ frames := 1, cells := 0, slots := 0, locals := 21 }) s m ([.ref (E.2.2 18)] : List Value).toArray below meth cd H locs 0 0 (MQ below (k_Q (fun v u => v = none ∧ u = (f_X4_step z)) E (46 + 6 * S) z s.heap.size) ([.ref (E.2.2 18)] : List Value).toArray s 0 0 (k_A E (46 + 6 * S) z s.heap.size)) (F0 m 27 ls []) := by
    intro k
    induction k with
    | zero =>
      intro w n H locs ls hi0 hi1 hm
      exact absurd hm (Nat.not_lt_zero _)
    | succ k ih =>
      intro w n H locs ls hi0 hi1 hm hW hl hG
      refine lv_aload_n hx hb dX4_step_27 rfl (lv_at hl 0 rfl) ?_
      refine k_get hx hb hts inlX4 hown hW 18 (by omega) k_c18 rfl 1 (by decide) lf_RX4_27 rfl (v := .int (w.1 18 1)) rfl dX4_step_28 ?_
      refine lv_iload_n hx hb dX4_step_31 rfl (lv_at hl 1 rfl) ?_
      refine lv_icmp_ge (tgt := 62) hx hb dX4_step_32 (by decide) (fun h3 => ?_) (fun h3 => ?_)
      · refine lv_aload_n hx hb dX4_step_62 rfl (lv_at hl 0 rfl) ?_
        refine lv_aload_n hx hb dX4_step_63 rfl (lv_at hl 0 rfl) ?_
        refine k_get hx hb hts inlX4 hown hW 18 (by omega) k_c18 rfl 1 (by decide) lf_RX4_27 rfl (v := .int (w.1 18 1)) rfl dX4_step_64 ?_
        refine k_putI hx hb hts inlX4 tyX4_ok nmX4 hown hW 18 (by omega) k_c18 rfl 2 (by decide) lf_RX4_15 rfl rfl (tyX4_ok 2 (by decide)) (Nat.le_of_ble_eq_true rfl) ks_X4_2 dX4_step_67 (fun H locs hW => ?_)
        exact L70 301 (uI w 18 2 (w.1 18 1)) n _ _ _ (k_I_e (k_IT hi0).1.1 (k_IT hi0).1.2 hi0) (hi1) (by show 300 - (w.1 18 1).toInt.toNat < 301; omega) hW (lv_sub hl [0, 1] rfl) (Eq.symm (hG.symm.trans (by simp only [f_X4_step_L27, if_pos h3])))
      · refine lv_aload_n hx hb dX4_step_35 rfl (lv_at hl 0 rfl) ?_
        refine lv_aload_n hx hb dX4_step_36 rfl (lv_at hl 0 rfl) ?_
        refine k_get hx hb hts inlX4 hown hW 18 (by omega) k_c18 rfl 1 (by decide) lf_RX4_27 rfl (v := .int (w.1 18 1)) rfl dX4_step_37 ?_
        refine k_callV (As := [.int (w.1 18 1)]) (rest := []) hx hb hml hown hts (c_X4_byteAt l E S _ w (w.1 18 1) hi0) lm_RX4_30 ln_X4_byteAt le_X4_byteAt li_X4 lk_X4_byteAt (show k_nm yX4_byteAt 1 by decide +kernel) ⟨Nat.le_of_ble_eq_true rfl, Nat.le_of_ble_eq_true rfl⟩ rfl rfl ⟨Nat.le_of_ble_eq_true rfl, Nat.le_of_ble_eq_true rfl⟩ hl.1 rfl (Nat.le_of_ble_eq_true rfl) dX4_step_40 (by omega) (k_c18 _ _ _) rfl hW (fun v z1 H locs hp hW => ?_)
        obtain ⟨rfl, hz1⟩ := hp
        rw [hz1] at hW
        refine W.eq (g2 := F0 m 43 ls [.int (f_X4_byteAt w (w.1 18 1))]) rfl ?_
        refine k_callS (rest := []) hx hb hml hown hts (c_X4_isBlank l E S _ w (f_X4_byteAt w (w.1 18 1))) lm_RX4_34 ls_X4_isBlank li_X4 lk_X4_isBlank (show k_nm yX4_isBlank 1 by decide +kernel) ⟨Nat.le_of_ble_eq_true rfl, Nat.le_of_ble_eq_true rfl⟩ rfl rfl ⟨Nat.le_of_ble_eq_true rfl, Nat.le_of_ble_eq_true rfl⟩ hl.1 rfl (Nat.le_of_ble_eq_true rfl) dX4_step_43 hW (fun v z1 H locs hp hW => ?_)
        obtain ⟨rfl, hz1⟩ := hp
        rw [hz1] at hW
        refine W.eq (g2 := F0 m 46 ls [.int (f_X4_isBlank w (f_X4_byteAt w (w.1 18 1)))]) rfl ?_
        refine lv_if_eq (tgt := 62) hx hb dX4_step_46 (by decide) (fun h4 => ?_) (fun h4 => ?_)
        · refine lv_aload_n hx hb dX4_step_62 rfl (lv_at hl 0 rfl) ?_
          refine lv_aload_n hx hb dX4_step_63 rfl (lv_at hl 0 rfl) ?_
          refine k_get hx hb hts inlX4 hown hW 18 (by omega) k_c18 rfl 1 (by decide) lf_RX4_27 rfl (v := .int (w.1 18 1)) rfl dX4_step_64 ?_
          refine k_putI hx hb hts inlX4 tyX4_ok nmX4 hown hW 18 (by omega) k_c18 rfl 2 (by decide) lf_RX4_15 rfl rfl (tyX4_ok 2 (by decide)) (Nat.le_of_ble_eq_true rfl) ks_X4_2 dX4_step_67 (fun H locs hW => ?_)
          exact L70 301 (uI w 18 2 (w.1 18 1)) n _ _ _ (k_I_e (k_IT hi0).1.1 (k_IT hi0).1.2 hi0) (hi1) (by show 300 - (w.1 18 1).toInt.toNat < 301; omega) hW (lv_sub hl [0, 1] rfl) (Eq.symm (hG.symm.trans (by simp only [f_X4_step_L27, if_neg h3, if_pos h4])))
        · refine lv_aload_n hx hb dX4_step_49 rfl (lv_at hl 0 rfl) ?_
          refine lv_dup hx hb dX4_step_50 rfl ?_
          refine k_get hx hb hts inlX4 hown hW 18 (by omega) k_c18 rfl 1 (by decide) lf_RX4_27 rfl (v := .int (w.1 18 1)) rfl dX4_step_51 ?_
          refine lv_iconst (v := 1) hx hb dX4_step_54 (by decide) ?_
          refine lv_iadd hx hb dX4_step_55 ?_
          refine k_putI hx hb hts inlX4 tyX4_ok nmX4 hown hW 18 (by omega) k_c18 rfl 1 (by decide) lf_RX4_27 rfl rfl (tyX4_ok 1 (by decide)) (Nat.le_of_ble_eq_true rfl) ks_X4_1 dX4_step_56 (fun H locs hW => ?_)
          refine lv_goto (tgt := 27) hx hb dX4_step_59 (by decide) ?_
          exact ih (uI w 18 1 ((w.1 18 1) + 1)) n _ _ _ (k_I_b (in_s0 (k_IT hi0).1.1 h3 hi1) (in_le1 h3 hi1) hi0) (hi1) (in_sm (k_IT hi0).1.1 h3 hi1 hm) hW (lv_sub hl [0, 1] rfl) (Eq.symm (hG.symm.trans (by simp only [f_X4_step_L27, if_neg h3, if_neg h4])))
  have hl : lv_has ls 2 [(0, .ref (E.2.2 18))] := hl
  refine lv_aload_n hx hb dX4_step_0 rfl (lv_at hl 0 rfl) ?_
  refine k_get hx hb hts inlX4 hown hW 18 (by omega) k_c18 rfl 0 (by decide) lf_RX4_9 rfl (v := k_o E (z.2.2 18 0)) rfl dX4_step_1 ?_
  rcases h5 : (z.2.2 18 0) with _ | c6
  · refine W.eq (g2 := F0 m 4 ls [.null]) rfl ?_
    refine lv_ifnonnullN hx hb dX4_step_4 ?_
    refine lv_iconst (v := 0) hx hb dX4_step_7 (by decide) ?_
    refine lv_goto (tgt := 18) hx hb dX4_step_8 (by decide) ?_
    refine lv_istore_n (lv' := [(1, .int 0), (0, .ref (E.2.2 18))]) hx hb dX4_step_18 rfl hl (by decide) rfl (fun ls hl => ?_)
    refine lv_aload_n hx hb dX4_step_19 rfl (lv_at hl 1 rfl) ?_
    refine lv_aload_n hx hb dX4_step_20 rfl (lv_at hl 1 rfl) ?_
    refine k_get hx hb hts inlX4 hown hW 18 (by omega) k_c18 rfl 2 (by decide) lf_RX4_15 rfl (v := .int (z.1 18 2)) rfl dX4_step_21 ?_
    refine k_putI hx hb hts inlX4 tyX4_ok nmX4 hown hW 18 (by omega) k_c18 rfl 1 (by decide) lf_RX4_27 rfl rfl (tyX4_ok 1 (by decide)) (Nat.le_of_ble_eq_true rfl) ks_X4_1 dX4_step_24 (fun H locs hW => ?_)
    exact L27 301 (uI z 18 1 (z.1 18 2)) 0 _ _ _ (k_I_b (k_IT hI).2.1 (k_IT hI).2.2 hI) (by first | decide | exact (k_Is hI lc6).2.2.1.2) (by show 300 - (z.1 18 2).toInt.toNat < 301; omega) hW (lv_sub hl [1, 0] rfl) (Eq.symm (by simp only [f_X4_step, h5]))
  · have lc6 : c6 < S := hI.2.2.2.2.2.2.2.1 _ h5
    refine W.eq (g2 := F0 m 4 ls [.ref (E.2.2 (46 + 6 * c6))]) rfl ?_
    refine lv_ifnonnull (tgt := 11) hx hb dX4_step_4 (by decide) ?_
    refine lv_aload_n hx hb dX4_step_11 rfl (lv_at hl 0 rfl) ?_
    refine k_get hx hb hts inlX4 hown hW 18 (by omega) k_c18 rfl 0 (by decide) lf_RX4_9 rfl (v := .ref (E.2.2 (46 + 6 * c6))) (by show some (k_o E (z.2.2 18 0)) = _; rw [h5]; rfl) dX4_step_12 ?_
    refine k_get hx hb hts inlX3 hown hW (46 + 6 * c6) (by omega) (k_cell_sec c6) rfl 6 (by decide) lf_RX4_22 rfl (v := .int (z.1 (46 + 6 * c6) 6)) rfl dX4_step_15 ?_
    refine lv_istore_n (lv' := [(1, .int (z.1 (46 + 6 * c6) 6)), (0, .ref (E.2.2 18))]) hx hb dX4_step_18 rfl hl (by decide) rfl (fun ls hl => ?_)
    refine lv_aload_n hx hb dX4_step_19 rfl (lv_at hl 1 rfl) ?_
    refine lv_aload_n hx hb dX4_step_20 rfl (lv_at hl 1 rfl) ?_
    refine k_get hx hb hts inlX4 hown hW 18 (by omega) k_c18 rfl 2 (by decide) lf_RX4_15 rfl (v := .int (z.1 18 2)) rfl dX4_step_21 ?_
    refine k_putI hx hb hts inlX4 tyX4_ok nmX4 hown hW 18 (by omega) k_c18 rfl 1 (by decide) lf_RX4_27 rfl rfl (tyX4_ok 1 (by decide)) (Nat.le_of_ble_eq_true rfl) ks_X4_1 dX4_step_24 (fun H locs hW => ?_)
    exact L27 301 (uI z 18 1 (z.1 18 2)) (z.1 (46 + 6 * c6) 6) _ _ _ (k_I_b (k_IT hI).2.1 (k_IT hI).2.2 hI) (by first | decide | exact (k_Is hI lc6).2.2.1.2) (by show 300 - (z.1 18 2).toInt.toNat < 301; omega) hW (lv_sub hl [1, 0] rfl) (Eq.symm (by simp only [f_X4_step, h5]))

def f_X4_isNumber_L28 (z : Sg) : Nat → Int32 → Int32
  | 0, _ => 0
  | k + 1, i =>
    if (z.1 18 2) ≤ i then
      1
    else
      if (f_X4_byteAt z i) < 48 then
        0
      else
        if (f_X4_byteAt z i) ≤ 57 then
          f_X4_isNumber_L28 z k (i + 1)
        else
          0
termination_by k9 => k9
def f_X4_isNumber (z : Sg) : Int32 :=
  if (f_X4_atEnd z) = 0 then
    if (z.1 18 2) - (z.1 18 1) ≤ 10 then
      f_X4_isNumber_L28 z 301 (z.1 18 1)
    else
      0
  else
    0
set_option maxHeartbeats 4000000 in
set_option maxRecDepth 100000 in
theorem c_X4_isNumber (l : Launch) (E : Ev) (S sz : Nat) (z : Sg) (hI : k_I S z) : k_Met l yX4_isNumber cX4_isNumber 2 (some .boolean) ({ frames := 1, cells := 0, slots := 0, locals := 21 }) [.ref (E.2.2 18)] E (46 + 6 * S) z sz (fun v u => v = some (.int (f_X4_isNumber z)) ∧ u = z) 0 0 := by
  refine k_body (by decide +kernel) (Nat.le_of_ble_eq_true rfl) ?_
  intro p e s m below meth cd ls hx hb hr hml hown hlocks hts hW hl
  have L28 : ∀ (k : Nat) (i : Int32) (H : Heap) (locs : List Loc) (ls : Array Slot), (0 ≤ i.toInt) → 300 - i.toInt.toNat < k → k_W E (46 + 6 * S) z (k_A E (46 + 6 * S) z s.heap.size) s H locs → lv_has ls 2 [(0, .ref (E.2.2 18)), (1, .int i)] → f_X4_isNumber_L28 z k i = (f_X4_isNumber z) → W p l e ({ frames := 1, cells := 0, slots := 0, locals := 21 }) s m ([.ref (E.2.2 18)] : List Value).toArray below meth cd H locs 0 0 (MQ below (k_Q (fun v u => v = some (.int (f_X4_isNumber z)) ∧ u = z) E (46 + 6 * S) z s.heap.size) ([.ref (E.2.2 18)] : List Value).toArray s 0 0 (k_A E (46 + 6 * S) z s.heap.size)) (F0 m 28 ls []) := by
    intro k
    induction k with
    | zero =>
      intro i H locs ls hi0 hm
      exact absurd hm (Nat.not_lt_zero _)
    | succ k ih =>
      intro i H locs ls hi0 hm hW hl hG
      refine lv_iload_n hx hb dX4_isNumber_28 rfl (lv_at hl 1 rfl) ?_
      refine lv_aload_n hx hb dX4_isNumber_29 rfl (lv_at hl 0 rfl) ?_
      refine k_get hx hb hts inlX4 hown hW 18 (by omega) k_c18 rfl 2 (by decide) lf_RX4_15 rfl (v := .int (z.1 18 2)) rfl dX4_isNumber_30 ?_
      refine lv_icmp_ge (tgt := 64) hx hb dX4_isNumber_33 (by decide) (fun h1 => ?_) (fun h1 => ?_)
      · refine lv_iconst (v := 1) hx hb dX4_isNumber_64 (by decide) ?_
        have hR : (f_X4_isNumber z) = 1 := (hG.symm.trans (by simp only [f_X4_isNumber_L28, if_pos h1]))
        exact k_iret hx hb hr rfl hlocks hW ⟨by rw [hR], rfl⟩ dX4_isNumber_65
      · refine lv_aload_n hx hb dX4_isNumber_36 rfl (lv_at hl 0 rfl) ?_
        refine lv_iload_n hx hb dX4_isNumber_37 rfl (lv_at hl 1 rfl) ?_
        refine k_callV (As := [.int i]) (rest := []) hx hb hml hown hts (c_X4_byteAt l E S _ z i hI) lm_RX4_30 ln_X4_byteAt le_X4_byteAt li_X4 lk_X4_byteAt (show k_nm yX4_byteAt 1 by decide +kernel) ⟨Nat.le_of_ble_eq_true rfl, Nat.le_of_ble_eq_true rfl⟩ rfl rfl ⟨Nat.le_of_ble_eq_true rfl, Nat.le_of_ble_eq_true rfl⟩ hl.1 rfl (Nat.le_of_ble_eq_true rfl) dX4_isNumber_38 (by omega) (k_c18 _ _ _) rfl hW (fun v z1 H locs hp hW => ?_)
        obtain ⟨rfl, hz1⟩ := hp
        rw [hz1] at hW
        refine W.eq (g2 := F0 m 41 ls [.int (f_X4_byteAt z i)]) rfl ?_
        refine lv_bipush (v := 48) hx hb dX4_isNumber_41 (by decide) ?_
        refine lv_icmp_lt (tgt := 56) hx hb dX4_isNumber_43 (by decide) (fun h2 => ?_) (fun h2 => ?_)
        · refine lv_iconst (v := 0) hx hb dX4_isNumber_56 (by decide) ?_
          have hR : (f_X4_isNumber z) = 0 := (hG.symm.trans (by simp only [f_X4_isNumber_L28, if_neg h1, if_pos h2]))
          exact k_iret hx hb hr rfl hlocks hW ⟨by rw [hR], rfl⟩ dX4_isNumber_57
        · refine lv_aload_n hx hb dX4_isNumber_46 rfl (lv_at hl 0 rfl) ?_
          refine lv_iload_n hx hb dX4_isNumber_47 rfl (lv_at hl 1 rfl) ?_
          refine k_callV (As := [.int i]) (rest := []) hx hb hml hown hts (c_X4_byteAt l E S _ z i hI) lm_RX4_30 ln_X4_byteAt le_X4_byteAt li_X4 lk_X4_byteAt (show k_nm yX4_byteAt 1 by decide +kernel) ⟨Nat.le_of_ble_eq_true rfl, Nat.le_of_ble_eq_true rfl⟩ rfl rfl ⟨Nat.le_of_ble_eq_true rfl, Nat.le_of_ble_eq_true rfl⟩ hl.1 rfl (Nat.le_of_ble_eq_true rfl) dX4_isNumber_48 (by omega) (k_c18 _ _ _) rfl hW (fun v z1 H locs hp hW => ?_)
          obtain ⟨rfl, hz1⟩ := hp
          rw [hz1] at hW
          refine W.eq (g2 := F0 m 51 ls [.int (f_X4_byteAt z i)]) rfl ?_
          refine lv_bipush (v := 57) hx hb dX4_isNumber_51 (by decide) ?_
          refine lv_icmp_le (tgt := 58) hx hb dX4_isNumber_53 (by decide) (fun h3 => ?_) (fun h3 => ?_)
          · refine lv_iinc (v := i + 1) (lv' := [(1, .int (i + 1)), (0, .ref (E.2.2 18))]) hx hb dX4_isNumber_58 hl (k := 1) rfl rfl (by decide) rfl (fun ls hl => ?_)
            refine lv_goto (tgt := 28) hx hb dX4_isNumber_61 (by decide) ?_
            exact ih (i + 1) _ _ _ (in_s0 hi0 h1 (k_IT hI).2.2) (in_sm hi0 h1 (k_IT hI).2.2 hm) hW (lv_sub hl [1, 0] rfl) (Eq.symm (hG.symm.trans (by simp only [f_X4_isNumber_L28, if_neg h1, if_neg h2, if_pos h3])))
          · refine lv_iconst (v := 0) hx hb dX4_isNumber_56 (by decide) ?_
            have hR : (f_X4_isNumber z) = 0 := (hG.symm.trans (by simp only [f_X4_isNumber_L28, if_neg h1, if_neg h2, if_neg h3]))
            exact k_iret hx hb hr rfl hlocks hW ⟨by rw [hR], rfl⟩ dX4_isNumber_57
  have hl : lv_has ls 2 [(0, .ref (E.2.2 18))] := hl
  refine lv_aload_n hx hb dX4_isNumber_0 rfl (lv_at hl 0 rfl) ?_
  refine k_callV (As := []) (rest := []) hx hb hml hown hts (c_X4_atEnd l E S _ z) lm_RX4_38 ln_X4_atEnd le_X4_atEnd li_X4 lk_X4_atEnd (show k_nm yX4_atEnd 0 by decide +kernel) ⟨Nat.le_of_ble_eq_true rfl, Nat.le_of_ble_eq_true rfl⟩ rfl rfl ⟨Nat.le_of_ble_eq_true rfl, Nat.le_of_ble_eq_true rfl⟩ hl.1 rfl (Nat.le_of_ble_eq_true rfl) dX4_isNumber_1 (by omega) (k_c18 _ _ _) rfl hW (fun v z1 H locs hp hW => ?_)
  obtain ⟨rfl, hz1⟩ := hp
  rw [hz1] at hW
  refine W.eq (g2 := F0 m 4 ls [.int (f_X4_atEnd z)]) rfl ?_
  refine lv_if_ne (tgt := 21) hx hb dX4_isNumber_4 (by decide) (fun h4 => ?_) (fun h4 => ?_)
  · refine lv_iconst (v := 0) hx hb dX4_isNumber_21 (by decide) ?_
    have hR : (f_X4_isNumber z) = 0 := (by simp only [f_X4_isNumber, if_neg h4])
    exact k_iret hx hb hr rfl hlocks hW ⟨by rw [hR], rfl⟩ dX4_isNumber_22
  · refine lv_aload_n hx hb dX4_isNumber_7 rfl (lv_at hl 0 rfl) ?_
    refine k_get hx hb hts inlX4 hown hW 18 (by omega) k_c18 rfl 2 (by decide) lf_RX4_15 rfl (v := .int (z.1 18 2)) rfl dX4_isNumber_8 ?_
    refine lv_aload_n hx hb dX4_isNumber_11 rfl (lv_at hl 0 rfl) ?_
    refine k_get hx hb hts inlX4 hown hW 18 (by omega) k_c18 rfl 1 (by decide) lf_RX4_27 rfl (v := .int (z.1 18 1)) rfl dX4_isNumber_12 ?_
    refine lv_isub hx hb dX4_isNumber_15 ?_
    refine lv_bipush (v := 10) hx hb dX4_isNumber_16 (by decide) ?_
    refine lv_icmp_le (tgt := 23) hx hb dX4_isNumber_18 (by decide) (fun h5 => ?_) (fun h5 => ?_)
    · refine lv_aload_n hx hb dX4_isNumber_23 rfl (lv_at hl 0 rfl) ?_
      refine k_get hx hb hts inlX4 hown hW 18 (by omega) k_c18 rfl 1 (by decide) lf_RX4_27 rfl (v := .int (z.1 18 1)) rfl dX4_isNumber_24 ?_
      refine lv_istore_n (lv' := [(1, .int (z.1 18 1)), (0, .ref (E.2.2 18))]) hx hb dX4_isNumber_27 rfl hl (by decide) rfl (fun ls hl => ?_)
      exact L28 301 (z.1 18 1) _ _ _ ((k_IT hI).1.1) (by omega) hW (lv_sub hl [1, 0] rfl) (Eq.symm (by simp only [f_X4_isNumber, if_pos h4, if_pos h5]))
    · refine lv_iconst (v := 0) hx hb dX4_isNumber_21 (by decide) ?_
      have hR : (f_X4_isNumber z) = 0 := (by simp only [f_X4_isNumber, if_pos h4, if_neg h5])
      exact k_iret hx hb hr rfl hlocks hW ⟨by rw [hR], rfl⟩ dX4_isNumber_22

def f_X4_number_L7 (z : Sg) : Nat → Int64 → Int32 → Int64
  | 0, _, _ => 0
  | k + 1, a, i =>
    if (z.1 18 2) ≤ i then
      a
    else
      f_X4_number_L7 z k ((a * 10) + (((f_X4_byteAt z i) - 48 : Int32).toInt64)) (i + 1)
termination_by k9 => k9
def f_X4_number (z : Sg) : Int64 :=
  f_X4_number_L7 z 301 0 (z.1 18 1)
set_option maxHeartbeats 4000000 in
set_option maxRecDepth 100000 in
theorem c_X4_number (l : Launch) (E : Ev) (S sz : Nat) (z : Sg) (hI : k_I S z) : k_Met l yX4_number cX4_number 4 (some .long) ({ frames := 1, cells := 0, slots := 0, locals := 21 }) [.ref (E.2.2 18)] E (46 + 6 * S) z sz (fun v u => v = some (.long (f_X4_number z)) ∧ u = z) 0 0 := by
  refine k_body (by decide +kernel) (Nat.le_of_ble_eq_true rfl) ?_
  intro p e s m below meth cd ls hx hb hr hml hown hlocks hts hW hl
  have L7 : ∀ (k : Nat) (a : Int64) (i : Int32) (H : Heap) (locs : List Loc) (ls : Array Slot), (0 ≤ i.toInt) → 300 - i.toInt.toNat < k → k_W E (46 + 6 * S) z (k_A E (46 + 6 * S) z s.heap.size) s H locs → lv_has ls 4 [(0, .ref (E.2.2 18)), (1, .long a), (3, .int i)] → f_X4_number_L7 z k a i = (f_X4_number z) → W p l e ({ frames := 1, cells := 0, slots := 0, locals := 21 }) s m ([.ref (E.2.2 18)] : List Value).toArray below meth cd H locs 0 0 (MQ below (k_Q (fun v u => v = some (.long (f_X4_number z)) ∧ u = z) E (46 + 6 * S) z s.heap.size) ([.ref (E.2.2 18)] : List Value).toArray s 0 0 (k_A E (46 + 6 * S) z s.heap.size)) (F0 m 7 ls []) := by
    intro k
    induction k with
    | zero =>
      intro a i H locs ls hi0 hm
      exact absurd hm (Nat.not_lt_zero _)
    | succ k ih =>
      intro a i H locs ls hi0 hm hW hl hG
      refine lv_iload_n hx hb dX4_number_7 rfl (lv_at hl 2 rfl) ?_
      refine lv_aload_n hx hb dX4_number_8 rfl (lv_at hl 0 rfl) ?_
      refine k_get hx hb hts inlX4 hown hW 18 (by omega) k_c18 rfl 2 (by decide) lf_RX4_15 rfl (v := .int (z.1 18 2)) rfl dX4_number_9 ?_
      refine lv_icmp_ge (tgt := 37) hx hb dX4_number_12 (by decide) (fun h1 => ?_) (fun h1 => ?_)
      · refine lv_lload_n hx hb dX4_number_37 rfl (lv_at hl 1 rfl) ?_
        have hR : (f_X4_number z) = a := (hG.symm.trans (by simp only [f_X4_number_L7, if_pos h1]))
        exact k_lret hx hb hr hlocks hW ⟨by rw [hR], rfl⟩ dX4_number_38
      · refine lv_lload_n hx hb dX4_number_15 rfl (lv_at hl 1 rfl) ?_
        refine lv_ldc2 (v := 10) hx hb hown (hts _ lc_RX4_42) dX4_number_16 ?_
        refine lv_lmul hx hb dX4_number_19 ?_
        refine lv_aload_n hx hb dX4_number_20 rfl (lv_at hl 0 rfl) ?_
        refine lv_iload_n hx hb dX4_number_21 rfl (lv_at hl 2 rfl) ?_
        refine k_callV (As := [.int i]) (rest := [.long (a * 10)]) hx hb hml hown hts (c_X4_byteAt l E S _ z i hI) lm_RX4_30 ln_X4_byteAt le_X4_byteAt li_X4 lk_X4_byteAt (show k_nm yX4_byteAt 1 by decide +kernel) ⟨Nat.le_of_ble_eq_true rfl, Nat.le_of_ble_eq_true rfl⟩ rfl rfl ⟨Nat.le_of_ble_eq_true rfl, Nat.le_of_ble_eq_true rfl⟩ hl.1 rfl (Nat.le_of_ble_eq_true rfl) dX4_number_22 (by omega) (k_c18 _ _ _) rfl hW (fun v z1 H locs hp hW => ?_)
        obtain ⟨rfl, hz1⟩ := hp
        rw [hz1] at hW
        refine W.eq (g2 := F0 m 25 ls [.int (f_X4_byteAt z i), .long (a * 10)]) rfl ?_
        refine lv_bipush (v := 48) hx hb dX4_number_25 (by decide) ?_
        refine lv_isub hx hb dX4_number_27 ?_
        refine lv_i2l (v := ((f_X4_byteAt z i) - 48 : Int32).toInt64) hx hb dX4_number_28 rfl ?_
        refine lv_ladd hx hb dX4_number_29 ?_
        refine lv_lstore_n (lv' := [(1, .long ((a * 10) + (((f_X4_byteAt z i) - 48 : Int32).toInt64))), (0, .ref (E.2.2 18)), (3, .int i)]) hx hb dX4_number_30 rfl hl (by decide) rfl (fun ls hl => ?_)
        refine lv_iinc (v := i + 1) (lv' := [(3, .int (i + 1)), (1, .long ((a * 10) + (((f_X4_byteAt z i) - 48 : Int32).toInt64))), (0, .ref (E.2.2 18))]) hx hb dX4_number_31 hl (k := 2) rfl rfl (by decide) rfl (fun ls hl => ?_)
        refine lv_goto (tgt := 7) hx hb dX4_number_34 (by decide) ?_
        exact ih ((a * 10) + (((f_X4_byteAt z i) - 48 : Int32).toInt64)) (i + 1) _ _ _ (in_s0 hi0 h1 (k_IT hI).2.2) (in_sm hi0 h1 (k_IT hI).2.2 hm) hW (lv_sub hl [2, 1, 0] rfl) (Eq.symm (hG.symm.trans (by simp only [f_X4_number_L7, if_neg h1])))
  have hl : lv_has ls 4 [(0, .ref (E.2.2 18))] := hl
  refine lv_lconst (v := 0) hx hb dX4_number_0 (by decide) ?_
  refine lv_lstore_n (lv' := [(1, .long 0), (0, .ref (E.2.2 18))]) hx hb dX4_number_1 rfl hl (by decide) rfl (fun ls hl => ?_)
  refine lv_aload_n hx hb dX4_number_2 rfl (lv_at hl 1 rfl) ?_
  refine k_get hx hb hts inlX4 hown hW 18 (by omega) k_c18 rfl 1 (by decide) lf_RX4_27 rfl (v := .int (z.1 18 1)) rfl dX4_number_3 ?_
  refine lv_istore_n (lv' := [(3, .int (z.1 18 1)), (1, .long 0), (0, .ref (E.2.2 18))]) hx hb dX4_number_6 rfl hl (by decide) rfl (fun ls hl => ?_)
  exact L7 301 0 (z.1 18 1) _ _ _ ((k_IT hI).1.1) (by omega) hW (lv_sub hl [2, 1, 0] rfl) (Eq.symm (by simp only [f_X4_number]))

def f_X4_isOnly (z : Sg) (p0 : Int32) : Int32 :=
  if (z.1 18 2) - (z.1 18 1) = 1 then
    if (f_X4_byteAt z (z.1 18 1)) = p0 then
      1
    else
      0
  else
    0
set_option maxHeartbeats 4000000 in
set_option maxRecDepth 100000 in
theorem c_X4_isOnly (l : Launch) (E : Ev) (S sz : Nat) (z : Sg) (p0 : Int32) (hI : k_I S z) : k_Met l yX4_isOnly cX4_isOnly 2 (some .boolean) ({ frames := 1, cells := 0, slots := 0, locals := 21 }) [.ref (E.2.2 18), .int p0] E (46 + 6 * S) z sz (fun v u => v = some (.int (f_X4_isOnly z p0)) ∧ u = z) 0 0 := by
  refine k_body (by decide +kernel) (Nat.le_of_ble_eq_true rfl) ?_
  intro p e s m below meth cd ls hx hb hr hml hown hlocks hts hW hl
  have hl : lv_has ls 2 [(0, .ref (E.2.2 18)), (1, .int p0)] := hl
  refine lv_aload_n hx hb dX4_isOnly_0 rfl (lv_at hl 0 rfl) ?_
  refine k_get hx hb hts inlX4 hown hW 18 (by omega) k_c18 rfl 2 (by decide) lf_RX4_15 rfl (v := .int (z.1 18 2)) rfl dX4_isOnly_1 ?_
  refine lv_aload_n hx hb dX4_isOnly_4 rfl (lv_at hl 0 rfl) ?_
  refine k_get hx hb hts inlX4 hown hW 18 (by omega) k_c18 rfl 1 (by decide) lf_RX4_27 rfl (v := .int (z.1 18 1)) rfl dX4_isOnly_5 ?_
  refine lv_isub hx hb dX4_isOnly_8 ?_
  refine lv_iconst (v := 1) hx hb dX4_isOnly_9 (by decide) ?_
  refine lv_icmp_ne (tgt := 29) hx hb dX4_isOnly_10 (by decide) (fun h1 => ?_) (fun h1 => ?_)
  · refine lv_iconst (v := 0) hx hb dX4_isOnly_29 (by decide) ?_
    have hR : (f_X4_isOnly z p0) = 0 := (by simp only [f_X4_isOnly, if_neg h1])
    exact k_iret hx hb hr rfl hlocks hW ⟨by rw [hR], rfl⟩ dX4_isOnly_30
  · refine lv_aload_n hx hb dX4_isOnly_13 rfl (lv_at hl 0 rfl) ?_
    refine lv_aload_n hx hb dX4_isOnly_14 rfl (lv_at hl 0 rfl) ?_
    refine k_get hx hb hts inlX4 hown hW 18 (by omega) k_c18 rfl 1 (by decide) lf_RX4_27 rfl (v := .int (z.1 18 1)) rfl dX4_isOnly_15 ?_
    refine k_callV (As := [.int (z.1 18 1)]) (rest := []) hx hb hml hown hts (c_X4_byteAt l E S _ z (z.1 18 1) hI) lm_RX4_30 ln_X4_byteAt le_X4_byteAt li_X4 lk_X4_byteAt (show k_nm yX4_byteAt 1 by decide +kernel) ⟨Nat.le_of_ble_eq_true rfl, Nat.le_of_ble_eq_true rfl⟩ rfl rfl ⟨Nat.le_of_ble_eq_true rfl, Nat.le_of_ble_eq_true rfl⟩ hl.1 rfl (Nat.le_of_ble_eq_true rfl) dX4_isOnly_18 (by omega) (k_c18 _ _ _) rfl hW (fun v z1 H locs hp hW => ?_)
    obtain ⟨rfl, hz1⟩ := hp
    rw [hz1] at hW
    refine W.eq (g2 := F0 m 21 ls [.int (f_X4_byteAt z (z.1 18 1))]) rfl ?_
    refine lv_iload_n hx hb dX4_isOnly_21 rfl (lv_at hl 1 rfl) ?_
    refine lv_icmp_ne (tgt := 29) hx hb dX4_isOnly_22 (by decide) (fun h2 => ?_) (fun h2 => ?_)
    · refine lv_iconst (v := 0) hx hb dX4_isOnly_29 (by decide) ?_
      have hR : (f_X4_isOnly z p0) = 0 := (by simp only [f_X4_isOnly, if_pos h1, if_neg h2])
      exact k_iret hx hb hr rfl hlocks hW ⟨by rw [hR], rfl⟩ dX4_isOnly_30
    · refine lv_iconst (v := 1) hx hb dX4_isOnly_25 (by decide) ?_
      refine lv_goto (tgt := 30) hx hb dX4_isOnly_26 (by decide) ?_
      have hR : (f_X4_isOnly z p0) = 1 := (by simp only [f_X4_isOnly, if_pos h1, if_pos h2])
      exact k_iret hx hb hr rfl hlocks hW ⟨by rw [hR], rfl⟩ dX4_isOnly_30

def f_X3_rowWidth (z : Sg) (c : Nat) : Int32 :=
  ((z.1 (46 + 6 * c) 7) + (z.1 (46 + 6 * c) 8)) + (z.1 (46 + 6 * c) 9)
set_option maxHeartbeats 4000000 in
set_option maxRecDepth 100000 in
theorem c_X3_rowWidth (l : Launch) (E : Ev) (S sz : Nat) (z : Sg) (c : Nat) (lc : c < S) : k_Met l yX3_rowWidth cX3_rowWidth 1 (some .int) ({ frames := 0, cells := 0, slots := 0, locals := 0 }) [.ref (E.2.2 (46 + 6 * c))] E (46 + 6 * S) z sz (fun v u => v = some (.int (f_X3_rowWidth z c)) ∧ u = z) 0 0 := by
  refine k_body (by decide +kernel) (Nat.le_of_ble_eq_true rfl) ?_
  intro p e s m below meth cd ls hx hb hr hml hown hlocks hts hW hl
  have hl : lv_has ls 1 [(0, .ref (E.2.2 (46 + 6 * c)))] := hl
  refine lv_aload_n hx hb dX3_rowWidth_0 rfl (lv_at hl 0 rfl) ?_
  refine k_get hx hb hts inlX3 hown hW (46 + 6 * c) (by omega) (k_cell_sec c) rfl 7 (by decide) lf_RX3_37 rfl (v := .int (z.1 (46 + 6 * c) 7)) rfl dX3_rowWidth_1 ?_
  refine lv_aload_n hx hb dX3_rowWidth_4 rfl (lv_at hl 0 rfl) ?_
  refine k_get hx hb hts inlX3 hown hW (46 + 6 * c) (by omega) (k_cell_sec c) rfl 8 (by decide) lf_RX3_40 rfl (v := .int (z.1 (46 + 6 * c) 8)) rfl dX3_rowWidth_5 ?_
  refine lv_iadd hx hb dX3_rowWidth_8 ?_
  refine lv_aload_n hx hb dX3_rowWidth_9 rfl (lv_at hl 0 rfl) ?_
  refine k_get hx hb hts inlX3 hown hW (46 + 6 * c) (by omega) (k_cell_sec c) rfl 9 (by decide) lf_RX3_43 rfl (v := .int (z.1 (46 + 6 * c) 9)) rfl dX3_rowWidth_10 ?_
  refine lv_iadd hx hb dX3_rowWidth_13 ?_
  have hR : (f_X3_rowWidth z c) = ((z.1 (46 + 6 * c) 7) + (z.1 (46 + 6 * c) 8)) + (z.1 (46 + 6 * c) 9) := (by simp only [f_X3_rowWidth])
  exact k_iret hx hb hr rfl hlocks hW ⟨by rw [hR], rfl⟩ dX3_rowWidth_14

def f_X3_numberIn_L12 (z : Sg) (c : Nat) (p0 : Int32) (p1 : Int32) (p2 : Int64) : Nat → Int64 → Int32 → Int64
  | 0, _, _ => 0
  | k + 1, a, i =>
    if i < 0 then
      a
    else
      if p0 + p1 ≤ i then
        a
      else
        if (z.1 (46 + 6 * c) 6) ≤ i then
          a
        else
          f_X3_numberIn_L12 z c p0 p1 p2 k ((a * 256) + (((z.1 (46 + 6 * c + 1) i.toNatClampNeg) &&& 255 : Int32).toInt64)) (i + 1)
termination_by k9 => k9
def f_X3_numberIn (z : Sg) (c : Nat) (p0 : Int32) (p1 : Int32) (p2 : Int64) : Int64 :=
  if p1 = 0 then
    p2
  else
    f_X3_numberIn_L12 z c p0 p1 p2 301 0 p0
set_option maxHeartbeats 4000000 in
set_option maxRecDepth 100000 in
theorem c_X3_numberIn (l : Launch) (E : Ev) (S sz : Nat) (z : Sg) (c : Nat) (p0 : Int32) (p1 : Int32) (p2 : Int64) (lc : c < S) (hI : k_I S z) : k_Met l yX3_numberIn cX3_numberIn 8 (some .long) ({ frames := 0, cells := 0, slots := 0, locals := 0 }) [.ref (E.2.2 (46 + 6 * c)), .int p0, .int p1, .long p2] E (46 + 6 * S) z sz (fun v u => v = some (.long (f_X3_numberIn z c p0 p1 p2)) ∧ u = z) 0 0 := by
  refine k_body (by decide +kernel) (Nat.le_of_ble_eq_true rfl) ?_
  intro p e s m below meth cd ls hx hb hr hml hown hlocks hts hW hl
  have L12 : ∀ (k : Nat) (a : Int64) (i : Int32) (H : Heap) (locs : List Loc) (ls : Array Slot), 300 - i.toInt.toNat < k → k_W E (46 + 6 * S) z (k_A E (46 + 6 * S) z s.heap.size) s H locs → lv_has ls 8 [(0, .ref (E.2.2 (46 + 6 * c))), (1, .int p0), (2, .int p1), (3, .long p2), (5, .long a), (7, .int i)] → f_X3_numberIn_L12 z c p0 p1 p2 k a i = (f_X3_numberIn z c p0 p1 p2) → W p l e ({ frames := 0, cells := 0, slots := 0, locals := 0 }) s m ([.ref (E.2.2 (46 + 6 * c)), .int p0, .int p1, .long p2] : List Value).toArray below meth cd H locs 0 0 (MQ below (k_Q (fun v u => v = some (.long (f_X3_numberIn z c p0 p1 p2)) ∧ u = z) E (46 + 6 * S) z s.heap.size) ([.ref (E.2.2 (46 + 6 * c)), .int p0, .int p1, .long p2] : List Value).toArray s 0 0 (k_A E (46 + 6 * S) z s.heap.size)) (F0 m 12 ls []) := by
    intro k
    induction k with
    | zero =>
      intro a i H locs ls hm
      exact absurd hm (Nat.not_lt_zero _)
    | succ k ih =>
      intro a i H locs ls hm hW hl hG
      refine lv_iload hx hb dX3_numberIn_12 (lv_at hl 5 rfl) ?_
      refine lv_if_lt (tgt := 61) hx hb dX3_numberIn_14 (by decide) (fun h1 => ?_) (fun h1 => ?_)
      · refine lv_lload hx hb dX3_numberIn_61 (lv_at hl 4 rfl) ?_
        have hR : (f_X3_numberIn z c p0 p1 p2) = a := (hG.symm.trans (by simp only [f_X3_numberIn_L12, if_pos h1]))
        exact k_lret hx hb hr hlocks hW ⟨by rw [hR], rfl⟩ dX3_numberIn_63
      · refine lv_iload hx hb dX3_numberIn_17 (lv_at hl 5 rfl) ?_
        refine lv_iload_n hx hb dX3_numberIn_19 rfl (lv_at hl 1 rfl) ?_
        refine lv_iload_n hx hb dX3_numberIn_20 rfl (lv_at hl 2 rfl) ?_
        refine lv_iadd hx hb dX3_numberIn_21 ?_
        refine lv_icmp_ge (tgt := 61) hx hb dX3_numberIn_22 (by decide) (fun h2 => ?_) (fun h2 => ?_)
        · refine lv_lload hx hb dX3_numberIn_61 (lv_at hl 4 rfl) ?_
          have hR : (f_X3_numberIn z c p0 p1 p2) = a := (hG.symm.trans (by simp only [f_X3_numberIn_L12, if_neg h1, if_pos h2]))
          exact k_lret hx hb hr hlocks hW ⟨by rw [hR], rfl⟩ dX3_numberIn_63
        · refine lv_iload hx hb dX3_numberIn_25 (lv_at hl 5 rfl) ?_
          refine lv_aload_n hx hb dX3_numberIn_27 rfl (lv_at hl 0 rfl) ?_
          refine k_get hx hb hts inlX3 hown hW (46 + 6 * c) (by omega) (k_cell_sec c) rfl 6 (by decide) lf_RX3_34 rfl (v := .int (z.1 (46 + 6 * c) 6)) rfl dX3_numberIn_28 ?_
          refine lv_icmp_ge (tgt := 61) hx hb dX3_numberIn_31 (by decide) (fun h3 => ?_) (fun h3 => ?_)
          · refine lv_lload hx hb dX3_numberIn_61 (lv_at hl 4 rfl) ?_
            have hR : (f_X3_numberIn z c p0 p1 p2) = a := (hG.symm.trans (by simp only [f_X3_numberIn_L12, if_neg h1, if_neg h2, if_pos h3]))
            exact k_lret hx hb hr hlocks hW ⟨by rw [hR], rfl⟩ dX3_numberIn_63
          · refine lv_lload hx hb dX3_numberIn_34 (lv_at hl 4 rfl) ?_
            refine lv_ldc2 (v := 256) hx hb hown (hts _ lc_RX3_63) dX3_numberIn_36 ?_
            refine lv_lmul hx hb dX3_numberIn_39 ?_
            refine lv_aload_n hx hb dX3_numberIn_40 rfl (lv_at hl 0 rfl) ?_
            refine k_get hx hb hts inlX3 hown hW (46 + 6 * c) (by omega) (k_cell_sec c) rfl 5 (by decide) lf_RX3_30 rfl (v := .ref (E.2.2 (46 + 6 * c + 1))) rfl dX3_numberIn_41 ?_
            refine lv_iload hx hb dX3_numberIn_44 (lv_at hl 5 rfl) ?_
            refine k_bald hx hb hW (46 + 6 * c + 1) 300 (by omega) (k_cell_sb c) (v := (z.1 (46 + 6 * c + 1) i.toNatClampNeg)) (by exact in_ge h1 h3 (k_Is hI lc).2.2.1.2) rfl dX3_numberIn_46 ?_
            refine lv_sipush (v := 255) hx hb dX3_numberIn_47 (by decide) ?_
            refine lv_iand hx hb dX3_numberIn_50 ?_
            refine lv_i2l (v := ((z.1 (46 + 6 * c + 1) i.toNatClampNeg) &&& 255 : Int32).toInt64) hx hb dX3_numberIn_51 rfl ?_
            refine lv_ladd hx hb dX3_numberIn_52 ?_
            refine lv_lstore (lv' := [(5, .long ((a * 256) + (((z.1 (46 + 6 * c + 1) i.toNatClampNeg) &&& 255 : Int32).toInt64))), (0, .ref (E.2.2 (46 + 6 * c))), (1, .int p0), (2, .int p1), (3, .long p2), (7, .int i)]) hx hb dX3_numberIn_53 hl (by decide) rfl (fun ls hl => ?_)
            refine lv_iinc (v := i + 1) (lv' := [(7, .int (i + 1)), (5, .long ((a * 256) + (((z.1 (46 + 6 * c + 1) i.toNatClampNeg) &&& 255 : Int32).toInt64))), (0, .ref (E.2.2 (46 + 6 * c))), (1, .int p0), (2, .int p1), (3, .long p2)]) hx hb dX3_numberIn_55 hl (k := 5) rfl rfl (by decide) rfl (fun ls hl => ?_)
            refine lv_goto (tgt := 12) hx hb dX3_numberIn_58 (by decide) ?_
            exact ih ((a * 256) + (((z.1 (46 + 6 * c + 1) i.toNatClampNeg) &&& 255 : Int32).toInt64)) (i + 1) _ _ _ (in_sm (nn_of h1) h3 (k_Is hI lc).2.2.1.2 hm) hW (lv_sub hl [2, 3, 4, 5, 1, 0] rfl) (Eq.symm (hG.symm.trans (by simp only [f_X3_numberIn_L12, if_neg h1, if_neg h2, if_neg h3])))
  have hl : lv_has ls 8 [(0, .ref (E.2.2 (46 + 6 * c))), (1, .int p0), (2, .int p1), (3, .long p2)] := hl
  refine lv_iload_n hx hb dX3_numberIn_0 rfl (lv_at hl 2 rfl) ?_
  refine lv_if_ne (tgt := 6) hx hb dX3_numberIn_1 (by decide) (fun h4 => ?_) (fun h4 => ?_)
  · refine lv_lconst (v := 0) hx hb dX3_numberIn_6 (by decide) ?_
    refine lv_lstore (lv' := [(5, .long 0), (0, .ref (E.2.2 (46 + 6 * c))), (1, .int p0), (2, .int p1), (3, .long p2)]) hx hb dX3_numberIn_7 hl (by decide) rfl (fun ls hl => ?_)
    refine lv_iload_n hx hb dX3_numberIn_9 rfl (lv_at hl 2 rfl) ?_
    refine lv_istore (lv' := [(7, .int p0), (5, .long 0), (0, .ref (E.2.2 (46 + 6 * c))), (1, .int p0), (2, .int p1), (3, .long p2)]) hx hb dX3_numberIn_10 hl (by decide) rfl (fun ls hl => ?_)
    exact L12 301 0 p0 _ _ _ (by omega) hW (lv_sub hl [2, 3, 4, 5, 1, 0] rfl) (Eq.symm (by simp only [f_X3_numberIn, if_neg h4]))
  · refine lv_lload_n hx hb dX3_numberIn_4 rfl (lv_at hl 3 rfl) ?_
    have hR : (f_X3_numberIn z c p0 p1 p2) = p2 := (by simp only [f_X3_numberIn, if_pos h4])
    exact k_lret hx hb hr hlocks hW ⟨by rw [hR], rfl⟩ dX3_numberIn_5

def f_X2_kindByNumber (z : Sg) (p0 : Int64) : Int32 :=
  if p0 = 0 then
    1
  else
    if p0 = 1 then
      2
    else
      if p0 = 2 then
        3
      else
        0
set_option maxHeartbeats 4000000 in
set_option maxRecDepth 100000 in
theorem c_X2_kindByNumber (l : Launch) (E : Ev) (S sz : Nat) (z : Sg) (p0 : Int64) : k_Met l yX2_kindByNumber cX2_kindByNumber 2 (some .int) ({ frames := 0, cells := 0, slots := 0, locals := 0 }) [.long p0] E (46 + 6 * S) z sz (fun v u => v = some (.int (f_X2_kindByNumber z p0)) ∧ u = z) 0 0 := by
  refine k_body (by decide +kernel) (Nat.le_of_ble_eq_true rfl) ?_
  intro p e s m below meth cd ls hx hb hr hml hown hlocks hts hW hl
  have hl : lv_has ls 2 [(0, .long p0)] := hl
  refine lv_lload_n hx hb dX2_kindByNumber_0 rfl (lv_at hl 0 rfl) ?_
  refine lv_lconst (v := 0) hx hb dX2_kindByNumber_1 (by decide) ?_
  refine k_lif_ne (tgt := 8) hx hb dX2_kindByNumber_2 dX2_kindByNumber_3 (by decide) (fun h1 => ?_) (fun h1 => ?_)
  · refine lv_lload_n hx hb dX2_kindByNumber_8 rfl (lv_at hl 0 rfl) ?_
    refine lv_lconst (v := 1) hx hb dX2_kindByNumber_9 (by decide) ?_
    refine k_lif_ne (tgt := 16) hx hb dX2_kindByNumber_10 dX2_kindByNumber_11 (by decide) (fun h2 => ?_) (fun h2 => ?_)
    · refine lv_lload_n hx hb dX2_kindByNumber_16 rfl (lv_at hl 0 rfl) ?_
      refine lv_ldc2 (v := 2) hx hb hown (hts _ lc_RX2_151) dX2_kindByNumber_17 ?_
      refine k_lif_ne (tgt := 28) hx hb dX2_kindByNumber_20 dX2_kindByNumber_21 (by decide) (fun h3 => ?_) (fun h3 => ?_)
      · refine lv_iconst (v := 0) hx hb dX2_kindByNumber_28 (by decide) ?_
        have hR : (f_X2_kindByNumber z p0) = 0 := (by simp only [f_X2_kindByNumber, if_neg h1, if_neg h2, if_neg h3])
        exact k_iret hx hb hr rfl hlocks hW ⟨by rw [hR], rfl⟩ dX2_kindByNumber_29
      · refine lv_iconst (v := 3) hx hb dX2_kindByNumber_24 (by decide) ?_
        refine lv_goto (tgt := 29) hx hb dX2_kindByNumber_25 (by decide) ?_
        have hR : (f_X2_kindByNumber z p0) = 3 := (by simp only [f_X2_kindByNumber, if_neg h1, if_neg h2, if_pos h3])
        exact k_iret hx hb hr rfl hlocks hW ⟨by rw [hR], rfl⟩ dX2_kindByNumber_29
    · refine lv_iconst (v := 2) hx hb dX2_kindByNumber_14 (by decide) ?_
      have hR : (f_X2_kindByNumber z p0) = 2 := (by simp only [f_X2_kindByNumber, if_neg h1, if_pos h2])
      exact k_iret hx hb hr rfl hlocks hW ⟨by rw [hR], rfl⟩ dX2_kindByNumber_15
  · refine lv_iconst (v := 1) hx hb dX2_kindByNumber_6 (by decide) ?_
    have hR : (f_X2_kindByNumber z p0) = 1 := (by simp only [f_X2_kindByNumber, if_pos h1])
    exact k_iret hx hb hr rfl hlocks hW ⟨by rw [hR], rfl⟩ dX2_kindByNumber_7
