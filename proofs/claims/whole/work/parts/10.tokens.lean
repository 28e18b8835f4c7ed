def f_X4_isBlank (z : Sg) (p0 : Int32) : Int32 :=
  if p0 = 0 then
    1
  else
    if p0 = 9 then
      1
    else
      if p0 = 10 then
        1
      else
        if p0 = 12 then
          1
        else
          if p0 = 13 then
            1
          else
            if p0 = 32 then
              1
            else
              0
set_option maxHeartbeats 4000000 in
set_option maxRecDepth 100000 in
theorem c_X4_isBlank (l : Launch) (E : Ev) (S sz : Nat) (z : Sg) (p0 : Int32) : k_Met l yX4_isBlank cX4_isBlank 1 (some .boolean) ({ frames := 0, cells := 0, slots := 0, locals := 0 }) [.int p0] E (46 + 6 * S) z sz (fun v u => v = some (.int (f_X4_isBlank z p0)) ∧ u = z) 0 0 := by
  refine k_body (by decide +kernel) (Nat.le_of_ble_eq_true rfl) ?_
  intro p e s m below meth c ls hx hb hr hml hown hlocks hts hW hl
  have hl : lv_has ls 1 [(0, .int p0)] := hl
  refine lv_iload_n hx hb dX4_isBlank_0 rfl (lv_at hl 0 rfl) ?_
  refine lv_if_eq (tgt := 34) hx hb dX4_isBlank_1 (by decide) (fun h1 => ?_) (fun h1 => ?_)
  · refine lv_iconst (v := 1) hx hb dX4_isBlank_34 (by decide) ?_
    refine lv_goto (tgt := 39) hx hb dX4_isBlank_35 (by decide) ?_
    have hR : (f_X4_isBlank z p0) = 1 := (by simp only [f_X4_isBlank, if_pos h1])
    exact k_iret hx hb hr rfl hlocks hW ⟨by rw [hR], rfl⟩ dX4_isBlank_39
  · refine lv_iload_n hx hb dX4_isBlank_4 rfl (lv_at hl 0 rfl) ?_
    refine lv_bipush (v := 9) hx hb dX4_isBlank_5 (by decide) ?_
    refine lv_icmp_eq (tgt := 34) hx hb dX4_isBlank_7 (by decide) (fun h2 => ?_) (fun h2 => ?_)
    · refine lv_iconst (v := 1) hx hb dX4_isBlank_34 (by decide) ?_
      refine lv_goto (tgt := 39) hx hb dX4_isBlank_35 (by decide) ?_
      have hR : (f_X4_isBlank z p0) = 1 := (by simp only [f_X4_isBlank, if_neg h1, if_pos h2])
      exact k_iret hx hb hr rfl hlocks hW ⟨by rw [hR], rfl⟩ dX4_isBlank_39
    · refine lv_iload_n hx hb dX4_isBlank_10 rfl (lv_at hl 0 rfl) ?_
      refine lv_bipush (v := 10) hx hb dX4_isBlank_11 (by decide) ?_
      refine lv_icmp_eq (tgt := 34) hx hb dX4_isBlank_13 (by decide) (fun h3 => ?_) (fun h3 => ?_)
      · refine lv_iconst (v := 1) hx hb dX4_isBlank_34 (by decide) ?_
        refine lv_goto (tgt := 39) hx hb dX4_isBlank_35 (by decide) ?_
        have hR : (f_X4_isBlank z p0) = 1 := (by simp only [f_X4_isBlank, if_neg h1, if_neg h2, if_pos h3])
        exact k_iret hx hb hr rfl hlocks hW ⟨by rw [hR], rfl⟩ dX4_isBlank_39
      · refine lv_iload_n hx hb dX4_isBlank_16 rfl (lv_at hl 0 rfl) ?_
        refine lv_bipush (v := 12) hx hb dX4_isBlank_17 (by decide) ?_
        refine lv_icmp_eq (tgt := 34) hx hb dX4_isBlank_19 (by decide) (fun h4 => ?_) (fun h4 => ?_)
        · refine lv_iconst (v := 1) hx hb dX4_isBlank_34 (by decide) ?_
          refine lv_goto (tgt := 39) hx hb dX4_isBlank_35 (by decide) ?_
          have hR : (f_X4_isBlank z p0) = 1 := (by simp only [f_X4_isBlank, if_neg h1, if_neg h2, if_neg h3, if_pos h4])
          exact k_iret hx hb hr rfl hlocks hW ⟨by rw [hR], rfl⟩ dX4_isBlank_39
        · refine lv_iload_n hx hb dX4_isBlank_22 rfl (lv_at hl 0 rfl) ?_
          refine lv_bipush (v := 13) hx hb dX4_isBlank_23 (by decide) ?_
          refine lv_icmp_eq (tgt := 34) hx hb dX4_isBlank_25 (by decide) (fun h5 => ?_) (fun h5 => ?_)
          · refine lv_iconst (v := 1) hx hb dX4_isBlank_34 (by decide) ?_
            refine lv_goto (tgt := 39) hx hb dX4_isBlank_35 (by decide) ?_
            have hR : (f_X4_isBlank z p0) = 1 := (by simp only [f_X4_isBlank, if_neg h1, if_neg h2, if_neg h3, if_neg h4, if_pos h5])
            exact k_iret hx hb hr rfl hlocks hW ⟨by rw [hR], rfl⟩ dX4_isBlank_39
          · refine lv_iload_n hx hb dX4_isBlank_28 rfl (lv_at hl 0 rfl) ?_
            refine lv_bipush (v := 32) hx hb dX4_isBlank_29 (by decide) ?_
            refine lv_icmp_ne (tgt := 38) hx hb dX4_isBlank_31 (by decide) (fun h6 => ?_) (fun h6 => ?_)
            · refine lv_iconst (v := 0) hx hb dX4_isBlank_38 (by decide) ?_
              have hR : (f_X4_isBlank z p0) = 0 := (by simp only [f_X4_isBlank, if_neg h1, if_neg h2, if_neg h3, if_neg h4, if_neg h5, if_neg h6])
              exact k_iret hx hb hr rfl hlocks hW ⟨by rw [hR], rfl⟩ dX4_isBlank_39
            · refine lv_iconst (v := 1) hx hb dX4_isBlank_34 (by decide) ?_
              refine lv_goto (tgt := 39) hx hb dX4_isBlank_35 (by decide) ?_
              have hR : (f_X4_isBlank z p0) = 1 := (by simp only [f_X4_isBlank, if_neg h1, if_neg h2, if_neg h3, if_neg h4, if_neg h5, if_pos h6])
              exact k_iret hx hb hr rfl hlocks hW ⟨by rw [hR], rfl⟩ dX4_isBlank_39

def f_X4_atEnd (z : Sg) : Int32 :=
  if (z.1 18 1) = (z.1 18 2) then
    1
  else
    0
set_option maxHeartbeats 4000000 in
set_option maxRecDepth 100000 in
theorem c_X4_atEnd (l : Launch) (E : Ev) (S sz : Nat) (z : Sg) : k_Met l yX4_atEnd cX4_atEnd 1 (some .boolean) ({ frames := 0, cells := 0, slots := 0, locals := 0 }) [.ref (E.2.2 18)] E (46 + 6 * S) z sz (fun v u => v = some (.int (f_X4_atEnd z)) ∧ u = z) 0 0 := by
  refine k_body (by decide +kernel) (Nat.le_of_ble_eq_true rfl) ?_
  intro p e s m below meth c ls hx hb hr hml hown hlocks hts hW hl
  have hl : lv_has ls 1 [(0, .ref (E.2.2 18))] := hl
  refine lv_aload_n hx hb dX4_atEnd_0 rfl (lv_at hl 0 rfl) ?_
  refine k_get hx hb hts inlX4 hown hW 18 (by omega) k_c18 rfl 1 (by decide) lf_RX4_27 rfl (v := .int (z.1 18 1)) rfl dX4_atEnd_1 ?_
  refine lv_aload_n hx hb dX4_atEnd_4 rfl (lv_at hl 0 rfl) ?_
  refine k_get hx hb hts inlX4 hown hW 18 (by omega) k_c18 rfl 2 (by decide) lf_RX4_15 rfl (v := .int (z.1 18 2)) rfl dX4_atEnd_5 ?_
  refine lv_icmp_ne (tgt := 15) hx hb dX4_atEnd_8 (by decide) (fun h1 => ?_) (fun h1 => ?_)
  · refine lv_iconst (v := 0) hx hb dX4_atEnd_15 (by decide) ?_
    have hR : (f_X4_atEnd z) = 0 := (by simp only [f_X4_atEnd, if_neg h1])
    exact k_iret hx hb hr rfl hlocks hW ⟨by rw [hR], rfl⟩ dX4_atEnd_16
  · refine lv_iconst (v := 1) hx hb dX4_atEnd_11 (by decide) ?_
    refine lv_goto (tgt := 16) hx hb dX4_atEnd_12 (by decide) ?_
    have hR : (f_X4_atEnd z) = 1 := (by simp only [f_X4_atEnd, if_pos h1])
    exact k_iret hx hb hr rfl hlocks hW ⟨by rw [hR], rfl⟩ dX4_atEnd_16

def f_X1_tell (z : Sg) (p0 : Int32) (p1 : Int32) (p2 : Int64) : Sg :=
  if (200 : Int32) ≤ (z.1 6 9) then
    z
  else
    (uI (uJ (uI (uI z 12 ((z.1 6 9).toNatClampNeg) p0) 13 ((z.1 6 9).toNatClampNeg) p1) 14 ((z.1 6 9).toNatClampNeg) p2) 6 9 ((z.1 6 9) + 1))
set_option maxHeartbeats 4000000 in
set_option maxRecDepth 100000 in
theorem c_X1_tell (l : Launch) (E : Ev) (S sz : Nat) (z : Sg) (p0 : Int32) (p1 : Int32) (p2 : Int64) (h9 : 0 ≤ (z.1 6 9).toInt) : k_Met l yX1_tell cX1_tell 5 none ({ frames := 0, cells := 0, slots := 0, locals := 0 }) [.ref (E.2.2 6), .int p0, .int p1, .long p2] E (46 + 6 * S) z sz (fun v u => v = none ∧ u = (f_X1_tell z p0 p1 p2)) 0 0 := by
  refine k_body (by decide +kernel) (Nat.le_of_ble_eq_true rfl) ?_
  intro p e s m below meth c ls hx hb hr hml hown hlocks hts hW hl
  have hl : lv_has ls 5 [(0, .ref (E.2.2 6)), (1, .int p0), (2, .int p1), (3, .long p2)] := hl
  refine lv_aload_n hx hb dX1_tell_0 rfl (lv_at hl 0 rfl) ?_
  refine k_get hx hb hts inlX1 hown hW 6 (by omega) k_c6 rfl 9 (by decide) lf_RX1_44 rfl (v := .int (z.1 6 9)) rfl dX1_tell_1 ?_
  refine lv_sipush (v := 200) hx hb dX1_tell_4 (by decide) ?_
  refine lv_icmp_ge (tgt := 50) hx hb dX1_tell_7 (by decide) (fun h1 => ?_) (fun h1 => ?_)
  · have hR : (f_X1_tell z p0 p1 p2) = z := (by simp only [f_X1_tell, if_pos h1])
    exact k_vret hx hb hr hlocks hW ⟨rfl, by rw [hR]⟩ dX1_tell_50
  · refine lv_aload_n hx hb dX1_tell_10 rfl (lv_at hl 0 rfl) ?_
    refine k_get hx hb hts inlX1 hown hW 6 (by omega) k_c6 rfl 6 (by decide) lf_RX1_35 rfl (v := .ref (E.2.2 12)) rfl dX1_tell_11 ?_
    refine lv_aload_n hx hb dX1_tell_14 rfl (lv_at hl 0 rfl) ?_
    refine k_get hx hb hts inlX1 hown hW 6 (by omega) k_c6 rfl 9 (by decide) lf_RX1_44 rfl (v := .int (z.1 6 9)) rfl dX1_tell_15 ?_
    refine lv_iload_n hx hb dX1_tell_18 rfl (lv_at hl 1 rfl) ?_
    refine k_iast hx hb hW 12 200 (by omega) k_c12 (by exact in_lt h9 h1 rfl) dX1_tell_19 (fun H locs hW => ?_)
    refine lv_aload_n hx hb dX1_tell_20 rfl (lv_at hl 0 rfl) ?_
    refine k_get hx hb hts inlX1 hown hW 6 (by omega) k_c6 rfl 7 (by decide) lf_RX1_38 rfl (v := .ref (E.2.2 13)) rfl dX1_tell_21 ?_
    refine lv_aload_n hx hb dX1_tell_24 rfl (lv_at hl 0 rfl) ?_
    refine k_get hx hb hts inlX1 hown hW 6 (by omega) k_c6 rfl 9 (by decide) lf_RX1_44 rfl (v := .int (z.1 6 9)) rfl dX1_tell_25 ?_
    refine lv_iload_n hx hb dX1_tell_28 rfl (lv_at hl 2 rfl) ?_
    refine k_iast hx hb hW 13 200 (by omega) k_c13 (by exact in_lt h9 h1 rfl) dX1_tell_29 (fun H locs hW => ?_)
    refine lv_aload_n hx hb dX1_tell_30 rfl (lv_at hl 0 rfl) ?_
    refine k_get hx hb hts inlX1 hown hW 6 (by omega) k_c6 rfl 8 (by decide) lf_RX1_41 rfl (v := .ref (E.2.2 14)) rfl dX1_tell_31 ?_
    refine lv_aload_n hx hb dX1_tell_34 rfl (lv_at hl 0 rfl) ?_
    refine k_get hx hb hts inlX1 hown hW 6 (by omega) k_c6 rfl 9 (by decide) lf_RX1_44 rfl (v := .int (z.1 6 9)) rfl dX1_tell_35 ?_
    refine lv_lload_n hx hb dX1_tell_38 rfl (lv_at hl 3 rfl) ?_
    refine k_last hx hb hW 14 200 (by omega) k_c14 (by exact in_lt h9 h1 rfl) dX1_tell_39 (fun H locs hW => ?_)
    refine lv_aload_n hx hb dX1_tell_40 rfl (lv_at hl 0 rfl) ?_
    refine lv_dup hx hb dX1_tell_41 rfl ?_
    refine k_get hx hb hts inlX1 hown hW 6 (by omega) k_c6 rfl 9 (by decide) lf_RX1_44 rfl (v := .int (z.1 6 9)) rfl dX1_tell_42 ?_
    refine lv_iconst (v := 1) hx hb dX1_tell_45 (by decide) ?_
    refine lv_iadd hx hb dX1_tell_46 ?_
    refine k_putI hx hb hts inlX1 tyX1_ok nmX1 hown hW 6 (by omega) k_c6 rfl 9 (by decide) lf_RX1_44 rfl rfl (tyX1_ok 9 (by decide)) (Nat.le_of_ble_eq_true rfl) rfl dX1_tell_47 (fun H locs hW => ?_)
    have hR : (f_X1_tell z p0 p1 p2) = (uI (uJ (uI (uI z 12 ((z.1 6 9).toNatClampNeg) p0) 13 ((z.1 6 9).toNatClampNeg) p1) 14 ((z.1 6 9).toNatClampNeg) p2) 6 9 ((z.1 6 9) + 1)) := (by simp only [f_X1_tell, if_neg h1])
    exact k_vret hx hb hr hlocks hW ⟨rfl, by rw [hR]⟩ dX1_tell_50

def f_X0_indexAt_L2 (z : Sg) (p0 : Int64) : Nat → Int32 → Int32
  | 0, _ => 0
  | k + 1, i =>
    if (z.1 2 3) ≤ i then
      (z.1 2 3)
    else
      if (z.2.1 3 i.toNatClampNeg) = p0 then
        i
      else
        f_X0_indexAt_L2 z p0 k (i + 1)
def f_X0_indexAt (z : Sg) (p0 : Int64) : Int32 :=
  f_X0_indexAt_L2 z p0 61 0
set_option maxHeartbeats 4000000 in
set_option maxRecDepth 100000 in
theorem c_X0_indexAt (l : Launch) (E : Ev) (S sz : Nat) (z : Sg) (p0 : Int64) (hc : (z.1 2 3).toInt ≤ 60) : k_Met l yX0_indexAt cX0_indexAt 4 (some .int) ({ frames := 0, cells := 0, slots := 0, locals := 0 }) [.ref (E.2.2 2), .long p0] E (46 + 6 * S) z sz (fun v u => v = some (.int (f_X0_indexAt z p0)) ∧ u = z) 0 0 := by
  refine k_body (by decide +kernel) (Nat.le_of_ble_eq_true rfl) ?_
  intro p e s m below meth c ls hx hb hr hml hown hlocks hts hW hl
  have L2 : ∀ (k : Nat) (i : Int32) (H : Heap) (locs : List Loc) (ls : Array Slot), 0 ≤ i.toInt → 60 - i.toInt.toNat < k → k_W E (46 + 6 * S) z (k_A E (46 + 6 * S) z s.heap.size) s H locs → lv_has ls 4 [(0, .ref (E.2.2 2)), (1, .long p0), (3, .int i)] → f_X0_indexAt_L2 z p0 k i = (f_X0_indexAt z p0) → W p l e ({ frames := 0, cells := 0, slots := 0, locals := 0 }) s m ([.ref (E.2.2 2), .long p0] : List Value).toArray below meth c H locs 0 0 (MQ below (k_Q (fun v u => v = some (.int (f_X0_indexAt z p0)) ∧ u = z) E (46 + 6 * S) z s.heap.size) ([.ref (E.2.2 2), .long p0] : List Value).toArray s 0 0 (k_A E (46 + 6 * S) z s.heap.size)) (F0 m 2 ls []) := by
    intro k
    induction k with
    | zero =>
      intro i H locs ls hi0 hm
      exact absurd hm (Nat.not_lt_zero _)
    | succ k ih =>
      intro i H locs ls hi0 hm hW hl hG
      refine lv_iload_n hx hb dX0_indexAt_2 rfl (lv_at hl 2 rfl) ?_
      refine lv_aload_n hx hb dX0_indexAt_3 rfl (lv_at hl 0 rfl) ?_
      refine k_get hx hb hts inlX0 hown hW 2 (by omega) k_c2 rfl 3 (by decide) lf_RX0_22 rfl (v := .int (z.1 2 3)) rfl dX0_indexAt_4 ?_
      refine lv_icmp_ge (tgt := 29) hx hb dX0_indexAt_7 (by decide) (fun h1 => ?_) (fun h1 => ?_)
      · refine lv_aload_n hx hb dX0_indexAt_29 rfl (lv_at hl 0 rfl) ?_
        refine k_get hx hb hts inlX0 hown hW 2 (by omega) k_c2 rfl 3 (by decide) lf_RX0_22 rfl (v := .int (z.1 2 3)) rfl dX0_indexAt_30 ?_
        have hR : (f_X0_indexAt z p0) = (z.1 2 3) := (hG.symm.trans (by simp only [f_X0_indexAt_L2, if_pos h1]))
        exact k_iret hx hb hr rfl hlocks hW ⟨by rw [hR], rfl⟩ dX0_indexAt_33
      · refine lv_aload_n hx hb dX0_indexAt_10 rfl (lv_at hl 0 rfl) ?_
        refine k_get hx hb hts inlX0 hown hW 2 (by omega) k_c2 rfl 0 (by decide) lf_RX0_9 rfl (v := .ref (E.2.2 3)) rfl dX0_indexAt_11 ?_
        refine lv_iload_n hx hb dX0_indexAt_14 rfl (lv_at hl 2 rfl) ?_
        refine k_lald hx hb hW 3 60 (by omega) k_c3 (v := (z.2.1 3 i.toNatClampNeg)) (by exact in_lt3 hi0 h1 hc) rfl dX0_indexAt_15 ?_
        refine lv_lload_n hx hb dX0_indexAt_16 rfl (lv_at hl 1 rfl) ?_
        refine k_lif_ne (tgt := 23) hx hb dX0_indexAt_17 dX0_indexAt_18 (by decide) (fun h2 => ?_) (fun h2 => ?_)
        · refine lv_iinc (v := i + 1) (lv' := [(3, .int (i + 1)), (0, .ref (E.2.2 2)), (1, .long p0)]) hx hb dX0_indexAt_23 hl (k := 2) rfl rfl (by decide) rfl (fun ls hl => ?_)
          refine lv_goto (tgt := 2) hx hb dX0_indexAt_26 (by decide) ?_
          exact ih (i + 1) _ _ _ (in_s0 hi0 h1 hc) (in_sm hi0 h1 hc hm) hW (lv_sub hl [1, 2, 0] rfl) (Eq.symm (hG.symm.trans (by simp only [f_X0_indexAt_L2, if_neg h1, if_neg h2])))
        · refine lv_iload_n hx hb dX0_indexAt_21 rfl (lv_at hl 2 rfl) ?_
          have hR : (f_X0_indexAt z p0) = i := (hG.symm.trans (by simp only [f_X0_indexAt_L2, if_neg h1, if_pos h2]))
          exact k_iret hx hb hr rfl hlocks hW ⟨by rw [hR], rfl⟩ dX0_indexAt_22
  have hl : lv_has ls 4 [(0, .ref (E.2.2 2)), (1, .long p0)] := hl
  refine lv_iconst (v := 0) hx hb dX0_indexAt_0 (by decide) ?_
  refine lv_istore_n (lv' := [(3, .int 0), (0, .ref (E.2.2 2)), (1, .long p0)]) hx hb dX0_indexAt_1 rfl hl (by decide) rfl (fun ls hl => ?_)
  exact L2 61 0 _ _ _ (by decide) (by decide) hW (lv_sub hl [1, 2, 0] rfl) (Eq.symm (by simp only [f_X0_indexAt]))
