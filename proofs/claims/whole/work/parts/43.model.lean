def f_X6_add (z : Sg) (p0 : Int32) (p1 : Int32) : Int32 × Sg :=
  if (f_X6_isSection z p0) = 0 then
    (0, (uI z 19 0 1))
  else
    if (z.1 24 p0.toNatClampNeg) = 300 then
      (0, (uI z 19 0 2))
    else
      ((z.1 24 p0.toNatClampNeg) + 1, (uI (uI (uI z 19 0 0) 25 (((300 * p0) + (z.1 24 p0.toNatClampNeg)).toNatClampNeg) (vp_nar .byte p1)) 24 p0.toNatClampNeg ((z.1 24 p0.toNatClampNeg) + 1)))
set_option maxHeartbeats 4000000 in
set_option maxRecDepth 100000 in
theorem c_X6_add (l : Launch) (E : Ev) (S sz : Nat) (z : Sg) (p0 : Int32) (p1 : Int32) (hI : k_J S z) : k_Met l yX6_add cX6_add 3 (some .int) ({ frames := 1, cells := 0, slots := 0, locals := 21 }) [.ref (E.2.2 19), .int p0, .int p1] E (46 + 6 * S) z sz (fun v u => v = some (.int ((f_X6_add z p0 p1).1)) ∧ u = (f_X6_add z p0 p1).2) 0 0 := by
  refine k_body (by decide +kernel) (Nat.le_of_ble_eq_true rfl) ?_
  intro p e s m below meth cd ls hx hb hr hml hown hlocks hts hW hl
  have hl : lv_has ls 3 [(0, .ref (E.2.2 19)), (1, .int p0), (2, .int p1)] := hl
  refine lv_aload_n hx hb dX6_add_0 rfl (lv_at hl 0 rfl) ?_
  refine lv_aload_n hx hb dX6_add_1 rfl (lv_at hl 0 rfl) ?_
  refine lv_iload_n hx hb dX6_add_2 rfl (lv_at hl 1 rfl) ?_
  refine k_callV (As := [.int p0]) (rest := [.ref (E.2.2 19)]) hx hb hml hown hts (c_X6_isSection l E S _ z p0) lm_RX6_107 ln_X6_isSection le_X6_isSection li_X6 lk_X6_isSection (show k_nm yX6_isSection 1 by decide +kernel) ⟨Nat.le_of_ble_eq_true rfl, Nat.le_of_ble_eq_true rfl⟩ rfl rfl ⟨Nat.le_of_ble_eq_true rfl, Nat.le_of_ble_eq_true rfl⟩ hl.1 rfl (Nat.le_of_ble_eq_true rfl) dX6_add_3 (by omega) (k_c19 _ _ _) rfl hW (fun v z1 H locs hp hW => ?_)
  obtain ⟨rfl, hz1⟩ := hp
  rw [hz1] at hW
  refine W.eq (g2 := F0 m 6 ls [.int (f_X6_isSection z p0), .ref (E.2.2 19)]) rfl ?_
  refine lv_if_ne (tgt := 13) hx hb dX6_add_6 (by decide) (fun h1 => ?_) (fun h1 => ?_)
  · refine lv_aload_n hx hb dX6_add_13 rfl (lv_at hl 0 rfl) ?_
    refine k_get hx hb hts inlX6 hown hW 19 (by omega) k_c19 rfl 6 (by decide) lf_RX6_23 rfl (v := .ref (E.2.2 24)) rfl dX6_add_14 ?_
    refine lv_iload_n hx hb dX6_add_17 rfl (lv_at hl 1 rfl) ?_
    refine k_iald hx hb hW 24 12 (by omega) k_c24 (v := (z.1 24 p0.toNatClampNeg)) (by exact in12 (sec_12 hI (by assumption))) rfl dX6_add_18 ?_
    refine lv_sipush (v := 300) hx hb dX6_add_19 (by decide) ?_
    refine lv_icmp_ne (tgt := 29) hx hb dX6_add_22 (by decide) (fun h2 => ?_) (fun h2 => ?_)
    · refine lv_iconst (v := 0) hx hb dX6_add_29 (by decide) ?_
      refine k_putI hx hb hts inlX6 tyX6_ok nmX6 hown hW 19 (by omega) k_c19 rfl 0 (by decide) lf_RX6_88 rfl rfl (tyX6_ok 0 (by decide)) (Nat.le_of_ble_eq_true rfl) ks_X6_0 dX6_add_30 (fun H locs hW => ?_)
      refine lv_aload_n hx hb dX6_add_33 rfl (lv_at hl 0 rfl) ?_
      refine k_get hx hb hts inlX6 hown hW 19 (by omega) k_c19 rfl 0 (by decide) lf_RX6_88 rfl (v := .int 0) rfl dX6_add_34 ?_
      refine lv_if_le (tgt := 42) hx hb dX6_add_37 (by decide) (fun _ => ?_) (fun h3 => absurd h3 (by decide))
      refine lv_aload_n hx hb dX6_add_42 rfl (lv_at hl 0 rfl) ?_
      refine k_get hx hb hts inlX6 hown hW 19 (by omega) k_c19 rfl 7 (by decide) lf_RX6_26 rfl (v := .ref (E.2.2 25)) rfl dX6_add_43 ?_
      refine lv_sipush (v := 300) hx hb dX6_add_46 (by decide) ?_
      refine lv_iload_n hx hb dX6_add_49 rfl (lv_at hl 1 rfl) ?_
      refine lv_imul hx hb dX6_add_50 ?_
      refine lv_aload_n hx hb dX6_add_51 rfl (lv_at hl 0 rfl) ?_
      refine k_get hx hb hts inlX6 hown hW 19 (by omega) k_c19 rfl 6 (by decide) lf_RX6_23 rfl (v := .ref (E.2.2 24)) rfl dX6_add_52 ?_
      refine lv_iload_n hx hb dX6_add_55 rfl (lv_at hl 1 rfl) ?_
      refine k_iald hx hb hW 24 12 (by omega) k_c24 (v := (z.1 24 p0.toNatClampNeg)) (by exact in12 (sec_12 hI (by assumption))) rfl dX6_add_56 ?_
      refine lv_iadd hx hb dX6_add_57 ?_
      refine lv_iload_n hx hb dX6_add_58 rfl (lv_at hl 2 rfl) ?_
      refine k_bast hx hb hW 25 3600 (by omega) k_c25 (by exact ix1 (k := 300) (l := 12) rfl (sec_12 hI (by assumption)) (sz_ne (k_Jsz hI _) rfl (by assumption)) (by decide)) dX6_add_59 (fun H locs hW => ?_)
      refine lv_aload_n hx hb dX6_add_60 rfl (lv_at hl 0 rfl) ?_
      refine k_get hx hb hts inlX6 hown hW 19 (by omega) k_c19 rfl 6 (by decide) lf_RX6_23 rfl (v := .ref (E.2.2 24)) rfl dX6_add_61 ?_
      refine lv_iload_n hx hb dX6_add_64 rfl (lv_at hl 1 rfl) ?_
      refine lv_dup2_11 hx hb dX6_add_65 rfl rfl ?_
      refine k_iald hx hb hW 24 12 (by omega) k_c24 (v := (z.1 24 p0.toNatClampNeg)) (by exact in12 (sec_12 hI (by assumption))) rfl dX6_add_66 ?_
      refine lv_iconst (v := 1) hx hb dX6_add_67 (by decide) ?_
      refine lv_iadd hx hb dX6_add_68 ?_
      refine k_iast hx hb hW 24 12 (by omega) k_c24 (by exact in12 (sec_12 hI (by assumption))) dX6_add_69 (fun H locs hW => ?_)
      refine lv_aload_n hx hb dX6_add_70 rfl (lv_at hl 0 rfl) ?_
      refine k_get hx hb hts inlX6 hown hW 19 (by omega) k_c19 rfl 6 (by decide) lf_RX6_23 rfl (v := .ref (E.2.2 24)) rfl dX6_add_71 ?_
      refine lv_iload_n hx hb dX6_add_74 rfl (lv_at hl 1 rfl) ?_
      refine k_iald hx hb hW 24 12 (by omega) k_c24 (v := (z.1 24 p0.toNatClampNeg) + 1) (by exact in12 (sec_12 hI (by assumption))) (by simp [uI, uJ, uO, va_up, upd, vp_updL]) dX6_add_75 ?_
      have hR : (f_X6_add z p0 p1) = ((z.1 24 p0.toNatClampNeg) + 1, (uI (uI (uI z 19 0 0) 25 (((300 * p0) + (z.1 24 p0.toNatClampNeg)).toNatClampNeg) (vp_nar .byte p1)) 24 p0.toNatClampNeg ((z.1 24 p0.toNatClampNeg) + 1))) := (by simp only [f_X6_add, if_neg h1, if_neg h2])
      exact k_iret hx hb hr rfl hlocks hW ⟨by rw [hR], by rw [hR]⟩ dX6_add_76
    · refine lv_iconst (v := 2) hx hb dX6_add_25 (by decide) ?_
      refine lv_goto (tgt := 30) hx hb dX6_add_26 (by decide) ?_
      refine k_putI hx hb hts inlX6 tyX6_ok nmX6 hown hW 19 (by omega) k_c19 rfl 0 (by decide) lf_RX6_88 rfl rfl (tyX6_ok 0 (by decide)) (Nat.le_of_ble_eq_true rfl) ks_X6_0 dX6_add_30 (fun H locs hW => ?_)
      refine lv_aload_n hx hb dX6_add_33 rfl (lv_at hl 0 rfl) ?_
      refine k_get hx hb hts inlX6 hown hW 19 (by omega) k_c19 rfl 0 (by decide) lf_RX6_88 rfl (v := .int 2) rfl dX6_add_34 ?_
      refine lv_if_le (tgt := 42) hx hb dX6_add_37 (by decide) (fun h4 => absurd h4 (by decide)) (fun _ => ?_)
      refine lv_iconst (v := 0) hx hb dX6_add_40 (by decide) ?_
      have hR : (f_X6_add z p0 p1) = (0, (uI z 19 0 2)) := (by simp only [f_X6_add, if_neg h1, if_pos h2])
      exact k_iret hx hb hr rfl hlocks hW ⟨by rw [hR], by rw [hR]⟩ dX6_add_41
  · refine lv_iconst (v := 1) hx hb dX6_add_9 (by decide) ?_
    refine lv_goto (tgt := 30) hx hb dX6_add_10 (by decide) ?_
    refine k_putI hx hb hts inlX6 tyX6_ok nmX6 hown hW 19 (by omega) k_c19 rfl 0 (by decide) lf_RX6_88 rfl rfl (tyX6_ok 0 (by decide)) (Nat.le_of_ble_eq_true rfl) ks_X6_0 dX6_add_30 (fun H locs hW => ?_)
    refine lv_aload_n hx hb dX6_add_33 rfl (lv_at hl 0 rfl) ?_
    refine k_get hx hb hts inlX6 hown hW 19 (by omega) k_c19 rfl 0 (by decide) lf_RX6_88 rfl (v := .int 1) rfl dX6_add_34 ?_
    refine lv_if_le (tgt := 42) hx hb dX6_add_37 (by decide) (fun h5 => absurd h5 (by decide)) (fun _ => ?_)
    refine lv_iconst (v := 0) hx hb dX6_add_40 (by decide) ?_
    have hR : (f_X6_add z p0 p1) = (0, (uI z 19 0 1)) := (by simp only [f_X6_add, if_pos h1])
    exact k_iret hx hb hr rfl hlocks hW ⟨by rw [hR], by rw [hR]⟩ dX6_add_41

def f_X6_octet (z : Sg) (p0 : Int32) (p1 : Int32) : Int32 × Sg :=
  if (f_X6_isSection z p0) = 0 then
    (0, (uI z 19 0 1))
  else
    if p1 < 0 then
      (0, (uI z 19 0 2))
    else
      if p1 < (z.1 24 p0.toNatClampNeg) then
        ((z.1 25 (((300 * p0) + p1).toNatClampNeg)), (uI z 19 0 0))
      else
        (0, (uI z 19 0 2))
set_option maxHeartbeats 4000000 in
set_option maxRecDepth 100000 in
theorem c_X6_octet (l : Launch) (E : Ev) (S sz : Nat) (z : Sg) (p0 : Int32) (p1 : Int32) (hI : k_J S z) : k_Met l yX6_octet cX6_octet 3 (some .byte) ({ frames := 1, cells := 0, slots := 0, locals := 21 }) [.ref (E.2.2 19), .int p0, .int p1] E (46 + 6 * S) z sz (fun v u => v = some (.int ((f_X6_octet z p0 p1).1)) ∧ u = (f_X6_octet z p0 p1).2) 0 0 := by
  refine k_body (by decide +kernel) (Nat.le_of_ble_eq_true rfl) ?_
  intro p e s m below meth cd ls hx hb hr hml hown hlocks hts hW hl
  have hl : lv_has ls 3 [(0, .ref (E.2.2 19)), (1, .int p0), (2, .int p1)] := hl
  refine lv_aload_n hx hb dX6_octet_0 rfl (lv_at hl 0 rfl) ?_
  refine lv_aload_n hx hb dX6_octet_1 rfl (lv_at hl 0 rfl) ?_
  refine lv_iload_n hx hb dX6_octet_2 rfl (lv_at hl 1 rfl) ?_
  refine k_callV (As := [.int p0]) (rest := [.ref (E.2.2 19)]) hx hb hml hown hts (c_X6_isSection l E S _ z p0) lm_RX6_107 ln_X6_isSection le_X6_isSection li_X6 lk_X6_isSection (show k_nm yX6_isSection 1 by decide +kernel) ⟨Nat.le_of_ble_eq_true rfl, Nat.le_of_ble_eq_true rfl⟩ rfl rfl ⟨Nat.le_of_ble_eq_true rfl, Nat.le_of_ble_eq_true rfl⟩ hl.1 rfl (Nat.le_of_ble_eq_true rfl) dX6_octet_3 (by omega) (k_c19 _ _ _) rfl hW (fun v z1 H locs hp hW => ?_)
  obtain ⟨rfl, hz1⟩ := hp
  rw [hz1] at hW
  refine W.eq (g2 := F0 m 6 ls [.int (f_X6_isSection z p0), .ref (E.2.2 19)]) rfl ?_
  refine lv_if_ne (tgt := 13) hx hb dX6_octet_6 (by decide) (fun h1 => ?_) (fun h1 => ?_)
  · refine lv_iload_n hx hb dX6_octet_13 rfl (lv_at hl 2 rfl) ?_
    refine lv_if_lt (tgt := 27) hx hb dX6_octet_14 (by decide) (fun h2 => ?_) (fun h2 => ?_)
    · refine lv_iconst (v := 2) hx hb dX6_octet_27 (by decide) ?_
      refine lv_goto (tgt := 32) hx hb dX6_octet_28 (by decide) ?_
      refine k_putI hx hb hts inlX6 tyX6_ok nmX6 hown hW 19 (by omega) k_c19 rfl 0 (by decide) lf_RX6_88 rfl rfl (tyX6_ok 0 (by decide)) (Nat.le_of_ble_eq_true rfl) ks_X6_0 dX6_octet_32 (fun H locs hW => ?_)
      refine lv_aload_n hx hb dX6_octet_35 rfl (lv_at hl 0 rfl) ?_
      refine k_get hx hb hts inlX6 hown hW 19 (by omega) k_c19 rfl 0 (by decide) lf_RX6_88 rfl (v := .int 2) rfl dX6_octet_36 ?_
      refine lv_if_le (tgt := 46) hx hb dX6_octet_39 (by decide) (fun h3 => absurd h3 (by decide)) (fun _ => ?_)
      refine lv_iconst (v := 0) hx hb dX6_octet_42 (by decide) ?_
      refine lv_goto (tgt := 58) hx hb dX6_octet_43 (by decide) ?_
      have hR : (f_X6_octet z p0 p1) = (0, (uI z 19 0 2)) := (by simp only [f_X6_octet, if_neg h1, if_pos h2])
      exact k_iret hx hb hr (by first | rfl | exact nar_b (hI.2.2.2.2.2.2.2.2.1 _)) hlocks hW ⟨by rw [hR], by rw [hR]⟩ dX6_octet_58
    · refine lv_iload_n hx hb dX6_octet_17 rfl (lv_at hl 2 rfl) ?_
      refine lv_aload_n hx hb dX6_octet_18 rfl (lv_at hl 0 rfl) ?_
      refine k_get hx hb hts inlX6 hown hW 19 (by omega) k_c19 rfl 6 (by decide) lf_RX6_23 rfl (v := .ref (E.2.2 24)) rfl dX6_octet_19 ?_
      refine lv_iload_n hx hb dX6_octet_22 rfl (lv_at hl 1 rfl) ?_
      refine k_iald hx hb hW 24 12 (by omega) k_c24 (v := (z.1 24 p0.toNatClampNeg)) (by exact in12 (sec_12 hI (by assumption))) rfl dX6_octet_23 ?_
      refine lv_icmp_lt (tgt := 31) hx hb dX6_octet_24 (by decide) (fun h4 => ?_) (fun h4 => ?_)
      · refine lv_iconst (v := 0) hx hb dX6_octet_31 (by decide) ?_
        refine k_putI hx hb hts inlX6 tyX6_ok nmX6 hown hW 19 (by omega) k_c19 rfl 0 (by decide) lf_RX6_88 rfl rfl (tyX6_ok 0 (by decide)) (Nat.le_of_ble_eq_true rfl) ks_X6_0 dX6_octet_32 (fun H locs hW => ?_)
        refine lv_aload_n hx hb dX6_octet_35 rfl (lv_at hl 0 rfl) ?_
        refine k_get hx hb hts inlX6 hown hW 19 (by omega) k_c19 rfl 0 (by decide) lf_RX6_88 rfl (v := .int 0) rfl dX6_octet_36 ?_
        refine lv_if_le (tgt := 46) hx hb dX6_octet_39 (by decide) (fun _ => ?_) (fun h5 => absurd h5 (by decide))
        refine lv_aload_n hx hb dX6_octet_46 rfl (lv_at hl 0 rfl) ?_
        refine k_get hx hb hts inlX6 hown hW 19 (by omega) k_c19 rfl 7 (by decide) lf_RX6_26 rfl (v := .ref (E.2.2 25)) rfl dX6_octet_47 ?_
        refine lv_sipush (v := 300) hx hb dX6_octet_50 (by decide) ?_
        refine lv_iload_n hx hb dX6_octet_53 rfl (lv_at hl 1 rfl) ?_
        refine lv_imul hx hb dX6_octet_54 ?_
        refine lv_iload_n hx hb dX6_octet_55 rfl (lv_at hl 2 rfl) ?_
        refine lv_iadd hx hb dX6_octet_56 ?_
        refine k_bald hx hb hW 25 3600 (by omega) k_c25 (v := (z.1 25 (((300 * p0) + p1).toNatClampNeg))) (by exact ix1 (k := 300) (l := 12) rfl (sec_12 hI (by assumption)) (oc_b (by assumption) (by assumption) (k_Jsz hI _).2) (by decide)) rfl dX6_octet_57 ?_
        have hR : (f_X6_octet z p0 p1) = ((z.1 25 (((300 * p0) + p1).toNatClampNeg)), (uI z 19 0 0)) := (by simp only [f_X6_octet, if_neg h1, if_neg h2, if_pos h4])
        exact k_iret hx hb hr (by first | rfl | exact nar_b (hI.2.2.2.2.2.2.2.2.1 _)) hlocks hW ⟨by rw [hR], by rw [hR]⟩ dX6_octet_58
      · refine lv_iconst (v := 2) hx hb dX6_octet_27 (by decide) ?_
        refine lv_goto (tgt := 32) hx hb dX6_octet_28 (by decide) ?_
        refine k_putI hx hb hts inlX6 tyX6_ok nmX6 hown hW 19 (by omega) k_c19 rfl 0 (by decide) lf_RX6_88 rfl rfl (tyX6_ok 0 (by decide)) (Nat.le_of_ble_eq_true rfl) ks_X6_0 dX6_octet_32 (fun H locs hW => ?_)
        refine lv_aload_n hx hb dX6_octet_35 rfl (lv_at hl 0 rfl) ?_
        refine k_get hx hb hts inlX6 hown hW 19 (by omega) k_c19 rfl 0 (by decide) lf_RX6_88 rfl (v := .int 2) rfl dX6_octet_36 ?_
        refine lv_if_le (tgt := 46) hx hb dX6_octet_39 (by decide) (fun h6 => absurd h6 (by decide)) (fun _ => ?_)
        refine lv_iconst (v := 0) hx hb dX6_octet_42 (by decide) ?_
        refine lv_goto (tgt := 58) hx hb dX6_octet_43 (by decide) ?_
        have hR : (f_X6_octet z p0 p1) = (0, (uI z 19 0 2)) := (by simp only [f_X6_octet, if_neg h1, if_neg h2, if_neg h4])
        exact k_iret hx hb hr (by first | rfl | exact nar_b (hI.2.2.2.2.2.2.2.2.1 _)) hlocks hW ⟨by rw [hR], by rw [hR]⟩ dX6_octet_58
  · refine lv_iconst (v := 1) hx hb dX6_octet_9 (by decide) ?_
    refine lv_goto (tgt := 32) hx hb dX6_octet_10 (by decide) ?_
    refine k_putI hx hb hts inlX6 tyX6_ok nmX6 hown hW 19 (by omega) k_c19 rfl 0 (by decide) lf_RX6_88 rfl rfl (tyX6_ok 0 (by decide)) (Nat.le_of_ble_eq_true rfl) ks_X6_0 dX6_octet_32 (fun H locs hW => ?_)
    refine lv_aload_n hx hb dX6_octet_35 rfl (lv_at hl 0 rfl) ?_
    refine k_get hx hb hts inlX6 hown hW 19 (by omega) k_c19 rfl 0 (by decide) lf_RX6_88 rfl (v := .int 1) rfl dX6_octet_36 ?_
    refine lv_if_le (tgt := 46) hx hb dX6_octet_39 (by decide) (fun h7 => absurd h7 (by decide)) (fun _ => ?_)
    refine lv_iconst (v := 0) hx hb dX6_octet_42 (by decide) ?_
    refine lv_goto (tgt := 58) hx hb dX6_octet_43 (by decide) ?_
    have hR : (f_X6_octet z p0 p1) = (0, (uI z 19 0 1)) := (by simp only [f_X6_octet, if_pos h1])
    exact k_iret hx hb hr (by first | rfl | exact nar_b (hI.2.2.2.2.2.2.2.2.1 _)) hlocks hW ⟨by rw [hR], by rw [hR]⟩ dX6_octet_58

def f_X6_beside (z : Sg) (p0 : Int32) (p1 : Int64) : Int64 × Sg :=
  if (f_X6_isSection z p0) = 0 then
    (0, (uI z 19 0 1))
  else
    if (z.1 20 p0.toNatClampNeg) = 1 then
      (0, (uI z 19 0 2))
    else
      if (f_X6_in z p1 (-1) 9999999999) = 0 then
        (0, (uI z 19 0 2))
      else
        ((z.2.1 23 p0.toNatClampNeg), (uJ (uI z 19 0 0) 23 p0.toNatClampNeg p1))
set_option maxHeartbeats 4000000 in
set_option maxRecDepth 100000 in
theorem c_X6_beside (l : Launch) (E : Ev) (S sz : Nat) (z : Sg) (p0 : Int32) (p1 : Int64) (hI : k_J S z) : k_Met l yX6_beside cX6_beside 6 (some .long) ({ frames := 1, cells := 0, slots := 0, locals := 25 }) [.ref (E.2.2 19), .int p0, .long p1] E (46 + 6 * S) z sz (fun v u => v = some (.long ((f_X6_beside z p0 p1).1)) ∧ u = (f_X6_beside z p0 p1).2) 0 0 := by
  refine k_body (by decide +kernel) (Nat.le_of_ble_eq_true rfl) ?_
  intro p e s m below meth cd ls hx hb hr hml hown hlocks hts hW hl
  have hl : lv_has ls 6 [(0, .ref (E.2.2 19)), (1, .int p0), (2, .long p1)] := hl
  refine lv_aload_n hx hb dX6_beside_0 rfl (lv_at hl 0 rfl) ?_
  refine lv_aload_n hx hb dX6_beside_1 rfl (lv_at hl 0 rfl) ?_
  refine lv_iload_n hx hb dX6_beside_2 rfl (lv_at hl 1 rfl) ?_
  refine k_callV (As := [.int p0]) (rest := [.ref (E.2.2 19)]) hx hb hml hown hts (c_X6_isSection l E S _ z p0) lm_RX6_107 ln_X6_isSection le_X6_isSection li_X6 lk_X6_isSection (show k_nm yX6_isSection 1 by decide +kernel) ⟨Nat.le_of_ble_eq_true rfl, Nat.le_of_ble_eq_true rfl⟩ rfl rfl ⟨Nat.le_of_ble_eq_true rfl, Nat.le_of_ble_eq_true rfl⟩ hl.1 rfl (Nat.le_of_ble_eq_true rfl) dX6_beside_3 (by omega) (k_c19 _ _ _) rfl hW (fun v z1 H locs hp hW => ?_)
  obtain ⟨rfl, hz1⟩ := hp
  rw [hz1] at hW
  refine W.eq (g2 := F0 m 6 ls [.int (f_X6_isSection z p0), .ref (E.2.2 19)]) rfl ?_
  refine lv_if_ne (tgt := 13) hx hb dX6_beside_6 (by decide) (fun h1 => ?_) (fun h1 => ?_)
  · refine lv_aload_n hx hb dX6_beside_13 rfl (lv_at hl 0 rfl) ?_
    refine k_get hx hb hts inlX6 hown hW 19 (by omega) k_c19 rfl 2 (by decide) lf_RX6_7 rfl (v := .ref (E.2.2 20)) rfl dX6_beside_14 ?_
    refine lv_iload_n hx hb dX6_beside_17 rfl (lv_at hl 1 rfl) ?_
    refine k_iald hx hb hW 20 12 (by omega) k_c20 (v := (z.1 20 p0.toNatClampNeg)) (by exact in12 (sec_12 hI (by assumption))) rfl dX6_beside_18 ?_
    refine lv_iconst (v := 1) hx hb dX6_beside_19 (by decide) ?_
    refine lv_icmp_eq (tgt := 36) hx hb dX6_beside_20 (by decide) (fun h2 => ?_) (fun h2 => ?_)
    · refine lv_iconst (v := 2) hx hb dX6_beside_36 (by decide) ?_
      refine lv_goto (tgt := 41) hx hb dX6_beside_37 (by decide) ?_
      refine k_putI hx hb hts inlX6 tyX6_ok nmX6 hown hW 19 (by omega) k_c19 rfl 0 (by decide) lf_RX6_88 rfl rfl (tyX6_ok 0 (by decide)) (Nat.le_of_ble_eq_true rfl) ks_X6_0 dX6_beside_41 (fun H locs hW => ?_)
      refine lv_aload_n hx hb dX6_beside_44 rfl (lv_at hl 0 rfl) ?_
      refine k_get hx hb hts inlX6 hown hW 19 (by omega) k_c19 rfl 0 (by decide) lf_RX6_88 rfl (v := .int 2) rfl dX6_beside_45 ?_
      refine lv_if_le (tgt := 53) hx hb dX6_beside_48 (by decide) (fun h3 => absurd h3 (by decide)) (fun _ => ?_)
      refine lv_lconst (v := 0) hx hb dX6_beside_51 (by decide) ?_
      have hR : (f_X6_beside z p0 p1) = (0, (uI z 19 0 2)) := (by simp only [f_X6_beside, if_neg h1, if_pos h2])
      exact k_lret hx hb hr hlocks hW ⟨by rw [hR], by rw [hR]⟩ dX6_beside_52
    · refine lv_lload_n hx hb dX6_beside_23 rfl (lv_at hl 2 rfl) ?_
      refine lv_ldc2 (v := (-1)) hx hb hown (hts _ lc_RX6_105) dX6_beside_24 ?_
      refine lv_ldc2 (v := 9999999999) hx hb hown (hts _ lc_RX6_99) dX6_beside_27 ?_
      refine k_callS (rest := [.ref (E.2.2 19)]) hx hb hml hown hts (c_X6_in l E S _ z p1 (-1) 9999999999) lm_RX6_95 ls_X6_in li_X6 lk_X6_in (show k_nm yX6_in 3 by decide +kernel) ⟨Nat.le_of_ble_eq_true rfl, Nat.le_of_ble_eq_true rfl⟩ rfl rfl ⟨Nat.le_of_ble_eq_true rfl, Nat.le_of_ble_eq_true rfl⟩ hl.1 rfl (Nat.le_of_ble_eq_true rfl) dX6_beside_30 hW (fun v z1 H locs hp hW => ?_)
      obtain ⟨rfl, hz1⟩ := hp
      rw [hz1] at hW
      refine W.eq (g2 := F0 m 33 ls [.int (f_X6_in z p1 (-1) 9999999999), .ref (E.2.2 19)]) rfl ?_
      refine lv_if_ne (tgt := 40) hx hb dX6_beside_33 (by decide) (fun h4 => ?_) (fun h4 => ?_)
      · refine lv_iconst (v := 0) hx hb dX6_beside_40 (by decide) ?_
        refine k_putI hx hb hts inlX6 tyX6_ok nmX6 hown hW 19 (by omega) k_c19 rfl 0 (by decide) lf_RX6_88 rfl rfl (tyX6_ok 0 (by decide)) (Nat.le_of_ble_eq_true rfl) ks_X6_0 dX6_beside_41 (fun H locs hW => ?_)
        refine lv_aload_n hx hb dX6_beside_44 rfl (lv_at hl 0 rfl) ?_
        refine k_get hx hb hts inlX6 hown hW 19 (by omega) k_c19 rfl 0 (by decide) lf_RX6_88 rfl (v := .int 0) rfl dX6_beside_45 ?_
        refine lv_if_le (tgt := 53) hx hb dX6_beside_48 (by decide) (fun _ => ?_) (fun h5 => absurd h5 (by decide))
        refine lv_aload_n hx hb dX6_beside_53 rfl (lv_at hl 0 rfl) ?_
        refine k_get hx hb hts inlX6 hown hW 19 (by omega) k_c19 rfl 5 (by decide) lf_RX6_20 rfl (v := .ref (E.2.2 23)) rfl dX6_beside_54 ?_
        refine lv_iload_n hx hb dX6_beside_57 rfl (lv_at hl 1 rfl) ?_
        refine k_lald hx hb hW 23 12 (by omega) k_c23 (v := (z.2.1 23 p0.toNatClampNeg)) (by exact in12 (sec_12 hI (by assumption))) rfl dX6_beside_58 ?_
        refine lv_lstore (lv' := [(4, .long (z.2.1 23 p0.toNatClampNeg)), (0, .ref (E.2.2 19)), (1, .int p0), (2, .long p1)]) hx hb dX6_beside_59 hl (by decide) rfl (fun ls hl => ?_)
        refine lv_aload_n hx hb dX6_beside_61 rfl (lv_at hl 1 rfl) ?_
        refine k_get hx hb hts inlX6 hown hW 19 (by omega) k_c19 rfl 5 (by decide) lf_RX6_20 rfl (v := .ref (E.2.2 23)) rfl dX6_beside_62 ?_
        refine lv_iload_n hx hb dX6_beside_65 rfl (lv_at hl 2 rfl) ?_
        refine lv_lload_n hx hb dX6_beside_66 rfl (lv_at hl 3 rfl) ?_
        refine k_last hx hb hW 23 12 (by omega) k_c23 (by exact in12 (sec_12 hI (by assumption))) dX6_beside_67 (fun H locs hW => ?_)
        refine lv_lload hx hb dX6_beside_68 (lv_at hl 0 rfl) ?_
        have hR : (f_X6_beside z p0 p1) = ((z.2.1 23 p0.toNatClampNeg), (uJ (uI z 19 0 0) 23 p0.toNatClampNeg p1)) := (by simp only [f_X6_beside, if_neg h1, if_neg h2, if_neg h4])
        exact k_lret hx hb hr hlocks hW ⟨by rw [hR], by rw [hR]⟩ dX6_beside_70
      · refine lv_iconst (v := 2) hx hb dX6_beside_36 (by decide) ?_
        refine lv_goto (tgt := 41) hx hb dX6_beside_37 (by decide) ?_
        refine k_putI hx hb hts inlX6 tyX6_ok nmX6 hown hW 19 (by omega) k_c19 rfl 0 (by decide) lf_RX6_88 rfl rfl (tyX6_ok 0 (by decide)) (Nat.le_of_ble_eq_true rfl) ks_X6_0 dX6_beside_41 (fun H locs hW => ?_)
        refine lv_aload_n hx hb dX6_beside_44 rfl (lv_at hl 0 rfl) ?_
        refine k_get hx hb hts inlX6 hown hW 19 (by omega) k_c19 rfl 0 (by decide) lf_RX6_88 rfl (v := .int 2) rfl dX6_beside_45 ?_
        refine lv_if_le (tgt := 53) hx hb dX6_beside_48 (by decide) (fun h6 => absurd h6 (by decide)) (fun _ => ?_)
        refine lv_lconst (v := 0) hx hb dX6_beside_51 (by decide) ?_
        have hR : (f_X6_beside z p0 p1) = (0, (uI z 19 0 2)) := (by simp only [f_X6_beside, if_neg h1, if_neg h2, if_pos h4])
        exact k_lret hx hb hr hlocks hW ⟨by rw [hR], by rw [hR]⟩ dX6_beside_52
  · refine lv_iconst (v := 1) hx hb dX6_beside_9 (by decide) ?_
    refine lv_goto (tgt := 41) hx hb dX6_beside_10 (by decide) ?_
    refine k_putI hx hb hts inlX6 tyX6_ok nmX6 hown hW 19 (by omega) k_c19 rfl 0 (by decide) lf_RX6_88 rfl rfl (tyX6_ok 0 (by decide)) (Nat.le_of_ble_eq_true rfl) ks_X6_0 dX6_beside_41 (fun H locs hW => ?_)
    refine lv_aload_n hx hb dX6_beside_44 rfl (lv_at hl 0 rfl) ?_
    refine k_get hx hb hts inlX6 hown hW 19 (by omega) k_c19 rfl 0 (by decide) lf_RX6_88 rfl (v := .int 1) rfl dX6_beside_45 ?_
    refine lv_if_le (tgt := 53) hx hb dX6_beside_48 (by decide) (fun h7 => absurd h7 (by decide)) (fun _ => ?_)
    refine lv_lconst (v := 0) hx hb dX6_beside_51 (by decide) ?_
    have hR : (f_X6_beside z p0 p1) = (0, (uI z 19 0 1)) := (by simp only [f_X6_beside, if_pos h1])
    exact k_lret hx hb hr hlocks hW ⟨by rw [hR], by rw [hR]⟩ dX6_beside_52

def f_X6_widths (z : Sg) (p0 : Int32) (p1 : Int32) (p2 : Int32) (p3 : Int32) : Int32 × Sg :=
  if (f_X6_isSection z p0) = 0 then
    (0, (uI z 19 0 1))
  else
    if (z.1 20 p0.toNatClampNeg) = 0 then
      (0, (uI z 19 0 2))
    else
      if (f_X6_in z ((p1 : Int32).toInt64) 0 4) = 0 then
        (0, (uI z 19 0 2))
      else
        if (f_X6_in z ((p2 : Int32).toInt64) 0 4) = 0 then
          (0, (uI z 19 0 2))
        else
          if (f_X6_in z ((p3 : Int32).toInt64) 0 4) = 0 then
            (0, (uI z 19 0 2))
          else
            ((p1 + p2) + p3, (uI (uI (uI (uI z 19 0 0) 26 ((3 * p0).toNatClampNeg) p1) 26 (((3 * p0) + 1).toNatClampNeg) p2) 26 (((3 * p0) + 2).toNatClampNeg) p3))
set_option maxHeartbeats 4000000 in
set_option maxRecDepth 100000 in
theorem c_X6_widths (l : Launch) (E : Ev) (S sz : Nat) (z : Sg) (p0 : Int32) (p1 : Int32) (p2 : Int32) (p3 : Int32) (hI : k_J S z) : k_Met l yX6_widths cX6_widths 5 (some .int) ({ frames := 1, cells := 0, slots := 0, locals := 25 }) [.ref (E.2.2 19), .int p0, .int p1, .int p2, .int p3] E (46 + 6 * S) z sz (fun v u => v = some (.int ((f_X6_widths z p0 p1 p2 p3).1)) ∧ u = (f_X6_widths z p0 p1 p2 p3).2) 0 0 := by
  refine k_body (by decide +kernel) (Nat.le_of_ble_eq_true rfl) ?_
  intro p e s m below meth cd ls hx hb hr hml hown hlocks hts hW hl
  have hl : lv_has ls 5 [(0, .ref (E.2.2 19)), (1, .int p0), (2, .int p1), (3, .int p2), (4, .int p3)] := hl
  refine lv_aload_n hx hb dX6_widths_0 rfl (lv_at hl 0 rfl) ?_
  refine lv_aload_n hx hb dX6_widths_1 rfl (lv_at hl 0 rfl) ?_
  refine lv_iload_n hx hb dX6_widths_2 rfl (lv_at hl 1 rfl) ?_
  refine k_callV (As := [.int p0]) (rest := [.ref (E.2.2 19)]) hx hb hml hown hts (c_X6_isSection l E S _ z p0) lm_RX6_107 ln_X6_isSection le_X6_isSection li_X6 lk_X6_isSection (show k_nm yX6_isSection 1 by decide +kernel) ⟨Nat.le_of_ble_eq_true rfl, Nat.le_of_ble_eq_true rfl⟩ rfl rfl ⟨Nat.le_of_ble_eq_true rfl, Nat.le_of_ble_eq_true rfl⟩ hl.1 rfl (Nat.le_of_ble_eq_true rfl) dX6_widths_3 (by omega) (k_c19 _ _ _) rfl hW (fun v z1 H locs hp hW => ?_)
  obtain ⟨rfl, hz1⟩ := hp
  rw [hz1] at hW
  refine W.eq (g2 := F0 m 6 ls [.int (f_X6_isSection z p0), .ref (E.2.2 19)]) rfl ?_
  refine lv_if_ne (tgt := 13) hx hb dX6_widths_6 (by decide) (fun h1 => ?_) (fun h1 => ?_)
  · refine lv_aload_n hx hb dX6_widths_13 rfl (lv_at hl 0 rfl) ?_
    refine k_get hx hb hts inlX6 hown hW 19 (by omega) k_c19 rfl 2 (by decide) lf_RX6_7 rfl (v := .ref (E.2.2 20)) rfl dX6_widths_14 ?_
    refine lv_iload_n hx hb dX6_widths_17 rfl (lv_at hl 1 rfl) ?_
    refine k_iald hx hb hW 20 12 (by omega) k_c20 (v := (z.1 20 p0.toNatClampNeg)) (by exact in12 (sec_12 hI (by assumption))) rfl dX6_widths_18 ?_
    refine lv_if_eq (tgt := 59) hx hb dX6_widths_19 (by decide) (fun h2 => ?_) (fun h2 => ?_)
    · refine lv_iconst (v := 2) hx hb dX6_widths_59 (by decide) ?_
      refine lv_goto (tgt := 64) hx hb dX6_widths_60 (by decide) ?_
      refine k_putI hx hb hts inlX6 tyX6_ok nmX6 hown hW 19 (by omega) k_c19 rfl 0 (by decide) lf_RX6_88 rfl rfl (tyX6_ok 0 (by decide)) (Nat.le_of_ble_eq_true rfl) ks_X6_0 dX6_widths_64 (fun H locs hW => ?_)
      refine lv_aload_n hx hb dX6_widths_67 rfl (lv_at hl 0 rfl) ?_
      refine k_get hx hb hts inlX6 hown hW 19 (by omega) k_c19 rfl 0 (by decide) lf_RX6_88 rfl (v := .int 2) rfl dX6_widths_68 ?_
      refine lv_if_le (tgt := 76) hx hb dX6_widths_71 (by decide) (fun h3 => absurd h3 (by decide)) (fun _ => ?_)
      refine lv_iconst (v := 0) hx hb dX6_widths_74 (by decide) ?_
      have hR : (f_X6_widths z p0 p1 p2 p3) = (0, (uI z 19 0 2)) := (by simp only [f_X6_widths, if_neg h1, if_pos h2])
      exact k_iret hx hb hr rfl hlocks hW ⟨by rw [hR], by rw [hR]⟩ dX6_widths_75
    · refine lv_iload_n hx hb dX6_widths_22 rfl (lv_at hl 2 rfl) ?_
      refine lv_i2l (v := (p1 : Int32).toInt64) hx hb dX6_widths_23 rfl ?_
      refine lv_lconst (v := 0) hx hb dX6_widths_24 (by decide) ?_
      refine lv_ldc2 (v := 4) hx hb hown (hts _ lc_RX6_111) dX6_widths_25 ?_
      refine k_callS (rest := [.ref (E.2.2 19)]) hx hb hml hown hts (c_X6_in l E S _ z ((p1 : Int32).toInt64) 0 4) lm_RX6_95 ls_X6_in li_X6 lk_X6_in (show k_nm yX6_in 3 by decide +kernel) ⟨Nat.le_of_ble_eq_true rfl, Nat.le_of_ble_eq_true rfl⟩ rfl rfl ⟨Nat.le_of_ble_eq_true rfl, Nat.le_of_ble_eq_true rfl⟩ hl.1 rfl (Nat.le_of_ble_eq_true rfl) dX6_widths_28 hW (fun v z1 H locs hp hW => ?_)
      obtain ⟨rfl, hz1⟩ := hp
      rw [hz1] at hW
      refine W.eq (g2 := F0 m 31 ls [.int (f_X6_in z ((p1 : Int32).toInt64) 0 4), .ref (E.2.2 19)]) rfl ?_
      refine lv_if_eq (tgt := 59) hx hb dX6_widths_31 (by decide) (fun h4 => ?_) (fun h4 => ?_)
      · refine lv_iconst (v := 2) hx hb dX6_widths_59 (by decide) ?_
        refine lv_goto (tgt := 64) hx hb dX6_widths_60 (by decide) ?_
        refine k_putI hx hb hts inlX6 tyX6_ok nmX6 hown hW 19 (by omega) k_c19 rfl 0 (by decide) lf_RX6_88 rfl rfl (tyX6_ok 0 (by decide)) (Nat.le_of_ble_eq_true rfl) ks_X6_0 dX6_widths_64 (fun H locs hW => ?_)
        refine lv_aload_n hx hb dX6_widths_67 rfl (lv_at hl 0 rfl) ?_
        refine k_get hx hb hts inlX6 hown hW 19 (by omega) k_c19 rfl 0 (by decide) lf_RX6_88 rfl (v := .int 2) rfl dX6_widths_68 ?_
        refine lv_if_le (tgt := 76) hx hb dX6_widths_71 (by decide) (fun h5 => absurd h5 (by decide)) (fun _ => ?_)
        refine lv_iconst (v := 0) hx hb dX6_widths_74 (by decide) ?_
        have hR : (f_X6_widths z p0 p1 p2 p3) = (0, (uI z 19 0 2)) := (by simp only [f_X6_widths, if_neg h1, if_neg h2, if_pos h4])
        exact k_iret hx hb hr rfl hlocks hW ⟨by rw [hR], by rw [hR]⟩ dX6_widths_75
      · refine lv_iload_n hx hb dX6_widths_34 rfl (lv_at hl 3 rfl) ?_
        refine lv_i2l (v := (p2 : Int32).toInt64) hx hb dX6_widths_35 rfl ?_
        refine lv_lconst (v := 0) hx hb dX6_widths_36 (by decide) ?_
        refine lv_ldc2 (v := 4) hx hb hown (hts _ lc_RX6_111) dX6_widths_37 ?_
        refine k_callS (rest := [.ref (E.2.2 19)]) hx hb hml hown hts (c_X6_in l E S _ z ((p2 : Int32).toInt64) 0 4) lm_RX6_95 ls_X6_in li_X6 lk_X6_in (show k_nm yX6_in 3 by decide +kernel) ⟨Nat.le_of_ble_eq_true rfl, Nat.le_of_ble_eq_true rfl⟩ rfl rfl ⟨Nat.le_of_ble_eq_true rfl, Nat.le_of_ble_eq_true rfl⟩ hl.1 rfl (Nat.le_of_ble_eq_true rfl) dX6_widths_40 hW (fun v z1 H locs hp hW => ?_)
        obtain ⟨rfl, hz1⟩ := hp
        rw [hz1] at hW
        refine W.eq (g2 := F0 m 43 ls [.int (f_X6_in z ((p2 : Int32).toInt64) 0 4), .ref (E.2.2 19)]) rfl ?_
        refine lv_if_eq (tgt := 59) hx hb dX6_widths_43 (by decide) (fun h6 => ?_) (fun h6 => ?_)
        · refine lv_iconst (v := 2) hx hb dX6_widths_59 (by decide) ?_
          refine lv_goto (tgt := 64) hx hb dX6_widths_60 (by decide) ?_
          refine k_putI hx hb hts inlX6 tyX6_ok nmX6 hown hW 19 (by omega) k_c19 rfl 0 (by decide) lf_RX6_88 rfl rfl (tyX6_ok 0 (by decide)) (Nat.le_of_ble_eq_true rfl) ks_X6_0 dX6_widths_64 (fun H locs hW => ?_)
          refine lv_aload_n hx hb dX6_widths_67 rfl (lv_at hl 0 rfl) ?_
          refine k_get hx hb hts inlX6 hown hW 19 (by omega) k_c19 rfl 0 (by decide) lf_RX6_88 rfl (v := .int 2) rfl dX6_widths_68 ?_
          refine lv_if_le (tgt := 76) hx hb dX6_widths_71 (by decide) (fun h7 => absurd h7 (by decide)) (fun _ => ?_)
          refine lv_iconst (v := 0) hx hb dX6_widths_74 (by decide) ?_
          have hR : (f_X6_widths z p0 p1 p2 p3) = (0, (uI z 19 0 2)) := (by simp only [f_X6_widths, if_neg h1, if_neg h2, if_neg h4, if_pos h6])
          exact k_iret hx hb hr rfl hlocks hW ⟨by rw [hR], by rw [hR]⟩ dX6_widths_75
        · refine lv_iload hx hb dX6_widths_46 (lv_at hl 4 rfl) ?_
          refine lv_i2l (v := (p3 : Int32).toInt64) hx hb dX6_widths_48 rfl ?_
          refine lv_lconst (v := 0) hx hb dX6_widths_49 (by decide) ?_
          refine lv_ldc2 (v := 4) hx hb hown (hts _ lc_RX6_111) dX6_widths_50 ?_
          refine k_callS (rest := [.ref (E.2.2 19)]) hx hb hml hown hts (c_X6_in l E S _ z ((p3 : Int32).toInt64) 0 4) lm_RX6_95 ls_X6_in li_X6 lk_X6_in (show k_nm yX6_in 3 by decide +kernel) ⟨Nat.le_of_ble_eq_true rfl, Nat.le_of_ble_eq_true rfl⟩ rfl rfl ⟨Nat.le_of_ble_eq_true rfl, Nat.le_of_ble_eq_true rfl⟩ hl.1 rfl (Nat.le_of_ble_eq_true rfl) dX6_widths_53 hW (fun v z1 H locs hp hW => ?_)
          obtain ⟨rfl, hz1⟩ := hp
          rw [hz1] at hW
          refine W.eq (g2 := F0 m 56 ls [.int (f_X6_in z ((p3 : Int32).toInt64) 0 4), .ref (E.2.2 19)]) rfl ?_
          refine lv_if_ne (tgt := 63) hx hb dX6_widths_56 (by decide) (fun h8 => ?_) (fun h8 => ?_)
          · refine lv_iconst (v := 0) hx hb dX6_widths_63 (by decide) ?_
            refine k_putI hx hb hts inlX6 tyX6_ok nmX6 hown hW 19 (by omega) k_c19 rfl 0 (by decide) lf_RX6_88 rfl rfl (tyX6_ok 0 (by decide)) (Nat.le_of_ble_eq_true rfl) ks_X6_0 dX6_widths_64 (fun H locs hW => ?_)
            refine lv_aload_n hx hb dX6_widths_67 rfl (lv_at hl 0 rfl) ?_
            refine k_get hx hb hts inlX6 hown hW 19 (by omega) k_c19 rfl 0 (by decide) lf_RX6_88 rfl (v := .int 0) rfl dX6_widths_68 ?_
            refine lv_if_le (tgt := 76) hx hb dX6_widths_71 (by decide) (fun _ => ?_) (fun h9 => absurd h9 (by decide))
            refine lv_aload_n hx hb dX6_widths_76 rfl (lv_at hl 0 rfl) ?_
            refine k_get hx hb hts inlX6 hown hW 19 (by omega) k_c19 rfl 8 (by decide) lf_RX6_30 rfl (v := .ref (E.2.2 26)) rfl dX6_widths_77 ?_
            refine lv_iconst (v := 3) hx hb dX6_widths_80 (by decide) ?_
            refine lv_iload_n hx hb dX6_widths_81 rfl (lv_at hl 1 rfl) ?_
            refine lv_imul hx hb dX6_widths_82 ?_
            refine lv_iload_n hx hb dX6_widths_83 rfl (lv_at hl 2 rfl) ?_
            refine k_iast hx hb hW 26 36 (by omega) k_c26 (by exact ix0 (k := 3) (l := 12) rfl (sec_12 hI (by assumption)) (by decide) (by decide)) dX6_widths_84 (fun H locs hW => ?_)
            refine lv_aload_n hx hb dX6_widths_85 rfl (lv_at hl 0 rfl) ?_
            refine k_get hx hb hts inlX6 hown hW 19 (by omega) k_c19 rfl 8 (by decide) lf_RX6_30 rfl (v := .ref (E.2.2 26)) rfl dX6_widths_86 ?_
            refine lv_iconst (v := 3) hx hb dX6_widths_89 (by decide) ?_
            refine lv_iload_n hx hb dX6_widths_90 rfl (lv_at hl 1 rfl) ?_
            refine lv_imul hx hb dX6_widths_91 ?_
            refine lv_iconst (v := 1) hx hb dX6_widths_92 (by decide) ?_
            refine lv_iadd hx hb dX6_widths_93 ?_
            refine lv_iload_n hx hb dX6_widths_94 rfl (lv_at hl 3 rfl) ?_
            refine k_iast hx hb hW 26 36 (by omega) k_c26 (by exact ix1 (k := 3) (l := 12) rfl (sec_12 hI (by assumption)) (by decide) (by decide)) dX6_widths_95 (fun H locs hW => ?_)
            refine lv_aload_n hx hb dX6_widths_96 rfl (lv_at hl 0 rfl) ?_
            refine k_get hx hb hts inlX6 hown hW 19 (by omega) k_c19 rfl 8 (by decide) lf_RX6_30 rfl (v := .ref (E.2.2 26)) rfl dX6_widths_97 ?_
            refine lv_iconst (v := 3) hx hb dX6_widths_100 (by decide) ?_
            refine lv_iload_n hx hb dX6_widths_101 rfl (lv_at hl 1 rfl) ?_
            refine lv_imul hx hb dX6_widths_102 ?_
            refine lv_iconst (v := 2) hx hb dX6_widths_103 (by decide) ?_
            refine lv_iadd hx hb dX6_widths_104 ?_
            refine lv_iload hx hb dX6_widths_105 (lv_at hl 4 rfl) ?_
            refine k_iast hx hb hW 26 36 (by omega) k_c26 (by exact ix1 (k := 3) (l := 12) rfl (sec_12 hI (by assumption)) (by decide) (by decide)) dX6_widths_107 (fun H locs hW => ?_)
            refine lv_iload_n hx hb dX6_widths_108 rfl (lv_at hl 2 rfl) ?_
            refine lv_iload_n hx hb dX6_widths_109 rfl (lv_at hl 3 rfl) ?_
            refine lv_iadd hx hb dX6_widths_110 ?_
            refine lv_iload hx hb dX6_widths_111 (lv_at hl 4 rfl) ?_
            refine lv_iadd hx hb dX6_widths_113 ?_
            have hR : (f_X6_widths z p0 p1 p2 p3) = ((p1 + p2) + p3, (uI (uI (uI (uI z 19 0 0) 26 ((3 * p0).toNatClampNeg) p1) 26 (((3 * p0) + 1).toNatClampNeg) p2) 26 (((3 * p0) + 2).toNatClampNeg) p3)) := (by simp only [f_X6_widths, if_neg h1, if_neg h2, if_neg h4, if_neg h6, if_neg h8])
            exact k_iret hx hb hr rfl hlocks hW ⟨by rw [hR], by rw [hR]⟩ dX6_widths_114
          · refine lv_iconst (v := 2) hx hb dX6_widths_59 (by decide) ?_
            refine lv_goto (tgt := 64) hx hb dX6_widths_60 (by decide) ?_
            refine k_putI hx hb hts inlX6 tyX6_ok nmX6 hown hW 19 (by omega) k_c19 rfl 0 (by decide) lf_RX6_88 rfl rfl (tyX6_ok 0 (by decide)) (Nat.le_of_ble_eq_true rfl) ks_X6_0 dX6_widths_64 (fun H locs hW => ?_)
            refine lv_aload_n hx hb dX6_widths_67 rfl (lv_at hl 0 rfl) ?_
            refine k_get hx hb hts inlX6 hown hW 19 (by omega) k_c19 rfl 0 (by decide) lf_RX6_88 rfl (v := .int 2) rfl dX6_widths_68 ?_
            refine lv_if_le (tgt := 76) hx hb dX6_widths_71 (by decide) (fun h10 => absurd h10 (by decide)) (fun _ => ?_)
            refine lv_iconst (v := 0) hx hb dX6_widths_74 (by decide) ?_
            have hR : (f_X6_widths z p0 p1 p2 p3) = (0, (uI z 19 0 2)) := (by simp only [f_X6_widths, if_neg h1, if_neg h2, if_neg h4, if_neg h6, if_pos h8])
            exact k_iret hx hb hr rfl hlocks hW ⟨by rw [hR], by rw [hR]⟩ dX6_widths_75
  · refine lv_iconst (v := 1) hx hb dX6_widths_9 (by decide) ?_
    refine lv_goto (tgt := 64) hx hb dX6_widths_10 (by decide) ?_
    refine k_putI hx hb hts inlX6 tyX6_ok nmX6 hown hW 19 (by omega) k_c19 rfl 0 (by decide) lf_RX6_88 rfl rfl (tyX6_ok 0 (by decide)) (Nat.le_of_ble_eq_true rfl) ks_X6_0 dX6_widths_64 (fun H locs hW => ?_)
    refine lv_aload_n hx hb dX6_widths_67 rfl (lv_at hl 0 rfl) ?_
    refine k_get hx hb hts inlX6 hown hW 19 (by omega) k_c19 rfl 0 (by decide) lf_RX6_88 rfl (v := .int 1) rfl dX6_widths_68 ?_
    refine lv_if_le (tgt := 76) hx hb dX6_widths_71 (by decide) (fun h11 => absurd h11 (by decide)) (fun _ => ?_)
    refine lv_iconst (v := 0) hx hb dX6_widths_74 (by decide) ?_
    have hR : (f_X6_widths z p0 p1 p2 p3) = (0, (uI z 19 0 1)) := (by simp only [f_X6_widths, if_pos h1])
    exact k_iret hx hb hr rfl hlocks hW ⟨by rw [hR], by rw [hR]⟩ dX6_widths_75

def f_X6_run (z : Sg) (p0 : Int32) (p1 : Int32) (p2 : Int32) : Int32 × Sg :=
  if (f_X6_isSection z p0) = 0 then
    (0, (uI z 19 0 1))
  else
    if (z.1 20 p0.toNatClampNeg) = 0 then
      (0, (uI z 19 0 2))
    else
      if (f_X6_in z ((p1 : Int32).toInt64) 0 999) = 0 then
        (0, (uI z 19 0 2))
      else
        if (f_X6_in z ((p2 : Int32).toInt64) 1 100) = 0 then
          (0, (uI z 19 0 2))
        else
          if (z.1 27 p0.toNatClampNeg) = 6 then
            (0, (uI z 19 0 3))
          else
            ((z.1 27 p0.toNatClampNeg) + 1, (uI (uI (uI (uI z 19 0 0) 28 (((6 * p0) + (z.1 27 p0.toNatClampNeg)).toNatClampNeg) p1) 29 (((6 * p0) + (z.1 27 p0.toNatClampNeg)).toNatClampNeg) p2) 27 p0.toNatClampNeg ((z.1 27 p0.toNatClampNeg) + 1)))
set_option maxHeartbeats 4000000 in
set_option maxRecDepth 100000 in
theorem c_X6_run (l : Launch) (E : Ev) (S sz : Nat) (z : Sg) (p0 : Int32) (p1 : Int32) (p2 : Int32) (hI : k_J S z) : k_Met l yX6_run cX6_run 4 (some .int) ({ frames := 1, cells := 0, slots := 0, locals := 25 }) [.ref (E.2.2 19), .int p0, .int p1, .int p2] E (46 + 6 * S) z sz (fun v u => v = some (.int ((f_X6_run z p0 p1 p2).1)) ∧ u = (f_X6_run z p0 p1 p2).2) 0 0 := by
  refine k_body (by decide +kernel) (Nat.le_of_ble_eq_true rfl) ?_
  intro p e s m below meth cd ls hx hb hr hml hown hlocks hts hW hl
  have hl : lv_has ls 4 [(0, .ref (E.2.2 19)), (1, .int p0), (2, .int p1), (3, .int p2)] := hl
  refine lv_aload_n hx hb dX6_run_0 rfl (lv_at hl 0 rfl) ?_
  refine lv_aload_n hx hb dX6_run_1 rfl (lv_at hl 0 rfl) ?_
  refine lv_iload_n hx hb dX6_run_2 rfl (lv_at hl 1 rfl) ?_
  refine k_callV (As := [.int p0]) (rest := [.ref (E.2.2 19)]) hx hb hml hown hts (c_X6_isSection l E S _ z p0) lm_RX6_107 ln_X6_isSection le_X6_isSection li_X6 lk_X6_isSection (show k_nm yX6_isSection 1 by decide +kernel) ⟨Nat.le_of_ble_eq_true rfl, Nat.le_of_ble_eq_true rfl⟩ rfl rfl ⟨Nat.le_of_ble_eq_true rfl, Nat.le_of_ble_eq_true rfl⟩ hl.1 rfl (Nat.le_of_ble_eq_true rfl) dX6_run_3 (by omega) (k_c19 _ _ _) rfl hW (fun v z1 H locs hp hW => ?_)
  obtain ⟨rfl, hz1⟩ := hp
  rw [hz1] at hW
  refine W.eq (g2 := F0 m 6 ls [.int (f_X6_isSection z p0), .ref (E.2.2 19)]) rfl ?_
  refine lv_if_ne (tgt := 13) hx hb dX6_run_6 (by decide) (fun h1 => ?_) (fun h1 => ?_)
  · refine lv_aload_n hx hb dX6_run_13 rfl (lv_at hl 0 rfl) ?_
    refine k_get hx hb hts inlX6 hown hW 19 (by omega) k_c19 rfl 2 (by decide) lf_RX6_7 rfl (v := .ref (E.2.2 20)) rfl dX6_run_14 ?_
    refine lv_iload_n hx hb dX6_run_17 rfl (lv_at hl 1 rfl) ?_
    refine k_iald hx hb hW 20 12 (by omega) k_c20 (v := (z.1 20 p0.toNatClampNeg)) (by exact in12 (sec_12 hI (by assumption))) rfl dX6_run_18 ?_
    refine lv_if_eq (tgt := 46) hx hb dX6_run_19 (by decide) (fun h2 => ?_) (fun h2 => ?_)
    · refine lv_iconst (v := 2) hx hb dX6_run_46 (by decide) ?_
      refine lv_goto (tgt := 66) hx hb dX6_run_47 (by decide) ?_
      refine k_putI hx hb hts inlX6 tyX6_ok nmX6 hown hW 19 (by omega) k_c19 rfl 0 (by decide) lf_RX6_88 rfl rfl (tyX6_ok 0 (by decide)) (Nat.le_of_ble_eq_true rfl) ks_X6_0 dX6_run_66 (fun H locs hW => ?_)
      refine lv_aload_n hx hb dX6_run_69 rfl (lv_at hl 0 rfl) ?_
      refine k_get hx hb hts inlX6 hown hW 19 (by omega) k_c19 rfl 0 (by decide) lf_RX6_88 rfl (v := .int 2) rfl dX6_run_70 ?_
      refine lv_if_le (tgt := 78) hx hb dX6_run_73 (by decide) (fun h3 => absurd h3 (by decide)) (fun _ => ?_)
      refine lv_iconst (v := 0) hx hb dX6_run_76 (by decide) ?_
      have hR : (f_X6_run z p0 p1 p2) = (0, (uI z 19 0 2)) := (by simp only [f_X6_run, if_neg h1, if_pos h2])
      exact k_iret hx hb hr rfl hlocks hW ⟨by rw [hR], by rw [hR]⟩ dX6_run_77
    · refine lv_iload_n hx hb dX6_run_22 rfl (lv_at hl 2 rfl) ?_
      refine lv_i2l (v := (p1 : Int32).toInt64) hx hb dX6_run_23 rfl ?_
      refine lv_lconst (v := 0) hx hb dX6_run_24 (by decide) ?_
      refine lv_ldc2 (v := 999) hx hb hown (hts _ lc_RX6_113) dX6_run_25 ?_
      refine k_callS (rest := [.ref (E.2.2 19)]) hx hb hml hown hts (c_X6_in l E S _ z ((p1 : Int32).toInt64) 0 999) lm_RX6_95 ls_X6_in li_X6 lk_X6_in (show k_nm yX6_in 3 by decide +kernel) ⟨Nat.le_of_ble_eq_true rfl, Nat.le_of_ble_eq_true rfl⟩ rfl rfl ⟨Nat.le_of_ble_eq_true rfl, Nat.le_of_ble_eq_true rfl⟩ hl.1 rfl (Nat.le_of_ble_eq_true rfl) dX6_run_28 hW (fun v z1 H locs hp hW => ?_)
      obtain ⟨rfl, hz1⟩ := hp
      rw [hz1] at hW
      refine W.eq (g2 := F0 m 31 ls [.int (f_X6_in z ((p1 : Int32).toInt64) 0 999), .ref (E.2.2 19)]) rfl ?_
      refine lv_if_eq (tgt := 46) hx hb dX6_run_31 (by decide) (fun h4 => ?_) (fun h4 => ?_)
      · refine lv_iconst (v := 2) hx hb dX6_run_46 (by decide) ?_
        refine lv_goto (tgt := 66) hx hb dX6_run_47 (by decide) ?_
        refine k_putI hx hb hts inlX6 tyX6_ok nmX6 hown hW 19 (by omega) k_c19 rfl 0 (by decide) lf_RX6_88 rfl rfl (tyX6_ok 0 (by decide)) (Nat.le_of_ble_eq_true rfl) ks_X6_0 dX6_run_66 (fun H locs hW => ?_)
        refine lv_aload_n hx hb dX6_run_69 rfl (lv_at hl 0 rfl) ?_
        refine k_get hx hb hts inlX6 hown hW 19 (by omega) k_c19 rfl 0 (by decide) lf_RX6_88 rfl (v := .int 2) rfl dX6_run_70 ?_
        refine lv_if_le (tgt := 78) hx hb dX6_run_73 (by decide) (fun h5 => absurd h5 (by decide)) (fun _ => ?_)
        refine lv_iconst (v := 0) hx hb dX6_run_76 (by decide) ?_
        have hR : (f_X6_run z p0 p1 p2) = (0, (uI z 19 0 2)) := (by simp only [f_X6_run, if_neg h1, if_neg h2, if_pos h4])
        exact k_iret hx hb hr rfl hlocks hW ⟨by rw [hR], by rw [hR]⟩ dX6_run_77
      · refine lv_iload_n hx hb dX6_run_34 rfl (lv_at hl 3 rfl) ?_
        refine lv_i2l (v := (p2 : Int32).toInt64) hx hb dX6_run_35 rfl ?_
        refine lv_lconst (v := 1) hx hb dX6_run_36 (by decide) ?_
        refine lv_ldc2 (v := 100) hx hb hown (hts _ lc_RX6_115) dX6_run_37 ?_
        refine k_callS (rest := [.ref (E.2.2 19)]) hx hb hml hown hts (c_X6_in l E S _ z ((p2 : Int32).toInt64) 1 100) lm_RX6_95 ls_X6_in li_X6 lk_X6_in (show k_nm yX6_in 3 by decide +kernel) ⟨Nat.le_of_ble_eq_true rfl, Nat.le_of_ble_eq_true rfl⟩ rfl rfl ⟨Nat.le_of_ble_eq_true rfl, Nat.le_of_ble_eq_true rfl⟩ hl.1 rfl (Nat.le_of_ble_eq_true rfl) dX6_run_40 hW (fun v z1 H locs hp hW => ?_)
        obtain ⟨rfl, hz1⟩ := hp
        rw [hz1] at hW
        refine W.eq (g2 := F0 m 43 ls [.int (f_X6_in z ((p2 : Int32).toInt64) 1 100), .ref (E.2.2 19)]) rfl ?_
        refine lv_if_ne (tgt := 50) hx hb dX6_run_43 (by decide) (fun h6 => ?_) (fun h6 => ?_)
        · refine lv_aload_n hx hb dX6_run_50 rfl (lv_at hl 0 rfl) ?_
          refine k_get hx hb hts inlX6 hown hW 19 (by omega) k_c19 rfl 9 (by decide) lf_RX6_33 rfl (v := .ref (E.2.2 27)) rfl dX6_run_51 ?_
          refine lv_iload_n hx hb dX6_run_54 rfl (lv_at hl 1 rfl) ?_
          refine k_iald hx hb hW 27 12 (by omega) k_c27 (v := (z.1 27 p0.toNatClampNeg)) (by exact in12 (sec_12 hI (by assumption))) rfl dX6_run_55 ?_
          refine lv_bipush (v := 6) hx hb dX6_run_56 (by decide) ?_
          refine lv_icmp_ne (tgt := 65) hx hb dX6_run_58 (by decide) (fun h7 => ?_) (fun h7 => ?_)
          · refine lv_iconst (v := 0) hx hb dX6_run_65 (by decide) ?_
            refine k_putI hx hb hts inlX6 tyX6_ok nmX6 hown hW 19 (by omega) k_c19 rfl 0 (by decide) lf_RX6_88 rfl rfl (tyX6_ok 0 (by decide)) (Nat.le_of_ble_eq_true rfl) ks_X6_0 dX6_run_66 (fun H locs hW => ?_)
            refine lv_aload_n hx hb dX6_run_69 rfl (lv_at hl 0 rfl) ?_
            refine k_get hx hb hts inlX6 hown hW 19 (by omega) k_c19 rfl 0 (by decide) lf_RX6_88 rfl (v := .int 0) rfl dX6_run_70 ?_
            refine lv_if_le (tgt := 78) hx hb dX6_run_73 (by decide) (fun _ => ?_) (fun h8 => absurd h8 (by decide))
            refine lv_aload_n hx hb dX6_run_78 rfl (lv_at hl 0 rfl) ?_
            refine k_get hx hb hts inlX6 hown hW 19 (by omega) k_c19 rfl 10 (by decide) lf_RX6_36 rfl (v := .ref (E.2.2 28)) rfl dX6_run_79 ?_
            refine lv_bipush (v := 6) hx hb dX6_run_82 (by decide) ?_
            refine lv_iload_n hx hb dX6_run_84 rfl (lv_at hl 1 rfl) ?_
            refine lv_imul hx hb dX6_run_85 ?_
            refine lv_aload_n hx hb dX6_run_86 rfl (lv_at hl 0 rfl) ?_
            refine k_get hx hb hts inlX6 hown hW 19 (by omega) k_c19 rfl 9 (by decide) lf_RX6_33 rfl (v := .ref (E.2.2 27)) rfl dX6_run_87 ?_
            refine lv_iload_n hx hb dX6_run_90 rfl (lv_at hl 1 rfl) ?_
            refine k_iald hx hb hW 27 12 (by omega) k_c27 (v := (z.1 27 p0.toNatClampNeg)) (by exact in12 (sec_12 hI (by assumption))) rfl dX6_run_91 ?_
            refine lv_iadd hx hb dX6_run_92 ?_
            refine lv_iload_n hx hb dX6_run_93 rfl (lv_at hl 2 rfl) ?_
            refine k_iast hx hb hW 28 72 (by omega) k_c28 (by exact ix1 (k := 6) (l := 12) rfl (sec_12 hI (by assumption)) (sz_ne (hI.2.2.2.2.2.2.2.1 _) rfl (by assumption)) (by decide)) dX6_run_94 (fun H locs hW => ?_)
            refine lv_aload_n hx hb dX6_run_95 rfl (lv_at hl 0 rfl) ?_
            refine k_get hx hb hts inlX6 hown hW 19 (by omega) k_c19 rfl 11 (by decide) lf_RX6_39 rfl (v := .ref (E.2.2 29)) rfl dX6_run_96 ?_
            refine lv_bipush (v := 6) hx hb dX6_run_99 (by decide) ?_
            refine lv_iload_n hx hb dX6_run_101 rfl (lv_at hl 1 rfl) ?_
            refine lv_imul hx hb dX6_run_102 ?_
            refine lv_aload_n hx hb dX6_run_103 rfl (lv_at hl 0 rfl) ?_
            refine k_get hx hb hts inlX6 hown hW 19 (by omega) k_c19 rfl 9 (by decide) lf_RX6_33 rfl (v := .ref (E.2.2 27)) rfl dX6_run_104 ?_
            refine lv_iload_n hx hb dX6_run_107 rfl (lv_at hl 1 rfl) ?_
            refine k_iald hx hb hW 27 12 (by omega) k_c27 (v := (z.1 27 p0.toNatClampNeg)) (by exact in12 (sec_12 hI (by assumption))) rfl dX6_run_108 ?_
            refine lv_iadd hx hb dX6_run_109 ?_
            refine lv_iload_n hx hb dX6_run_110 rfl (lv_at hl 3 rfl) ?_
            refine k_iast hx hb hW 29 72 (by omega) k_c29 (by exact ix1 (k := 6) (l := 12) rfl (sec_12 hI (by assumption)) (sz_ne (hI.2.2.2.2.2.2.2.1 _) rfl (by assumption)) (by decide)) dX6_run_111 (fun H locs hW => ?_)
            refine lv_aload_n hx hb dX6_run_112 rfl (lv_at hl 0 rfl) ?_
            refine k_get hx hb hts inlX6 hown hW 19 (by omega) k_c19 rfl 9 (by decide) lf_RX6_33 rfl (v := .ref (E.2.2 27)) rfl dX6_run_113 ?_
            refine lv_iload_n hx hb dX6_run_116 rfl (lv_at hl 1 rfl) ?_
            refine lv_dup2_11 hx hb dX6_run_117 rfl rfl ?_
            refine k_iald hx hb hW 27 12 (by omega) k_c27 (v := (z.1 27 p0.toNatClampNeg)) (by exact in12 (sec_12 hI (by assumption))) rfl dX6_run_118 ?_
            refine lv_iconst (v := 1) hx hb dX6_run_119 (by decide) ?_
            refine lv_iadd hx hb dX6_run_120 ?_
            refine k_iast hx hb hW 27 12 (by omega) k_c27 (by exact in12 (sec_12 hI (by assumption))) dX6_run_121 (fun H locs hW => ?_)
            refine lv_aload_n hx hb dX6_run_122 rfl (lv_at hl 0 rfl) ?_
            refine k_get hx hb hts inlX6 hown hW 19 (by omega) k_c19 rfl 9 (by decide) lf_RX6_33 rfl (v := .ref (E.2.2 27)) rfl dX6_run_123 ?_
            refine lv_iload_n hx hb dX6_run_126 rfl (lv_at hl 1 rfl) ?_
            refine k_iald hx hb hW 27 12 (by omega) k_c27 (v := (z.1 27 p0.toNatClampNeg) + 1) (by exact in12 (sec_12 hI (by assumption))) (by simp [uI, uJ, uO, va_up, upd, vp_updL]) dX6_run_127 ?_
            have hR : (f_X6_run z p0 p1 p2) = ((z.1 27 p0.toNatClampNeg) + 1, (uI (uI (uI (uI z 19 0 0) 28 (((6 * p0) + (z.1 27 p0.toNatClampNeg)).toNatClampNeg) p1) 29 (((6 * p0) + (z.1 27 p0.toNatClampNeg)).toNatClampNeg) p2) 27 p0.toNatClampNeg ((z.1 27 p0.toNatClampNeg) + 1))) := (by simp only [f_X6_run, if_neg h1, if_neg h2, if_neg h4, if_neg h6, if_neg h7])
            exact k_iret hx hb hr rfl hlocks hW ⟨by rw [hR], by rw [hR]⟩ dX6_run_128
          · refine lv_iconst (v := 3) hx hb dX6_run_61 (by decide) ?_
            refine lv_goto (tgt := 66) hx hb dX6_run_62 (by decide) ?_
            refine k_putI hx hb hts inlX6 tyX6_ok nmX6 hown hW 19 (by omega) k_c19 rfl 0 (by decide) lf_RX6_88 rfl rfl (tyX6_ok 0 (by decide)) (Nat.le_of_ble_eq_true rfl) ks_X6_0 dX6_run_66 (fun H locs hW => ?_)
            refine lv_aload_n hx hb dX6_run_69 rfl (lv_at hl 0 rfl) ?_
            refine k_get hx hb hts inlX6 hown hW 19 (by omega) k_c19 rfl 0 (by decide) lf_RX6_88 rfl (v := .int 3) rfl dX6_run_70 ?_
            refine lv_if_le (tgt := 78) hx hb dX6_run_73 (by decide) (fun h9 => absurd h9 (by decide)) (fun _ => ?_)
            refine lv_iconst (v := 0) hx hb dX6_run_76 (by decide) ?_
            have hR : (f_X6_run z p0 p1 p2) = (0, (uI z 19 0 3)) := (by simp only [f_X6_run, if_neg h1, if_neg h2, if_neg h4, if_neg h6, if_pos h7])
            exact k_iret hx hb hr rfl hlocks hW ⟨by rw [hR], by rw [hR]⟩ dX6_run_77
        · refine lv_iconst (v := 2) hx hb dX6_run_46 (by decide) ?_
          refine lv_goto (tgt := 66) hx hb dX6_run_47 (by decide) ?_
          refine k_putI hx hb hts inlX6 tyX6_ok nmX6 hown hW 19 (by omega) k_c19 rfl 0 (by decide) lf_RX6_88 rfl rfl (tyX6_ok 0 (by decide)) (Nat.le_of_ble_eq_true rfl) ks_X6_0 dX6_run_66 (fun H locs hW => ?_)
          refine lv_aload_n hx hb dX6_run_69 rfl (lv_at hl 0 rfl) ?_
          refine k_get hx hb hts inlX6 hown hW 19 (by omega) k_c19 rfl 0 (by decide) lf_RX6_88 rfl (v := .int 2) rfl dX6_run_70 ?_
          refine lv_if_le (tgt := 78) hx hb dX6_run_73 (by decide) (fun h10 => absurd h10 (by decide)) (fun _ => ?_)
          refine lv_iconst (v := 0) hx hb dX6_run_76 (by decide) ?_
          have hR : (f_X6_run z p0 p1 p2) = (0, (uI z 19 0 2)) := (by simp only [f_X6_run, if_neg h1, if_neg h2, if_neg h4, if_pos h6])
          exact k_iret hx hb hr rfl hlocks hW ⟨by rw [hR], by rw [hR]⟩ dX6_run_77
  · refine lv_iconst (v := 1) hx hb dX6_run_9 (by decide) ?_
    refine lv_goto (tgt := 66) hx hb dX6_run_10 (by decide) ?_
    refine k_putI hx hb hts inlX6 tyX6_ok nmX6 hown hW 19 (by omega) k_c19 rfl 0 (by decide) lf_RX6_88 rfl rfl (tyX6_ok 0 (by decide)) (Nat.le_of_ble_eq_true rfl) ks_X6_0 dX6_run_66 (fun H locs hW => ?_)
    refine lv_aload_n hx hb dX6_run_69 rfl (lv_at hl 0 rfl) ?_
    refine k_get hx hb hts inlX6 hown hW 19 (by omega) k_c19 rfl 0 (by decide) lf_RX6_88 rfl (v := .int 1) rfl dX6_run_70 ?_
    refine lv_if_le (tgt := 78) hx hb dX6_run_73 (by decide) (fun h11 => absurd h11 (by decide)) (fun _ => ?_)
    refine lv_iconst (v := 0) hx hb dX6_run_76 (by decide) ?_
    have hR : (f_X6_run z p0 p1 p2) = (0, (uI z 19 0 1)) := (by simp only [f_X6_run, if_pos h1])
    exact k_iret hx hb hr rfl hlocks hW ⟨by rw [hR], by rw [hR]⟩ dX6_run_77

def f_X6_key (z : Sg) (p0 : Int32) (p1 : Int32) (p2 : Int32) : Int32 × Sg :=
  if (f_X6_isSection z p0) = 0 then
    (0, (uI z 19 0 1))
  else
    if (f_X6_in z ((p1 : Int32).toInt64) 0 9) = 0 then
      (0, (uI z 19 0 2))
    else
      if (z.1 30 (((10 * p0) + p1).toNatClampNeg)) = 0 then
        (0, (uI (uI (uI z 19 0 0) 30 (((10 * p0) + p1).toNatClampNeg) (vp_nar .boolean 1)) 31 (((10 * p0) + p1).toNatClampNeg) p2))
      else
        (1, (uI (uI (uI z 19 0 0) 30 (((10 * p0) + p1).toNatClampNeg) (vp_nar .boolean 1)) 31 (((10 * p0) + p1).toNatClampNeg) p2))
set_option maxHeartbeats 4000000 in
set_option maxRecDepth 100000 in
theorem c_X6_key (l : Launch) (E : Ev) (S sz : Nat) (z : Sg) (p0 : Int32) (p1 : Int32) (p2 : Int32) (hI : k_J S z) : k_Met l yX6_key cX6_key 5 (some .int) ({ frames := 1, cells := 0, slots := 0, locals := 25 }) [.ref (E.2.2 19), .int p0, .int p1, .int p2] E (46 + 6 * S) z sz (fun v u => v = some (.int ((f_X6_key z p0 p1 p2).1)) ∧ u = (f_X6_key z p0 p1 p2).2) 0 0 := by
  refine k_body (by decide +kernel) (Nat.le_of_ble_eq_true rfl) ?_
  intro p e s m below meth cd ls hx hb hr hml hown hlocks hts hW hl
  have hl : lv_has ls 5 [(0, .ref (E.2.2 19)), (1, .int p0), (2, .int p1), (3, .int p2)] := hl
  refine lv_aload_n hx hb dX6_key_0 rfl (lv_at hl 0 rfl) ?_
  refine lv_aload_n hx hb dX6_key_1 rfl (lv_at hl 0 rfl) ?_
  refine lv_iload_n hx hb dX6_key_2 rfl (lv_at hl 1 rfl) ?_
  refine k_callV (As := [.int p0]) (rest := [.ref (E.2.2 19)]) hx hb hml hown hts (c_X6_isSection l E S _ z p0) lm_RX6_107 ln_X6_isSection le_X6_isSection li_X6 lk_X6_isSection (show k_nm yX6_isSection 1 by decide +kernel) ⟨Nat.le_of_ble_eq_true rfl, Nat.le_of_ble_eq_true rfl⟩ rfl rfl ⟨Nat.le_of_ble_eq_true rfl, Nat.le_of_ble_eq_true rfl⟩ hl.1 rfl (Nat.le_of_ble_eq_true rfl) dX6_key_3 (by omega) (k_c19 _ _ _) rfl hW (fun v z1 H locs hp hW => ?_)
  obtain ⟨rfl, hz1⟩ := hp
  rw [hz1] at hW
  refine W.eq (g2 := F0 m 6 ls [.int (f_X6_isSection z p0), .ref (E.2.2 19)]) rfl ?_
  refine lv_if_ne (tgt := 13) hx hb dX6_key_6 (by decide) (fun h1 => ?_) (fun h1 => ?_)
  · refine lv_iload_n hx hb dX6_key_13 rfl (lv_at hl 2 rfl) ?_
    refine lv_i2l (v := (p1 : Int32).toInt64) hx hb dX6_key_14 rfl ?_
    refine lv_lconst (v := 0) hx hb dX6_key_15 (by decide) ?_
    refine lv_ldc2 (v := 9) hx hb hown (hts _ lc_RX6_117) dX6_key_16 ?_
    refine k_callS (rest := [.ref (E.2.2 19)]) hx hb hml hown hts (c_X6_in l E S _ z ((p1 : Int32).toInt64) 0 9) lm_RX6_95 ls_X6_in li_X6 lk_X6_in (show k_nm yX6_in 3 by decide +kernel) ⟨Nat.le_of_ble_eq_true rfl, Nat.le_of_ble_eq_true rfl⟩ rfl rfl ⟨Nat.le_of_ble_eq_true rfl, Nat.le_of_ble_eq_true rfl⟩ hl.1 rfl (Nat.le_of_ble_eq_true rfl) dX6_key_19 hW (fun v z1 H locs hp hW => ?_)
    obtain ⟨rfl, hz1⟩ := hp
    rw [hz1] at hW
    refine W.eq (g2 := F0 m 22 ls [.int (f_X6_in z ((p1 : Int32).toInt64) 0 9), .ref (E.2.2 19)]) rfl ?_
    refine lv_if_ne (tgt := 29) hx hb dX6_key_22 (by decide) (fun h2 => ?_) (fun h2 => ?_)
    · refine lv_iconst (v := 0) hx hb dX6_key_29 (by decide) ?_
      refine k_putI hx hb hts inlX6 tyX6_ok nmX6 hown hW 19 (by omega) k_c19 rfl 0 (by decide) lf_RX6_88 rfl rfl (tyX6_ok 0 (by decide)) (Nat.le_of_ble_eq_true rfl) ks_X6_0 dX6_key_30 (fun H locs hW => ?_)
      refine lv_aload_n hx hb dX6_key_33 rfl (lv_at hl 0 rfl) ?_
      refine k_get hx hb hts inlX6 hown hW 19 (by omega) k_c19 rfl 0 (by decide) lf_RX6_88 rfl (v := .int 0) rfl dX6_key_34 ?_
      refine lv_if_le (tgt := 42) hx hb dX6_key_37 (by decide) (fun _ => ?_) (fun h3 => absurd h3 (by decide))
      refine lv_aload_n hx hb dX6_key_42 rfl (lv_at hl 0 rfl) ?_
      refine k_get hx hb hts inlX6 hown hW 19 (by omega) k_c19 rfl 12 (by decide) lf_RX6_42 rfl (v := .ref (E.2.2 30)) rfl dX6_key_43 ?_
      refine lv_bipush (v := 10) hx hb dX6_key_46 (by decide) ?_
      refine lv_iload_n hx hb dX6_key_48 rfl (lv_at hl 1 rfl) ?_
      refine lv_imul hx hb dX6_key_49 ?_
      refine lv_iload_n hx hb dX6_key_50 rfl (lv_at hl 2 rfl) ?_
      refine lv_iadd hx hb dX6_key_51 ?_
      refine k_zald hx hb hW 30 120 (by omega) k_c30 (v := (z.1 30 (((10 * p0) + p1).toNatClampNeg))) (by exact ix1 (k := 10) (l := 12) rfl (sec_12 hI (by assumption)) (m_inI (by assumption) rfl (by decide)) (by decide)) rfl dX6_key_52 ?_
      refine lv_istore (lv' := [(4, .int (z.1 30 (((10 * p0) + p1).toNatClampNeg))), (0, .ref (E.2.2 19)), (1, .int p0), (2, .int p1), (3, .int p2)]) hx hb dX6_key_53 hl (by decide) rfl (fun ls hl => ?_)
      refine lv_aload_n hx hb dX6_key_55 rfl (lv_at hl 1 rfl) ?_
      refine k_get hx hb hts inlX6 hown hW 19 (by omega) k_c19 rfl 12 (by decide) lf_RX6_42 rfl (v := .ref (E.2.2 30)) rfl dX6_key_56 ?_
      refine lv_bipush (v := 10) hx hb dX6_key_59 (by decide) ?_
      refine lv_iload_n hx hb dX6_key_61 rfl (lv_at hl 2 rfl) ?_
      refine lv_imul hx hb dX6_key_62 ?_
      refine lv_iload_n hx hb dX6_key_63 rfl (lv_at hl 3 rfl) ?_
      refine lv_iadd hx hb dX6_key_64 ?_
      refine lv_iconst (v := 1) hx hb dX6_key_65 (by decide) ?_
      refine k_zast hx hb hW 30 120 (by omega) k_c30 (by exact ix1 (k := 10) (l := 12) rfl (sec_12 hI (by assumption)) (m_inI (by assumption) rfl (by decide)) (by decide)) dX6_key_66 (fun H locs hW => ?_)
      refine lv_aload_n hx hb dX6_key_67 rfl (lv_at hl 1 rfl) ?_
      refine k_get hx hb hts inlX6 hown hW 19 (by omega) k_c19 rfl 13 (by decide) lf_RX6_46 rfl (v := .ref (E.2.2 31)) rfl dX6_key_68 ?_
      refine lv_bipush (v := 10) hx hb dX6_key_71 (by decide) ?_
      refine lv_iload_n hx hb dX6_key_73 rfl (lv_at hl 2 rfl) ?_
      refine lv_imul hx hb dX6_key_74 ?_
      refine lv_iload_n hx hb dX6_key_75 rfl (lv_at hl 3 rfl) ?_
      refine lv_iadd hx hb dX6_key_76 ?_
      refine lv_iload_n hx hb dX6_key_77 rfl (lv_at hl 4 rfl) ?_
      refine k_iast hx hb hW 31 120 (by omega) k_c31 (by exact ix1 (k := 10) (l := 12) rfl (sec_12 hI (by assumption)) (m_inI (by assumption) rfl (by decide)) (by decide)) dX6_key_78 (fun H locs hW => ?_)
      refine lv_iload hx hb dX6_key_79 (lv_at hl 0 rfl) ?_
      refine lv_if_eq (tgt := 88) hx hb dX6_key_81 (by decide) (fun h4 => ?_) (fun h4 => ?_)
      · refine lv_iconst (v := 0) hx hb dX6_key_88 (by decide) ?_
        have hR : (f_X6_key z p0 p1 p2) = (0, (uI (uI (uI z 19 0 0) 30 (((10 * p0) + p1).toNatClampNeg) (vp_nar .boolean 1)) 31 (((10 * p0) + p1).toNatClampNeg) p2)) := (by simp only [f_X6_key, if_neg h1, if_neg h2, if_pos h4])
        exact k_iret hx hb hr rfl hlocks hW ⟨by rw [hR], by rw [hR]⟩ dX6_key_89
      · refine lv_iconst (v := 1) hx hb dX6_key_84 (by decide) ?_
        refine lv_goto (tgt := 89) hx hb dX6_key_85 (by decide) ?_
        have hR : (f_X6_key z p0 p1 p2) = (1, (uI (uI (uI z 19 0 0) 30 (((10 * p0) + p1).toNatClampNeg) (vp_nar .boolean 1)) 31 (((10 * p0) + p1).toNatClampNeg) p2)) := (by simp only [f_X6_key, if_neg h1, if_neg h2, if_neg h4])
        exact k_iret hx hb hr rfl hlocks hW ⟨by rw [hR], by rw [hR]⟩ dX6_key_89
    · refine lv_iconst (v := 2) hx hb dX6_key_25 (by decide) ?_
      refine lv_goto (tgt := 30) hx hb dX6_key_26 (by decide) ?_
      refine k_putI hx hb hts inlX6 tyX6_ok nmX6 hown hW 19 (by omega) k_c19 rfl 0 (by decide) lf_RX6_88 rfl rfl (tyX6_ok 0 (by decide)) (Nat.le_of_ble_eq_true rfl) ks_X6_0 dX6_key_30 (fun H locs hW => ?_)
      refine lv_aload_n hx hb dX6_key_33 rfl (lv_at hl 0 rfl) ?_
      refine k_get hx hb hts inlX6 hown hW 19 (by omega) k_c19 rfl 0 (by decide) lf_RX6_88 rfl (v := .int 2) rfl dX6_key_34 ?_
      refine lv_if_le (tgt := 42) hx hb dX6_key_37 (by decide) (fun h5 => absurd h5 (by decide)) (fun _ => ?_)
      refine lv_iconst (v := 0) hx hb dX6_key_40 (by decide) ?_
      have hR : (f_X6_key z p0 p1 p2) = (0, (uI z 19 0 2)) := (by simp only [f_X6_key, if_neg h1, if_pos h2])
      exact k_iret hx hb hr rfl hlocks hW ⟨by rw [hR], by rw [hR]⟩ dX6_key_41
  · refine lv_iconst (v := 1) hx hb dX6_key_9 (by decide) ?_
    refine lv_goto (tgt := 30) hx hb dX6_key_10 (by decide) ?_
    refine k_putI hx hb hts inlX6 tyX6_ok nmX6 hown hW 19 (by omega) k_c19 rfl 0 (by decide) lf_RX6_88 rfl rfl (tyX6_ok 0 (by decide)) (Nat.le_of_ble_eq_true rfl) ks_X6_0 dX6_key_30 (fun H locs hW => ?_)
    refine lv_aload_n hx hb dX6_key_33 rfl (lv_at hl 0 rfl) ?_
    refine k_get hx hb hts inlX6 hown hW 19 (by omega) k_c19 rfl 0 (by decide) lf_RX6_88 rfl (v := .int 1) rfl dX6_key_34 ?_
    refine lv_if_le (tgt := 42) hx hb dX6_key_37 (by decide) (fun h6 => absurd h6 (by decide)) (fun _ => ?_)
    refine lv_iconst (v := 0) hx hb dX6_key_40 (by decide) ?_
    have hR : (f_X6_key z p0 p1 p2) = (0, (uI z 19 0 1)) := (by simp only [f_X6_key, if_pos h1])
    exact k_iret hx hb hr rfl hlocks hW ⟨by rw [hR], by rw [hR]⟩ dX6_key_41

def f_X6_value (z : Sg) (p0 : Int32) (p1 : Int32) : Int32 × Sg :=
  if (f_X6_isSection z p0) = 0 then
    (0, (uI z 19 0 1))
  else
    if (f_X6_in z ((p1 : Int32).toInt64) 0 9) = 0 then
      (0, (uI z 19 0 2))
    else
      if (z.1 30 (((10 * p0) + p1).toNatClampNeg)) = 0 then
        (0, (uI z 19 0 0))
      else
        ((z.1 31 (((10 * p0) + p1).toNatClampNeg)), (uI z 19 0 0))
set_option maxHeartbeats 4000000 in
set_option maxRecDepth 100000 in
theorem c_X6_value (l : Launch) (E : Ev) (S sz : Nat) (z : Sg) (p0 : Int32) (p1 : Int32) (hI : k_J S z) : k_Met l yX6_value cX6_value 3 (some .int) ({ frames := 1, cells := 0, slots := 0, locals := 25 }) [.ref (E.2.2 19), .int p0, .int p1] E (46 + 6 * S) z sz (fun v u => v = some (.int ((f_X6_value z p0 p1).1)) ∧ u = (f_X6_value z p0 p1).2) 0 0 := by
  refine k_body (by decide +kernel) (Nat.le_of_ble_eq_true rfl) ?_
  intro p e s m below meth cd ls hx hb hr hml hown hlocks hts hW hl
  have hl : lv_has ls 3 [(0, .ref (E.2.2 19)), (1, .int p0), (2, .int p1)] := hl
  refine lv_aload_n hx hb dX6_value_0 rfl (lv_at hl 0 rfl) ?_
  refine lv_aload_n hx hb dX6_value_1 rfl (lv_at hl 0 rfl) ?_
  refine lv_iload_n hx hb dX6_value_2 rfl (lv_at hl 1 rfl) ?_
  refine k_callV (As := [.int p0]) (rest := [.ref (E.2.2 19)]) hx hb hml hown hts (c_X6_isSection l E S _ z p0) lm_RX6_107 ln_X6_isSection le_X6_isSection li_X6 lk_X6_isSection (show k_nm yX6_isSection 1 by decide +kernel) ⟨Nat.le_of_ble_eq_true rfl, Nat.le_of_ble_eq_true rfl⟩ rfl rfl ⟨Nat.le_of_ble_eq_true rfl, Nat.le_of_ble_eq_true rfl⟩ hl.1 rfl (Nat.le_of_ble_eq_true rfl) dX6_value_3 (by omega) (k_c19 _ _ _) rfl hW (fun v z1 H locs hp hW => ?_)
  obtain ⟨rfl, hz1⟩ := hp
  rw [hz1] at hW
  refine W.eq (g2 := F0 m 6 ls [.int (f_X6_isSection z p0), .ref (E.2.2 19)]) rfl ?_
  refine lv_if_ne (tgt := 13) hx hb dX6_value_6 (by decide) (fun h1 => ?_) (fun h1 => ?_)
  · refine lv_iload_n hx hb dX6_value_13 rfl (lv_at hl 2 rfl) ?_
    refine lv_i2l (v := (p1 : Int32).toInt64) hx hb dX6_value_14 rfl ?_
    refine lv_lconst (v := 0) hx hb dX6_value_15 (by decide) ?_
    refine lv_ldc2 (v := 9) hx hb hown (hts _ lc_RX6_117) dX6_value_16 ?_
    refine k_callS (rest := [.ref (E.2.2 19)]) hx hb hml hown hts (c_X6_in l E S _ z ((p1 : Int32).toInt64) 0 9) lm_RX6_95 ls_X6_in li_X6 lk_X6_in (show k_nm yX6_in 3 by decide +kernel) ⟨Nat.le_of_ble_eq_true rfl, Nat.le_of_ble_eq_true rfl⟩ rfl rfl ⟨Nat.le_of_ble_eq_true rfl, Nat.le_of_ble_eq_true rfl⟩ hl.1 rfl (Nat.le_of_ble_eq_true rfl) dX6_value_19 hW (fun v z1 H locs hp hW => ?_)
    obtain ⟨rfl, hz1⟩ := hp
    rw [hz1] at hW
    refine W.eq (g2 := F0 m 22 ls [.int (f_X6_in z ((p1 : Int32).toInt64) 0 9), .ref (E.2.2 19)]) rfl ?_
    refine lv_if_ne (tgt := 29) hx hb dX6_value_22 (by decide) (fun h2 => ?_) (fun h2 => ?_)
    · refine lv_iconst (v := 0) hx hb dX6_value_29 (by decide) ?_
      refine k_putI hx hb hts inlX6 tyX6_ok nmX6 hown hW 19 (by omega) k_c19 rfl 0 (by decide) lf_RX6_88 rfl rfl (tyX6_ok 0 (by decide)) (Nat.le_of_ble_eq_true rfl) ks_X6_0 dX6_value_30 (fun H locs hW => ?_)
      refine lv_aload_n hx hb dX6_value_33 rfl (lv_at hl 0 rfl) ?_
      refine k_get hx hb hts inlX6 hown hW 19 (by omega) k_c19 rfl 0 (by decide) lf_RX6_88 rfl (v := .int 0) rfl dX6_value_34 ?_
      refine lv_if_gt (tgt := 54) hx hb dX6_value_37 (by decide) (fun h3 => absurd h3 (by decide)) (fun _ => ?_)
      refine lv_aload_n hx hb dX6_value_40 rfl (lv_at hl 0 rfl) ?_
      refine k_get hx hb hts inlX6 hown hW 19 (by omega) k_c19 rfl 12 (by decide) lf_RX6_42 rfl (v := .ref (E.2.2 30)) rfl dX6_value_41 ?_
      refine lv_bipush (v := 10) hx hb dX6_value_44 (by decide) ?_
      refine lv_iload_n hx hb dX6_value_46 rfl (lv_at hl 1 rfl) ?_
      refine lv_imul hx hb dX6_value_47 ?_
      refine lv_iload_n hx hb dX6_value_48 rfl (lv_at hl 2 rfl) ?_
      refine lv_iadd hx hb dX6_value_49 ?_
      refine k_zald hx hb hW 30 120 (by omega) k_c30 (v := (z.1 30 (((10 * p0) + p1).toNatClampNeg))) (by exact ix1 (k := 10) (l := 12) rfl (sec_12 hI (by assumption)) (m_inI (by assumption) rfl (by decide)) (by decide)) rfl dX6_value_50 ?_
      refine lv_if_ne (tgt := 58) hx hb dX6_value_51 (by decide) (fun h4 => ?_) (fun h4 => ?_)
      · refine lv_aload_n hx hb dX6_value_58 rfl (lv_at hl 0 rfl) ?_
        refine k_get hx hb hts inlX6 hown hW 19 (by omega) k_c19 rfl 13 (by decide) lf_RX6_46 rfl (v := .ref (E.2.2 31)) rfl dX6_value_59 ?_
        refine lv_bipush (v := 10) hx hb dX6_value_62 (by decide) ?_
        refine lv_iload_n hx hb dX6_value_64 rfl (lv_at hl 1 rfl) ?_
        refine lv_imul hx hb dX6_value_65 ?_
        refine lv_iload_n hx hb dX6_value_66 rfl (lv_at hl 2 rfl) ?_
        refine lv_iadd hx hb dX6_value_67 ?_
        refine k_iald hx hb hW 31 120 (by omega) k_c31 (v := (z.1 31 (((10 * p0) + p1).toNatClampNeg))) (by exact ix1 (k := 10) (l := 12) rfl (sec_12 hI (by assumption)) (m_inI (by assumption) rfl (by decide)) (by decide)) rfl dX6_value_68 ?_
        have hR : (f_X6_value z p0 p1) = ((z.1 31 (((10 * p0) + p1).toNatClampNeg)), (uI z 19 0 0)) := (by simp only [f_X6_value, if_neg h1, if_neg h2, if_neg h4])
        exact k_iret hx hb hr rfl hlocks hW ⟨by rw [hR], by rw [hR]⟩ dX6_value_69
      · refine lv_iconst (v := 0) hx hb dX6_value_54 (by decide) ?_
        refine lv_goto (tgt := 69) hx hb dX6_value_55 (by decide) ?_
        have hR : (f_X6_value z p0 p1) = (0, (uI z 19 0 0)) := (by simp only [f_X6_value, if_neg h1, if_neg h2, if_pos h4])
        exact k_iret hx hb hr rfl hlocks hW ⟨by rw [hR], by rw [hR]⟩ dX6_value_69
    · refine lv_iconst (v := 2) hx hb dX6_value_25 (by decide) ?_
      refine lv_goto (tgt := 30) hx hb dX6_value_26 (by decide) ?_
      refine k_putI hx hb hts inlX6 tyX6_ok nmX6 hown hW 19 (by omega) k_c19 rfl 0 (by decide) lf_RX6_88 rfl rfl (tyX6_ok 0 (by decide)) (Nat.le_of_ble_eq_true rfl) ks_X6_0 dX6_value_30 (fun H locs hW => ?_)
      refine lv_aload_n hx hb dX6_value_33 rfl (lv_at hl 0 rfl) ?_
      refine k_get hx hb hts inlX6 hown hW 19 (by omega) k_c19 rfl 0 (by decide) lf_RX6_88 rfl (v := .int 2) rfl dX6_value_34 ?_
      refine lv_if_gt (tgt := 54) hx hb dX6_value_37 (by decide) (fun _ => ?_) (fun h5 => absurd h5 (by decide))
      refine lv_iconst (v := 0) hx hb dX6_value_54 (by decide) ?_
      refine lv_goto (tgt := 69) hx hb dX6_value_55 (by decide) ?_
      have hR : (f_X6_value z p0 p1) = (0, (uI z 19 0 2)) := (by simp only [f_X6_value, if_neg h1, if_pos h2])
      exact k_iret hx hb hr rfl hlocks hW ⟨by rw [hR], by rw [hR]⟩ dX6_value_69
  · refine lv_iconst (v := 1) hx hb dX6_value_9 (by decide) ?_
    refine lv_goto (tgt := 30) hx hb dX6_value_10 (by decide) ?_
    refine k_putI hx hb hts inlX6 tyX6_ok nmX6 hown hW 19 (by omega) k_c19 rfl 0 (by decide) lf_RX6_88 rfl rfl (tyX6_ok 0 (by decide)) (Nat.le_of_ble_eq_true rfl) ks_X6_0 dX6_value_30 (fun H locs hW => ?_)
    refine lv_aload_n hx hb dX6_value_33 rfl (lv_at hl 0 rfl) ?_
    refine k_get hx hb hts inlX6 hown hW 19 (by omega) k_c19 rfl 0 (by decide) lf_RX6_88 rfl (v := .int 1) rfl dX6_value_34 ?_
    refine lv_if_gt (tgt := 54) hx hb dX6_value_37 (by decide) (fun _ => ?_) (fun h6 => absurd h6 (by decide))
    refine lv_iconst (v := 0) hx hb dX6_value_54 (by decide) ?_
    refine lv_goto (tgt := 69) hx hb dX6_value_55 (by decide) ?_
    have hR : (f_X6_value z p0 p1) = (0, (uI z 19 0 1)) := (by simp only [f_X6_value, if_pos h1])
    exact k_iret hx hb hr rfl hlocks hW ⟨by rw [hR], by rw [hR]⟩ dX6_value_69
