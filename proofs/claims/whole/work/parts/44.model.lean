def f_X6_head (z : Sg) (p0 : Int64) (p1 : Int32) (p2 : Int32) : Int32 × Sg :=
  if (f_X6_in z p0 0 9999999999) = 0 then
    (0, (uI z 19 0 1))
  else
    if (f_X6_in z ((p1 : Int32).toInt64) 0 99) = 0 then
      (0, (uI z 19 0 1))
    else
      if (f_X6_in z ((p2 : Int32).toInt64) 0 99999) = 0 then
        (0, (uI z 19 0 1))
      else
        if (f_X6_findHead z p0) = 60 then
          (0, (uI z 19 0 2))
        else
          if (f_X6_findHead z p0) = (z.1 19 14) then
            ((z.1 19 14) + 1, (uI (uI (uI (uJ (uI z 19 0 0) 32 ((f_X6_findHead z p0).toNatClampNeg) p0) 33 ((f_X6_findHead z p0).toNatClampNeg) p1) 34 ((f_X6_findHead z p0).toNatClampNeg) p2) 19 14 ((z.1 19 14) + 1)))
          else
            ((z.1 19 14), (uI (uI (uI (uJ (uI z 19 0 0) 32 ((f_X6_findHead z p0).toNatClampNeg) p0) 33 ((f_X6_findHead z p0).toNatClampNeg) p1) 34 ((f_X6_findHead z p0).toNatClampNeg) p2) 19 14 (z.1 19 14)))
set_option maxHeartbeats 4000000 in
set_option maxRecDepth 100000 in
theorem c_X6_head (l : Launch) (E : Ev) (S sz : Nat) (z : Sg) (p0 : Int64) (p1 : Int32) (p2 : Int32) (hI : k_J S z) : k_Met l yX6_head cX6_head 6 (some .int) ({ frames := 1, cells := 0, slots := 0, locals := 25 }) [.ref (E.2.2 19), .long p0, .int p1, .int p2] E (46 + 6 * S) z sz (fun v u => v = some (.int ((f_X6_head z p0 p1 p2).1)) ∧ u = (f_X6_head z p0 p1 p2).2) 0 0 := by
  refine k_body (by decide +kernel) (Nat.le_of_ble_eq_true rfl) ?_
  intro p e s m below meth cd ls hx hb hr hml hown hlocks hts hW hl
  have hl : lv_has ls 6 [(0, .ref (E.2.2 19)), (1, .long p0), (3, .int p1), (4, .int p2)] := hl
  refine lv_aload_n hx hb dX6_head_0 rfl (lv_at hl 0 rfl) ?_
  refine lv_lload_n hx hb dX6_head_1 rfl (lv_at hl 1 rfl) ?_
  refine k_callV (As := [.long p0]) (rest := []) hx hb hml hown hts (c_X6_findHead l E S _ z p0 hI) lm_RX6_122 ln_X6_findHead le_X6_findHead li_X6 lk_X6_findHead (show k_nm yX6_findHead 1 by decide +kernel) ⟨Nat.le_of_ble_eq_true rfl, Nat.le_of_ble_eq_true rfl⟩ rfl rfl ⟨Nat.le_of_ble_eq_true rfl, Nat.le_of_ble_eq_true rfl⟩ hl.1 rfl (Nat.le_of_ble_eq_true rfl) dX6_head_2 (by omega) (k_c19 _ _ _) rfl hW (fun v z1 H locs hp hW => ?_)
  obtain ⟨rfl, hz1⟩ := hp
  rw [hz1] at hW
  refine W.eq (g2 := F0 m 5 ls [.int (f_X6_findHead z p0)]) rfl ?_
  refine lv_istore (lv' := [(5, .int (f_X6_findHead z p0)), (0, .ref (E.2.2 19)), (1, .long p0), (3, .int p1), (4, .int p2)]) hx hb dX6_head_5 hl (by decide) rfl (fun ls hl => ?_)
  refine lv_aload_n hx hb dX6_head_7 rfl (lv_at hl 1 rfl) ?_
  refine lv_lload_n hx hb dX6_head_8 rfl (lv_at hl 2 rfl) ?_
  refine lv_lconst (v := 0) hx hb dX6_head_9 (by decide) ?_
  refine lv_ldc2 (v := 9999999999) hx hb hown (hts _ lc_RX6_99) dX6_head_10 ?_
  refine k_callS (rest := [.ref (E.2.2 19)]) hx hb hml hown hts (c_X6_in l E S _ z p0 0 9999999999) lm_RX6_95 ls_X6_in li_X6 lk_X6_in (show k_nm yX6_in 3 by decide +kernel) ⟨Nat.le_of_ble_eq_true rfl, Nat.le_of_ble_eq_true rfl⟩ rfl rfl ⟨Nat.le_of_ble_eq_true rfl, Nat.le_of_ble_eq_true rfl⟩ hl.1 rfl (Nat.le_of_ble_eq_true rfl) dX6_head_13 hW (fun v z1 H locs hp hW => ?_)
  obtain ⟨rfl, hz1⟩ := hp
  rw [hz1] at hW
  refine W.eq (g2 := F0 m 16 ls [.int (f_X6_in z p0 0 9999999999), .ref (E.2.2 19)]) rfl ?_
  refine lv_if_eq (tgt := 44) hx hb dX6_head_16 (by decide) (fun h1 => ?_) (fun h1 => ?_)
  · refine lv_iconst (v := 1) hx hb dX6_head_44 (by decide) ?_
    refine lv_goto (tgt := 60) hx hb dX6_head_45 (by decide) ?_
    refine k_putI hx hb hts inlX6 tyX6_ok nmX6 hown hW 19 (by omega) k_c19 rfl 0 (by decide) lf_RX6_88 rfl rfl (tyX6_ok 0 (by decide)) (Nat.le_of_ble_eq_true rfl) ks_X6_0 dX6_head_60 (fun H locs hW => ?_)
    refine lv_aload_n hx hb dX6_head_63 rfl (lv_at hl 1 rfl) ?_
    refine k_get hx hb hts inlX6 hown hW 19 (by omega) k_c19 rfl 0 (by decide) lf_RX6_88 rfl (v := .int 1) rfl dX6_head_64 ?_
    refine lv_if_le (tgt := 72) hx hb dX6_head_67 (by decide) (fun h2 => absurd h2 (by decide)) (fun _ => ?_)
    refine lv_iconst (v := 0) hx hb dX6_head_70 (by decide) ?_
    have hR : (f_X6_head z p0 p1 p2) = (0, (uI z 19 0 1)) := (by simp only [f_X6_head, if_pos h1])
    exact k_iret hx hb hr rfl hlocks hW ⟨by rw [hR], by rw [hR]⟩ dX6_head_71
  · refine lv_iload_n hx hb dX6_head_19 rfl (lv_at hl 3 rfl) ?_
    refine lv_i2l (v := (p1 : Int32).toInt64) hx hb dX6_head_20 rfl ?_
    refine lv_lconst (v := 0) hx hb dX6_head_21 (by decide) ?_
    refine lv_ldc2 (v := 99) hx hb hown (hts _ lc_RX6_125) dX6_head_22 ?_
    refine k_callS (rest := [.ref (E.2.2 19)]) hx hb hml hown hts (c_X6_in l E S _ z ((p1 : Int32).toInt64) 0 99) lm_RX6_95 ls_X6_in li_X6 lk_X6_in (show k_nm yX6_in 3 by decide +kernel) ⟨Nat.le_of_ble_eq_true rfl, Nat.le_of_ble_eq_true rfl⟩ rfl rfl ⟨Nat.le_of_ble_eq_true rfl, Nat.le_of_ble_eq_true rfl⟩ hl.1 rfl (Nat.le_of_ble_eq_true rfl) dX6_head_25 hW (fun v z1 H locs hp hW => ?_)
    obtain ⟨rfl, hz1⟩ := hp
    rw [hz1] at hW
    refine W.eq (g2 := F0 m 28 ls [.int (f_X6_in z ((p1 : Int32).toInt64) 0 99), .ref (E.2.2 19)]) rfl ?_
    refine lv_if_eq (tgt := 44) hx hb dX6_head_28 (by decide) (fun h3 => ?_) (fun h3 => ?_)
    · refine lv_iconst (v := 1) hx hb dX6_head_44 (by decide) ?_
      refine lv_goto (tgt := 60) hx hb dX6_head_45 (by decide) ?_
      refine k_putI hx hb hts inlX6 tyX6_ok nmX6 hown hW 19 (by omega) k_c19 rfl 0 (by decide) lf_RX6_88 rfl rfl (tyX6_ok 0 (by decide)) (Nat.le_of_ble_eq_true rfl) ks_X6_0 dX6_head_60 (fun H locs hW => ?_)
      refine lv_aload_n hx hb dX6_head_63 rfl (lv_at hl 1 rfl) ?_
      refine k_get hx hb hts inlX6 hown hW 19 (by omega) k_c19 rfl 0 (by decide) lf_RX6_88 rfl (v := .int 1) rfl dX6_head_64 ?_
      refine lv_if_le (tgt := 72) hx hb dX6_head_67 (by decide) (fun h4 => absurd h4 (by decide)) (fun _ => ?_)
      refine lv_iconst (v := 0) hx hb dX6_head_70 (by decide) ?_
      have hR : (f_X6_head z p0 p1 p2) = (0, (uI z 19 0 1)) := (by simp only [f_X6_head, if_neg h1, if_pos h3])
      exact k_iret hx hb hr rfl hlocks hW ⟨by rw [hR], by rw [hR]⟩ dX6_head_71
    · refine lv_iload hx hb dX6_head_31 (lv_at hl 4 rfl) ?_
      refine lv_i2l (v := (p2 : Int32).toInt64) hx hb dX6_head_33 rfl ?_
      refine lv_lconst (v := 0) hx hb dX6_head_34 (by decide) ?_
      refine lv_ldc2 (v := 99999) hx hb hown (hts _ lc_RX6_127) dX6_head_35 ?_
      refine k_callS (rest := [.ref (E.2.2 19)]) hx hb hml hown hts (c_X6_in l E S _ z ((p2 : Int32).toInt64) 0 99999) lm_RX6_95 ls_X6_in li_X6 lk_X6_in (show k_nm yX6_in 3 by decide +kernel) ⟨Nat.le_of_ble_eq_true rfl, Nat.le_of_ble_eq_true rfl⟩ rfl rfl ⟨Nat.le_of_ble_eq_true rfl, Nat.le_of_ble_eq_true rfl⟩ hl.1 rfl (Nat.le_of_ble_eq_true rfl) dX6_head_38 hW (fun v z1 H locs hp hW => ?_)
      obtain ⟨rfl, hz1⟩ := hp
      rw [hz1] at hW
      refine W.eq (g2 := F0 m 41 ls [.int (f_X6_in z ((p2 : Int32).toInt64) 0 99999), .ref (E.2.2 19)]) rfl ?_
      refine lv_if_ne (tgt := 48) hx hb dX6_head_41 (by decide) (fun h5 => ?_) (fun h5 => ?_)
      · refine lv_iload hx hb dX6_head_48 (lv_at hl 0 rfl) ?_
        refine lv_bipush (v := 60) hx hb dX6_head_50 (by decide) ?_
        refine lv_icmp_ne (tgt := 59) hx hb dX6_head_52 (by decide) (fun h6 => ?_) (fun h6 => ?_)
        · refine lv_iconst (v := 0) hx hb dX6_head_59 (by decide) ?_
          refine k_putI hx hb hts inlX6 tyX6_ok nmX6 hown hW 19 (by omega) k_c19 rfl 0 (by decide) lf_RX6_88 rfl rfl (tyX6_ok 0 (by decide)) (Nat.le_of_ble_eq_true rfl) ks_X6_0 dX6_head_60 (fun H locs hW => ?_)
          refine lv_aload_n hx hb dX6_head_63 rfl (lv_at hl 1 rfl) ?_
          refine k_get hx hb hts inlX6 hown hW 19 (by omega) k_c19 rfl 0 (by decide) lf_RX6_88 rfl (v := .int 0) rfl dX6_head_64 ?_
          refine lv_if_le (tgt := 72) hx hb dX6_head_67 (by decide) (fun _ => ?_) (fun h7 => absurd h7 (by decide))
          refine lv_aload_n hx hb dX6_head_72 rfl (lv_at hl 1 rfl) ?_
          refine k_get hx hb hts inlX6 hown hW 19 (by omega) k_c19 rfl 15 (by decide) lf_RX6_49 rfl (v := .ref (E.2.2 32)) rfl dX6_head_73 ?_
          refine lv_iload hx hb dX6_head_76 (lv_at hl 0 rfl) ?_
          refine lv_lload_n hx hb dX6_head_78 rfl (lv_at hl 2 rfl) ?_
          refine k_last hx hb hW 32 60 (by omega) k_c32 (by exact vp_in_iff.mpr (sz_ne (b_findHead hI) rfl (by assumption))) dX6_head_79 (fun H locs hW => ?_)
          refine lv_aload_n hx hb dX6_head_80 rfl (lv_at hl 1 rfl) ?_
          refine k_get hx hb hts inlX6 hown hW 19 (by omega) k_c19 rfl 16 (by decide) lf_RX6_52 rfl (v := .ref (E.2.2 33)) rfl dX6_head_81 ?_
          refine lv_iload hx hb dX6_head_84 (lv_at hl 0 rfl) ?_
          refine lv_iload_n hx hb dX6_head_86 rfl (lv_at hl 3 rfl) ?_
          refine k_iast hx hb hW 33 60 (by omega) k_c33 (by exact vp_in_iff.mpr (sz_ne (b_findHead hI) rfl (by assumption))) dX6_head_87 (fun H locs hW => ?_)
          refine lv_aload_n hx hb dX6_head_88 rfl (lv_at hl 1 rfl) ?_
          refine k_get hx hb hts inlX6 hown hW 19 (by omega) k_c19 rfl 17 (by decide) lf_RX6_55 rfl (v := .ref (E.2.2 34)) rfl dX6_head_89 ?_
          refine lv_iload hx hb dX6_head_92 (lv_at hl 0 rfl) ?_
          refine lv_iload hx hb dX6_head_94 (lv_at hl 4 rfl) ?_
          refine k_iast hx hb hW 34 60 (by omega) k_c34 (by exact vp_in_iff.mpr (sz_ne (b_findHead hI) rfl (by assumption))) dX6_head_96 (fun H locs hW => ?_)
          refine lv_aload_n hx hb dX6_head_97 rfl (lv_at hl 1 rfl) ?_
          refine lv_iload hx hb dX6_head_98 (lv_at hl 0 rfl) ?_
          refine lv_aload_n hx hb dX6_head_100 rfl (lv_at hl 1 rfl) ?_
          refine k_get hx hb hts inlX6 hown hW 19 (by omega) k_c19 rfl 14 (by decide) lf_RX6_119 rfl (v := .int (z.1 19 14)) rfl dX6_head_101 ?_
          refine lv_icmp_ne (tgt := 116) hx hb dX6_head_104 (by decide) (fun h8 => ?_) (fun h8 => ?_)
          · refine lv_aload_n hx hb dX6_head_116 rfl (lv_at hl 1 rfl) ?_
            refine k_get hx hb hts inlX6 hown hW 19 (by omega) k_c19 rfl 14 (by decide) lf_RX6_119 rfl (v := .int (z.1 19 14)) rfl dX6_head_117 ?_
            refine k_putI hx hb hts inlX6 tyX6_ok nmX6 hown hW 19 (by omega) k_c19 rfl 14 (by decide) lf_RX6_119 rfl rfl (tyX6_ok 14 (by decide)) (Nat.le_of_ble_eq_true rfl) ks_X6_14 dX6_head_120 (fun H locs hW => ?_)
            refine lv_aload_n hx hb dX6_head_123 rfl (lv_at hl 1 rfl) ?_
            refine k_get hx hb hts inlX6 hown hW 19 (by omega) k_c19 rfl 14 (by decide) lf_RX6_119 rfl (v := .int (z.1 19 14)) rfl dX6_head_124 ?_
            have hR : (f_X6_head z p0 p1 p2) = ((z.1 19 14), (uI (uI (uI (uJ (uI z 19 0 0) 32 ((f_X6_findHead z p0).toNatClampNeg) p0) 33 ((f_X6_findHead z p0).toNatClampNeg) p1) 34 ((f_X6_findHead z p0).toNatClampNeg) p2) 19 14 (z.1 19 14))) := (by simp only [f_X6_head, if_neg h1, if_neg h3, if_neg h5, if_neg h6, if_neg h8])
            exact k_iret hx hb hr rfl hlocks hW ⟨by rw [hR], by rw [hR]⟩ dX6_head_127
          · refine lv_aload_n hx hb dX6_head_107 rfl (lv_at hl 1 rfl) ?_
            refine k_get hx hb hts inlX6 hown hW 19 (by omega) k_c19 rfl 14 (by decide) lf_RX6_119 rfl (v := .int (z.1 19 14)) rfl dX6_head_108 ?_
            refine lv_iconst (v := 1) hx hb dX6_head_111 (by decide) ?_
            refine lv_iadd hx hb dX6_head_112 ?_
            refine lv_goto (tgt := 120) hx hb dX6_head_113 (by decide) ?_
            refine k_putI hx hb hts inlX6 tyX6_ok nmX6 hown hW 19 (by omega) k_c19 rfl 14 (by decide) lf_RX6_119 rfl rfl (tyX6_ok 14 (by decide)) (Nat.le_of_ble_eq_true rfl) ks_X6_14 dX6_head_120 (fun H locs hW => ?_)
            refine lv_aload_n hx hb dX6_head_123 rfl (lv_at hl 1 rfl) ?_
            refine k_get hx hb hts inlX6 hown hW 19 (by omega) k_c19 rfl 14 (by decide) lf_RX6_119 rfl (v := .int ((z.1 19 14) + 1)) rfl dX6_head_124 ?_
            have hR : (f_X6_head z p0 p1 p2) = ((z.1 19 14) + 1, (uI (uI (uI (uJ (uI z 19 0 0) 32 ((f_X6_findHead z p0).toNatClampNeg) p0) 33 ((f_X6_findHead z p0).toNatClampNeg) p1) 34 ((f_X6_findHead z p0).toNatClampNeg) p2) 19 14 ((z.1 19 14) + 1))) := (by simp only [f_X6_head, if_neg h1, if_neg h3, if_neg h5, if_neg h6, if_pos h8])
            exact k_iret hx hb hr rfl hlocks hW ⟨by rw [hR], by rw [hR]⟩ dX6_head_127
        · refine lv_iconst (v := 2) hx hb dX6_head_55 (by decide) ?_
          refine lv_goto (tgt := 60) hx hb dX6_head_56 (by decide) ?_
          refine k_putI hx hb hts inlX6 tyX6_ok nmX6 hown hW 19 (by omega) k_c19 rfl 0 (by decide) lf_RX6_88 rfl rfl (tyX6_ok 0 (by decide)) (Nat.le_of_ble_eq_true rfl) ks_X6_0 dX6_head_60 (fun H locs hW => ?_)
          refine lv_aload_n hx hb dX6_head_63 rfl (lv_at hl 1 rfl) ?_
          refine k_get hx hb hts inlX6 hown hW 19 (by omega) k_c19 rfl 0 (by decide) lf_RX6_88 rfl (v := .int 2) rfl dX6_head_64 ?_
          refine lv_if_le (tgt := 72) hx hb dX6_head_67 (by decide) (fun h9 => absurd h9 (by decide)) (fun _ => ?_)
          refine lv_iconst (v := 0) hx hb dX6_head_70 (by decide) ?_
          have hR : (f_X6_head z p0 p1 p2) = (0, (uI z 19 0 2)) := (by simp only [f_X6_head, if_neg h1, if_neg h3, if_neg h5, if_pos h6])
          exact k_iret hx hb hr rfl hlocks hW ⟨by rw [hR], by rw [hR]⟩ dX6_head_71
      · refine lv_iconst (v := 1) hx hb dX6_head_44 (by decide) ?_
        refine lv_goto (tgt := 60) hx hb dX6_head_45 (by decide) ?_
        refine k_putI hx hb hts inlX6 tyX6_ok nmX6 hown hW 19 (by omega) k_c19 rfl 0 (by decide) lf_RX6_88 rfl rfl (tyX6_ok 0 (by decide)) (Nat.le_of_ble_eq_true rfl) ks_X6_0 dX6_head_60 (fun H locs hW => ?_)
        refine lv_aload_n hx hb dX6_head_63 rfl (lv_at hl 1 rfl) ?_
        refine k_get hx hb hts inlX6 hown hW 19 (by omega) k_c19 rfl 0 (by decide) lf_RX6_88 rfl (v := .int 1) rfl dX6_head_64 ?_
        refine lv_if_le (tgt := 72) hx hb dX6_head_67 (by decide) (fun h10 => absurd h10 (by decide)) (fun _ => ?_)
        refine lv_iconst (v := 0) hx hb dX6_head_70 (by decide) ?_
        have hR : (f_X6_head z p0 p1 p2) = (0, (uI z 19 0 1)) := (by simp only [f_X6_head, if_neg h1, if_neg h3, if_pos h5])
        exact k_iret hx hb hr rfl hlocks hW ⟨by rw [hR], by rw [hR]⟩ dX6_head_71

def f_X6_tell (z : Sg) (p0 : Int32) (p1 : Int32) (p2 : Int64) : Sg :=
  if (200 : Int32) ≤ (z.1 19 25) then
    z
  else
    (uI (uJ (uI (uI z 41 ((z.1 19 25).toNatClampNeg) p0) 42 ((z.1 19 25).toNatClampNeg) p1) 43 ((z.1 19 25).toNatClampNeg) p2) 19 25 ((z.1 19 25) + 1))
set_option maxHeartbeats 4000000 in
set_option maxRecDepth 100000 in
theorem c_X6_tell (l : Launch) (E : Ev) (S sz : Nat) (z : Sg) (p0 : Int32) (p1 : Int32) (p2 : Int64) (hI : k_J S z) : k_Met l yX6_tell cX6_tell 5 none ({ frames := 0, cells := 0, slots := 0, locals := 0 }) [.ref (E.2.2 19), .int p0, .int p1, .long p2] E (46 + 6 * S) z sz (fun v u => v = none ∧ u = (f_X6_tell z p0 p1 p2)) 0 0 := by
  refine k_body (by decide +kernel) (Nat.le_of_ble_eq_true rfl) ?_
  intro p e s m below meth cd ls hx hb hr hml hown hlocks hts hW hl
  have hl : lv_has ls 5 [(0, .ref (E.2.2 19)), (1, .int p0), (2, .int p1), (3, .long p2)] := hl
  refine lv_aload_n hx hb dX6_tell_0 rfl (lv_at hl 0 rfl) ?_
  refine k_get hx hb hts inlX6 hown hW 19 (by omega) k_c19 rfl 25 (by decide) lf_RX6_129 rfl (v := .int (z.1 19 25)) rfl dX6_tell_1 ?_
  refine lv_sipush (v := 200) hx hb dX6_tell_4 (by decide) ?_
  refine lv_icmp_ge (tgt := 50) hx hb dX6_tell_7 (by decide) (fun h1 => ?_) (fun h1 => ?_)
  · have hR : (f_X6_tell z p0 p1 p2) = z := (by simp only [f_X6_tell, if_pos h1])
    exact k_vret hx hb hr hlocks hW ⟨rfl, by rw [hR]⟩ dX6_tell_50
  · refine lv_aload_n hx hb dX6_tell_10 rfl (lv_at hl 0 rfl) ?_
    refine k_get hx hb hts inlX6 hown hW 19 (by omega) k_c19 rfl 26 (by decide) lf_RX6_76 rfl (v := .ref (E.2.2 41)) rfl dX6_tell_11 ?_
    refine lv_aload_n hx hb dX6_tell_14 rfl (lv_at hl 0 rfl) ?_
    refine k_get hx hb hts inlX6 hown hW 19 (by omega) k_c19 rfl 25 (by decide) lf_RX6_129 rfl (v := .int (z.1 19 25)) rfl dX6_tell_15 ?_
    refine lv_iload_n hx hb dX6_tell_18 rfl (lv_at hl 1 rfl) ?_
    refine k_iast hx hb hW 41 200 (by omega) k_c41 (by exact in_lt hI.2.2.2.1.1 h1 rfl) dX6_tell_19 (fun H locs hW => ?_)
    refine lv_aload_n hx hb dX6_tell_20 rfl (lv_at hl 0 rfl) ?_
    refine k_get hx hb hts inlX6 hown hW 19 (by omega) k_c19 rfl 27 (by decide) lf_RX6_79 rfl (v := .ref (E.2.2 42)) rfl dX6_tell_21 ?_
    refine lv_aload_n hx hb dX6_tell_24 rfl (lv_at hl 0 rfl) ?_
    refine k_get hx hb hts inlX6 hown hW 19 (by omega) k_c19 rfl 25 (by decide) lf_RX6_129 rfl (v := .int (z.1 19 25)) rfl dX6_tell_25 ?_
    refine lv_iload_n hx hb dX6_tell_28 rfl (lv_at hl 2 rfl) ?_
    refine k_iast hx hb hW 42 200 (by omega) k_c42 (by exact in_lt hI.2.2.2.1.1 h1 rfl) dX6_tell_29 (fun H locs hW => ?_)
    refine lv_aload_n hx hb dX6_tell_30 rfl (lv_at hl 0 rfl) ?_
    refine k_get hx hb hts inlX6 hown hW 19 (by omega) k_c19 rfl 28 (by decide) lf_RX6_82 rfl (v := .ref (E.2.2 43)) rfl dX6_tell_31 ?_
    refine lv_aload_n hx hb dX6_tell_34 rfl (lv_at hl 0 rfl) ?_
    refine k_get hx hb hts inlX6 hown hW 19 (by omega) k_c19 rfl 25 (by decide) lf_RX6_129 rfl (v := .int (z.1 19 25)) rfl dX6_tell_35 ?_
    refine lv_lload_n hx hb dX6_tell_38 rfl (lv_at hl 3 rfl) ?_
    refine k_last hx hb hW 43 200 (by omega) k_c43 (by exact in_lt hI.2.2.2.1.1 h1 rfl) dX6_tell_39 (fun H locs hW => ?_)
    refine lv_aload_n hx hb dX6_tell_40 rfl (lv_at hl 0 rfl) ?_
    refine lv_dup hx hb dX6_tell_41 rfl ?_
    refine k_get hx hb hts inlX6 hown hW 19 (by omega) k_c19 rfl 25 (by decide) lf_RX6_129 rfl (v := .int (z.1 19 25)) rfl dX6_tell_42 ?_
    refine lv_iconst (v := 1) hx hb dX6_tell_45 (by decide) ?_
    refine lv_iadd hx hb dX6_tell_46 ?_
    refine k_putI hx hb hts inlX6 tyX6_ok nmX6 hown hW 19 (by omega) k_c19 rfl 25 (by decide) lf_RX6_129 rfl rfl (tyX6_ok 25 (by decide)) (Nat.le_of_ble_eq_true rfl) ks_X6_25 dX6_tell_47 (fun H locs hW => ?_)
    have hR : (f_X6_tell z p0 p1 p2) = (uI (uJ (uI (uI z 41 ((z.1 19 25).toNatClampNeg) p0) 42 ((z.1 19 25).toNatClampNeg) p1) 43 ((z.1 19 25).toNatClampNeg) p2) 19 25 ((z.1 19 25) + 1)) := (by simp only [f_X6_tell, if_neg h1])
    exact k_vret hx hb hr hlocks hW ⟨rfl, by rw [hR]⟩ dX6_tell_50

def f_X6_kind (z : Sg) (p0 : Int32) : Int32 × Sg :=
  if (f_X6_isObject z p0) = 0 then
    (0, (uI z 19 0 1))
  else
    ((z.1 36 p0.toNatClampNeg), (uI z 19 0 0))
set_option maxHeartbeats 4000000 in
set_option maxRecDepth 100000 in
theorem c_X6_kind (l : Launch) (E : Ev) (S sz : Nat) (z : Sg) (p0 : Int32) (hI : k_J S z) : k_Met l yX6_kind cX6_kind 2 (some .int) ({ frames := 1, cells := 0, slots := 0, locals := 20 }) [.ref (E.2.2 19), .int p0] E (46 + 6 * S) z sz (fun v u => v = some (.int ((f_X6_kind z p0).1)) ∧ u = (f_X6_kind z p0).2) 0 0 := by
  refine k_body (by decide +kernel) (Nat.le_of_ble_eq_true rfl) ?_
  intro p e s m below meth cd ls hx hb hr hml hown hlocks hts hW hl
  have hl : lv_has ls 2 [(0, .ref (E.2.2 19)), (1, .int p0)] := hl
  refine lv_aload_n hx hb dX6_kind_0 rfl (lv_at hl 0 rfl) ?_
  refine lv_iload_n hx hb dX6_kind_1 rfl (lv_at hl 1 rfl) ?_
  refine k_callS (rest := [.ref (E.2.2 19)]) hx hb hml hown hts (c_X6_isObject l E S _ z p0) lm_RX6_197 ls_X6_isObject li_X6 lk_X6_isObject (show k_nm yX6_isObject 1 by decide +kernel) ⟨Nat.le_of_ble_eq_true rfl, Nat.le_of_ble_eq_true rfl⟩ rfl rfl ⟨Nat.le_of_ble_eq_true rfl, Nat.le_of_ble_eq_true rfl⟩ hl.1 rfl (Nat.le_of_ble_eq_true rfl) dX6_kind_2 hW (fun v z1 H locs hp hW => ?_)
  obtain ⟨rfl, hz1⟩ := hp
  rw [hz1] at hW
  refine W.eq (g2 := F0 m 5 ls [.int (f_X6_isObject z p0), .ref (E.2.2 19)]) rfl ?_
  refine lv_if_eq (tgt := 12) hx hb dX6_kind_5 (by decide) (fun h1 => ?_) (fun h1 => ?_)
  · refine lv_iconst (v := 1) hx hb dX6_kind_12 (by decide) ?_
    refine k_putI hx hb hts inlX6 tyX6_ok nmX6 hown hW 19 (by omega) k_c19 rfl 0 (by decide) lf_RX6_88 rfl rfl (tyX6_ok 0 (by decide)) (Nat.le_of_ble_eq_true rfl) ks_X6_0 dX6_kind_13 (fun H locs hW => ?_)
    refine lv_aload_n hx hb dX6_kind_16 rfl (lv_at hl 0 rfl) ?_
    refine k_get hx hb hts inlX6 hown hW 19 (by omega) k_c19 rfl 0 (by decide) lf_RX6_88 rfl (v := .int 1) rfl dX6_kind_17 ?_
    refine lv_if_le (tgt := 27) hx hb dX6_kind_20 (by decide) (fun h2 => absurd h2 (by decide)) (fun _ => ?_)
    refine lv_iconst (v := 0) hx hb dX6_kind_23 (by decide) ?_
    refine lv_goto (tgt := 33) hx hb dX6_kind_24 (by decide) ?_
    have hR : (f_X6_kind z p0) = (0, (uI z 19 0 1)) := (by simp only [f_X6_kind, if_pos h1])
    exact k_iret hx hb hr rfl hlocks hW ⟨by rw [hR], by rw [hR]⟩ dX6_kind_33
  · refine lv_iconst (v := 0) hx hb dX6_kind_8 (by decide) ?_
    refine lv_goto (tgt := 13) hx hb dX6_kind_9 (by decide) ?_
    refine k_putI hx hb hts inlX6 tyX6_ok nmX6 hown hW 19 (by omega) k_c19 rfl 0 (by decide) lf_RX6_88 rfl rfl (tyX6_ok 0 (by decide)) (Nat.le_of_ble_eq_true rfl) ks_X6_0 dX6_kind_13 (fun H locs hW => ?_)
    refine lv_aload_n hx hb dX6_kind_16 rfl (lv_at hl 0 rfl) ?_
    refine k_get hx hb hts inlX6 hown hW 19 (by omega) k_c19 rfl 0 (by decide) lf_RX6_88 rfl (v := .int 0) rfl dX6_kind_17 ?_
    refine lv_if_le (tgt := 27) hx hb dX6_kind_20 (by decide) (fun _ => ?_) (fun h3 => absurd h3 (by decide))
    refine lv_aload_n hx hb dX6_kind_27 rfl (lv_at hl 0 rfl) ?_
    refine k_get hx hb hts inlX6 hown hW 19 (by omega) k_c19 rfl 20 (by decide) lf_RX6_61 rfl (v := .ref (E.2.2 36)) rfl dX6_kind_28 ?_
    refine lv_iload_n hx hb dX6_kind_31 rfl (lv_at hl 1 rfl) ?_
    refine k_iald hx hb hW 36 100 (by omega) k_c36 (v := (z.1 36 p0.toNatClampNeg)) (by exact m_obj (by assumption)) rfl dX6_kind_32 ?_
    have hR : (f_X6_kind z p0) = ((z.1 36 p0.toNatClampNeg), (uI z 19 0 0)) := (by simp only [f_X6_kind, if_neg h1])
    exact k_iret hx hb hr rfl hlocks hW ⟨by rw [hR], by rw [hR]⟩ dX6_kind_33

def f_X6_place (z : Sg) (p0 : Int32) (p1 : Int32) : Int64 × Sg :=
  if (f_X6_isObject z p0) = 0 then
    (0, (uI z 19 0 1))
  else
    if (f_X6_in z ((p1 : Int32).toInt64) 0 1) = 0 then
      (0, (uI z 19 0 1))
    else
      if (z.1 36 p0.toNatClampNeg) = 0 then
        ((-1), (uI z 19 0 0))
      else
        if p1 = 0 then
          ((z.2.1 37 p0.toNatClampNeg), (uI z 19 0 0))
        else
          ((z.2.1 38 p0.toNatClampNeg), (uI z 19 0 0))
set_option maxHeartbeats 4000000 in
set_option maxRecDepth 100000 in
theorem c_X6_place (l : Launch) (E : Ev) (S sz : Nat) (z : Sg) (p0 : Int32) (p1 : Int32) (hI : k_J S z) : k_Met l yX6_place cX6_place 3 (some .long) ({ frames := 1, cells := 0, slots := 0, locals := 25 }) [.ref (E.2.2 19), .int p0, .int p1] E (46 + 6 * S) z sz (fun v u => v = some (.long ((f_X6_place z p0 p1).1)) ∧ u = (f_X6_place z p0 p1).2) 0 0 := by
  refine k_body (by decide +kernel) (Nat.le_of_ble_eq_true rfl) ?_
  intro p e s m below meth cd ls hx hb hr hml hown hlocks hts hW hl
  have hl : lv_has ls 3 [(0, .ref (E.2.2 19)), (1, .int p0), (2, .int p1)] := hl
  refine lv_aload_n hx hb dX6_place_0 rfl (lv_at hl 0 rfl) ?_
  refine lv_iload_n hx hb dX6_place_1 rfl (lv_at hl 1 rfl) ?_
  refine k_callS (rest := [.ref (E.2.2 19)]) hx hb hml hown hts (c_X6_isObject l E S _ z p0) lm_RX6_197 ls_X6_isObject li_X6 lk_X6_isObject (show k_nm yX6_isObject 1 by decide +kernel) ⟨Nat.le_of_ble_eq_true rfl, Nat.le_of_ble_eq_true rfl⟩ rfl rfl ⟨Nat.le_of_ble_eq_true rfl, Nat.le_of_ble_eq_true rfl⟩ hl.1 rfl (Nat.le_of_ble_eq_true rfl) dX6_place_2 hW (fun v z1 H locs hp hW => ?_)
  obtain ⟨rfl, hz1⟩ := hp
  rw [hz1] at hW
  refine W.eq (g2 := F0 m 5 ls [.int (f_X6_isObject z p0), .ref (E.2.2 19)]) rfl ?_
  refine lv_if_eq (tgt := 22) hx hb dX6_place_5 (by decide) (fun h1 => ?_) (fun h1 => ?_)
  · refine lv_iconst (v := 1) hx hb dX6_place_22 (by decide) ?_
    refine k_putI hx hb hts inlX6 tyX6_ok nmX6 hown hW 19 (by omega) k_c19 rfl 0 (by decide) lf_RX6_88 rfl rfl (tyX6_ok 0 (by decide)) (Nat.le_of_ble_eq_true rfl) ks_X6_0 dX6_place_23 (fun H locs hW => ?_)
    refine lv_aload_n hx hb dX6_place_26 rfl (lv_at hl 0 rfl) ?_
    refine k_get hx hb hts inlX6 hown hW 19 (by omega) k_c19 rfl 0 (by decide) lf_RX6_88 rfl (v := .int 1) rfl dX6_place_27 ?_
    refine lv_if_le (tgt := 37) hx hb dX6_place_30 (by decide) (fun h2 => absurd h2 (by decide)) (fun _ => ?_)
    refine lv_lconst (v := 0) hx hb dX6_place_33 (by decide) ?_
    refine lv_goto (tgt := 71) hx hb dX6_place_34 (by decide) ?_
    have hR : (f_X6_place z p0 p1) = (0, (uI z 19 0 1)) := (by simp only [f_X6_place, if_pos h1])
    exact k_lret hx hb hr hlocks hW ⟨by rw [hR], by rw [hR]⟩ dX6_place_71
  · refine lv_iload_n hx hb dX6_place_8 rfl (lv_at hl 2 rfl) ?_
    refine lv_i2l (v := (p1 : Int32).toInt64) hx hb dX6_place_9 rfl ?_
    refine lv_lconst (v := 0) hx hb dX6_place_10 (by decide) ?_
    refine lv_lconst (v := 1) hx hb dX6_place_11 (by decide) ?_
    refine k_callS (rest := [.ref (E.2.2 19)]) hx hb hml hown hts (c_X6_in l E S _ z ((p1 : Int32).toInt64) 0 1) lm_RX6_95 ls_X6_in li_X6 lk_X6_in (show k_nm yX6_in 3 by decide +kernel) ⟨Nat.le_of_ble_eq_true rfl, Nat.le_of_ble_eq_true rfl⟩ rfl rfl ⟨Nat.le_of_ble_eq_true rfl, Nat.le_of_ble_eq_true rfl⟩ hl.1 rfl (Nat.le_of_ble_eq_true rfl) dX6_place_12 hW (fun v z1 H locs hp hW => ?_)
    obtain ⟨rfl, hz1⟩ := hp
    rw [hz1] at hW
    refine W.eq (g2 := F0 m 15 ls [.int (f_X6_in z ((p1 : Int32).toInt64) 0 1), .ref (E.2.2 19)]) rfl ?_
    refine lv_if_eq (tgt := 22) hx hb dX6_place_15 (by decide) (fun h3 => ?_) (fun h3 => ?_)
    · refine lv_iconst (v := 1) hx hb dX6_place_22 (by decide) ?_
      refine k_putI hx hb hts inlX6 tyX6_ok nmX6 hown hW 19 (by omega) k_c19 rfl 0 (by decide) lf_RX6_88 rfl rfl (tyX6_ok 0 (by decide)) (Nat.le_of_ble_eq_true rfl) ks_X6_0 dX6_place_23 (fun H locs hW => ?_)
      refine lv_aload_n hx hb dX6_place_26 rfl (lv_at hl 0 rfl) ?_
      refine k_get hx hb hts inlX6 hown hW 19 (by omega) k_c19 rfl 0 (by decide) lf_RX6_88 rfl (v := .int 1) rfl dX6_place_27 ?_
      refine lv_if_le (tgt := 37) hx hb dX6_place_30 (by decide) (fun h4 => absurd h4 (by decide)) (fun _ => ?_)
      refine lv_lconst (v := 0) hx hb dX6_place_33 (by decide) ?_
      refine lv_goto (tgt := 71) hx hb dX6_place_34 (by decide) ?_
      have hR : (f_X6_place z p0 p1) = (0, (uI z 19 0 1)) := (by simp only [f_X6_place, if_neg h1, if_pos h3])
      exact k_lret hx hb hr hlocks hW ⟨by rw [hR], by rw [hR]⟩ dX6_place_71
    · refine lv_iconst (v := 0) hx hb dX6_place_18 (by decide) ?_
      refine lv_goto (tgt := 23) hx hb dX6_place_19 (by decide) ?_
      refine k_putI hx hb hts inlX6 tyX6_ok nmX6 hown hW 19 (by omega) k_c19 rfl 0 (by decide) lf_RX6_88 rfl rfl (tyX6_ok 0 (by decide)) (Nat.le_of_ble_eq_true rfl) ks_X6_0 dX6_place_23 (fun H locs hW => ?_)
      refine lv_aload_n hx hb dX6_place_26 rfl (lv_at hl 0 rfl) ?_
      refine k_get hx hb hts inlX6 hown hW 19 (by omega) k_c19 rfl 0 (by decide) lf_RX6_88 rfl (v := .int 0) rfl dX6_place_27 ?_
      refine lv_if_le (tgt := 37) hx hb dX6_place_30 (by decide) (fun _ => ?_) (fun h5 => absurd h5 (by decide))
      refine lv_aload_n hx hb dX6_place_37 rfl (lv_at hl 0 rfl) ?_
      refine k_get hx hb hts inlX6 hown hW 19 (by omega) k_c19 rfl 20 (by decide) lf_RX6_61 rfl (v := .ref (E.2.2 36)) rfl dX6_place_38 ?_
      refine lv_iload_n hx hb dX6_place_41 rfl (lv_at hl 1 rfl) ?_
      refine k_iald hx hb hW 36 100 (by omega) k_c36 (v := (z.1 36 p0.toNatClampNeg)) (by exact m_obj (by assumption)) rfl dX6_place_42 ?_
      refine lv_if_ne (tgt := 52) hx hb dX6_place_43 (by decide) (fun h6 => ?_) (fun h6 => ?_)
      · refine lv_iload_n hx hb dX6_place_52 rfl (lv_at hl 2 rfl) ?_
        refine lv_if_ne (tgt := 65) hx hb dX6_place_53 (by decide) (fun h7 => ?_) (fun h7 => ?_)
        · refine lv_aload_n hx hb dX6_place_65 rfl (lv_at hl 0 rfl) ?_
          refine k_get hx hb hts inlX6 hown hW 19 (by omega) k_c19 rfl 22 (by decide) lf_RX6_67 rfl (v := .ref (E.2.2 38)) rfl dX6_place_66 ?_
          refine lv_iload_n hx hb dX6_place_69 rfl (lv_at hl 1 rfl) ?_
          refine k_lald hx hb hW 38 100 (by omega) k_c38 (v := (z.2.1 38 p0.toNatClampNeg)) (by exact m_obj (by assumption)) rfl dX6_place_70 ?_
          have hR : (f_X6_place z p0 p1) = ((z.2.1 38 p0.toNatClampNeg), (uI z 19 0 0)) := (by simp only [f_X6_place, if_neg h1, if_neg h3, if_neg h6, if_neg h7])
          exact k_lret hx hb hr hlocks hW ⟨by rw [hR], by rw [hR]⟩ dX6_place_71
        · refine lv_aload_n hx hb dX6_place_56 rfl (lv_at hl 0 rfl) ?_
          refine k_get hx hb hts inlX6 hown hW 19 (by omega) k_c19 rfl 21 (by decide) lf_RX6_64 rfl (v := .ref (E.2.2 37)) rfl dX6_place_57 ?_
          refine lv_iload_n hx hb dX6_place_60 rfl (lv_at hl 1 rfl) ?_
          refine k_lald hx hb hW 37 100 (by omega) k_c37 (v := (z.2.1 37 p0.toNatClampNeg)) (by exact m_obj (by assumption)) rfl dX6_place_61 ?_
          refine lv_goto (tgt := 71) hx hb dX6_place_62 (by decide) ?_
          have hR : (f_X6_place z p0 p1) = ((z.2.1 37 p0.toNatClampNeg), (uI z 19 0 0)) := (by simp only [f_X6_place, if_neg h1, if_neg h3, if_neg h6, if_pos h7])
          exact k_lret hx hb hr hlocks hW ⟨by rw [hR], by rw [hR]⟩ dX6_place_71
      · refine lv_ldc2 (v := (-1)) hx hb hown (hts _ lc_RX6_105) dX6_place_46 ?_
        refine lv_goto (tgt := 71) hx hb dX6_place_49 (by decide) ?_
        have hR : (f_X6_place z p0 p1) = ((-1), (uI z 19 0 0)) := (by simp only [f_X6_place, if_neg h1, if_neg h3, if_pos h6])
        exact k_lret hx hb hr hlocks hW ⟨by rw [hR], by rw [hR]⟩ dX6_place_71

def f_X6_told (z : Sg) (p0 : Int32) (p1 : Int32) : Int64 × Sg :=
  if p0 < (-1) then
    (0, (uI z 19 0 1))
  else
    if (z.1 19 25) ≤ p0 then
      (0, (uI z 19 0 1))
    else
      if p0 < 0 then
        if p0 = (-1) then
          (((z.1 19 25) : Int32).toInt64, (uI z 19 0 0))
        else
          if p1 = 0 then
            (((z.1 41 p0.toNatClampNeg) : Int32).toInt64, (uI z 19 0 0))
          else
            if p1 = 1 then
              (((z.1 42 p0.toNatClampNeg) : Int32).toInt64, (uI z 19 0 0))
            else
              ((z.2.1 43 p0.toNatClampNeg), (uI z 19 0 0))
      else
        if (f_X6_in z ((p1 : Int32).toInt64) 0 2) = 0 then
          (0, (uI z 19 0 1))
        else
          if p0 = (-1) then
            (((z.1 19 25) : Int32).toInt64, (uI z 19 0 0))
          else
            if p1 = 0 then
              (((z.1 41 p0.toNatClampNeg) : Int32).toInt64, (uI z 19 0 0))
            else
              if p1 = 1 then
                (((z.1 42 p0.toNatClampNeg) : Int32).toInt64, (uI z 19 0 0))
              else
                ((z.2.1 43 p0.toNatClampNeg), (uI z 19 0 0))
set_option maxHeartbeats 4000000 in
set_option maxRecDepth 100000 in
theorem c_X6_told (l : Launch) (E : Ev) (S sz : Nat) (z : Sg) (p0 : Int32) (p1 : Int32) (hI : k_J S z) : k_Met l yX6_told cX6_told 3 (some .long) ({ frames := 1, cells := 0, slots := 0, locals := 25 }) [.ref (E.2.2 19), .int p0, .int p1] E (46 + 6 * S) z sz (fun v u => v = some (.long ((f_X6_told z p0 p1).1)) ∧ u = (f_X6_told z p0 p1).2) 0 0 := by
  refine k_body (by decide +kernel) (Nat.le_of_ble_eq_true rfl) ?_
  intro p e s m below meth cd ls hx hb hr hml hown hlocks hts hW hl
  have hl : lv_has ls 3 [(0, .ref (E.2.2 19)), (1, .int p0), (2, .int p1)] := hl
  refine lv_aload_n hx hb dX6_told_0 rfl (lv_at hl 0 rfl) ?_
  refine lv_iload_n hx hb dX6_told_1 rfl (lv_at hl 1 rfl) ?_
  refine lv_iconst (v := (-1)) hx hb dX6_told_2 (by decide) ?_
  refine lv_icmp_lt (tgt := 30) hx hb dX6_told_3 (by decide) (fun h1 => ?_) (fun h1 => ?_)
  · refine lv_iconst (v := 1) hx hb dX6_told_30 (by decide) ?_
    refine lv_goto (tgt := 35) hx hb dX6_told_31 (by decide) ?_
    refine k_putI hx hb hts inlX6 tyX6_ok nmX6 hown hW 19 (by omega) k_c19 rfl 0 (by decide) lf_RX6_88 rfl rfl (tyX6_ok 0 (by decide)) (Nat.le_of_ble_eq_true rfl) ks_X6_0 dX6_told_35 (fun H locs hW => ?_)
    refine lv_aload_n hx hb dX6_told_38 rfl (lv_at hl 0 rfl) ?_
    refine k_get hx hb hts inlX6 hown hW 19 (by omega) k_c19 rfl 0 (by decide) lf_RX6_88 rfl (v := .int 1) rfl dX6_told_39 ?_
    refine lv_if_le (tgt := 47) hx hb dX6_told_42 (by decide) (fun h2 => absurd h2 (by decide)) (fun _ => ?_)
    refine lv_lconst (v := 0) hx hb dX6_told_45 (by decide) ?_
    have hR : (f_X6_told z p0 p1) = (0, (uI z 19 0 1)) := (by simp only [f_X6_told, if_pos h1])
    exact k_lret hx hb hr hlocks hW ⟨by rw [hR], by rw [hR]⟩ dX6_told_46
  · refine lv_iload_n hx hb dX6_told_6 rfl (lv_at hl 1 rfl) ?_
    refine lv_aload_n hx hb dX6_told_7 rfl (lv_at hl 0 rfl) ?_
    refine k_get hx hb hts inlX6 hown hW 19 (by omega) k_c19 rfl 25 (by decide) lf_RX6_129 rfl (v := .int (z.1 19 25)) rfl dX6_told_8 ?_
    refine lv_icmp_ge (tgt := 30) hx hb dX6_told_11 (by decide) (fun h3 => ?_) (fun h3 => ?_)
    · refine lv_iconst (v := 1) hx hb dX6_told_30 (by decide) ?_
      refine lv_goto (tgt := 35) hx hb dX6_told_31 (by decide) ?_
      refine k_putI hx hb hts inlX6 tyX6_ok nmX6 hown hW 19 (by omega) k_c19 rfl 0 (by decide) lf_RX6_88 rfl rfl (tyX6_ok 0 (by decide)) (Nat.le_of_ble_eq_true rfl) ks_X6_0 dX6_told_35 (fun H locs hW => ?_)
      refine lv_aload_n hx hb dX6_told_38 rfl (lv_at hl 0 rfl) ?_
      refine k_get hx hb hts inlX6 hown hW 19 (by omega) k_c19 rfl 0 (by decide) lf_RX6_88 rfl (v := .int 1) rfl dX6_told_39 ?_
      refine lv_if_le (tgt := 47) hx hb dX6_told_42 (by decide) (fun h4 => absurd h4 (by decide)) (fun _ => ?_)
      refine lv_lconst (v := 0) hx hb dX6_told_45 (by decide) ?_
      have hR : (f_X6_told z p0 p1) = (0, (uI z 19 0 1)) := (by simp only [f_X6_told, if_neg h1, if_pos h3])
      exact k_lret hx hb hr hlocks hW ⟨by rw [hR], by rw [hR]⟩ dX6_told_46
    · refine lv_iload_n hx hb dX6_told_14 rfl (lv_at hl 1 rfl) ?_
      refine lv_if_lt (tgt := 34) hx hb dX6_told_15 (by decide) (fun h5 => ?_) (fun h5 => ?_)
      · refine lv_iconst (v := 0) hx hb dX6_told_34 (by decide) ?_
        refine k_putI hx hb hts inlX6 tyX6_ok nmX6 hown hW 19 (by omega) k_c19 rfl 0 (by decide) lf_RX6_88 rfl rfl (tyX6_ok 0 (by decide)) (Nat.le_of_ble_eq_true rfl) ks_X6_0 dX6_told_35 (fun H locs hW => ?_)
        refine lv_aload_n hx hb dX6_told_38 rfl (lv_at hl 0 rfl) ?_
        refine k_get hx hb hts inlX6 hown hW 19 (by omega) k_c19 rfl 0 (by decide) lf_RX6_88 rfl (v := .int 0) rfl dX6_told_39 ?_
        refine lv_if_le (tgt := 47) hx hb dX6_told_42 (by decide) (fun _ => ?_) (fun h6 => absurd h6 (by decide))
        refine lv_iload_n hx hb dX6_told_47 rfl (lv_at hl 1 rfl) ?_
        refine lv_iconst (v := (-1)) hx hb dX6_told_48 (by decide) ?_
        refine lv_icmp_ne (tgt := 60) hx hb dX6_told_49 (by decide) (fun h7 => ?_) (fun h7 => ?_)
        · refine lv_iload_n hx hb dX6_told_60 rfl (lv_at hl 2 rfl) ?_
          refine lv_if_ne (tgt := 74) hx hb dX6_told_61 (by decide) (fun h8 => ?_) (fun h8 => ?_)
          · refine lv_iload_n hx hb dX6_told_74 rfl (lv_at hl 2 rfl) ?_
            refine lv_iconst (v := 1) hx hb dX6_told_75 (by decide) ?_
            refine lv_icmp_ne (tgt := 89) hx hb dX6_told_76 (by decide) (fun h9 => ?_) (fun h9 => ?_)
            · refine lv_aload_n hx hb dX6_told_89 rfl (lv_at hl 0 rfl) ?_
              refine k_get hx hb hts inlX6 hown hW 19 (by omega) k_c19 rfl 28 (by decide) lf_RX6_82 rfl (v := .ref (E.2.2 43)) rfl dX6_told_90 ?_
              refine lv_iload_n hx hb dX6_told_93 rfl (lv_at hl 1 rfl) ?_
              refine k_lald hx hb hW 43 200 (by omega) k_c43 (v := (z.2.1 43 p0.toNatClampNeg)) (by exact tld_in h1 h3 h7 hI.2.2.2.1.2) rfl dX6_told_94 ?_
              have hR : (f_X6_told z p0 p1) = ((z.2.1 43 p0.toNatClampNeg), (uI z 19 0 0)) := (by simp only [f_X6_told, if_neg h1, if_neg h3, if_pos h5, if_neg h7, if_neg h8, if_neg h9])
              exact k_lret hx hb hr hlocks hW ⟨by rw [hR], by rw [hR]⟩ dX6_told_95
            · refine lv_aload_n hx hb dX6_told_79 rfl (lv_at hl 0 rfl) ?_
              refine k_get hx hb hts inlX6 hown hW 19 (by omega) k_c19 rfl 27 (by decide) lf_RX6_79 rfl (v := .ref (E.2.2 42)) rfl dX6_told_80 ?_
              refine lv_iload_n hx hb dX6_told_83 rfl (lv_at hl 1 rfl) ?_
              refine k_iald hx hb hW 42 200 (by omega) k_c42 (v := (z.1 42 p0.toNatClampNeg)) (by exact tld_in h1 h3 h7 hI.2.2.2.1.2) rfl dX6_told_84 ?_
              refine lv_i2l (v := ((z.1 42 p0.toNatClampNeg) : Int32).toInt64) hx hb dX6_told_85 rfl ?_
              refine lv_goto (tgt := 95) hx hb dX6_told_86 (by decide) ?_
              have hR : (f_X6_told z p0 p1) = (((z.1 42 p0.toNatClampNeg) : Int32).toInt64, (uI z 19 0 0)) := (by simp only [f_X6_told, if_neg h1, if_neg h3, if_pos h5, if_neg h7, if_neg h8, if_pos h9])
              exact k_lret hx hb hr hlocks hW ⟨by rw [hR], by rw [hR]⟩ dX6_told_95
          · refine lv_aload_n hx hb dX6_told_64 rfl (lv_at hl 0 rfl) ?_
            refine k_get hx hb hts inlX6 hown hW 19 (by omega) k_c19 rfl 26 (by decide) lf_RX6_76 rfl (v := .ref (E.2.2 41)) rfl dX6_told_65 ?_
            refine lv_iload_n hx hb dX6_told_68 rfl (lv_at hl 1 rfl) ?_
            refine k_iald hx hb hW 41 200 (by omega) k_c41 (v := (z.1 41 p0.toNatClampNeg)) (by exact tld_in h1 h3 h7 hI.2.2.2.1.2) rfl dX6_told_69 ?_
            refine lv_i2l (v := ((z.1 41 p0.toNatClampNeg) : Int32).toInt64) hx hb dX6_told_70 rfl ?_
            refine lv_goto (tgt := 95) hx hb dX6_told_71 (by decide) ?_
            have hR : (f_X6_told z p0 p1) = (((z.1 41 p0.toNatClampNeg) : Int32).toInt64, (uI z 19 0 0)) := (by simp only [f_X6_told, if_neg h1, if_neg h3, if_pos h5, if_neg h7, if_pos h8])
            exact k_lret hx hb hr hlocks hW ⟨by rw [hR], by rw [hR]⟩ dX6_told_95
        · refine lv_aload_n hx hb dX6_told_52 rfl (lv_at hl 0 rfl) ?_
          refine k_get hx hb hts inlX6 hown hW 19 (by omega) k_c19 rfl 25 (by decide) lf_RX6_129 rfl (v := .int (z.1 19 25)) rfl dX6_told_53 ?_
          refine lv_i2l (v := ((z.1 19 25) : Int32).toInt64) hx hb dX6_told_56 rfl ?_
          refine lv_goto (tgt := 95) hx hb dX6_told_57 (by decide) ?_
          have hR : (f_X6_told z p0 p1) = (((z.1 19 25) : Int32).toInt64, (uI z 19 0 0)) := (by simp only [f_X6_told, if_neg h1, if_neg h3, if_pos h5, if_pos h7])
          exact k_lret hx hb hr hlocks hW ⟨by rw [hR], by rw [hR]⟩ dX6_told_95
      · refine lv_iload_n hx hb dX6_told_18 rfl (lv_at hl 2 rfl) ?_
        refine lv_i2l (v := (p1 : Int32).toInt64) hx hb dX6_told_19 rfl ?_
        refine lv_lconst (v := 0) hx hb dX6_told_20 (by decide) ?_
        refine lv_ldc2 (v := 2) hx hb hown (hts _ lc_RX6_200) dX6_told_21 ?_
        refine k_callS (rest := [.ref (E.2.2 19)]) hx hb hml hown hts (c_X6_in l E S _ z ((p1 : Int32).toInt64) 0 2) lm_RX6_95 ls_X6_in li_X6 lk_X6_in (show k_nm yX6_in 3 by decide +kernel) ⟨Nat.le_of_ble_eq_true rfl, Nat.le_of_ble_eq_true rfl⟩ rfl rfl ⟨Nat.le_of_ble_eq_true rfl, Nat.le_of_ble_eq_true rfl⟩ hl.1 rfl (Nat.le_of_ble_eq_true rfl) dX6_told_24 hW (fun v z1 H locs hp hW => ?_)
        obtain ⟨rfl, hz1⟩ := hp
        rw [hz1] at hW
        refine W.eq (g2 := F0 m 27 ls [.int (f_X6_in z ((p1 : Int32).toInt64) 0 2), .ref (E.2.2 19)]) rfl ?_
        refine lv_if_ne (tgt := 34) hx hb dX6_told_27 (by decide) (fun h10 => ?_) (fun h10 => ?_)
        · refine lv_iconst (v := 0) hx hb dX6_told_34 (by decide) ?_
          refine k_putI hx hb hts inlX6 tyX6_ok nmX6 hown hW 19 (by omega) k_c19 rfl 0 (by decide) lf_RX6_88 rfl rfl (tyX6_ok 0 (by decide)) (Nat.le_of_ble_eq_true rfl) ks_X6_0 dX6_told_35 (fun H locs hW => ?_)
          refine lv_aload_n hx hb dX6_told_38 rfl (lv_at hl 0 rfl) ?_
          refine k_get hx hb hts inlX6 hown hW 19 (by omega) k_c19 rfl 0 (by decide) lf_RX6_88 rfl (v := .int 0) rfl dX6_told_39 ?_
          refine lv_if_le (tgt := 47) hx hb dX6_told_42 (by decide) (fun _ => ?_) (fun h11 => absurd h11 (by decide))
          refine lv_iload_n hx hb dX6_told_47 rfl (lv_at hl 1 rfl) ?_
          refine lv_iconst (v := (-1)) hx hb dX6_told_48 (by decide) ?_
          refine lv_icmp_ne (tgt := 60) hx hb dX6_told_49 (by decide) (fun h12 => ?_) (fun h12 => ?_)
          · refine lv_iload_n hx hb dX6_told_60 rfl (lv_at hl 2 rfl) ?_
            refine lv_if_ne (tgt := 74) hx hb dX6_told_61 (by decide) (fun h13 => ?_) (fun h13 => ?_)
            · refine lv_iload_n hx hb dX6_told_74 rfl (lv_at hl 2 rfl) ?_
              refine lv_iconst (v := 1) hx hb dX6_told_75 (by decide) ?_
              refine lv_icmp_ne (tgt := 89) hx hb dX6_told_76 (by decide) (fun h14 => ?_) (fun h14 => ?_)
              · refine lv_aload_n hx hb dX6_told_89 rfl (lv_at hl 0 rfl) ?_
                refine k_get hx hb hts inlX6 hown hW 19 (by omega) k_c19 rfl 28 (by decide) lf_RX6_82 rfl (v := .ref (E.2.2 43)) rfl dX6_told_90 ?_
                refine lv_iload_n hx hb dX6_told_93 rfl (lv_at hl 1 rfl) ?_
                refine k_lald hx hb hW 43 200 (by omega) k_c43 (v := (z.2.1 43 p0.toNatClampNeg)) (by exact tld_in h1 h3 h12 hI.2.2.2.1.2) rfl dX6_told_94 ?_
                have hR : (f_X6_told z p0 p1) = ((z.2.1 43 p0.toNatClampNeg), (uI z 19 0 0)) := (by simp only [f_X6_told, if_neg h1, if_neg h3, if_neg h5, if_neg h10, if_neg h12, if_neg h13, if_neg h14])
                exact k_lret hx hb hr hlocks hW ⟨by rw [hR], by rw [hR]⟩ dX6_told_95
              · refine lv_aload_n hx hb dX6_told_79 rfl (lv_at hl 0 rfl) ?_
                refine k_get hx hb hts inlX6 hown hW 19 (by omega) k_c19 rfl 27 (by decide) lf_RX6_79 rfl (v := .ref (E.2.2 42)) rfl dX6_told_80 ?_
                refine lv_iload_n hx hb dX6_told_83 rfl (lv_at hl 1 rfl) ?_
                refine k_iald hx hb hW 42 200 (by omega) k_c42 (v := (z.1 42 p0.toNatClampNeg)) (by exact tld_in h1 h3 h12 hI.2.2.2.1.2) rfl dX6_told_84 ?_
                refine lv_i2l (v := ((z.1 42 p0.toNatClampNeg) : Int32).toInt64) hx hb dX6_told_85 rfl ?_
                refine lv_goto (tgt := 95) hx hb dX6_told_86 (by decide) ?_
                have hR : (f_X6_told z p0 p1) = (((z.1 42 p0.toNatClampNeg) : Int32).toInt64, (uI z 19 0 0)) := (by simp only [f_X6_told, if_neg h1, if_neg h3, if_neg h5, if_neg h10, if_neg h12, if_neg h13, if_pos h14])
                exact k_lret hx hb hr hlocks hW ⟨by rw [hR], by rw [hR]⟩ dX6_told_95
            · refine lv_aload_n hx hb dX6_told_64 rfl (lv_at hl 0 rfl) ?_
              refine k_get hx hb hts inlX6 hown hW 19 (by omega) k_c19 rfl 26 (by decide) lf_RX6_76 rfl (v := .ref (E.2.2 41)) rfl dX6_told_65 ?_
              refine lv_iload_n hx hb dX6_told_68 rfl (lv_at hl 1 rfl) ?_
              refine k_iald hx hb hW 41 200 (by omega) k_c41 (v := (z.1 41 p0.toNatClampNeg)) (by exact tld_in h1 h3 h12 hI.2.2.2.1.2) rfl dX6_told_69 ?_
              refine lv_i2l (v := ((z.1 41 p0.toNatClampNeg) : Int32).toInt64) hx hb dX6_told_70 rfl ?_
              refine lv_goto (tgt := 95) hx hb dX6_told_71 (by decide) ?_
              have hR : (f_X6_told z p0 p1) = (((z.1 41 p0.toNatClampNeg) : Int32).toInt64, (uI z 19 0 0)) := (by simp only [f_X6_told, if_neg h1, if_neg h3, if_neg h5, if_neg h10, if_neg h12, if_pos h13])
              exact k_lret hx hb hr hlocks hW ⟨by rw [hR], by rw [hR]⟩ dX6_told_95
          · refine lv_aload_n hx hb dX6_told_52 rfl (lv_at hl 0 rfl) ?_
            refine k_get hx hb hts inlX6 hown hW 19 (by omega) k_c19 rfl 25 (by decide) lf_RX6_129 rfl (v := .int (z.1 19 25)) rfl dX6_told_53 ?_
            refine lv_i2l (v := ((z.1 19 25) : Int32).toInt64) hx hb dX6_told_56 rfl ?_
            refine lv_goto (tgt := 95) hx hb dX6_told_57 (by decide) ?_
            have hR : (f_X6_told z p0 p1) = (((z.1 19 25) : Int32).toInt64, (uI z 19 0 0)) := (by simp only [f_X6_told, if_neg h1, if_neg h3, if_neg h5, if_neg h10, if_pos h12])
            exact k_lret hx hb hr hlocks hW ⟨by rw [hR], by rw [hR]⟩ dX6_told_95
        · refine lv_iconst (v := 1) hx hb dX6_told_30 (by decide) ?_
          refine lv_goto (tgt := 35) hx hb dX6_told_31 (by decide) ?_
          refine k_putI hx hb hts inlX6 tyX6_ok nmX6 hown hW 19 (by omega) k_c19 rfl 0 (by decide) lf_RX6_88 rfl rfl (tyX6_ok 0 (by decide)) (Nat.le_of_ble_eq_true rfl) ks_X6_0 dX6_told_35 (fun H locs hW => ?_)
          refine lv_aload_n hx hb dX6_told_38 rfl (lv_at hl 0 rfl) ?_
          refine k_get hx hb hts inlX6 hown hW 19 (by omega) k_c19 rfl 0 (by decide) lf_RX6_88 rfl (v := .int 1) rfl dX6_told_39 ?_
          refine lv_if_le (tgt := 47) hx hb dX6_told_42 (by decide) (fun h15 => absurd h15 (by decide)) (fun _ => ?_)
          refine lv_lconst (v := 0) hx hb dX6_told_45 (by decide) ?_
          have hR : (f_X6_told z p0 p1) = (0, (uI z 19 0 1)) := (by simp only [f_X6_told, if_neg h1, if_neg h3, if_neg h5, if_pos h10])
          exact k_lret hx hb hr hlocks hW ⟨by rw [hR], by rw [hR]⟩ dX6_told_46

def f_X6_section (z : Sg) (p0 : Int32) (p1 : Int64) (p2 : Int64) : Int32 × Sg :=
  if (f_X6_in z ((p0 : Int32).toInt64) 0 1) = 0 then
    (0, (uI z 19 0 1))
  else
    if (f_X6_in z p1 0 9999999999) = 0 then
      (0, (uI z 19 0 1))
    else
      if (0 : Int32) ≤ (f_X6_find z p1) then
        (0, (uI z 19 0 1))
      else
        if (f_X6_in z p2 (-1) 9999999999) = 0 then
          (0, (uI z 19 0 1))
        else
          if (z.1 19 1) = 12 then
            (0, (uI z 19 0 2))
          else
            (((z.1 19 1) + 1) - 1, (uI (uI (uI (uI (uJ (uJ (uJ (uI (uI z 19 0 0) 20 ((z.1 19 1).toNatClampNeg) p0) 21 ((z.1 19 1).toNatClampNeg) p1) 22 ((z.1 19 1).toNatClampNeg) p2) 23 ((z.1 19 1).toNatClampNeg) (-1)) 26 ((3 * (z.1 19 1)).toNatClampNeg) 1) 26 (((3 * (z.1 19 1)) + 1).toNatClampNeg) 2) 26 (((3 * (z.1 19 1)) + 2).toNatClampNeg) 1) 19 1 ((z.1 19 1) + 1)))
set_option maxHeartbeats 4000000 in
set_option maxRecDepth 100000 in
theorem c_X6_section (l : Launch) (E : Ev) (S sz : Nat) (z : Sg) (p0 : Int32) (p1 : Int64) (p2 : Int64) (hI : k_J S z) : k_Met l yX6_section cX6_section 6 (some .int) ({ frames := 1, cells := 0, slots := 0, locals := 25 }) [.ref (E.2.2 19), .int p0, .long p1, .long p2] E (46 + 6 * S) z sz (fun v u => v = some (.int ((f_X6_section z p0 p1 p2).1)) ∧ u = (f_X6_section z p0 p1 p2).2) 0 0 := by
  refine k_body (by decide +kernel) (Nat.le_of_ble_eq_true rfl) ?_
  intro p e s m below meth cd ls hx hb hr hml hown hlocks hts hW hl
  have hl : lv_has ls 6 [(0, .ref (E.2.2 19)), (1, .int p0), (2, .long p1), (4, .long p2)] := hl
  refine lv_aload_n hx hb dX6_section_0 rfl (lv_at hl 0 rfl) ?_
  refine lv_iload_n hx hb dX6_section_1 rfl (lv_at hl 1 rfl) ?_
  refine lv_i2l (v := (p0 : Int32).toInt64) hx hb dX6_section_2 rfl ?_
  refine lv_lconst (v := 0) hx hb dX6_section_3 (by decide) ?_
  refine lv_lconst (v := 1) hx hb dX6_section_4 (by decide) ?_
  refine k_callS (rest := [.ref (E.2.2 19)]) hx hb hml hown hts (c_X6_in l E S _ z ((p0 : Int32).toInt64) 0 1) lm_RX6_95 ls_X6_in li_X6 lk_X6_in (show k_nm yX6_in 3 by decide +kernel) ⟨Nat.le_of_ble_eq_true rfl, Nat.le_of_ble_eq_true rfl⟩ rfl rfl ⟨Nat.le_of_ble_eq_true rfl, Nat.le_of_ble_eq_true rfl⟩ hl.1 rfl (Nat.le_of_ble_eq_true rfl) dX6_section_5 hW (fun v z1 H locs hp hW => ?_)
  obtain ⟨rfl, hz1⟩ := hp
  rw [hz1] at hW
  refine W.eq (g2 := F0 m 8 ls [.int (f_X6_in z ((p0 : Int32).toInt64) 0 1), .ref (E.2.2 19)]) rfl ?_
  refine lv_if_eq (tgt := 44) hx hb dX6_section_8 (by decide) (fun h1 => ?_) (fun h1 => ?_)
  · refine lv_iconst (v := 1) hx hb dX6_section_44 (by decide) ?_
    refine lv_goto (tgt := 62) hx hb dX6_section_45 (by decide) ?_
    refine k_putI hx hb hts inlX6 tyX6_ok nmX6 hown hW 19 (by omega) k_c19 rfl 0 (by decide) lf_RX6_88 rfl rfl (tyX6_ok 0 (by decide)) (Nat.le_of_ble_eq_true rfl) ks_X6_0 dX6_section_62 (fun H locs hW => ?_)
    refine lv_aload_n hx hb dX6_section_65 rfl (lv_at hl 0 rfl) ?_
    refine k_get hx hb hts inlX6 hown hW 19 (by omega) k_c19 rfl 0 (by decide) lf_RX6_88 rfl (v := .int 1) rfl dX6_section_66 ?_
    refine lv_if_le (tgt := 74) hx hb dX6_section_69 (by decide) (fun h2 => absurd h2 (by decide)) (fun _ => ?_)
    refine lv_iconst (v := 0) hx hb dX6_section_72 (by decide) ?_
    have hR : (f_X6_section z p0 p1 p2) = (0, (uI z 19 0 1)) := (by simp only [f_X6_section, if_pos h1])
    exact k_iret hx hb hr rfl hlocks hW ⟨by rw [hR], by rw [hR]⟩ dX6_section_73
  · refine lv_lload_n hx hb dX6_section_11 rfl (lv_at hl 2 rfl) ?_
    refine lv_lconst (v := 0) hx hb dX6_section_12 (by decide) ?_
    refine lv_ldc2 (v := 9999999999) hx hb hown (hts _ lc_RX6_99) dX6_section_13 ?_
    refine k_callS (rest := [.ref (E.2.2 19)]) hx hb hml hown hts (c_X6_in l E S _ z p1 0 9999999999) lm_RX6_95 ls_X6_in li_X6 lk_X6_in (show k_nm yX6_in 3 by decide +kernel) ⟨Nat.le_of_ble_eq_true rfl, Nat.le_of_ble_eq_true rfl⟩ rfl rfl ⟨Nat.le_of_ble_eq_true rfl, Nat.le_of_ble_eq_true rfl⟩ hl.1 rfl (Nat.le_of_ble_eq_true rfl) dX6_section_16 hW (fun v z1 H locs hp hW => ?_)
    obtain ⟨rfl, hz1⟩ := hp
    rw [hz1] at hW
    refine W.eq (g2 := F0 m 19 ls [.int (f_X6_in z p1 0 9999999999), .ref (E.2.2 19)]) rfl ?_
    refine lv_if_eq (tgt := 44) hx hb dX6_section_19 (by decide) (fun h3 => ?_) (fun h3 => ?_)
    · refine lv_iconst (v := 1) hx hb dX6_section_44 (by decide) ?_
      refine lv_goto (tgt := 62) hx hb dX6_section_45 (by decide) ?_
      refine k_putI hx hb hts inlX6 tyX6_ok nmX6 hown hW 19 (by omega) k_c19 rfl 0 (by decide) lf_RX6_88 rfl rfl (tyX6_ok 0 (by decide)) (Nat.le_of_ble_eq_true rfl) ks_X6_0 dX6_section_62 (fun H locs hW => ?_)
      refine lv_aload_n hx hb dX6_section_65 rfl (lv_at hl 0 rfl) ?_
      refine k_get hx hb hts inlX6 hown hW 19 (by omega) k_c19 rfl 0 (by decide) lf_RX6_88 rfl (v := .int 1) rfl dX6_section_66 ?_
      refine lv_if_le (tgt := 74) hx hb dX6_section_69 (by decide) (fun h4 => absurd h4 (by decide)) (fun _ => ?_)
      refine lv_iconst (v := 0) hx hb dX6_section_72 (by decide) ?_
      have hR : (f_X6_section z p0 p1 p2) = (0, (uI z 19 0 1)) := (by simp only [f_X6_section, if_neg h1, if_pos h3])
      exact k_iret hx hb hr rfl hlocks hW ⟨by rw [hR], by rw [hR]⟩ dX6_section_73
    · refine lv_aload_n hx hb dX6_section_22 rfl (lv_at hl 0 rfl) ?_
      refine lv_lload_n hx hb dX6_section_23 rfl (lv_at hl 2 rfl) ?_
      refine k_callV (As := [.long p1]) (rest := [.ref (E.2.2 19)]) hx hb hml hown hts (c_X6_find l E S _ z p1 hI) lm_RX6_101 ln_X6_find le_X6_find li_X6 lk_X6_find (show k_nm yX6_find 1 by decide +kernel) ⟨Nat.le_of_ble_eq_true rfl, Nat.le_of_ble_eq_true rfl⟩ rfl rfl ⟨Nat.le_of_ble_eq_true rfl, Nat.le_of_ble_eq_true rfl⟩ hl.1 rfl (Nat.le_of_ble_eq_true rfl) dX6_section_24 (by omega) (k_c19 _ _ _) rfl hW (fun v z1 H locs hp hW => ?_)
      obtain ⟨rfl, hz1⟩ := hp
      rw [hz1] at hW
      refine W.eq (g2 := F0 m 27 ls [.int (f_X6_find z p1), .ref (E.2.2 19)]) rfl ?_
      refine lv_if_ge (tgt := 44) hx hb dX6_section_27 (by decide) (fun h5 => ?_) (fun h5 => ?_)
      · refine lv_iconst (v := 1) hx hb dX6_section_44 (by decide) ?_
        refine lv_goto (tgt := 62) hx hb dX6_section_45 (by decide) ?_
        refine k_putI hx hb hts inlX6 tyX6_ok nmX6 hown hW 19 (by omega) k_c19 rfl 0 (by decide) lf_RX6_88 rfl rfl (tyX6_ok 0 (by decide)) (Nat.le_of_ble_eq_true rfl) ks_X6_0 dX6_section_62 (fun H locs hW => ?_)
        refine lv_aload_n hx hb dX6_section_65 rfl (lv_at hl 0 rfl) ?_
        refine k_get hx hb hts inlX6 hown hW 19 (by omega) k_c19 rfl 0 (by decide) lf_RX6_88 rfl (v := .int 1) rfl dX6_section_66 ?_
        refine lv_if_le (tgt := 74) hx hb dX6_section_69 (by decide) (fun h6 => absurd h6 (by decide)) (fun _ => ?_)
        refine lv_iconst (v := 0) hx hb dX6_section_72 (by decide) ?_
        have hR : (f_X6_section z p0 p1 p2) = (0, (uI z 19 0 1)) := (by simp only [f_X6_section, if_neg h1, if_neg h3, if_pos h5])
        exact k_iret hx hb hr rfl hlocks hW ⟨by rw [hR], by rw [hR]⟩ dX6_section_73
      · refine lv_lload hx hb dX6_section_30 (lv_at hl 3 rfl) ?_
        refine lv_ldc2 (v := (-1)) hx hb hown (hts _ lc_RX6_105) dX6_section_32 ?_
        refine lv_ldc2 (v := 9999999999) hx hb hown (hts _ lc_RX6_99) dX6_section_35 ?_
        refine k_callS (rest := [.ref (E.2.2 19)]) hx hb hml hown hts (c_X6_in l E S _ z p2 (-1) 9999999999) lm_RX6_95 ls_X6_in li_X6 lk_X6_in (show k_nm yX6_in 3 by decide +kernel) ⟨Nat.le_of_ble_eq_true rfl, Nat.le_of_ble_eq_true rfl⟩ rfl rfl ⟨Nat.le_of_ble_eq_true rfl, Nat.le_of_ble_eq_true rfl⟩ hl.1 rfl (Nat.le_of_ble_eq_true rfl) dX6_section_38 hW (fun v z1 H locs hp hW => ?_)
        obtain ⟨rfl, hz1⟩ := hp
        rw [hz1] at hW
        refine W.eq (g2 := F0 m 41 ls [.int (f_X6_in z p2 (-1) 9999999999), .ref (E.2.2 19)]) rfl ?_
        refine lv_if_ne (tgt := 48) hx hb dX6_section_41 (by decide) (fun h7 => ?_) (fun h7 => ?_)
        · refine lv_aload_n hx hb dX6_section_48 rfl (lv_at hl 0 rfl) ?_
          refine k_get hx hb hts inlX6 hown hW 19 (by omega) k_c19 rfl 1 (by decide) lf_RX6_92 rfl (v := .int (z.1 19 1)) rfl dX6_section_49 ?_
          refine lv_bipush (v := 12) hx hb dX6_section_52 (by decide) ?_
          refine lv_icmp_ne (tgt := 61) hx hb dX6_section_54 (by decide) (fun h8 => ?_) (fun h8 => ?_)
          · refine lv_iconst (v := 0) hx hb dX6_section_61 (by decide) ?_
            refine k_putI hx hb hts inlX6 tyX6_ok nmX6 hown hW 19 (by omega) k_c19 rfl 0 (by decide) lf_RX6_88 rfl rfl (tyX6_ok 0 (by decide)) (Nat.le_of_ble_eq_true rfl) ks_X6_0 dX6_section_62 (fun H locs hW => ?_)
            refine lv_aload_n hx hb dX6_section_65 rfl (lv_at hl 0 rfl) ?_
            refine k_get hx hb hts inlX6 hown hW 19 (by omega) k_c19 rfl 0 (by decide) lf_RX6_88 rfl (v := .int 0) rfl dX6_section_66 ?_
            refine lv_if_le (tgt := 74) hx hb dX6_section_69 (by decide) (fun _ => ?_) (fun h9 => absurd h9 (by decide))
            refine lv_aload_n hx hb dX6_section_74 rfl (lv_at hl 0 rfl) ?_
            refine k_get hx hb hts inlX6 hown hW 19 (by omega) k_c19 rfl 2 (by decide) lf_RX6_7 rfl (v := .ref (E.2.2 20)) rfl dX6_section_75 ?_
            refine lv_aload_n hx hb dX6_section_78 rfl (lv_at hl 0 rfl) ?_
            refine k_get hx hb hts inlX6 hown hW 19 (by omega) k_c19 rfl 1 (by decide) lf_RX6_92 rfl (v := .int (z.1 19 1)) rfl dX6_section_79 ?_
            refine lv_iload_n hx hb dX6_section_82 rfl (lv_at hl 1 rfl) ?_
            refine k_iast hx hb hW 20 12 (by omega) k_c20 (by exact in12 (sz_ne (s12 hI) rfl (by assumption))) dX6_section_83 (fun H locs hW => ?_)
            refine lv_aload_n hx hb dX6_section_84 rfl (lv_at hl 0 rfl) ?_
            refine k_get hx hb hts inlX6 hown hW 19 (by omega) k_c19 rfl 3 (by decide) lf_RX6_13 rfl (v := .ref (E.2.2 21)) rfl dX6_section_85 ?_
            refine lv_aload_n hx hb dX6_section_88 rfl (lv_at hl 0 rfl) ?_
            refine k_get hx hb hts inlX6 hown hW 19 (by omega) k_c19 rfl 1 (by decide) lf_RX6_92 rfl (v := .int (z.1 19 1)) rfl dX6_section_89 ?_
            refine lv_lload_n hx hb dX6_section_92 rfl (lv_at hl 2 rfl) ?_
            refine k_last hx hb hW 21 12 (by omega) k_c21 (by exact in12 (sz_ne (s12 hI) rfl (by assumption))) dX6_section_93 (fun H locs hW => ?_)
            refine lv_aload_n hx hb dX6_section_94 rfl (lv_at hl 0 rfl) ?_
            refine k_get hx hb hts inlX6 hown hW 19 (by omega) k_c19 rfl 4 (by decide) lf_RX6_17 rfl (v := .ref (E.2.2 22)) rfl dX6_section_95 ?_
            refine lv_aload_n hx hb dX6_section_98 rfl (lv_at hl 0 rfl) ?_
            refine k_get hx hb hts inlX6 hown hW 19 (by omega) k_c19 rfl 1 (by decide) lf_RX6_92 rfl (v := .int (z.1 19 1)) rfl dX6_section_99 ?_
            refine lv_lload hx hb dX6_section_102 (lv_at hl 3 rfl) ?_
            refine k_last hx hb hW 22 12 (by omega) k_c22 (by exact in12 (sz_ne (s12 hI) rfl (by assumption))) dX6_section_104 (fun H locs hW => ?_)
            refine lv_aload_n hx hb dX6_section_105 rfl (lv_at hl 0 rfl) ?_
            refine k_get hx hb hts inlX6 hown hW 19 (by omega) k_c19 rfl 5 (by decide) lf_RX6_20 rfl (v := .ref (E.2.2 23)) rfl dX6_section_106 ?_
            refine lv_aload_n hx hb dX6_section_109 rfl (lv_at hl 0 rfl) ?_
            refine k_get hx hb hts inlX6 hown hW 19 (by omega) k_c19 rfl 1 (by decide) lf_RX6_92 rfl (v := .int (z.1 19 1)) rfl dX6_section_110 ?_
            refine lv_ldc2 (v := (-1)) hx hb hown (hts _ lc_RX6_105) dX6_section_113 ?_
            refine k_last hx hb hW 23 12 (by omega) k_c23 (by exact in12 (sz_ne (s12 hI) rfl (by assumption))) dX6_section_116 (fun H locs hW => ?_)
            refine lv_aload_n hx hb dX6_section_117 rfl (lv_at hl 0 rfl) ?_
            refine k_get hx hb hts inlX6 hown hW 19 (by omega) k_c19 rfl 8 (by decide) lf_RX6_30 rfl (v := .ref (E.2.2 26)) rfl dX6_section_118 ?_
            refine lv_iconst (v := 3) hx hb dX6_section_121 (by decide) ?_
            refine lv_aload_n hx hb dX6_section_122 rfl (lv_at hl 0 rfl) ?_
            refine k_get hx hb hts inlX6 hown hW 19 (by omega) k_c19 rfl 1 (by decide) lf_RX6_92 rfl (v := .int (z.1 19 1)) rfl dX6_section_123 ?_
            refine lv_imul hx hb dX6_section_126 ?_
            refine lv_iconst (v := 1) hx hb dX6_section_127 (by decide) ?_
            refine k_iast hx hb hW 26 36 (by omega) k_c26 (by exact ix0 (k := 3) (l := 12) rfl (sz_ne (s12 hI) rfl (by assumption)) (by decide) (by decide)) dX6_section_128 (fun H locs hW => ?_)
            refine lv_aload_n hx hb dX6_section_129 rfl (lv_at hl 0 rfl) ?_
            refine k_get hx hb hts inlX6 hown hW 19 (by omega) k_c19 rfl 8 (by decide) lf_RX6_30 rfl (v := .ref (E.2.2 26)) rfl dX6_section_130 ?_
            refine lv_iconst (v := 3) hx hb dX6_section_133 (by decide) ?_
            refine lv_aload_n hx hb dX6_section_134 rfl (lv_at hl 0 rfl) ?_
            refine k_get hx hb hts inlX6 hown hW 19 (by omega) k_c19 rfl 1 (by decide) lf_RX6_92 rfl (v := .int (z.1 19 1)) rfl dX6_section_135 ?_
            refine lv_imul hx hb dX6_section_138 ?_
            refine lv_iconst (v := 1) hx hb dX6_section_139 (by decide) ?_
            refine lv_iadd hx hb dX6_section_140 ?_
            refine lv_iconst (v := 2) hx hb dX6_section_141 (by decide) ?_
            refine k_iast hx hb hW 26 36 (by omega) k_c26 (by exact ix1 (k := 3) (l := 12) rfl (sz_ne (s12 hI) rfl (by assumption)) (by decide) (by decide)) dX6_section_142 (fun H locs hW => ?_)
            refine lv_aload_n hx hb dX6_section_143 rfl (lv_at hl 0 rfl) ?_
            refine k_get hx hb hts inlX6 hown hW 19 (by omega) k_c19 rfl 8 (by decide) lf_RX6_30 rfl (v := .ref (E.2.2 26)) rfl dX6_section_144 ?_
            refine lv_iconst (v := 3) hx hb dX6_section_147 (by decide) ?_
            refine lv_aload_n hx hb dX6_section_148 rfl (lv_at hl 0 rfl) ?_
            refine k_get hx hb hts inlX6 hown hW 19 (by omega) k_c19 rfl 1 (by decide) lf_RX6_92 rfl (v := .int (z.1 19 1)) rfl dX6_section_149 ?_
            refine lv_imul hx hb dX6_section_152 ?_
            refine lv_iconst (v := 2) hx hb dX6_section_153 (by decide) ?_
            refine lv_iadd hx hb dX6_section_154 ?_
            refine lv_iconst (v := 1) hx hb dX6_section_155 (by decide) ?_
            refine k_iast hx hb hW 26 36 (by omega) k_c26 (by exact ix1 (k := 3) (l := 12) rfl (sz_ne (s12 hI) rfl (by assumption)) (by decide) (by decide)) dX6_section_156 (fun H locs hW => ?_)
            refine lv_aload_n hx hb dX6_section_157 rfl (lv_at hl 0 rfl) ?_
            refine lv_dup hx hb dX6_section_158 rfl ?_
            refine k_get hx hb hts inlX6 hown hW 19 (by omega) k_c19 rfl 1 (by decide) lf_RX6_92 rfl (v := .int (z.1 19 1)) rfl dX6_section_159 ?_
            refine lv_iconst (v := 1) hx hb dX6_section_162 (by decide) ?_
            refine lv_iadd hx hb dX6_section_163 ?_
            refine k_putI hx hb hts inlX6 tyX6_ok nmX6 hown hW 19 (by omega) k_c19 rfl 1 (by decide) lf_RX6_92 rfl rfl (tyX6_ok 1 (by decide)) (Nat.le_of_ble_eq_true rfl) ks_X6_1 dX6_section_164 (fun H locs hW => ?_)
            refine lv_aload_n hx hb dX6_section_167 rfl (lv_at hl 0 rfl) ?_
            refine k_get hx hb hts inlX6 hown hW 19 (by omega) k_c19 rfl 1 (by decide) lf_RX6_92 rfl (v := .int ((z.1 19 1) + 1)) rfl dX6_section_168 ?_
            refine lv_iconst (v := 1) hx hb dX6_section_171 (by decide) ?_
            refine lv_isub hx hb dX6_section_172 ?_
            have hR : (f_X6_section z p0 p1 p2) = (((z.1 19 1) + 1) - 1, (uI (uI (uI (uI (uJ (uJ (uJ (uI (uI z 19 0 0) 20 ((z.1 19 1).toNatClampNeg) p0) 21 ((z.1 19 1).toNatClampNeg) p1) 22 ((z.1 19 1).toNatClampNeg) p2) 23 ((z.1 19 1).toNatClampNeg) (-1)) 26 ((3 * (z.1 19 1)).toNatClampNeg) 1) 26 (((3 * (z.1 19 1)) + 1).toNatClampNeg) 2) 26 (((3 * (z.1 19 1)) + 2).toNatClampNeg) 1) 19 1 ((z.1 19 1) + 1))) := (by simp only [f_X6_section, if_neg h1, if_neg h3, if_neg h5, if_neg h7, if_neg h8])
            exact k_iret hx hb hr rfl hlocks hW ⟨by rw [hR], by rw [hR]⟩ dX6_section_173
          · refine lv_iconst (v := 2) hx hb dX6_section_57 (by decide) ?_
            refine lv_goto (tgt := 62) hx hb dX6_section_58 (by decide) ?_
            refine k_putI hx hb hts inlX6 tyX6_ok nmX6 hown hW 19 (by omega) k_c19 rfl 0 (by decide) lf_RX6_88 rfl rfl (tyX6_ok 0 (by decide)) (Nat.le_of_ble_eq_true rfl) ks_X6_0 dX6_section_62 (fun H locs hW => ?_)
            refine lv_aload_n hx hb dX6_section_65 rfl (lv_at hl 0 rfl) ?_
            refine k_get hx hb hts inlX6 hown hW 19 (by omega) k_c19 rfl 0 (by decide) lf_RX6_88 rfl (v := .int 2) rfl dX6_section_66 ?_
            refine lv_if_le (tgt := 74) hx hb dX6_section_69 (by decide) (fun h10 => absurd h10 (by decide)) (fun _ => ?_)
            refine lv_iconst (v := 0) hx hb dX6_section_72 (by decide) ?_
            have hR : (f_X6_section z p0 p1 p2) = (0, (uI z 19 0 2)) := (by simp only [f_X6_section, if_neg h1, if_neg h3, if_neg h5, if_neg h7, if_pos h8])
            exact k_iret hx hb hr rfl hlocks hW ⟨by rw [hR], by rw [hR]⟩ dX6_section_73
        · refine lv_iconst (v := 1) hx hb dX6_section_44 (by decide) ?_
          refine lv_goto (tgt := 62) hx hb dX6_section_45 (by decide) ?_
          refine k_putI hx hb hts inlX6 tyX6_ok nmX6 hown hW 19 (by omega) k_c19 rfl 0 (by decide) lf_RX6_88 rfl rfl (tyX6_ok 0 (by decide)) (Nat.le_of_ble_eq_true rfl) ks_X6_0 dX6_section_62 (fun H locs hW => ?_)
          refine lv_aload_n hx hb dX6_section_65 rfl (lv_at hl 0 rfl) ?_
          refine k_get hx hb hts inlX6 hown hW 19 (by omega) k_c19 rfl 0 (by decide) lf_RX6_88 rfl (v := .int 1) rfl dX6_section_66 ?_
          refine lv_if_le (tgt := 74) hx hb dX6_section_69 (by decide) (fun h11 => absurd h11 (by decide)) (fun _ => ?_)
          refine lv_iconst (v := 0) hx hb dX6_section_72 (by decide) ?_
          have hR : (f_X6_section z p0 p1 p2) = (0, (uI z 19 0 1)) := (by simp only [f_X6_section, if_neg h1, if_neg h3, if_neg h5, if_pos h7])
          exact k_iret hx hb hr rfl hlocks hW ⟨by rw [hR], by rw [hR]⟩ dX6_section_73
