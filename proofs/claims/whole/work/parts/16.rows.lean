def f_X4_open (z : Sg) (c : Nat) : Sg :=
  let z2 := (f_X4_step (uI (uO z 18 0 (some c)) 18 2 0))
  z2
set_option maxHeartbeats 4000000 in
set_option maxRecDepth 100000 in
theorem c_X4_open (l : Launch) (E : Ev) (S sz : Nat) (z : Sg) (c : Nat) (lc : c < S) (hI : k_I S z) : k_Met l yX4_open cX4_open 2 none ({ frames := 2, cells := 0, slots := 0, locals := 42 }) [.ref (E.2.2 18), .ref (E.2.2 (46 + 6 * c))] E (46 + 6 * S) z sz (fun v u => v = none ∧ u = (f_X4_open z c)) 0 0 := by
  refine k_body (by decide +kernel) (Nat.le_of_ble_eq_true rfl) ?_
  intro p e s m below meth cd ls hx hb hr hml hown hlocks hts hW hl
  have hl : lv_has ls 2 [(0, .ref (E.2.2 18)), (1, .ref (E.2.2 (46 + 6 * c)))] := hl
  refine lv_aload_n hx hb dX4_open_0 rfl (lv_at hl 0 rfl) ?_
  refine lv_aload_n hx hb dX4_open_1 rfl (lv_at hl 1 rfl) ?_
  refine k_putO (x := c) hx hb hts inlX4 tyX4_ok nmX4 hown hW 18 (by omega) k_c18 rfl 0 (by decide) lf_RX4_9 rfl rfl (tyX4_ok 0 (by decide)) (Nat.le_of_ble_eq_true rfl) ks_X4_0 dX4_open_2 (fun H locs hW => ?_)
  refine lv_aload_n hx hb dX4_open_5 rfl (lv_at hl 0 rfl) ?_
  refine lv_iconst (v := 0) hx hb dX4_open_6 (by decide) ?_
  refine k_putI hx hb hts inlX4 tyX4_ok nmX4 hown hW 18 (by omega) k_c18 rfl 2 (by decide) lf_RX4_15 rfl rfl (tyX4_ok 2 (by decide)) (Nat.le_of_ble_eq_true rfl) ks_X4_2 dX4_open_7 (fun H locs hW => ?_)
  refine lv_aload_n hx hb dX4_open_10 rfl (lv_at hl 0 rfl) ?_
  refine k_callV (As := []) (rest := []) hx hb hml hown hts (c_X4_step l E S _ (uI (uO z 18 0 (some c)) 18 2 0) (k_I_e (by decide) (by decide) (k_I_tab lc hI))) lm_RX4_19 ln_X4_step le_X4_step li_X4 lk_X4_step (show k_nm yX4_step 0 by decide +kernel) ⟨Nat.le_of_ble_eq_true rfl, Nat.le_of_ble_eq_true rfl⟩ rfl rfl ⟨Nat.le_of_ble_eq_true rfl, Nat.le_of_ble_eq_true rfl⟩ hl.1 rfl (Nat.le_of_ble_eq_true rfl) dX4_open_11 (by omega) (k_c18 _ _ _) rfl hW (fun v z1 H locs hp hW => ?_)
  obtain ⟨rfl, hz1⟩ := hp
  rw [hz1] at hW
  obtain ⟨z2, ez2⟩ : ∃ y9 : Sg, y9 = (f_X4_step (uI (uO z 18 0 (some c)) 18 2 0)) := ⟨_, rfl⟩
  rw [← ez2] at hW
  have Jz2 : k_I S z2 := by rw [ez2]; exact I_step (k_I_e (by decide) (by decide) (k_I_tab lc hI))
  refine W.eq (g2 := F0 m 14 ls []) rfl ?_
  have hR : (f_X4_open z c) = z2 := (by subst ez2; simp only [f_X4_open])
  exact k_vret hx hb hr hlocks hW ⟨rfl, by rw [hR]⟩ dX4_open_14

theorem I_open {S c : Nat} {z : Sg} (lc : c < S) (hI : k_I S z) : k_I S (f_X4_open z c) := I_step (k_I_e (by decide) (by decide) (k_I_tab lc hI))

def f_X2_refuse (z : Sg) (p0 : Int32) : Int32 × Sg :=
  let z2 := (f_X1_tell z 4 (z.1 17 2) ((p0 : Int32).toInt64))
  (0, z2)
set_option maxHeartbeats 4000000 in
set_option maxRecDepth 100000 in
theorem c_X2_refuse (l : Launch) (E : Ev) (S sz : Nat) (z : Sg) (p0 : Int32) (hI : k_I S z) : k_Met l yX2_refuse cX2_refuse 2 (some .boolean) ({ frames := 1, cells := 0, slots := 0, locals := 24 }) [.ref (E.2.2 17), .int p0] E (46 + 6 * S) z sz (fun v u => v = some (.int ((f_X2_refuse z p0).1)) ∧ u = (f_X2_refuse z p0).2) 0 0 := by
  refine k_body (by decide +kernel) (Nat.le_of_ble_eq_true rfl) ?_
  intro p e s m below meth cd ls hx hb hr hml hown hlocks hts hW hl
  have hl : lv_has ls 2 [(0, .ref (E.2.2 17)), (1, .int p0)] := hl
  refine lv_aload_n hx hb dX2_refuse_0 rfl (lv_at hl 0 rfl) ?_
  refine k_get hx hb hts inlX2 hown hW 17 (by omega) k_c17 rfl 0 (by decide) lf_RX2_9 rfl (v := .ref (E.2.2 6)) rfl dX2_refuse_1 ?_
  refine lv_iconst (v := 4) hx hb dX2_refuse_4 (by decide) ?_
  refine lv_aload_n hx hb dX2_refuse_5 rfl (lv_at hl 0 rfl) ?_
  refine k_get hx hb hts inlX2 hown hW 17 (by omega) k_c17 rfl 2 (by decide) lf_RX2_28 rfl (v := .int (z.1 17 2)) rfl dX2_refuse_6 ?_
  refine lv_iload_n hx hb dX2_refuse_9 rfl (lv_at hl 1 rfl) ?_
  refine lv_i2l (v := (p0 : Int32).toInt64) hx hb dX2_refuse_10 rfl ?_
  refine k_callV (As := [.int 4, .int (z.1 17 2), .long ((p0 : Int32).toInt64)]) (rest := []) hx hb hml hown hts (c_X1_tell l E S _ z 4 (z.1 17 2) ((p0 : Int32).toInt64) hI) lm_RX2_104 ln_X1_tell le_X1_tell li_X1 lk_X1_tell (show k_nm yX1_tell 3 by decide +kernel) ⟨Nat.le_of_ble_eq_true rfl, Nat.le_of_ble_eq_true rfl⟩ rfl rfl ⟨Nat.le_of_ble_eq_true rfl, Nat.le_of_ble_eq_true rfl⟩ hl.1 rfl (Nat.le_of_ble_eq_true rfl) dX2_refuse_11 (by omega) (k_c6 _ _ _) rfl hW (fun v z1 H locs hp hW => ?_)
  obtain ⟨rfl, hz1⟩ := hp
  rw [hz1] at hW
  obtain ⟨z2, ez2⟩ : ∃ y9 : Sg, y9 = (f_X1_tell z 4 (z.1 17 2) ((p0 : Int32).toInt64)) := ⟨_, rfl⟩
  rw [← ez2] at hW
  have Jz2 : k_I S z2 := by rw [ez2]; exact I_tell hI
  refine W.eq (g2 := F0 m 14 ls []) rfl ?_
  refine lv_iconst (v := 0) hx hb dX2_refuse_14 (by decide) ?_
  have hR : (f_X2_refuse z p0) = (0, z2) := (by subst ez2; simp only [f_X2_refuse])
  exact k_iret hx hb hr rfl hlocks hW ⟨by rw [hR], by rw [hR]⟩ dX2_refuse_15

theorem I_refuse {S : Nat} {z : Sg} {a : Int32} (hI : k_I S z) : k_I S (f_X2_refuse z a).2 := I_tell hI
theorem ref0 {z : Sg} {a : Int32} : (f_X2_refuse z a).1 = 0 := rfl

def f_X2_isMoreToRead (z : Sg) : Int32 :=
  if (0 : Int64) < (z.2.1 17 4) then
    1
  else
    if (f_X4_atEnd z) = 0 then
      1
    else
      0
set_option maxHeartbeats 4000000 in
set_option maxRecDepth 100000 in
theorem c_X2_isMoreToRead (l : Launch) (E : Ev) (S sz : Nat) (z : Sg) : k_Met l yX2_isMoreToRead cX2_isMoreToRead 1 (some .boolean) ({ frames := 1, cells := 0, slots := 0, locals := 20 }) [.ref (E.2.2 17)] E (46 + 6 * S) z sz (fun v u => v = some (.int (f_X2_isMoreToRead z)) ∧ u = z) 0 0 := by
  refine k_body (by decide +kernel) (Nat.le_of_ble_eq_true rfl) ?_
  intro p e s m below meth cd ls hx hb hr hml hown hlocks hts hW hl
  have hl : lv_has ls 1 [(0, .ref (E.2.2 17))] := hl
  refine lv_aload_n hx hb dX2_isMoreToRead_0 rfl (lv_at hl 0 rfl) ?_
  refine k_get hx hb hts inlX2 hown hW 17 (by omega) k_c17 rfl 4 (by decide) lf_RX2_45 rfl (v := .long (z.2.1 17 4)) rfl dX2_isMoreToRead_1 ?_
  refine lv_lconst (v := 0) hx hb dX2_isMoreToRead_4 (by decide) ?_
  refine k_lif_gt (tgt := 19) hx hb dX2_isMoreToRead_5 dX2_isMoreToRead_6 (by decide) (fun h1 => ?_) (fun h1 => ?_)
  · refine lv_iconst (v := 1) hx hb dX2_isMoreToRead_19 (by decide) ?_
    refine lv_goto (tgt := 24) hx hb dX2_isMoreToRead_20 (by decide) ?_
    have hR : (f_X2_isMoreToRead z) = 1 := (by simp only [f_X2_isMoreToRead, if_pos h1])
    exact k_iret hx hb hr rfl hlocks hW ⟨by rw [hR], rfl⟩ dX2_isMoreToRead_24
  · refine lv_aload_n hx hb dX2_isMoreToRead_9 rfl (lv_at hl 0 rfl) ?_
    refine k_get hx hb hts inlX2 hown hW 17 (by omega) k_c17 rfl 1 (by decide) lf_RX2_18 rfl (v := .ref (E.2.2 18)) rfl dX2_isMoreToRead_10 ?_
    refine k_callV (As := []) (rest := []) hx hb hml hown hts (c_X4_atEnd l E S _ z) lm_RX2_67 ln_X4_atEnd le_X4_atEnd li_X4 lk_X4_atEnd (show k_nm yX4_atEnd 0 by decide +kernel) ⟨Nat.le_of_ble_eq_true rfl, Nat.le_of_ble_eq_true rfl⟩ rfl rfl ⟨Nat.le_of_ble_eq_true rfl, Nat.le_of_ble_eq_true rfl⟩ hl.1 rfl (Nat.le_of_ble_eq_true rfl) dX2_isMoreToRead_13 (by omega) (k_c18 _ _ _) rfl hW (fun v z1 H locs hp hW => ?_)
    obtain ⟨rfl, hz1⟩ := hp
    rw [hz1] at hW
    refine W.eq (g2 := F0 m 16 ls [.int (f_X4_atEnd z)]) rfl ?_
    refine lv_if_ne (tgt := 23) hx hb dX2_isMoreToRead_16 (by decide) (fun h2 => ?_) (fun h2 => ?_)
    · refine lv_iconst (v := 0) hx hb dX2_isMoreToRead_23 (by decide) ?_
      have hR : (f_X2_isMoreToRead z) = 0 := (by simp only [f_X2_isMoreToRead, if_neg h1, if_neg h2])
      exact k_iret hx hb hr rfl hlocks hW ⟨by rw [hR], rfl⟩ dX2_isMoreToRead_24
    · refine lv_iconst (v := 1) hx hb dX2_isMoreToRead_19 (by decide) ?_
      refine lv_goto (tgt := 24) hx hb dX2_isMoreToRead_20 (by decide) ?_
      have hR : (f_X2_isMoreToRead z) = 1 := (by simp only [f_X2_isMoreToRead, if_neg h1, if_pos h2])
      exact k_iret hx hb hr rfl hlocks hW ⟨by rw [hR], rfl⟩ dX2_isMoreToRead_24

def f_X2_kindBySign (z : Sg) : Int32 :=
  if (f_X4_isOnly z 110) = 0 then
    if (f_X4_isOnly z 102) = 0 then
      0
    else
      1
  else
    2
set_option maxHeartbeats 4000000 in
set_option maxRecDepth 100000 in
theorem c_X2_kindBySign (l : Launch) (E : Ev) (S sz : Nat) (z : Sg) (hI : k_I S z) : k_Met l yX2_kindBySign cX2_kindBySign 1 (some .int) ({ frames := 2, cells := 0, slots := 0, locals := 42 }) [.ref (E.2.2 17)] E (46 + 6 * S) z sz (fun v u => v = some (.int (f_X2_kindBySign z)) ∧ u = z) 0 0 := by
  refine k_body (by decide +kernel) (Nat.le_of_ble_eq_true rfl) ?_
  intro p e s m below meth cd ls hx hb hr hml hown hlocks hts hW hl
  have hl : lv_has ls 1 [(0, .ref (E.2.2 17))] := hl
  refine lv_aload_n hx hb dX2_kindBySign_0 rfl (lv_at hl 0 rfl) ?_
  refine k_get hx hb hts inlX2 hown hW 17 (by omega) k_c17 rfl 1 (by decide) lf_RX2_18 rfl (v := .ref (E.2.2 18)) rfl dX2_kindBySign_1 ?_
  refine lv_bipush (v := 110) hx hb dX2_kindBySign_4 (by decide) ?_
  refine k_callV (As := [.int 110]) (rest := []) hx hb hml hown hts (c_X4_isOnly l E S _ z 110 hI) lm_RX2_99 ln_X4_isOnly le_X4_isOnly li_X4 lk_X4_isOnly (show k_nm yX4_isOnly 1 by decide +kernel) ⟨Nat.le_of_ble_eq_true rfl, Nat.le_of_ble_eq_true rfl⟩ rfl rfl ⟨Nat.le_of_ble_eq_true rfl, Nat.le_of_ble_eq_true rfl⟩ hl.1 rfl (Nat.le_of_ble_eq_true rfl) dX2_kindBySign_6 (by omega) (k_c18 _ _ _) rfl hW (fun v z1 H locs hp hW => ?_)
  obtain ⟨rfl, hz1⟩ := hp
  rw [hz1] at hW
  refine W.eq (g2 := F0 m 9 ls [.int (f_X4_isOnly z 110)]) rfl ?_
  refine lv_if_eq (tgt := 14) hx hb dX2_kindBySign_9 (by decide) (fun h1 => ?_) (fun h1 => ?_)
  · refine lv_aload_n hx hb dX2_kindBySign_14 rfl (lv_at hl 0 rfl) ?_
    refine k_get hx hb hts inlX2 hown hW 17 (by omega) k_c17 rfl 1 (by decide) lf_RX2_18 rfl (v := .ref (E.2.2 18)) rfl dX2_kindBySign_15 ?_
    refine lv_bipush (v := 102) hx hb dX2_kindBySign_18 (by decide) ?_
    refine k_callV (As := [.int 102]) (rest := []) hx hb hml hown hts (c_X4_isOnly l E S _ z 102 hI) lm_RX2_99 ln_X4_isOnly le_X4_isOnly li_X4 lk_X4_isOnly (show k_nm yX4_isOnly 1 by decide +kernel) ⟨Nat.le_of_ble_eq_true rfl, Nat.le_of_ble_eq_true rfl⟩ rfl rfl ⟨Nat.le_of_ble_eq_true rfl, Nat.le_of_ble_eq_true rfl⟩ hl.1 rfl (Nat.le_of_ble_eq_true rfl) dX2_kindBySign_20 (by omega) (k_c18 _ _ _) rfl hW (fun v z1 H locs hp hW => ?_)
    obtain ⟨rfl, hz1⟩ := hp
    rw [hz1] at hW
    refine W.eq (g2 := F0 m 23 ls [.int (f_X4_isOnly z 102)]) rfl ?_
    refine lv_if_eq (tgt := 30) hx hb dX2_kindBySign_23 (by decide) (fun h2 => ?_) (fun h2 => ?_)
    · refine lv_iconst (v := 0) hx hb dX2_kindBySign_30 (by decide) ?_
      have hR : (f_X2_kindBySign z) = 0 := (by simp only [f_X2_kindBySign, if_pos h1, if_pos h2])
      exact k_iret hx hb hr rfl hlocks hW ⟨by rw [hR], rfl⟩ dX2_kindBySign_31
    · refine lv_iconst (v := 1) hx hb dX2_kindBySign_26 (by decide) ?_
      refine lv_goto (tgt := 31) hx hb dX2_kindBySign_27 (by decide) ?_
      have hR : (f_X2_kindBySign z) = 1 := (by simp only [f_X2_kindBySign, if_pos h1, if_neg h2])
      exact k_iret hx hb hr rfl hlocks hW ⟨by rw [hR], rfl⟩ dX2_kindBySign_31
  · refine lv_iconst (v := 2) hx hb dX2_kindBySign_12 (by decide) ?_
    have hR : (f_X2_kindBySign z) = 2 := (by simp only [f_X2_kindBySign, if_neg h1])
    exact k_iret hx hb hr rfl hlocks hW ⟨by rw [hR], rfl⟩ dX2_kindBySign_13

def f_X2_takeBeginning (z : Sg) : Int32 × Sg :=
  if (0 : Int64) < (z.2.1 17 4) then
    let z3 := (f_X2_refuse z (z.1 17 5)).2
    ((f_X2_refuse z (z.1 17 5)).1, z3)
  else
    if (z.2.1 17 7) ≤ 100 then
      (1, (uJ (uJ z 17 3 (z.2.1 17 6)) 17 4 (z.2.1 17 7)))
    else
      let z6 := (f_X2_refuse z (z.1 17 5)).2
      ((f_X2_refuse z (z.1 17 5)).1, z6)
set_option maxHeartbeats 4000000 in
set_option maxRecDepth 100000 in
theorem c_X2_takeBeginning (l : Launch) (E : Ev) (S sz : Nat) (z : Sg) (hI : k_I S z) : k_Met l yX2_takeBeginning cX2_takeBeginning 1 (some .boolean) ({ frames := 2, cells := 0, slots := 0, locals := 45 }) [.ref (E.2.2 17)] E (46 + 6 * S) z sz (fun v u => v = some (.int ((f_X2_takeBeginning z).1)) ∧ u = (f_X2_takeBeginning z).2) 0 0 := by
  refine k_body (by decide +kernel) (Nat.le_of_ble_eq_true rfl) ?_
  intro p e s m below meth cd ls hx hb hr hml hown hlocks hts hW hl
  have hl : lv_has ls 1 [(0, .ref (E.2.2 17))] := hl
  refine lv_aload_n hx hb dX2_takeBeginning_0 rfl (lv_at hl 0 rfl) ?_
  refine k_get hx hb hts inlX2 hown hW 17 (by omega) k_c17 rfl 4 (by decide) lf_RX2_45 rfl (v := .long (z.2.1 17 4)) rfl dX2_takeBeginning_1 ?_
  refine lv_lconst (v := 0) hx hb dX2_takeBeginning_4 (by decide) ?_
  refine k_lif_gt (tgt := 20) hx hb dX2_takeBeginning_5 dX2_takeBeginning_6 (by decide) (fun h1 => ?_) (fun h1 => ?_)
  · refine lv_aload_n hx hb dX2_takeBeginning_20 rfl (lv_at hl 0 rfl) ?_
    refine lv_aload_n hx hb dX2_takeBeginning_21 rfl (lv_at hl 0 rfl) ?_
    refine k_get hx hb hts inlX2 hown hW 17 (by omega) k_c17 rfl 5 (by decide) lf_RX2_73 rfl (v := .int (z.1 17 5)) rfl dX2_takeBeginning_22 ?_
    refine k_callV (As := [.int (z.1 17 5)]) (rest := []) hx hb hml hown hts (c_X2_refuse l E S _ z (z.1 17 5) hI) lm_RX2_79 ln_X2_refuse le_X2_refuse li_X2 lk_X2_refuse (show k_nm yX2_refuse 1 by decide +kernel) ⟨Nat.le_of_ble_eq_true rfl, Nat.le_of_ble_eq_true rfl⟩ rfl rfl ⟨Nat.le_of_ble_eq_true rfl, Nat.le_of_ble_eq_true rfl⟩ hl.1 rfl (Nat.le_of_ble_eq_true rfl) dX2_takeBeginning_25 (by omega) (k_c17 _ _ _) rfl hW (fun v z1 H locs hp hW => ?_)
    obtain ⟨rfl, hz1⟩ := hp
    rw [hz1] at hW
    obtain ⟨z3, ez3⟩ : ∃ y9 : Sg, y9 = (f_X2_refuse z (z.1 17 5)).2 := ⟨_, rfl⟩
    rw [← ez3] at hW
    have Jz3 : k_I S z3 := by rw [ez3]; exact I_refuse hI
    refine W.eq (g2 := F0 m 28 ls [.int ((f_X2_refuse z (z.1 17 5)).1)]) rfl ?_
    have hR : (f_X2_takeBeginning z) = ((f_X2_refuse z (z.1 17 5)).1, z3) := (by subst ez3; simp only [f_X2_takeBeginning, if_pos h1])
    exact k_iret hx hb hr (by rw [ref0]; rfl) hlocks hW ⟨by rw [hR], by rw [hR]⟩ dX2_takeBeginning_28
  · refine lv_aload_n hx hb dX2_takeBeginning_9 rfl (lv_at hl 0 rfl) ?_
    refine k_get hx hb hts inlX2 hown hW 17 (by omega) k_c17 rfl 7 (by decide) lf_RX2_92 rfl (v := .long (z.2.1 17 7)) rfl dX2_takeBeginning_10 ?_
    refine lv_ldc2 (v := 100) hx hb hown (hts _ lc_RX2_102) dX2_takeBeginning_13 ?_
    refine k_lif_le (tgt := 29) hx hb dX2_takeBeginning_16 dX2_takeBeginning_17 (by decide) (fun h4 => ?_) (fun h4 => ?_)
    · refine lv_aload_n hx hb dX2_takeBeginning_29 rfl (lv_at hl 0 rfl) ?_
      refine lv_aload_n hx hb dX2_takeBeginning_30 rfl (lv_at hl 0 rfl) ?_
      refine k_get hx hb hts inlX2 hown hW 17 (by omega) k_c17 rfl 6 (by decide) lf_RX2_86 rfl (v := .long (z.2.1 17 6)) rfl dX2_takeBeginning_31 ?_
      refine k_putJ hx hb hts inlX2 tyX2_ok nmX2 hown hW 17 (by omega) k_c17 rfl 3 (by decide) lf_RX2_41 rfl rfl (tyX2_ok 3 (by decide)) (Nat.le_of_ble_eq_true rfl) ks_X2_3 dX2_takeBeginning_34 (fun H locs hW => ?_)
      refine lv_aload_n hx hb dX2_takeBeginning_37 rfl (lv_at hl 0 rfl) ?_
      refine lv_aload_n hx hb dX2_takeBeginning_38 rfl (lv_at hl 0 rfl) ?_
      refine k_get hx hb hts inlX2 hown hW 17 (by omega) k_c17 rfl 7 (by decide) lf_RX2_92 rfl (v := .long (z.2.1 17 7)) rfl dX2_takeBeginning_39 ?_
      refine k_putJ hx hb hts inlX2 tyX2_ok nmX2 hown hW 17 (by omega) k_c17 rfl 4 (by decide) lf_RX2_45 rfl rfl (tyX2_ok 4 (by decide)) (Nat.le_of_ble_eq_true rfl) ks_X2_4 dX2_takeBeginning_42 (fun H locs hW => ?_)
      refine lv_iconst (v := 1) hx hb dX2_takeBeginning_45 (by decide) ?_
      have hR : (f_X2_takeBeginning z) = (1, (uJ (uJ z 17 3 (z.2.1 17 6)) 17 4 (z.2.1 17 7))) := (by simp only [f_X2_takeBeginning, if_neg h1, if_pos h4])
      exact k_iret hx hb hr rfl hlocks hW ⟨by rw [hR], by rw [hR]⟩ dX2_takeBeginning_46
    · refine lv_aload_n hx hb dX2_takeBeginning_20 rfl (lv_at hl 0 rfl) ?_
      refine lv_aload_n hx hb dX2_takeBeginning_21 rfl (lv_at hl 0 rfl) ?_
      refine k_get hx hb hts inlX2 hown hW 17 (by omega) k_c17 rfl 5 (by decide) lf_RX2_73 rfl (v := .int (z.1 17 5)) rfl dX2_takeBeginning_22 ?_
      refine k_callV (As := [.int (z.1 17 5)]) (rest := []) hx hb hml hown hts (c_X2_refuse l E S _ z (z.1 17 5) hI) lm_RX2_79 ln_X2_refuse le_X2_refuse li_X2 lk_X2_refuse (show k_nm yX2_refuse 1 by decide +kernel) ⟨Nat.le_of_ble_eq_true rfl, Nat.le_of_ble_eq_true rfl⟩ rfl rfl ⟨Nat.le_of_ble_eq_true rfl, Nat.le_of_ble_eq_true rfl⟩ hl.1 rfl (Nat.le_of_ble_eq_true rfl) dX2_takeBeginning_25 (by omega) (k_c17 _ _ _) rfl hW (fun v z1 H locs hp hW => ?_)
      obtain ⟨rfl, hz1⟩ := hp
      rw [hz1] at hW
      obtain ⟨z6, ez6⟩ : ∃ y9 : Sg, y9 = (f_X2_refuse z (z.1 17 5)).2 := ⟨_, rfl⟩
      rw [← ez6] at hW
      have Jz6 : k_I S z6 := by rw [ez6]; exact I_refuse hI
      refine W.eq (g2 := F0 m 28 ls [.int ((f_X2_refuse z (z.1 17 5)).1)]) rfl ?_
      have hR : (f_X2_takeBeginning z) = ((f_X2_refuse z (z.1 17 5)).1, z6) := (by subst ez6; simp only [f_X2_takeBeginning, if_neg h1, if_neg h4])
      exact k_iret hx hb hr (by rw [ref0]; rfl) hlocks hW ⟨by rw [hR], by rw [hR]⟩ dX2_takeBeginning_28

def f_X2_takeTableRow (z : Sg) : Int32 × Sg :=
  if (z.2.1 17 4) = 0 then
    let z12 := (f_X2_refuse z (z.1 17 5)).2
    ((f_X2_refuse z (z.1 17 5)).1, z12)
  else
    let z3 := (f_X4_step z)
    if (z3.1 18 1) = (z3.1 17 5) + 20 then
      let z6 := (f_X1_takeRow z3 (z3.2.1 17 3) (z3.1 17 8) (z3.2.1 17 6) (z3.2.1 17 7))
      (1, (uJ (uJ z6 17 3 ((z6.2.1 17 3) + 1)) 17 4 ((z6.2.1 17 4) - 1)))
    else
      let z8 := (f_X1_tell z3 3 (z3.1 17 2) (((z3.1 17 5) : Int32).toInt64))
      let z10 := (f_X1_takeRow z8 (z8.2.1 17 3) (z8.1 17 8) (z8.2.1 17 6) (z8.2.1 17 7))
      (1, (uJ (uJ z10 17 3 ((z10.2.1 17 3) + 1)) 17 4 ((z10.2.1 17 4) - 1)))
set_option maxHeartbeats 4000000 in
set_option maxRecDepth 100000 in
theorem c_X2_takeTableRow (l : Launch) (E : Ev) (S sz : Nat) (z : Sg) (hI : k_I S z) : k_Met l yX2_takeTableRow cX2_takeTableRow 1 (some .boolean) ({ frames := 2, cells := 0, slots := 0, locals := 49 }) [.ref (E.2.2 17)] E (46 + 6 * S) z sz (fun v u => v = some (.int ((f_X2_takeTableRow z).1)) ∧ u = (f_X2_takeTableRow z).2) 0 0 := by
  refine k_body (by decide +kernel) (Nat.le_of_ble_eq_true rfl) ?_
  intro p e s m below meth cd ls hx hb hr hml hown hlocks hts hW hl
  have hl : lv_has ls 1 [(0, .ref (E.2.2 17))] := hl
  refine lv_aload_n hx hb dX2_takeTableRow_0 rfl (lv_at hl 0 rfl) ?_
  refine k_get hx hb hts inlX2 hown hW 17 (by omega) k_c17 rfl 4 (by decide) lf_RX2_45 rfl (v := .long (z.2.1 17 4)) rfl dX2_takeTableRow_1 ?_
  refine lv_lconst (v := 0) hx hb dX2_takeTableRow_4 (by decide) ?_
  refine k_lif_ne (tgt := 18) hx hb dX2_takeTableRow_5 dX2_takeTableRow_6 (by decide) (fun h1 => ?_) (fun h1 => ?_)
  · refine lv_aload_n hx hb dX2_takeTableRow_18 rfl (lv_at hl 0 rfl) ?_
    refine k_get hx hb hts inlX2 hown hW 17 (by omega) k_c17 rfl 1 (by decide) lf_RX2_18 rfl (v := .ref (E.2.2 18)) rfl dX2_takeTableRow_19 ?_
    refine k_callV (As := []) (rest := []) hx hb hml hown hts (c_X4_step l E S _ z hI) lm_RX2_89 ln_X4_step le_X4_step li_X4 lk_X4_step (show k_nm yX4_step 0 by decide +kernel) ⟨Nat.le_of_ble_eq_true rfl, Nat.le_of_ble_eq_true rfl⟩ rfl rfl ⟨Nat.le_of_ble_eq_true rfl, Nat.le_of_ble_eq_true rfl⟩ hl.1 rfl (Nat.le_of_ble_eq_true rfl) dX2_takeTableRow_22 (by omega) (k_c18 _ _ _) rfl hW (fun v z1 H locs hp hW => ?_)
    obtain ⟨rfl, hz1⟩ := hp
    rw [hz1] at hW
    obtain ⟨z3, ez3⟩ : ∃ y9 : Sg, y9 = (f_X4_step z) := ⟨_, rfl⟩
    rw [← ez3] at hW
    have Jz3 : k_I S z3 := by rw [ez3]; exact I_step hI
    refine W.eq (g2 := F0 m 25 ls []) rfl ?_
    refine lv_aload_n hx hb dX2_takeTableRow_25 rfl (lv_at hl 0 rfl) ?_
    refine k_get hx hb hts inlX2 hown hW 17 (by omega) k_c17 rfl 1 (by decide) lf_RX2_18 rfl (v := .ref (E.2.2 18)) rfl dX2_takeTableRow_26 ?_
    refine k_get hx hb hts inlX4 hown hW 18 (by omega) k_c18 rfl 1 (by decide) lf_RX2_70 rfl (v := .int (z3.1 18 1)) rfl dX2_takeTableRow_29 ?_
    refine lv_aload_n hx hb dX2_takeTableRow_32 rfl (lv_at hl 0 rfl) ?_
    refine k_get hx hb hts inlX2 hown hW 17 (by omega) k_c17 rfl 5 (by decide) lf_RX2_73 rfl (v := .int (z3.1 17 5)) rfl dX2_takeTableRow_33 ?_
    refine lv_bipush (v := 20) hx hb dX2_takeTableRow_36 (by decide) ?_
    refine lv_iadd hx hb dX2_takeTableRow_38 ?_
    refine lv_icmp_eq (tgt := 59) hx hb dX2_takeTableRow_39 (by decide) (fun h4 => ?_) (fun h4 => ?_)
    · refine lv_aload_n hx hb dX2_takeTableRow_59 rfl (lv_at hl 0 rfl) ?_
      refine k_get hx hb hts inlX2 hown hW 17 (by omega) k_c17 rfl 0 (by decide) lf_RX2_9 rfl (v := .ref (E.2.2 6)) rfl dX2_takeTableRow_60 ?_
      refine lv_aload_n hx hb dX2_takeTableRow_63 rfl (lv_at hl 0 rfl) ?_
      refine k_get hx hb hts inlX2 hown hW 17 (by omega) k_c17 rfl 3 (by decide) lf_RX2_41 rfl (v := .long (z3.2.1 17 3)) rfl dX2_takeTableRow_64 ?_
      refine lv_aload_n hx hb dX2_takeTableRow_67 rfl (lv_at hl 0 rfl) ?_
      refine k_get hx hb hts inlX2 hown hW 17 (by omega) k_c17 rfl 8 (by decide) lf_RX2_58 rfl (v := .int (z3.1 17 8)) rfl dX2_takeTableRow_68 ?_
      refine lv_aload_n hx hb dX2_takeTableRow_71 rfl (lv_at hl 0 rfl) ?_
      refine k_get hx hb hts inlX2 hown hW 17 (by omega) k_c17 rfl 6 (by decide) lf_RX2_86 rfl (v := .long (z3.2.1 17 6)) rfl dX2_takeTableRow_72 ?_
      refine lv_aload_n hx hb dX2_takeTableRow_75 rfl (lv_at hl 0 rfl) ?_
      refine k_get hx hb hts inlX2 hown hW 17 (by omega) k_c17 rfl 7 (by decide) lf_RX2_92 rfl (v := .long (z3.2.1 17 7)) rfl dX2_takeTableRow_76 ?_
      refine k_callV (As := [.long (z3.2.1 17 3), .int (z3.1 17 8), .long (z3.2.1 17 6), .long (z3.2.1 17 7)]) (rest := []) hx hb hml hown hts (c_X1_takeRow l E S _ z3 (z3.2.1 17 3) (z3.1 17 8) (z3.2.1 17 6) (z3.2.1 17 7) Jz3) lm_RX2_110 ln_X1_takeRow le_X1_takeRow li_X1 lk_X1_takeRow (show k_nm yX1_takeRow 4 by decide +kernel) ⟨Nat.le_of_ble_eq_true rfl, Nat.le_of_ble_eq_true rfl⟩ rfl rfl ⟨Nat.le_of_ble_eq_true rfl, Nat.le_of_ble_eq_true rfl⟩ hl.1 rfl (Nat.le_of_ble_eq_true rfl) dX2_takeTableRow_79 (by omega) (k_c6 _ _ _) rfl hW (fun v z1 H locs hp hW => ?_)
      obtain ⟨rfl, hz1⟩ := hp
      rw [hz1] at hW
      obtain ⟨z6, ez6⟩ : ∃ y9 : Sg, y9 = (f_X1_takeRow z3 (z3.2.1 17 3) (z3.1 17 8) (z3.2.1 17 6) (z3.2.1 17 7)) := ⟨_, rfl⟩
      rw [← ez6] at hW
      have Jz6 : k_I S z6 := by rw [ez6]; exact I_takeRow Jz3
      refine W.eq (g2 := F0 m 82 ls []) rfl ?_
      refine lv_aload_n hx hb dX2_takeTableRow_82 rfl (lv_at hl 0 rfl) ?_
      refine lv_dup hx hb dX2_takeTableRow_83 rfl ?_
      refine k_get hx hb hts inlX2 hown hW 17 (by omega) k_c17 rfl 3 (by decide) lf_RX2_41 rfl (v := .long (z6.2.1 17 3)) rfl dX2_takeTableRow_84 ?_
      refine lv_lconst (v := 1) hx hb dX2_takeTableRow_87 (by decide) ?_
      refine lv_ladd hx hb dX2_takeTableRow_88 ?_
      refine k_putJ hx hb hts inlX2 tyX2_ok nmX2 hown hW 17 (by omega) k_c17 rfl 3 (by decide) lf_RX2_41 rfl rfl (tyX2_ok 3 (by decide)) (Nat.le_of_ble_eq_true rfl) ks_X2_3 dX2_takeTableRow_89 (fun H locs hW => ?_)
      refine lv_aload_n hx hb dX2_takeTableRow_92 rfl (lv_at hl 0 rfl) ?_
      refine lv_dup hx hb dX2_takeTableRow_93 rfl ?_
      refine k_get hx hb hts inlX2 hown hW 17 (by omega) k_c17 rfl 4 (by decide) lf_RX2_45 rfl (v := .long (z6.2.1 17 4)) rfl dX2_takeTableRow_94 ?_
      refine lv_lconst (v := 1) hx hb dX2_takeTableRow_97 (by decide) ?_
      refine lv_lsub hx hb dX2_takeTableRow_98 ?_
      refine k_putJ hx hb hts inlX2 tyX2_ok nmX2 hown hW 17 (by omega) k_c17 rfl 4 (by decide) lf_RX2_45 rfl rfl (tyX2_ok 4 (by decide)) (Nat.le_of_ble_eq_true rfl) ks_X2_4 dX2_takeTableRow_99 (fun H locs hW => ?_)
      refine lv_iconst (v := 1) hx hb dX2_takeTableRow_102 (by decide) ?_
      have hR : (f_X2_takeTableRow z) = (1, (uJ (uJ z6 17 3 ((z6.2.1 17 3) + 1)) 17 4 ((z6.2.1 17 4) - 1))) := (by subst ez6 ez3; simp only [f_X2_takeTableRow, if_neg h1, if_pos h4])
      exact k_iret hx hb hr rfl hlocks hW ⟨by rw [hR], by rw [hR]⟩ dX2_takeTableRow_103
    · refine lv_aload_n hx hb dX2_takeTableRow_42 rfl (lv_at hl 0 rfl) ?_
      refine k_get hx hb hts inlX2 hown hW 17 (by omega) k_c17 rfl 0 (by decide) lf_RX2_9 rfl (v := .ref (E.2.2 6)) rfl dX2_takeTableRow_43 ?_
      refine lv_iconst (v := 3) hx hb dX2_takeTableRow_46 (by decide) ?_
      refine lv_aload_n hx hb dX2_takeTableRow_47 rfl (lv_at hl 0 rfl) ?_
      refine k_get hx hb hts inlX2 hown hW 17 (by omega) k_c17 rfl 2 (by decide) lf_RX2_28 rfl (v := .int (z3.1 17 2)) rfl dX2_takeTableRow_48 ?_
      refine lv_aload_n hx hb dX2_takeTableRow_51 rfl (lv_at hl 0 rfl) ?_
      refine k_get hx hb hts inlX2 hown hW 17 (by omega) k_c17 rfl 5 (by decide) lf_RX2_73 rfl (v := .int (z3.1 17 5)) rfl dX2_takeTableRow_52 ?_
      refine lv_i2l (v := ((z3.1 17 5) : Int32).toInt64) hx hb dX2_takeTableRow_55 rfl ?_
      refine k_callV (As := [.int 3, .int (z3.1 17 2), .long (((z3.1 17 5) : Int32).toInt64)]) (rest := []) hx hb hml hown hts (c_X1_tell l E S _ z3 3 (z3.1 17 2) (((z3.1 17 5) : Int32).toInt64) Jz3) lm_RX2_104 ln_X1_tell le_X1_tell li_X1 lk_X1_tell (show k_nm yX1_tell 3 by decide +kernel) ⟨Nat.le_of_ble_eq_true rfl, Nat.le_of_ble_eq_true rfl⟩ rfl rfl ⟨Nat.le_of_ble_eq_true rfl, Nat.le_of_ble_eq_true rfl⟩ hl.1 rfl (Nat.le_of_ble_eq_true rfl) dX2_takeTableRow_56 (by omega) (k_c6 _ _ _) rfl hW (fun v z1 H locs hp hW => ?_)
      obtain ⟨rfl, hz1⟩ := hp
      rw [hz1] at hW
      obtain ⟨z8, ez8⟩ : ∃ y9 : Sg, y9 = (f_X1_tell z3 3 (z3.1 17 2) (((z3.1 17 5) : Int32).toInt64)) := ⟨_, rfl⟩
      rw [← ez8] at hW
      have Jz8 : k_I S z8 := by rw [ez8]; exact I_tell Jz3
      refine W.eq (g2 := F0 m 59 ls []) rfl ?_
      refine lv_aload_n hx hb dX2_takeTableRow_59 rfl (lv_at hl 0 rfl) ?_
      refine k_get hx hb hts inlX2 hown hW 17 (by omega) k_c17 rfl 0 (by decide) lf_RX2_9 rfl (v := .ref (E.2.2 6)) rfl dX2_takeTableRow_60 ?_
      refine lv_aload_n hx hb dX2_takeTableRow_63 rfl (lv_at hl 0 rfl) ?_
      refine k_get hx hb hts inlX2 hown hW 17 (by omega) k_c17 rfl 3 (by decide) lf_RX2_41 rfl (v := .long (z8.2.1 17 3)) rfl dX2_takeTableRow_64 ?_
      refine lv_aload_n hx hb dX2_takeTableRow_67 rfl (lv_at hl 0 rfl) ?_
      refine k_get hx hb hts inlX2 hown hW 17 (by omega) k_c17 rfl 8 (by decide) lf_RX2_58 rfl (v := .int (z8.1 17 8)) rfl dX2_takeTableRow_68 ?_
      refine lv_aload_n hx hb dX2_takeTableRow_71 rfl (lv_at hl 0 rfl) ?_
      refine k_get hx hb hts inlX2 hown hW 17 (by omega) k_c17 rfl 6 (by decide) lf_RX2_86 rfl (v := .long (z8.2.1 17 6)) rfl dX2_takeTableRow_72 ?_
      refine lv_aload_n hx hb dX2_takeTableRow_75 rfl (lv_at hl 0 rfl) ?_
      refine k_get hx hb hts inlX2 hown hW 17 (by omega) k_c17 rfl 7 (by decide) lf_RX2_92 rfl (v := .long (z8.2.1 17 7)) rfl dX2_takeTableRow_76 ?_
      refine k_callV (As := [.long (z8.2.1 17 3), .int (z8.1 17 8), .long (z8.2.1 17 6), .long (z8.2.1 17 7)]) (rest := []) hx hb hml hown hts (c_X1_takeRow l E S _ z8 (z8.2.1 17 3) (z8.1 17 8) (z8.2.1 17 6) (z8.2.1 17 7) Jz8) lm_RX2_110 ln_X1_takeRow le_X1_takeRow li_X1 lk_X1_takeRow (show k_nm yX1_takeRow 4 by decide +kernel) ⟨Nat.le_of_ble_eq_true rfl, Nat.le_of_ble_eq_true rfl⟩ rfl rfl ⟨Nat.le_of_ble_eq_true rfl, Nat.le_of_ble_eq_true rfl⟩ hl.1 rfl (Nat.le_of_ble_eq_true rfl) dX2_takeTableRow_79 (by omega) (k_c6 _ _ _) rfl hW (fun v z1 H locs hp hW => ?_)
      obtain ⟨rfl, hz1⟩ := hp
      rw [hz1] at hW
      obtain ⟨z10, ez10⟩ : ∃ y9 : Sg, y9 = (f_X1_takeRow z8 (z8.2.1 17 3) (z8.1 17 8) (z8.2.1 17 6) (z8.2.1 17 7)) := ⟨_, rfl⟩
      rw [← ez10] at hW
      have Jz10 : k_I S z10 := by rw [ez10]; exact I_takeRow Jz8
      refine W.eq (g2 := F0 m 82 ls []) rfl ?_
      refine lv_aload_n hx hb dX2_takeTableRow_82 rfl (lv_at hl 0 rfl) ?_
      refine lv_dup hx hb dX2_takeTableRow_83 rfl ?_
      refine k_get hx hb hts inlX2 hown hW 17 (by omega) k_c17 rfl 3 (by decide) lf_RX2_41 rfl (v := .long (z10.2.1 17 3)) rfl dX2_takeTableRow_84 ?_
      refine lv_lconst (v := 1) hx hb dX2_takeTableRow_87 (by decide) ?_
      refine lv_ladd hx hb dX2_takeTableRow_88 ?_
      refine k_putJ hx hb hts inlX2 tyX2_ok nmX2 hown hW 17 (by omega) k_c17 rfl 3 (by decide) lf_RX2_41 rfl rfl (tyX2_ok 3 (by decide)) (Nat.le_of_ble_eq_true rfl) ks_X2_3 dX2_takeTableRow_89 (fun H locs hW => ?_)
      refine lv_aload_n hx hb dX2_takeTableRow_92 rfl (lv_at hl 0 rfl) ?_
      refine lv_dup hx hb dX2_takeTableRow_93 rfl ?_
      refine k_get hx hb hts inlX2 hown hW 17 (by omega) k_c17 rfl 4 (by decide) lf_RX2_45 rfl (v := .long (z10.2.1 17 4)) rfl dX2_takeTableRow_94 ?_
      refine lv_lconst (v := 1) hx hb dX2_takeTableRow_97 (by decide) ?_
      refine lv_lsub hx hb dX2_takeTableRow_98 ?_
      refine k_putJ hx hb hts inlX2 tyX2_ok nmX2 hown hW 17 (by omega) k_c17 rfl 4 (by decide) lf_RX2_45 rfl rfl (tyX2_ok 4 (by decide)) (Nat.le_of_ble_eq_true rfl) ks_X2_4 dX2_takeTableRow_99 (fun H locs hW => ?_)
      refine lv_iconst (v := 1) hx hb dX2_takeTableRow_102 (by decide) ?_
      have hR : (f_X2_takeTableRow z) = (1, (uJ (uJ z10 17 3 ((z10.2.1 17 3) + 1)) 17 4 ((z10.2.1 17 4) - 1))) := (by subst ez10 ez8 ez3; simp only [f_X2_takeTableRow, if_neg h1, if_neg h4])
      exact k_iret hx hb hr rfl hlocks hW ⟨by rw [hR], by rw [hR]⟩ dX2_takeTableRow_103
  · refine lv_aload_n hx hb dX2_takeTableRow_9 rfl (lv_at hl 0 rfl) ?_
    refine lv_aload_n hx hb dX2_takeTableRow_10 rfl (lv_at hl 0 rfl) ?_
    refine k_get hx hb hts inlX2 hown hW 17 (by omega) k_c17 rfl 5 (by decide) lf_RX2_73 rfl (v := .int (z.1 17 5)) rfl dX2_takeTableRow_11 ?_
    refine k_callV (As := [.int (z.1 17 5)]) (rest := []) hx hb hml hown hts (c_X2_refuse l E S _ z (z.1 17 5) hI) lm_RX2_79 ln_X2_refuse le_X2_refuse li_X2 lk_X2_refuse (show k_nm yX2_refuse 1 by decide +kernel) ⟨Nat.le_of_ble_eq_true rfl, Nat.le_of_ble_eq_true rfl⟩ rfl rfl ⟨Nat.le_of_ble_eq_true rfl, Nat.le_of_ble_eq_true rfl⟩ hl.1 rfl (Nat.le_of_ble_eq_true rfl) dX2_takeTableRow_14 (by omega) (k_c17 _ _ _) rfl hW (fun v z1 H locs hp hW => ?_)
    obtain ⟨rfl, hz1⟩ := hp
    rw [hz1] at hW
    obtain ⟨z12, ez12⟩ : ∃ y9 : Sg, y9 = (f_X2_refuse z (z.1 17 5)).2 := ⟨_, rfl⟩
    rw [← ez12] at hW
    have Jz12 : k_I S z12 := by rw [ez12]; exact I_refuse hI
    refine W.eq (g2 := F0 m 17 ls [.int ((f_X2_refuse z (z.1 17 5)).1)]) rfl ?_
    have hR : (f_X2_takeTableRow z) = ((f_X2_refuse z (z.1 17 5)).1, z12) := (by subst ez12; simp only [f_X2_takeTableRow, if_pos h1])
    exact k_iret hx hb hr (by rw [ref0]; rfl) hlocks hW ⟨by rw [hR], by rw [hR]⟩ dX2_takeTableRow_17

def f_X2_scanPair (z : Sg) : Int32 × Sg :=
  if (f_X4_isNumber (uI z 17 5 (z.1 18 1))) = 0 then
    let z10 := (f_X2_refuse (uI z 17 5 (z.1 18 1)) (z.1 18 1)).2
    ((f_X2_refuse (uI z 17 5 (z.1 18 1)) (z.1 18 1)).1, z10)
  else
    let z3 := (f_X4_step (uJ (uI z 17 5 (z.1 18 1)) 17 6 (f_X4_number (uI z 17 5 (z.1 18 1)))))
    if (f_X4_isNumber z3) = 0 then
      let z8 := (f_X2_refuse z3 (z3.1 18 1)).2
      ((f_X2_refuse z3 (z3.1 18 1)).1, z8)
    else
      let z6 := (f_X4_step (uJ z3 17 7 (f_X4_number z3)))
      (1, (uI z6 17 8 (f_X2_kindBySign z6)))
set_option maxHeartbeats 4000000 in
set_option maxRecDepth 100000 in
theorem c_X2_scanPair (l : Launch) (E : Ev) (S sz : Nat) (z : Sg) (hI : k_I S z) : k_Met l yX2_scanPair cX2_scanPair 1 (some .boolean) ({ frames := 3, cells := 0, slots := 0, locals := 62 }) [.ref (E.2.2 17)] E (46 + 6 * S) z sz (fun v u => v = some (.int ((f_X2_scanPair z).1)) ∧ u = (f_X2_scanPair z).2) 0 0 := by
  refine k_body (by decide +kernel) (Nat.le_of_ble_eq_true rfl) ?_
  intro p e s m below meth cd ls hx hb hr hml hown hlocks hts hW hl
  have hl : lv_has ls 1 [(0, .ref (E.2.2 17))] := hl
  refine lv_aload_n hx hb dX2_scanPair_0 rfl (lv_at hl 0 rfl) ?_
  refine lv_aload_n hx hb dX2_scanPair_1 rfl (lv_at hl 0 rfl) ?_
  refine k_get hx hb hts inlX2 hown hW 17 (by omega) k_c17 rfl 1 (by decide) lf_RX2_18 rfl (v := .ref (E.2.2 18)) rfl dX2_scanPair_2 ?_
  refine k_get hx hb hts inlX4 hown hW 18 (by omega) k_c18 rfl 1 (by decide) lf_RX2_70 rfl (v := .int (z.1 18 1)) rfl dX2_scanPair_5 ?_
  refine k_putI hx hb hts inlX2 tyX2_ok nmX2 hown hW 17 (by omega) k_c17 rfl 5 (by decide) lf_RX2_73 rfl rfl (tyX2_ok 5 (by decide)) (Nat.le_of_ble_eq_true rfl) ks_X2_5 dX2_scanPair_8 (fun H locs hW => ?_)
  refine lv_aload_n hx hb dX2_scanPair_11 rfl (lv_at hl 0 rfl) ?_
  refine k_get hx hb hts inlX2 hown hW 17 (by omega) k_c17 rfl 1 (by decide) lf_RX2_18 rfl (v := .ref (E.2.2 18)) rfl dX2_scanPair_12 ?_
  refine k_callV (As := []) (rest := []) hx hb hml hown hts (c_X4_isNumber l E S _ (uI z 17 5 (z.1 18 1)) (k_I_u (by decide) hI)) lm_RX2_76 ln_X4_isNumber le_X4_isNumber li_X4 lk_X4_isNumber (show k_nm yX4_isNumber 0 by decide +kernel) ⟨Nat.le_of_ble_eq_true rfl, Nat.le_of_ble_eq_true rfl⟩ rfl rfl ⟨Nat.le_of_ble_eq_true rfl, Nat.le_of_ble_eq_true rfl⟩ hl.1 rfl (Nat.le_of_ble_eq_true rfl) dX2_scanPair_15 (by omega) (k_c18 _ _ _) rfl hW (fun v z1 H locs hp hW => ?_)
  obtain ⟨rfl, hz1⟩ := hp
  rw [hz1] at hW
  refine W.eq (g2 := F0 m 18 ls [.int (f_X4_isNumber (uI z 17 5 (z.1 18 1)))]) rfl ?_
  refine lv_if_ne (tgt := 33) hx hb dX2_scanPair_18 (by decide) (fun h1 => ?_) (fun h1 => ?_)
  · refine lv_aload_n hx hb dX2_scanPair_33 rfl (lv_at hl 0 rfl) ?_
    refine lv_aload_n hx hb dX2_scanPair_34 rfl (lv_at hl 0 rfl) ?_
    refine k_get hx hb hts inlX2 hown hW 17 (by omega) k_c17 rfl 1 (by decide) lf_RX2_18 rfl (v := .ref (E.2.2 18)) rfl dX2_scanPair_35 ?_
    refine k_callV (As := []) (rest := [.ref (E.2.2 17)]) hx hb hml hown hts (c_X4_number l E S _ (uI z 17 5 (z.1 18 1)) (k_I_u (by decide) hI)) lm_RX2_83 ln_X4_number le_X4_number li_X4 lk_X4_number (show k_nm yX4_number 0 by decide +kernel) ⟨Nat.le_of_ble_eq_true rfl, Nat.le_of_ble_eq_true rfl⟩ rfl rfl ⟨Nat.le_of_ble_eq_true rfl, Nat.le_of_ble_eq_true rfl⟩ hl.1 rfl (Nat.le_of_ble_eq_true rfl) dX2_scanPair_38 (by omega) (k_c18 _ _ _) rfl hW (fun v z1 H locs hp hW => ?_)
    obtain ⟨rfl, hz1⟩ := hp
    rw [hz1] at hW
    refine W.eq (g2 := F0 m 41 ls [.long (f_X4_number (uI z 17 5 (z.1 18 1))), .ref (E.2.2 17)]) rfl ?_
    refine k_putJ hx hb hts inlX2 tyX2_ok nmX2 hown hW 17 (by omega) k_c17 rfl 6 (by decide) lf_RX2_86 rfl rfl (tyX2_ok 6 (by decide)) (Nat.le_of_ble_eq_true rfl) ks_X2_6 dX2_scanPair_41 (fun H locs hW => ?_)
    refine lv_aload_n hx hb dX2_scanPair_44 rfl (lv_at hl 0 rfl) ?_
    refine k_get hx hb hts inlX2 hown hW 17 (by omega) k_c17 rfl 1 (by decide) lf_RX2_18 rfl (v := .ref (E.2.2 18)) rfl dX2_scanPair_45 ?_
    refine k_callV (As := []) (rest := []) hx hb hml hown hts (c_X4_step l E S _ (uJ (uI z 17 5 (z.1 18 1)) 17 6 (f_X4_number (uI z 17 5 (z.1 18 1)))) (k_I_uJ (k_I_u (by decide) hI))) lm_RX2_89 ln_X4_step le_X4_step li_X4 lk_X4_step (show k_nm yX4_step 0 by decide +kernel) ⟨Nat.le_of_ble_eq_true rfl, Nat.le_of_ble_eq_true rfl⟩ rfl rfl ⟨Nat.le_of_ble_eq_true rfl, Nat.le_of_ble_eq_true rfl⟩ hl.1 rfl (Nat.le_of_ble_eq_true rfl) dX2_scanPair_48 (by omega) (k_c18 _ _ _) rfl hW (fun v z1 H locs hp hW => ?_)
    obtain ⟨rfl, hz1⟩ := hp
    rw [hz1] at hW
    obtain ⟨z3, ez3⟩ : ∃ y9 : Sg, y9 = (f_X4_step (uJ (uI z 17 5 (z.1 18 1)) 17 6 (f_X4_number (uI z 17 5 (z.1 18 1))))) := ⟨_, rfl⟩
    rw [← ez3] at hW
    have Jz3 : k_I S z3 := by rw [ez3]; exact I_step (k_I_uJ (k_I_u (by decide) hI))
    refine W.eq (g2 := F0 m 51 ls []) rfl ?_
    refine lv_aload_n hx hb dX2_scanPair_51 rfl (lv_at hl 0 rfl) ?_
    refine k_get hx hb hts inlX2 hown hW 17 (by omega) k_c17 rfl 1 (by decide) lf_RX2_18 rfl (v := .ref (E.2.2 18)) rfl dX2_scanPair_52 ?_
    refine k_callV (As := []) (rest := []) hx hb hml hown hts (c_X4_isNumber l E S _ z3 Jz3) lm_RX2_76 ln_X4_isNumber le_X4_isNumber li_X4 lk_X4_isNumber (show k_nm yX4_isNumber 0 by decide +kernel) ⟨Nat.le_of_ble_eq_true rfl, Nat.le_of_ble_eq_true rfl⟩ rfl rfl ⟨Nat.le_of_ble_eq_true rfl, Nat.le_of_ble_eq_true rfl⟩ hl.1 rfl (Nat.le_of_ble_eq_true rfl) dX2_scanPair_55 (by omega) (k_c18 _ _ _) rfl hW (fun v z1 H locs hp hW => ?_)
    obtain ⟨rfl, hz1⟩ := hp
    rw [hz1] at hW
    refine W.eq (g2 := F0 m 58 ls [.int (f_X4_isNumber z3)]) rfl ?_
    refine lv_if_ne (tgt := 73) hx hb dX2_scanPair_58 (by decide) (fun h4 => ?_) (fun h4 => ?_)
    · refine lv_aload_n hx hb dX2_scanPair_73 rfl (lv_at hl 0 rfl) ?_
      refine lv_aload_n hx hb dX2_scanPair_74 rfl (lv_at hl 0 rfl) ?_
      refine k_get hx hb hts inlX2 hown hW 17 (by omega) k_c17 rfl 1 (by decide) lf_RX2_18 rfl (v := .ref (E.2.2 18)) rfl dX2_scanPair_75 ?_
      refine k_callV (As := []) (rest := [.ref (E.2.2 17)]) hx hb hml hown hts (c_X4_number l E S _ z3 Jz3) lm_RX2_83 ln_X4_number le_X4_number li_X4 lk_X4_number (show k_nm yX4_number 0 by decide +kernel) ⟨Nat.le_of_ble_eq_true rfl, Nat.le_of_ble_eq_true rfl⟩ rfl rfl ⟨Nat.le_of_ble_eq_true rfl, Nat.le_of_ble_eq_true rfl⟩ hl.1 rfl (Nat.le_of_ble_eq_true rfl) dX2_scanPair_78 (by omega) (k_c18 _ _ _) rfl hW (fun v z1 H locs hp hW => ?_)
      obtain ⟨rfl, hz1⟩ := hp
      rw [hz1] at hW
      refine W.eq (g2 := F0 m 81 ls [.long (f_X4_number z3), .ref (E.2.2 17)]) rfl ?_
      refine k_putJ hx hb hts inlX2 tyX2_ok nmX2 hown hW 17 (by omega) k_c17 rfl 7 (by decide) lf_RX2_92 rfl rfl (tyX2_ok 7 (by decide)) (Nat.le_of_ble_eq_true rfl) ks_X2_7 dX2_scanPair_81 (fun H locs hW => ?_)
      refine lv_aload_n hx hb dX2_scanPair_84 rfl (lv_at hl 0 rfl) ?_
      refine k_get hx hb hts inlX2 hown hW 17 (by omega) k_c17 rfl 1 (by decide) lf_RX2_18 rfl (v := .ref (E.2.2 18)) rfl dX2_scanPair_85 ?_
      refine k_callV (As := []) (rest := []) hx hb hml hown hts (c_X4_step l E S _ (uJ z3 17 7 (f_X4_number z3)) (k_I_uJ Jz3)) lm_RX2_89 ln_X4_step le_X4_step li_X4 lk_X4_step (show k_nm yX4_step 0 by decide +kernel) ⟨Nat.le_of_ble_eq_true rfl, Nat.le_of_ble_eq_true rfl⟩ rfl rfl ⟨Nat.le_of_ble_eq_true rfl, Nat.le_of_ble_eq_true rfl⟩ hl.1 rfl (Nat.le_of_ble_eq_true rfl) dX2_scanPair_88 (by omega) (k_c18 _ _ _) rfl hW (fun v z1 H locs hp hW => ?_)
      obtain ⟨rfl, hz1⟩ := hp
      rw [hz1] at hW
      obtain ⟨z6, ez6⟩ : ∃ y9 : Sg, y9 = (f_X4_step (uJ z3 17 7 (f_X4_number z3))) := ⟨_, rfl⟩
      rw [← ez6] at hW
      have Jz6 : k_I S z6 := by rw [ez6]; exact I_step (k_I_uJ Jz3)
      refine W.eq (g2 := F0 m 91 ls []) rfl ?_
      refine lv_aload_n hx hb dX2_scanPair_91 rfl (lv_at hl 0 rfl) ?_
      refine lv_aload_n hx hb dX2_scanPair_92 rfl (lv_at hl 0 rfl) ?_
      refine k_callV (As := []) (rest := [.ref (E.2.2 17)]) hx hb hml hown hts (c_X2_kindBySign l E S _ z6 Jz6) lm_RX2_95 ln_X2_kindBySign le_X2_kindBySign li_X2 lk_X2_kindBySign (show k_nm yX2_kindBySign 0 by decide +kernel) ⟨Nat.le_of_ble_eq_true rfl, Nat.le_of_ble_eq_true rfl⟩ rfl rfl ⟨Nat.le_of_ble_eq_true rfl, Nat.le_of_ble_eq_true rfl⟩ hl.1 rfl (Nat.le_of_ble_eq_true rfl) dX2_scanPair_93 (by omega) (k_c17 _ _ _) rfl hW (fun v z1 H locs hp hW => ?_)
      obtain ⟨rfl, hz1⟩ := hp
      rw [hz1] at hW
      refine W.eq (g2 := F0 m 96 ls [.int (f_X2_kindBySign z6), .ref (E.2.2 17)]) rfl ?_
      refine k_putI hx hb hts inlX2 tyX2_ok nmX2 hown hW 17 (by omega) k_c17 rfl 8 (by decide) lf_RX2_58 rfl rfl (tyX2_ok 8 (by decide)) (Nat.le_of_ble_eq_true rfl) ks_X2_8 dX2_scanPair_96 (fun H locs hW => ?_)
      refine lv_iconst (v := 1) hx hb dX2_scanPair_99 (by decide) ?_
      have hR : (f_X2_scanPair z) = (1, (uI z6 17 8 (f_X2_kindBySign z6))) := (by subst ez6 ez3; simp only [f_X2_scanPair, if_neg h1, if_neg h4])
      exact k_iret hx hb hr rfl hlocks hW ⟨by rw [hR], by rw [hR]⟩ dX2_scanPair_100
    · refine lv_aload_n hx hb dX2_scanPair_61 rfl (lv_at hl 0 rfl) ?_
      refine lv_aload_n hx hb dX2_scanPair_62 rfl (lv_at hl 0 rfl) ?_
      refine k_get hx hb hts inlX2 hown hW 17 (by omega) k_c17 rfl 1 (by decide) lf_RX2_18 rfl (v := .ref (E.2.2 18)) rfl dX2_scanPair_63 ?_
      refine k_get hx hb hts inlX4 hown hW 18 (by omega) k_c18 rfl 1 (by decide) lf_RX2_70 rfl (v := .int (z3.1 18 1)) rfl dX2_scanPair_66 ?_
      refine k_callV (As := [.int (z3.1 18 1)]) (rest := []) hx hb hml hown hts (c_X2_refuse l E S _ z3 (z3.1 18 1) Jz3) lm_RX2_79 ln_X2_refuse le_X2_refuse li_X2 lk_X2_refuse (show k_nm yX2_refuse 1 by decide +kernel) ⟨Nat.le_of_ble_eq_true rfl, Nat.le_of_ble_eq_true rfl⟩ rfl rfl ⟨Nat.le_of_ble_eq_true rfl, Nat.le_of_ble_eq_true rfl⟩ hl.1 rfl (Nat.le_of_ble_eq_true rfl) dX2_scanPair_69 (by omega) (k_c17 _ _ _) rfl hW (fun v z1 H locs hp hW => ?_)
      obtain ⟨rfl, hz1⟩ := hp
      rw [hz1] at hW
      obtain ⟨z8, ez8⟩ : ∃ y9 : Sg, y9 = (f_X2_refuse z3 (z3.1 18 1)).2 := ⟨_, rfl⟩
      rw [← ez8] at hW
      have Jz8 : k_I S z8 := by rw [ez8]; exact I_refuse Jz3
      refine W.eq (g2 := F0 m 72 ls [.int ((f_X2_refuse z3 (z3.1 18 1)).1)]) rfl ?_
      have hR : (f_X2_scanPair z) = ((f_X2_refuse z3 (z3.1 18 1)).1, z8) := (by subst ez8 ez3; simp only [f_X2_scanPair, if_neg h1, if_pos h4])
      exact k_iret hx hb hr (by rw [ref0]; rfl) hlocks hW ⟨by rw [hR], by rw [hR]⟩ dX2_scanPair_72
  · refine lv_aload_n hx hb dX2_scanPair_21 rfl (lv_at hl 0 rfl) ?_
    refine lv_aload_n hx hb dX2_scanPair_22 rfl (lv_at hl 0 rfl) ?_
    refine k_get hx hb hts inlX2 hown hW 17 (by omega) k_c17 rfl 1 (by decide) lf_RX2_18 rfl (v := .ref (E.2.2 18)) rfl dX2_scanPair_23 ?_
    refine k_get hx hb hts inlX4 hown hW 18 (by omega) k_c18 rfl 1 (by decide) lf_RX2_70 rfl (v := .int (z.1 18 1)) rfl dX2_scanPair_26 ?_
    refine k_callV (As := [.int (z.1 18 1)]) (rest := []) hx hb hml hown hts (c_X2_refuse l E S _ (uI z 17 5 (z.1 18 1)) (z.1 18 1) (k_I_u (by decide) hI)) lm_RX2_79 ln_X2_refuse le_X2_refuse li_X2 lk_X2_refuse (show k_nm yX2_refuse 1 by decide +kernel) ⟨Nat.le_of_ble_eq_true rfl, Nat.le_of_ble_eq_true rfl⟩ rfl rfl ⟨Nat.le_of_ble_eq_true rfl, Nat.le_of_ble_eq_true rfl⟩ hl.1 rfl (Nat.le_of_ble_eq_true rfl) dX2_scanPair_29 (by omega) (k_c17 _ _ _) rfl hW (fun v z1 H locs hp hW => ?_)
    obtain ⟨rfl, hz1⟩ := hp
    rw [hz1] at hW
    obtain ⟨z10, ez10⟩ : ∃ y9 : Sg, y9 = (f_X2_refuse (uI z 17 5 (z.1 18 1)) (z.1 18 1)).2 := ⟨_, rfl⟩
    rw [← ez10] at hW
    have Jz10 : k_I S z10 := by rw [ez10]; exact I_refuse (k_I_u (by decide) hI)
    refine W.eq (g2 := F0 m 32 ls [.int ((f_X2_refuse (uI z 17 5 (z.1 18 1)) (z.1 18 1)).1)]) rfl ?_
    have hR : (f_X2_scanPair z) = ((f_X2_refuse (uI z 17 5 (z.1 18 1)) (z.1 18 1)).1, z10) := (by subst ez10; simp only [f_X2_scanPair, if_pos h1])
    exact k_iret hx hb hr (by rw [ref0]; rfl) hlocks hW ⟨by rw [hR], by rw [hR]⟩ dX2_scanPair_32

theorem I_takeBeginning {S : Nat} {z : Sg} (hI : k_I S z) : k_I S (f_X2_takeBeginning z).2 := by
  unfold f_X2_takeBeginning
  split
  · exact I_refuse hI
  · split
    · exact k_I_uJ (k_I_uJ hI)
    · exact I_refuse hI
theorem I_takeTableRow {S : Nat} {z : Sg} (hI : k_I S z) : k_I S (f_X2_takeTableRow z).2 := by
  unfold f_X2_takeTableRow
  split
  · exact I_refuse hI
  · have h1 := I_step hI
    generalize f_X4_step z = w at h1 ⊢
    dsimp only
    split
    · exact k_I_uJ (k_I_uJ (I_takeRow h1))
    · exact k_I_uJ (k_I_uJ (I_takeRow (I_tell h1)))
theorem I_scanPair {S : Nat} {z : Sg} (hI : k_I S z) : k_I S (f_X2_scanPair z).2 := by
  have h1 : k_I S (uI z 17 5 (z.1 18 1)) := k_I_u (by decide) hI
  unfold f_X2_scanPair
  generalize uI z 17 5 (z.1 18 1) = w at h1 ⊢
  split
  · exact I_refuse h1
  · have h2 : k_I S (f_X4_step (uJ w 17 6 (f_X4_number w))) := I_step (k_I_uJ h1)
    generalize f_X4_step (uJ w 17 6 (f_X4_number w)) = x at h2 ⊢
    dsimp only
    split
    · exact I_refuse h2
    · have h3 : k_I S (f_X4_step (uJ x 17 7 (f_X4_number x))) := I_step (k_I_uJ h2)
      generalize f_X4_step (uJ x 17 7 (f_X4_number x)) = y at h3 ⊢
      exact k_I_u (by decide) h3

def f_X2_takeStreamRow (z : Sg) (c : Nat) (p0 : Int32) (p1 : Int32) : Sg :=
  let z2 := (f_X1_takeRow z ((p1 : Int32).toInt64) (f_X2_kindByNumber z (f_X3_numberIn z c p0 (z.1 (46 + 6 * c) 7) 1)) (f_X3_numberIn z c (p0 + (z.1 (46 + 6 * c) 7)) (z.1 (46 + 6 * c) 8) 0) (f_X3_numberIn z c ((p0 + (z.1 (46 + 6 * c) 7)) + (z.1 (46 + 6 * c) 8)) (z.1 (46 + 6 * c) 9) 0))
  z2
set_option maxHeartbeats 4000000 in
set_option maxRecDepth 100000 in
theorem c_X2_takeStreamRow (l : Launch) (E : Ev) (S sz : Nat) (z : Sg) (c : Nat) (p0 : Int32) (p1 : Int32) (lc : c < S) (hI : k_I S z) : k_Met l yX2_takeStreamRow cX2_takeStreamRow 11 none ({ frames := 2, cells := 0, slots := 0, locals := 49 }) [.ref (E.2.2 17), .ref (E.2.2 (46 + 6 * c)), .int p0, .int p1] E (46 + 6 * S) z sz (fun v u => v = none ∧ u = (f_X2_takeStreamRow z c p0 p1)) 0 0 := by
  refine k_body (by decide +kernel) (Nat.le_of_ble_eq_true rfl) ?_
  intro p e s m below meth cd ls hx hb hr hml hown hlocks hts hW hl
  have hl : lv_has ls 11 [(0, .ref (E.2.2 17)), (1, .ref (E.2.2 (46 + 6 * c))), (2, .int p0), (3, .int p1)] := hl
  refine lv_iload_n hx hb dX2_takeStreamRow_0 rfl (lv_at hl 2 rfl) ?_
  refine lv_aload_n hx hb dX2_takeStreamRow_1 rfl (lv_at hl 1 rfl) ?_
  refine k_get hx hb hts inlX3 hown hW (46 + 6 * c) (by omega) (k_cell_sec c) rfl 7 (by decide) lf_RX2_134 rfl (v := .int (z.1 (46 + 6 * c) 7)) rfl dX2_takeStreamRow_2 ?_
  refine lv_iadd hx hb dX2_takeStreamRow_5 ?_
  refine lv_istore (lv' := [(4, .int (p0 + (z.1 (46 + 6 * c) 7))), (0, .ref (E.2.2 17)), (1, .ref (E.2.2 (46 + 6 * c))), (2, .int p0), (3, .int p1)]) hx hb dX2_takeStreamRow_6 hl (by decide) rfl (fun ls hl => ?_)
  refine lv_iload hx hb dX2_takeStreamRow_8 (lv_at hl 0 rfl) ?_
  refine lv_aload_n hx hb dX2_takeStreamRow_10 rfl (lv_at hl 2 rfl) ?_
  refine k_get hx hb hts inlX3 hown hW (46 + 6 * c) (by omega) (k_cell_sec c) rfl 8 (by decide) lf_RX2_137 rfl (v := .int (z.1 (46 + 6 * c) 8)) rfl dX2_takeStreamRow_11 ?_
  refine lv_iadd hx hb dX2_takeStreamRow_14 ?_
  refine lv_istore (lv' := [(5, .int ((p0 + (z.1 (46 + 6 * c) 7)) + (z.1 (46 + 6 * c) 8))), (4, .int (p0 + (z.1 (46 + 6 * c) 7))), (0, .ref (E.2.2 17)), (1, .ref (E.2.2 (46 + 6 * c))), (2, .int p0), (3, .int p1)]) hx hb dX2_takeStreamRow_15 hl (by decide) rfl (fun ls hl => ?_)
  refine lv_aload_n hx hb dX2_takeStreamRow_17 rfl (lv_at hl 3 rfl) ?_
  refine lv_iload_n hx hb dX2_takeStreamRow_18 rfl (lv_at hl 4 rfl) ?_
  refine lv_aload_n hx hb dX2_takeStreamRow_19 rfl (lv_at hl 3 rfl) ?_
  refine k_get hx hb hts inlX3 hown hW (46 + 6 * c) (by omega) (k_cell_sec c) rfl 7 (by decide) lf_RX2_134 rfl (v := .int (z.1 (46 + 6 * c) 7)) rfl dX2_takeStreamRow_20 ?_
  refine lv_lconst (v := 1) hx hb dX2_takeStreamRow_23 (by decide) ?_
  refine k_callV (As := [.int p0, .int (z.1 (46 + 6 * c) 7), .long 1]) (rest := []) hx hb hml hown hts (c_X3_numberIn l E S _ z c p0 (z.1 (46 + 6 * c) 7) 1 lc hI) lm_RX2_140 ln_X3_numberIn le_X3_numberIn li_X3 lk_X3_numberIn (show k_nm yX3_numberIn 3 by decide +kernel) ⟨Nat.le_of_ble_eq_true rfl, Nat.le_of_ble_eq_true rfl⟩ rfl rfl ⟨Nat.le_of_ble_eq_true rfl, Nat.le_of_ble_eq_true rfl⟩ hl.1 rfl (Nat.le_of_ble_eq_true rfl) dX2_takeStreamRow_24 (by omega) ((k_cell_sec c) _ _ _) rfl hW (fun v z1 H locs hp hW => ?_)
  obtain ⟨rfl, hz1⟩ := hp
  rw [hz1] at hW
  refine W.eq (g2 := F0 m 27 ls [.long (f_X3_numberIn z c p0 (z.1 (46 + 6 * c) 7) 1)]) rfl ?_
  refine k_callS (rest := []) hx hb hml hown hts (c_X2_kindByNumber l E S _ z (f_X3_numberIn z c p0 (z.1 (46 + 6 * c) 7) 1)) lm_RX2_144 ls_X2_kindByNumber li_X2 lk_X2_kindByNumber (show k_nm yX2_kindByNumber 1 by decide +kernel) ⟨Nat.le_of_ble_eq_true rfl, Nat.le_of_ble_eq_true rfl⟩ rfl rfl ⟨Nat.le_of_ble_eq_true rfl, Nat.le_of_ble_eq_true rfl⟩ hl.1 rfl (Nat.le_of_ble_eq_true rfl) dX2_takeStreamRow_27 hW (fun v z1 H locs hp hW => ?_)
  obtain ⟨rfl, hz1⟩ := hp
  rw [hz1] at hW
  refine W.eq (g2 := F0 m 30 ls [.int (f_X2_kindByNumber z (f_X3_numberIn z c p0 (z.1 (46 + 6 * c) 7) 1))]) rfl ?_
  refine lv_istore (lv' := [(6, .int (f_X2_kindByNumber z (f_X3_numberIn z c p0 (z.1 (46 + 6 * c) 7) 1))), (5, .int ((p0 + (z.1 (46 + 6 * c) 7)) + (z.1 (46 + 6 * c) 8))), (4, .int (p0 + (z.1 (46 + 6 * c) 7))), (0, .ref (E.2.2 17)), (1, .ref (E.2.2 (46 + 6 * c))), (2, .int p0), (3, .int p1)]) hx hb dX2_takeStreamRow_30 hl (by decide) rfl (fun ls hl => ?_)
  refine lv_aload_n hx hb dX2_takeStreamRow_32 rfl (lv_at hl 4 rfl) ?_
  refine lv_iload hx hb dX2_takeStreamRow_33 (lv_at hl 2 rfl) ?_
  refine lv_aload_n hx hb dX2_takeStreamRow_35 rfl (lv_at hl 4 rfl) ?_
  refine k_get hx hb hts inlX3 hown hW (46 + 6 * c) (by omega) (k_cell_sec c) rfl 8 (by decide) lf_RX2_137 rfl (v := .int (z.1 (46 + 6 * c) 8)) rfl dX2_takeStreamRow_36 ?_
  refine lv_lconst (v := 0) hx hb dX2_takeStreamRow_39 (by decide) ?_
  refine k_callV (As := [.int (p0 + (z.1 (46 + 6 * c) 7)), .int (z.1 (46 + 6 * c) 8), .long 0]) (rest := []) hx hb hml hown hts (c_X3_numberIn l E S _ z c (p0 + (z.1 (46 + 6 * c) 7)) (z.1 (46 + 6 * c) 8) 0 lc hI) lm_RX2_140 ln_X3_numberIn le_X3_numberIn li_X3 lk_X3_numberIn (show k_nm yX3_numberIn 3 by decide +kernel) ⟨Nat.le_of_ble_eq_true rfl, Nat.le_of_ble_eq_true rfl⟩ rfl rfl ⟨Nat.le_of_ble_eq_true rfl, Nat.le_of_ble_eq_true rfl⟩ hl.1 rfl (Nat.le_of_ble_eq_true rfl) dX2_takeStreamRow_40 (by omega) ((k_cell_sec c) _ _ _) rfl hW (fun v z1 H locs hp hW => ?_)
  obtain ⟨rfl, hz1⟩ := hp
  rw [hz1] at hW
  refine W.eq (g2 := F0 m 43 ls [.long (f_X3_numberIn z c (p0 + (z.1 (46 + 6 * c) 7)) (z.1 (46 + 6 * c) 8) 0)]) rfl ?_
  refine lv_lstore (lv' := [(7, .long (f_X3_numberIn z c (p0 + (z.1 (46 + 6 * c) 7)) (z.1 (46 + 6 * c) 8) 0)), (6, .int (f_X2_kindByNumber z (f_X3_numberIn z c p0 (z.1 (46 + 6 * c) 7) 1))), (5, .int ((p0 + (z.1 (46 + 6 * c) 7)) + (z.1 (46 + 6 * c) 8))), (4, .int (p0 + (z.1 (46 + 6 * c) 7))), (0, .ref (E.2.2 17)), (1, .ref (E.2.2 (46 + 6 * c))), (2, .int p0), (3, .int p1)]) hx hb dX2_takeStreamRow_43 hl (by decide) rfl (fun ls hl => ?_)
  refine lv_aload_n hx hb dX2_takeStreamRow_45 rfl (lv_at hl 5 rfl) ?_
  refine lv_iload hx hb dX2_takeStreamRow_46 (lv_at hl 2 rfl) ?_
  refine lv_aload_n hx hb dX2_takeStreamRow_48 rfl (lv_at hl 5 rfl) ?_
  refine k_get hx hb hts inlX3 hown hW (46 + 6 * c) (by omega) (k_cell_sec c) rfl 9 (by decide) lf_RX2_148 rfl (v := .int (z.1 (46 + 6 * c) 9)) rfl dX2_takeStreamRow_49 ?_
  refine lv_lconst (v := 0) hx hb dX2_takeStreamRow_52 (by decide) ?_
  refine k_callV (As := [.int ((p0 + (z.1 (46 + 6 * c) 7)) + (z.1 (46 + 6 * c) 8)), .int (z.1 (46 + 6 * c) 9), .long 0]) (rest := []) hx hb hml hown hts (c_X3_numberIn l E S _ z c ((p0 + (z.1 (46 + 6 * c) 7)) + (z.1 (46 + 6 * c) 8)) (z.1 (46 + 6 * c) 9) 0 lc hI) lm_RX2_140 ln_X3_numberIn le_X3_numberIn li_X3 lk_X3_numberIn (show k_nm yX3_numberIn 3 by decide +kernel) ⟨Nat.le_of_ble_eq_true rfl, Nat.le_of_ble_eq_true rfl⟩ rfl rfl ⟨Nat.le_of_ble_eq_true rfl, Nat.le_of_ble_eq_true rfl⟩ hl.1 rfl (Nat.le_of_ble_eq_true rfl) dX2_takeStreamRow_53 (by omega) ((k_cell_sec c) _ _ _) rfl hW (fun v z1 H locs hp hW => ?_)
  obtain ⟨rfl, hz1⟩ := hp
  rw [hz1] at hW
  refine W.eq (g2 := F0 m 56 ls [.long (f_X3_numberIn z c ((p0 + (z.1 (46 + 6 * c) 7)) + (z.1 (46 + 6 * c) 8)) (z.1 (46 + 6 * c) 9) 0)]) rfl ?_
  refine lv_lstore (lv' := [(9, .long (f_X3_numberIn z c ((p0 + (z.1 (46 + 6 * c) 7)) + (z.1 (46 + 6 * c) 8)) (z.1 (46 + 6 * c) 9) 0)), (7, .long (f_X3_numberIn z c (p0 + (z.1 (46 + 6 * c) 7)) (z.1 (46 + 6 * c) 8) 0)), (6, .int (f_X2_kindByNumber z (f_X3_numberIn z c p0 (z.1 (46 + 6 * c) 7) 1))), (5, .int ((p0 + (z.1 (46 + 6 * c) 7)) + (z.1 (46 + 6 * c) 8))), (4, .int (p0 + (z.1 (46 + 6 * c) 7))), (0, .ref (E.2.2 17)), (1, .ref (E.2.2 (46 + 6 * c))), (2, .int p0), (3, .int p1)]) hx hb dX2_takeStreamRow_56 hl (by decide) rfl (fun ls hl => ?_)
  refine lv_aload_n hx hb dX2_takeStreamRow_58 rfl (lv_at hl 5 rfl) ?_
  refine k_get hx hb hts inlX2 hown hW 17 (by omega) k_c17 rfl 0 (by decide) lf_RX2_9 rfl (v := .ref (E.2.2 6)) rfl dX2_takeStreamRow_59 ?_
  refine lv_iload_n hx hb dX2_takeStreamRow_62 rfl (lv_at hl 8 rfl) ?_
  refine lv_i2l (v := (p1 : Int32).toInt64) hx hb dX2_takeStreamRow_63 rfl ?_
  refine lv_iload hx hb dX2_takeStreamRow_64 (lv_at hl 2 rfl) ?_
  refine lv_lload hx hb dX2_takeStreamRow_66 (lv_at hl 1 rfl) ?_
  refine lv_lload hx hb dX2_takeStreamRow_68 (lv_at hl 0 rfl) ?_
  refine k_callV (As := [.long ((p1 : Int32).toInt64), .int (f_X2_kindByNumber z (f_X3_numberIn z c p0 (z.1 (46 + 6 * c) 7) 1)), .long (f_X3_numberIn z c (p0 + (z.1 (46 + 6 * c) 7)) (z.1 (46 + 6 * c) 8) 0), .long (f_X3_numberIn z c ((p0 + (z.1 (46 + 6 * c) 7)) + (z.1 (46 + 6 * c) 8)) (z.1 (46 + 6 * c) 9) 0)]) (rest := []) hx hb hml hown hts (c_X1_takeRow l E S _ z ((p1 : Int32).toInt64) (f_X2_kindByNumber z (f_X3_numberIn z c p0 (z.1 (46 + 6 * c) 7) 1)) (f_X3_numberIn z c (p0 + (z.1 (46 + 6 * c) 7)) (z.1 (46 + 6 * c) 8) 0) (f_X3_numberIn z c ((p0 + (z.1 (46 + 6 * c) 7)) + (z.1 (46 + 6 * c) 8)) (z.1 (46 + 6 * c) 9) 0) hI) lm_RX2_110 ln_X1_takeRow le_X1_takeRow li_X1 lk_X1_takeRow (show k_nm yX1_takeRow 4 by decide +kernel) ⟨Nat.le_of_ble_eq_true rfl, Nat.le_of_ble_eq_true rfl⟩ rfl rfl ⟨Nat.le_of_ble_eq_true rfl, Nat.le_of_ble_eq_true rfl⟩ hl.1 rfl (Nat.le_of_ble_eq_true rfl) dX2_takeStreamRow_70 (by omega) (k_c6 _ _ _) rfl hW (fun v z1 H locs hp hW => ?_)
  obtain ⟨rfl, hz1⟩ := hp
  rw [hz1] at hW
  obtain ⟨z2, ez2⟩ : ∃ y9 : Sg, y9 = (f_X1_takeRow z ((p1 : Int32).toInt64) (f_X2_kindByNumber z (f_X3_numberIn z c p0 (z.1 (46 + 6 * c) 7) 1)) (f_X3_numberIn z c (p0 + (z.1 (46 + 6 * c) 7)) (z.1 (46 + 6 * c) 8) 0) (f_X3_numberIn z c ((p0 + (z.1 (46 + 6 * c) 7)) + (z.1 (46 + 6 * c) 8)) (z.1 (46 + 6 * c) 9) 0)) := ⟨_, rfl⟩
  rw [← ez2] at hW
  have Jz2 : k_I S z2 := by rw [ez2]; exact I_takeRow hI
  refine W.eq (g2 := F0 m 73 ls []) rfl ?_
  have hR : (f_X2_takeStreamRow z c p0 p1) = z2 := (by subst ez2; simp only [f_X2_takeStreamRow])
  exact k_vret hx hb hr hlocks hW ⟨rfl, by rw [hR]⟩ dX2_takeStreamRow_73

theorem I_takeStreamRow {S c : Nat} {z : Sg} {a b : Int32} (hI : k_I S z) : k_I S (f_X2_takeStreamRow z c a b) := I_takeRow hI
