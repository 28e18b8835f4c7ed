theorem sw_out3 {x : Int32} (h0 : ¬ x = 0) (h1 : ¬ x = 1) (h2 : ¬ x = 2) : x.toInt < 0 ∨ 2 < x.toInt := by
  simp only [← Int32.toInt_inj] at h0 h1 h2
  have e0 : (0 : Int32).toInt = 0 := rfl
  have e1 : (1 : Int32).toInt = 1 := rfl
  have e2 : (2 : Int32).toInt = 2 := rfl
  omega
theorem in_free {x m : Int32} {n : Nat} (h1 : (-1 : Int32) ≤ x) (h2 : ¬ x = -1) (h3 : ¬ m ≤ x) (hm : m.toInt ≤ n) : vp_in x n := by
  simp only [Int32.le_iff_toInt_le, ← Int32.toInt_inj] at h1 h2 h3
  have e1 : (-1 : Int32).toInt = -1 := rfl
  refine vp_in_iff.mpr ⟨?_, ?_⟩ <;> omega
theorem in_ltn {x m : Int32} {n : Nat} (h0 : ¬ x < 0) (h1 : ¬ m ≤ x) (hm : m.toInt = n) : vp_in x n := in_lt (nn_of h0) h1 hm

def f_X5_existing (z : Sg) (p0 : Int32) : Nat × Option Nat :=
  if p0 < 0 then
    (3, none)
  else
    if (z.1 0 1) ≤ p0 then
      (3, none)
    else
      (0, some p0.toNatClampNeg)
set_option maxHeartbeats 4000000 in
set_option maxRecDepth 100000 in
theorem c_X5_existing (l : Launch) (hl0 : l.stackTraces = false) (E : Ev) (S sz : Nat) (z : Sg) (p0 : Int32) (hI : k_I S z) : k_XMet l yX5_existing cX5_existing 3 (some (.object "CrossTables$Section")) ({ frames := 6, cells := 1, slots := 6, locals := 110 }) [.ref (E.2.2 0), .int p0] E (46 + 6 * S) z sz (fun v u => (f_X5_existing z p0).1 = 0 ∧ v = some (k_o E ((f_X5_existing z p0).2)) ∧ u = z) (fun X => (f_X5_existing z p0).1 ≠ 0 ∧ X = k_ex (f_X5_existing z p0).1) 1 6 := by
  refine k_bodyX (by decide +kernel) (Nat.le_of_ble_eq_true rfl) ?_
  intro p e s m below meth cd ls hx hb hr hml hown hlocks htab hts hW hl
  have hl : lv_has ls 3 [(0, .ref (E.2.2 0)), (1, .int p0)] := hl
  refine lv_iload_n hx hb dX5_existing_0 rfl (lv_at hl 1 rfl) ?_
  refine lv_if_lt (tgt := 21) hx hb dX5_existing_1 (by decide) (fun h1 => ?_) (fun h1 => ?_)
  · refine lv_null hx hb dX5_existing_21 ?_
    refine lv_astore_nN (lv' := [(2, .null), (0, .ref (E.2.2 0)), (1, .int p0)]) hx hb dX5_existing_22 rfl hl (by decide) rfl (fun ls hl => ?_)
    refine lv_aload_nN hx hb dX5_existing_23 rfl (lv_at hl 0 rfl) ?_
    refine lv_ifnonnullN hx hb dX5_existing_24 ?_
    have hR : (f_X5_existing z p0) = (3, none) := (by simp only [f_X5_existing, if_pos h1])
    exact k_thN hx hb hl0 hown hts tk_N ti_N t1_N t2_N t3_N (List.mem_of_getElem? (i := 13) rfl) htab hlocks (hl.1.trans hml.symm) hW (by rw [hR]; exact ⟨(show (3 : Nat) ≠ 0 by decide), rfl⟩) (Nat.le_of_ble_eq_true rfl) (Nat.le_of_ble_eq_true rfl) ⟨Nat.le_of_ble_eq_true rfl, Nat.le_of_ble_eq_true rfl⟩ ⟨Nat.le_of_ble_eq_true rfl, Nat.le_of_ble_eq_true rfl⟩ dX5_existing_27 dX5_existing_30 dX5_existing_31 dX5_existing_33 dX5_existing_36
  · refine lv_iload_n hx hb dX5_existing_4 rfl (lv_at hl 1 rfl) ?_
    refine lv_aload_n hx hb dX5_existing_5 rfl (lv_at hl 0 rfl) ?_
    refine k_get hx hb hts inlX5 hown hW 0 (by omega) k_c0 rfl 1 (by decide) lf_RX5_15 rfl (v := .int (z.1 0 1)) rfl dX5_existing_6 ?_
    refine lv_icmp_ge (tgt := 21) hx hb dX5_existing_9 (by decide) (fun h2 => ?_) (fun h2 => ?_)
    · refine lv_null hx hb dX5_existing_21 ?_
      refine lv_astore_nN (lv' := [(2, .null), (0, .ref (E.2.2 0)), (1, .int p0)]) hx hb dX5_existing_22 rfl hl (by decide) rfl (fun ls hl => ?_)
      refine lv_aload_nN hx hb dX5_existing_23 rfl (lv_at hl 0 rfl) ?_
      refine lv_ifnonnullN hx hb dX5_existing_24 ?_
      have hR : (f_X5_existing z p0) = (3, none) := (by simp only [f_X5_existing, if_neg h1, if_pos h2])
      exact k_thN hx hb hl0 hown hts tk_N ti_N t1_N t2_N t3_N (List.mem_of_getElem? (i := 13) rfl) htab hlocks (hl.1.trans hml.symm) hW (by rw [hR]; exact ⟨(show (3 : Nat) ≠ 0 by decide), rfl⟩) (Nat.le_of_ble_eq_true rfl) (Nat.le_of_ble_eq_true rfl) ⟨Nat.le_of_ble_eq_true rfl, Nat.le_of_ble_eq_true rfl⟩ ⟨Nat.le_of_ble_eq_true rfl, Nat.le_of_ble_eq_true rfl⟩ dX5_existing_27 dX5_existing_30 dX5_existing_31 dX5_existing_33 dX5_existing_36
    · refine lv_aload_n hx hb dX5_existing_12 rfl (lv_at hl 0 rfl) ?_
      refine k_get hx hb hts inlX5 hown hW 0 (by omega) k_c0 rfl 0 (by decide) lf_RX5_11 rfl (v := .ref (E.2.2 1)) rfl dX5_existing_13 ?_
      refine lv_iload_n hx hb dX5_existing_16 rfl (lv_at hl 1 rfl) ?_
      refine k_aald hx hb hW 1 12 (by omega) k_c1 (v := (z.2.2 1 p0.toNatClampNeg)) (by exact in_ge h1 h2 (by rw [hI.1.2]; have := hI.1.1; omega)) rfl dX5_existing_17 ?_
      have lk5 : p0.toNatClampNeg < S := vp_cl (in_ltn h1 h2 hI.1.2)
      rw [show (z.2.2 1 p0.toNatClampNeg) = some p0.toNatClampNeg from hI.2.2.2.2.2.1 _ (vp_cl (in_ltn h1 h2 hI.1.2))]
      refine W.eq (g2 := F0 m 18 ls [.ref (E.2.2 (46 + 6 * p0.toNatClampNeg))]) rfl ?_
      refine lv_goto (tgt := 22) hx hb dX5_existing_18 (by decide) ?_
      refine lv_astore_n (lv' := [(2, .ref (E.2.2 (46 + 6 * p0.toNatClampNeg))), (0, .ref (E.2.2 0)), (1, .int p0)]) hx hb dX5_existing_22 rfl hl (by decide) rfl (fun ls hl => ?_)
      refine lv_aload_n hx hb dX5_existing_23 rfl (lv_at hl 0 rfl) ?_
      refine lv_ifnonnull (tgt := 37) hx hb dX5_existing_24 (by decide) ?_
      refine lv_aload_n hx hb dX5_existing_37 rfl (lv_at hl 0 rfl) ?_
      have hR : (f_X5_existing z p0) = (0, some p0.toNatClampNeg) := (by simp only [f_X5_existing, if_neg h1, if_neg h2])
      refine vx_ret (W.widen (k := 1) (n := 6) (by omega) (by omega) ?_)
      exact k_aret (o := some p0.toNatClampNeg) hx hb hr hlocks hW ⟨by rw [hR], by rw [hR], rfl⟩ dX5_existing_38

theorem ex_some {S : Nat} {z : Sg} {p : Int32} (hI : k_I S z) (h : (f_X5_existing z p).1 = 0) : (f_X5_existing z p).2 = some p.toNatClampNeg ∧ p.toNatClampNeg < S := by
  unfold f_X5_existing at h ⊢
  by_cases h1 : p < 0
  · rw [if_pos h1] at h; exact absurd h (by decide)
  · rw [if_neg h1] at h ⊢
    by_cases h2 : (z.1 0 1) ≤ p
    · rw [if_pos h2] at h; exact absurd h (by decide)
    · rw [if_neg h2]
      exact ⟨rfl, vp_cl (in_ltn h1 h2 hI.1.2)⟩

def f_X5_add (z : Sg) (p0 : Int32) (p1 : Int32) : Nat × Int32 × Sg :=
  if (f_X5_existing z p0).1 = 0 then
    if (z.1 (46 + 6 * p0.toNatClampNeg) 6) < 300 then
      (0, (z.1 (46 + 6 * p0.toNatClampNeg) 6) + 1, (uI (uI z (46 + 6 * p0.toNatClampNeg + 1) ((z.1 (46 + 6 * p0.toNatClampNeg) 6).toNatClampNeg) (vp_nar .byte p1)) (46 + 6 * p0.toNatClampNeg) 6 ((z.1 (46 + 6 * p0.toNatClampNeg) 6) + 1)))
    else
      (2, 0, z)
  else
    ((f_X5_existing z p0).1, 0, z)
set_option maxHeartbeats 4000000 in
set_option maxRecDepth 100000 in
theorem c_X5_add (l : Launch) (hl0 : l.stackTraces = false) (E : Ev) (S sz : Nat) (z : Sg) (p0 : Int32) (p1 : Int32) (hI : k_I S z) : k_XMet l yX5_add cX5_add 4 (some .int) ({ frames := 7, cells := 2, slots := 12, locals := 132 }) [.ref (E.2.2 0), .int p0, .int p1] E (46 + 6 * S) z sz (fun v u => (f_X5_add z p0 p1).1 = 0 ∧ v = some (.int ((f_X5_add z p0 p1).2.1)) ∧ u = (f_X5_add z p0 p1).2.2) (fun X => (f_X5_add z p0 p1).1 ≠ 0 ∧ X = k_ex (f_X5_add z p0 p1).1) 2 12 := by
  refine k_bodyX (by decide +kernel) (Nat.le_of_ble_eq_true rfl) ?_
  intro p e s m below meth cd ls hx hb hr hml hown hlocks htab hts hW hl
  have hl : lv_has ls 4 [(0, .ref (E.2.2 0)), (1, .int p0), (2, .int p1)] := hl
  refine lv_aload_n hx hb dX5_add_0 rfl (lv_at hl 0 rfl) ?_
  refine lv_iload_n hx hb dX5_add_1 rfl (lv_at hl 1 rfl) ?_
  refine k_callVX (As := [.int p0]) (rest := []) hx hb hml hown hts (c_X5_existing l hl0 E S _ z p0 hI) lm_RX5_72 ln_X5_existing le_X5_existing li_X5 lk_X5_existing (show k_nm yX5_existing 1 by decide +kernel) ⟨Nat.le_of_ble_eq_true rfl, Nat.le_of_ble_eq_true rfl⟩ rfl rfl ⟨Nat.le_of_ble_eq_true rfl, Nat.le_of_ble_eq_true rfl⟩ hl.1 rfl (Nat.le_of_ble_eq_true rfl) dX5_add_2 (by omega) (k_c0 _ _ _) rfl hW (fun X ce q9 H locs hp hW hce hcv hcl => ?_) (fun v z1 H locs hp hW => ?_)
  · have hR : (f_X5_add z p0 p1) = ((f_X5_existing z p0).1, 0, z) := (by simp only [f_X5_add, if_neg hp.1])
    exact k_out (z' := z) htab hlocks hW hce hcv hcl (by rw [hR]; exact ⟨hp.1, hp.2⟩) ⟨Nat.le_of_ble_eq_true rfl, Nat.le_of_ble_eq_true rfl⟩
  · obtain ⟨h1, rfl, hz1⟩ := hp
    rw [hz1] at hW
    refine W.eq (g2 := F0 m 5 ls [k_o E ((f_X5_existing z p0).2)]) rfl ?_
    have lk4 : p0.toNatClampNeg < S := (ex_some hI h1).2
    rw [show (f_X5_existing z p0).2 = some p0.toNatClampNeg from (ex_some hI h1).1]
    refine W.eq (g2 := F0 m 5 ls [.ref (E.2.2 (46 + 6 * p0.toNatClampNeg))]) rfl ?_
    refine lv_astore_n (lv' := [(3, .ref (E.2.2 (46 + 6 * p0.toNatClampNeg))), (0, .ref (E.2.2 0)), (1, .int p0), (2, .int p1)]) hx hb dX5_add_5 rfl hl (by decide) rfl (fun ls hl => ?_)
    refine lv_aload_n hx hb dX5_add_6 rfl (lv_at hl 0 rfl) ?_
    refine k_get hx hb hts inlX3 hown hW (46 + 6 * p0.toNatClampNeg) (by omega) (k_cell_sec p0.toNatClampNeg) rfl 6 (by decide) lf_RX5_76 rfl (v := .int (z.1 (46 + 6 * p0.toNatClampNeg) 6)) rfl dX5_add_7 ?_
    refine lv_sipush (v := 300) hx hb dX5_add_10 (by decide) ?_
    refine lv_icmp_lt (tgt := 26) hx hb dX5_add_13 (by decide) (fun h5 => ?_) (fun h5 => ?_)
    · refine lv_aload_n hx hb dX5_add_26 rfl (lv_at hl 0 rfl) ?_
      refine k_get hx hb hts inlX3 hown hW (46 + 6 * p0.toNatClampNeg) (by omega) (k_cell_sec p0.toNatClampNeg) rfl 5 (by decide) lf_RX5_81 rfl (v := .ref (E.2.2 (46 + 6 * p0.toNatClampNeg + 1))) rfl dX5_add_27 ?_
      refine lv_aload_n hx hb dX5_add_30 rfl (lv_at hl 0 rfl) ?_
      refine k_get hx hb hts inlX3 hown hW (46 + 6 * p0.toNatClampNeg) (by omega) (k_cell_sec p0.toNatClampNeg) rfl 6 (by decide) lf_RX5_76 rfl (v := .int (z.1 (46 + 6 * p0.toNatClampNeg) 6)) rfl dX5_add_31 ?_
      refine lv_iload_n hx hb dX5_add_34 rfl (lv_at hl 3 rfl) ?_
      refine k_bast hx hb hW (46 + 6 * p0.toNatClampNeg + 1) 300 (by omega) (k_cell_sb p0.toNatClampNeg) (by exact in_ltp (k_Is hI lk4).2.2.1.1 h5 rfl) dX5_add_35 (fun H locs hW => ?_)
      refine lv_aload_n hx hb dX5_add_36 rfl (lv_at hl 0 rfl) ?_
      refine lv_dup hx hb dX5_add_37 rfl ?_
      refine k_get hx hb hts inlX3 hown hW (46 + 6 * p0.toNatClampNeg) (by omega) (k_cell_sec p0.toNatClampNeg) rfl 6 (by decide) lf_RX5_76 rfl (v := .int (z.1 (46 + 6 * p0.toNatClampNeg) 6)) (by rw [uI_r (show (46 + 6 * p0.toNatClampNeg) ≠ (46 + 6 * p0.toNatClampNeg + 1) by omega)]; rfl) dX5_add_38 ?_
      refine lv_iconst (v := 1) hx hb dX5_add_41 (by decide) ?_
      refine lv_iadd hx hb dX5_add_42 ?_
      refine k_putI hx hb hts inlX3 tyX3_ok nmX3 hown hW (46 + 6 * p0.toNatClampNeg) (by omega) (k_cell_sec p0.toNatClampNeg) rfl 6 (by decide) lf_RX5_76 rfl rfl (tyX3_ok 6 (by decide)) (Nat.le_of_ble_eq_true rfl) ks_X3_6 dX5_add_43 (fun H locs hW => ?_)
      refine lv_aload_n hx hb dX5_add_46 rfl (lv_at hl 0 rfl) ?_
      refine k_get hx hb hts inlX3 hown hW (46 + 6 * p0.toNatClampNeg) (by omega) (k_cell_sec p0.toNatClampNeg) rfl 6 (by decide) lf_RX5_76 rfl (v := .int ((z.1 (46 + 6 * p0.toNatClampNeg) 6) + 1)) (by rw [uI_s]; rfl) dX5_add_47 ?_
      have hR : (f_X5_add z p0 p1) = (0, (z.1 (46 + 6 * p0.toNatClampNeg) 6) + 1, (uI (uI z (46 + 6 * p0.toNatClampNeg + 1) ((z.1 (46 + 6 * p0.toNatClampNeg) 6).toNatClampNeg) (vp_nar .byte p1)) (46 + 6 * p0.toNatClampNeg) 6 ((z.1 (46 + 6 * p0.toNatClampNeg) 6) + 1))) := (by simp only [f_X5_add, if_pos h1, if_pos h5])
      refine vx_ret (W.widen (k := 2) (n := 12) (by omega) (by omega) ?_)
      exact k_iret hx hb hr rfl hlocks hW ⟨by rw [hR], by rw [hR], by rw [hR]⟩ dX5_add_50
    · have hR : (f_X5_add z p0 p1) = (2, 0, z) := (by simp only [f_X5_add, if_pos h1, if_neg h5])
      exact k_th (names := nm_2) hx hb hl0 hown hts (by decide) (by decide) tk_U ti_U t1_U t2_U t3_U (List.mem_of_getElem? (i := 18) rfl) htab hlocks (hl.1.trans hml.symm) hW (by rw [hR]; exact ⟨(show (2 : Nat) ≠ 0 by decide), rfl⟩) (Nat.le_of_ble_eq_true rfl) (Nat.le_of_ble_eq_true rfl) ⟨Nat.le_of_ble_eq_true rfl, Nat.le_of_ble_eq_true rfl⟩ ⟨Nat.le_of_ble_eq_true rfl, Nat.le_of_ble_eq_true rfl⟩ dX5_add_16 dX5_add_19 dX5_add_20 dX5_add_22 dX5_add_25

def f_X5_octet (z : Sg) (p0 : Int32) (p1 : Int32) : Nat × Int32 :=
  if (f_X5_existing z p0).1 = 0 then
    if p1 < 0 then
      (5, 0)
    else
      if p1 < (z.1 (46 + 6 * p0.toNatClampNeg) 6) then
        (0, (z.1 (46 + 6 * p0.toNatClampNeg + 1) p1.toNatClampNeg))
      else
        (5, 0)
  else
    ((f_X5_existing z p0).1, 0)
set_option maxHeartbeats 4000000 in
set_option maxRecDepth 100000 in
theorem c_X5_octet (l : Launch) (hl0 : l.stackTraces = false) (E : Ev) (S sz : Nat) (z : Sg) (p0 : Int32) (p1 : Int32) (hI : k_I S z) : k_XMet l yX5_octet cX5_octet 4 (some .byte) ({ frames := 7, cells := 2, slots := 12, locals := 132 }) [.ref (E.2.2 0), .int p0, .int p1] E (46 + 6 * S) z sz (fun v u => (f_X5_octet z p0 p1).1 = 0 ∧ v = some (.int ((f_X5_octet z p0 p1).2)) ∧ u = z) (fun X => (f_X5_octet z p0 p1).1 ≠ 0 ∧ X = k_ex (f_X5_octet z p0 p1).1) 2 12 := by
  refine k_bodyX (by decide +kernel) (Nat.le_of_ble_eq_true rfl) ?_
  intro p e s m below meth cd ls hx hb hr hml hown hlocks htab hts hW hl
  have hl : lv_has ls 4 [(0, .ref (E.2.2 0)), (1, .int p0), (2, .int p1)] := hl
  refine lv_aload_n hx hb dX5_octet_0 rfl (lv_at hl 0 rfl) ?_
  refine lv_iload_n hx hb dX5_octet_1 rfl (lv_at hl 1 rfl) ?_
  refine k_callVX (As := [.int p0]) (rest := []) hx hb hml hown hts (c_X5_existing l hl0 E S _ z p0 hI) lm_RX5_72 ln_X5_existing le_X5_existing li_X5 lk_X5_existing (show k_nm yX5_existing 1 by decide +kernel) ⟨Nat.le_of_ble_eq_true rfl, Nat.le_of_ble_eq_true rfl⟩ rfl rfl ⟨Nat.le_of_ble_eq_true rfl, Nat.le_of_ble_eq_true rfl⟩ hl.1 rfl (Nat.le_of_ble_eq_true rfl) dX5_octet_2 (by omega) (k_c0 _ _ _) rfl hW (fun X ce q9 H locs hp hW hce hcv hcl => ?_) (fun v z1 H locs hp hW => ?_)
  · have hR : (f_X5_octet z p0 p1) = ((f_X5_existing z p0).1, 0) := (by simp only [f_X5_octet, if_neg hp.1])
    exact k_out (z' := z) htab hlocks hW hce hcv hcl (by rw [hR]; exact ⟨hp.1, hp.2⟩) ⟨Nat.le_of_ble_eq_true rfl, Nat.le_of_ble_eq_true rfl⟩
  · obtain ⟨h1, rfl, hz1⟩ := hp
    rw [hz1] at hW
    refine W.eq (g2 := F0 m 5 ls [k_o E ((f_X5_existing z p0).2)]) rfl ?_
    have lk4 : p0.toNatClampNeg < S := (ex_some hI h1).2
    rw [show (f_X5_existing z p0).2 = some p0.toNatClampNeg from (ex_some hI h1).1]
    refine W.eq (g2 := F0 m 5 ls [.ref (E.2.2 (46 + 6 * p0.toNatClampNeg))]) rfl ?_
    refine lv_astore_n (lv' := [(3, .ref (E.2.2 (46 + 6 * p0.toNatClampNeg))), (0, .ref (E.2.2 0)), (1, .int p0), (2, .int p1)]) hx hb dX5_octet_5 rfl hl (by decide) rfl (fun ls hl => ?_)
    refine lv_iload_n hx hb dX5_octet_6 rfl (lv_at hl 3 rfl) ?_
    refine lv_if_lt (tgt := 18) hx hb dX5_octet_7 (by decide) (fun h5 => ?_) (fun h5 => ?_)
    · have hR : (f_X5_octet z p0 p1) = (5, 0) := (by simp only [f_X5_octet, if_pos h1, if_pos h5])
      exact k_th (names := nm_3) hx hb hl0 hown hts (by decide) (by decide) tk_A ti_A t1_A t2_A t3_A (List.mem_of_getElem? (i := 19) rfl) htab hlocks (hl.1.trans hml.symm) hW (by rw [hR]; exact ⟨(show (5 : Nat) ≠ 0 by decide), rfl⟩) (Nat.le_of_ble_eq_true rfl) (Nat.le_of_ble_eq_true rfl) ⟨Nat.le_of_ble_eq_true rfl, Nat.le_of_ble_eq_true rfl⟩ ⟨Nat.le_of_ble_eq_true rfl, Nat.le_of_ble_eq_true rfl⟩ dX5_octet_18 dX5_octet_21 dX5_octet_22 dX5_octet_24 dX5_octet_27
    · refine lv_iload_n hx hb dX5_octet_10 rfl (lv_at hl 3 rfl) ?_
      refine lv_aload_n hx hb dX5_octet_11 rfl (lv_at hl 0 rfl) ?_
      refine k_get hx hb hts inlX3 hown hW (46 + 6 * p0.toNatClampNeg) (by omega) (k_cell_sec p0.toNatClampNeg) rfl 6 (by decide) lf_RX5_76 rfl (v := .int (z.1 (46 + 6 * p0.toNatClampNeg) 6)) rfl dX5_octet_12 ?_
      refine lv_icmp_lt (tgt := 28) hx hb dX5_octet_15 (by decide) (fun h6 => ?_) (fun h6 => ?_)
      · refine lv_aload_n hx hb dX5_octet_28 rfl (lv_at hl 0 rfl) ?_
        refine k_get hx hb hts inlX3 hown hW (46 + 6 * p0.toNatClampNeg) (by omega) (k_cell_sec p0.toNatClampNeg) rfl 5 (by decide) lf_RX5_81 rfl (v := .ref (E.2.2 (46 + 6 * p0.toNatClampNeg + 1))) rfl dX5_octet_29 ?_
        refine lv_iload_n hx hb dX5_octet_32 rfl (lv_at hl 3 rfl) ?_
        refine k_bald hx hb hW (46 + 6 * p0.toNatClampNeg + 1) 300 (by omega) (k_cell_sb p0.toNatClampNeg) (v := (z.1 (46 + 6 * p0.toNatClampNeg + 1) p1.toNatClampNeg)) (by exact in_ltp2 h5 h6 (k_Is hI lk4).2.2.1.2) rfl dX5_octet_33 ?_
        have hR : (f_X5_octet z p0 p1) = (0, (z.1 (46 + 6 * p0.toNatClampNeg + 1) p1.toNatClampNeg)) := (by simp only [f_X5_octet, if_pos h1, if_neg h5, if_pos h6])
        refine vx_ret (W.widen (k := 2) (n := 12) (by omega) (by omega) ?_)
        exact k_iret hx hb hr (nar_b ((k_Is hI lk4).2.2.2.2.1 _)) hlocks hW ⟨by rw [hR], by rw [hR], rfl⟩ dX5_octet_34
      · have hR : (f_X5_octet z p0 p1) = (5, 0) := (by simp only [f_X5_octet, if_pos h1, if_neg h5, if_neg h6])
        exact k_th (names := nm_3) hx hb hl0 hown hts (by decide) (by decide) tk_A ti_A t1_A t2_A t3_A (List.mem_of_getElem? (i := 19) rfl) htab hlocks (hl.1.trans hml.symm) hW (by rw [hR]; exact ⟨(show (5 : Nat) ≠ 0 by decide), rfl⟩) (Nat.le_of_ble_eq_true rfl) (Nat.le_of_ble_eq_true rfl) ⟨Nat.le_of_ble_eq_true rfl, Nat.le_of_ble_eq_true rfl⟩ ⟨Nat.le_of_ble_eq_true rfl, Nat.le_of_ble_eq_true rfl⟩ dX5_octet_18 dX5_octet_21 dX5_octet_22 dX5_octet_24 dX5_octet_27

def f_X5_beside (z : Sg) (p0 : Int32) (p1 : Int64) : Nat × Int64 × Sg :=
  if (f_X5_existing z p0).1 = 0 then
    if (z.1 (46 + 6 * p0.toNatClampNeg) 1) = 0 then
      if (f_X5_isPlaceOrNone z p1) = 0 then
        (1, 0, z)
      else
        (0, (z.2.1 (46 + 6 * p0.toNatClampNeg) 4), (uJ z (46 + 6 * p0.toNatClampNeg) 4 p1))
    else
      (1, 0, z)
  else
    ((f_X5_existing z p0).1, 0, z)
set_option maxHeartbeats 4000000 in
set_option maxRecDepth 100000 in
theorem c_X5_beside (l : Launch) (hl0 : l.stackTraces = false) (E : Ev) (S sz : Nat) (z : Sg) (p0 : Int32) (p1 : Int64) (hI : k_I S z) : k_XMet l yX5_beside cX5_beside 7 (some .long) ({ frames := 7, cells := 2, slots := 12, locals := 132 }) [.ref (E.2.2 0), .int p0, .long p1] E (46 + 6 * S) z sz (fun v u => (f_X5_beside z p0 p1).1 = 0 ∧ v = some (.long ((f_X5_beside z p0 p1).2.1)) ∧ u = (f_X5_beside z p0 p1).2.2) (fun X => (f_X5_beside z p0 p1).1 ≠ 0 ∧ X = k_ex (f_X5_beside z p0 p1).1) 2 12 := by
  refine k_bodyX (by decide +kernel) (Nat.le_of_ble_eq_true rfl) ?_
  intro p e s m below meth cd ls hx hb hr hml hown hlocks htab hts hW hl
  have hl : lv_has ls 7 [(0, .ref (E.2.2 0)), (1, .int p0), (2, .long p1)] := hl
  refine lv_aload_n hx hb dX5_beside_0 rfl (lv_at hl 0 rfl) ?_
  refine lv_iload_n hx hb dX5_beside_1 rfl (lv_at hl 1 rfl) ?_
  refine k_callVX (As := [.int p0]) (rest := []) hx hb hml hown hts (c_X5_existing l hl0 E S _ z p0 hI) lm_RX5_72 ln_X5_existing le_X5_existing li_X5 lk_X5_existing (show k_nm yX5_existing 1 by decide +kernel) ⟨Nat.le_of_ble_eq_true rfl, Nat.le_of_ble_eq_true rfl⟩ rfl rfl ⟨Nat.le_of_ble_eq_true rfl, Nat.le_of_ble_eq_true rfl⟩ hl.1 rfl (Nat.le_of_ble_eq_true rfl) dX5_beside_2 (by omega) (k_c0 _ _ _) rfl hW (fun X ce q9 H locs hp hW hce hcv hcl => ?_) (fun v z1 H locs hp hW => ?_)
  · have hR : (f_X5_beside z p0 p1) = ((f_X5_existing z p0).1, 0, z) := (by simp only [f_X5_beside, if_neg hp.1])
    exact k_out (z' := z) htab hlocks hW hce hcv hcl (by rw [hR]; exact ⟨hp.1, hp.2⟩) ⟨Nat.le_of_ble_eq_true rfl, Nat.le_of_ble_eq_true rfl⟩
  · obtain ⟨h1, rfl, hz1⟩ := hp
    rw [hz1] at hW
    refine W.eq (g2 := F0 m 5 ls [k_o E ((f_X5_existing z p0).2)]) rfl ?_
    have lk4 : p0.toNatClampNeg < S := (ex_some hI h1).2
    rw [show (f_X5_existing z p0).2 = some p0.toNatClampNeg from (ex_some hI h1).1]
    refine W.eq (g2 := F0 m 5 ls [.ref (E.2.2 (46 + 6 * p0.toNatClampNeg))]) rfl ?_
    refine lv_astore (lv' := [(4, .ref (E.2.2 (46 + 6 * p0.toNatClampNeg))), (0, .ref (E.2.2 0)), (1, .int p0), (2, .long p1)]) hx hb dX5_beside_5 hl (by decide) rfl (fun ls hl => ?_)
    refine lv_aload hx hb dX5_beside_7 (lv_at hl 0 rfl) ?_
    refine k_get hx hb hts inlX3 hown hW (46 + 6 * p0.toNatClampNeg) (by omega) (k_cell_sec p0.toNatClampNeg) rfl 1 (by decide) lf_RX5_90 rfl (v := .int (z.1 (46 + 6 * p0.toNatClampNeg) 1)) rfl dX5_beside_9 ?_
    refine lv_if_eq (tgt := 25) hx hb dX5_beside_12 (by decide) (fun h5 => ?_) (fun h5 => ?_)
    · refine lv_lload_n hx hb dX5_beside_25 rfl (lv_at hl 3 rfl) ?_
      refine k_callS (rest := []) hx hb hml hown hts (c_X5_isPlaceOrNone l E S _ z p1) lm_RX5_59 ls_X5_isPlaceOrNone li_X5 lk_X5_isPlaceOrNone (show k_nm yX5_isPlaceOrNone 1 by decide +kernel) ⟨Nat.le_of_ble_eq_true rfl, Nat.le_of_ble_eq_true rfl⟩ rfl rfl ⟨Nat.le_of_ble_eq_true rfl, Nat.le_of_ble_eq_true rfl⟩ hl.1 rfl (Nat.le_of_ble_eq_true rfl) dX5_beside_26 hW (fun v z1 H locs hp hW => ?_)
      obtain ⟨rfl, hz1⟩ := hp
      rw [hz1] at hW
      refine W.eq (g2 := F0 m 29 ls [.int (f_X5_isPlaceOrNone z p1)]) rfl ?_
      refine lv_if_ne (tgt := 42) hx hb dX5_beside_29 (by decide) (fun h6 => ?_) (fun h6 => ?_)
      · refine lv_aload hx hb dX5_beside_42 (lv_at hl 0 rfl) ?_
        refine k_get hx hb hts inlX3 hown hW (46 + 6 * p0.toNatClampNeg) (by omega) (k_cell_sec p0.toNatClampNeg) rfl 4 (by decide) lf_RX5_97 rfl (v := .long (z.2.1 (46 + 6 * p0.toNatClampNeg) 4)) rfl dX5_beside_44 ?_
        refine lv_lstore (lv' := [(5, .long (z.2.1 (46 + 6 * p0.toNatClampNeg) 4)), (4, .ref (E.2.2 (46 + 6 * p0.toNatClampNeg))), (0, .ref (E.2.2 0)), (1, .int p0), (2, .long p1)]) hx hb dX5_beside_47 hl (by decide) rfl (fun ls hl => ?_)
        refine lv_aload hx hb dX5_beside_49 (lv_at hl 1 rfl) ?_
        refine lv_lload_n hx hb dX5_beside_51 rfl (lv_at hl 4 rfl) ?_
        refine k_putJ hx hb hts inlX3 tyX3_ok nmX3 hown hW (46 + 6 * p0.toNatClampNeg) (by omega) (k_cell_sec p0.toNatClampNeg) rfl 4 (by decide) lf_RX5_97 rfl rfl (tyX3_ok 4 (by decide)) (Nat.le_of_ble_eq_true rfl) ks_X3_4 dX5_beside_52 (fun H locs hW => ?_)
        refine lv_lload hx hb dX5_beside_55 (lv_at hl 0 rfl) ?_
        have hR : (f_X5_beside z p0 p1) = (0, (z.2.1 (46 + 6 * p0.toNatClampNeg) 4), (uJ z (46 + 6 * p0.toNatClampNeg) 4 p1)) := (by simp only [f_X5_beside, if_pos h1, if_pos h5, if_neg h6])
        refine vx_ret (W.widen (k := 2) (n := 12) (by omega) (by omega) ?_)
        exact k_lret hx hb hr hlocks hW ⟨by rw [hR], by rw [hR], by rw [hR]⟩ dX5_beside_57
      · have hR : (f_X5_beside z p0 p1) = (1, 0, z) := (by simp only [f_X5_beside, if_pos h1, if_pos h5, if_pos h6])
        exact k_th (names := nm_2) hx hb hl0 hown hts (by decide) (by decide) tk_I ti_I t1_I t2_I t3_I (List.mem_of_getElem? (i := 21) rfl) htab hlocks (hl.1.trans hml.symm) hW (by rw [hR]; exact ⟨(show (1 : Nat) ≠ 0 by decide), rfl⟩) (Nat.le_of_ble_eq_true rfl) (Nat.le_of_ble_eq_true rfl) ⟨Nat.le_of_ble_eq_true rfl, Nat.le_of_ble_eq_true rfl⟩ ⟨Nat.le_of_ble_eq_true rfl, Nat.le_of_ble_eq_true rfl⟩ dX5_beside_32 dX5_beside_35 dX5_beside_36 dX5_beside_38 dX5_beside_41
    · have hR : (f_X5_beside z p0 p1) = (1, 0, z) := (by simp only [f_X5_beside, if_pos h1, if_neg h5])
      exact k_th (names := nm_2) hx hb hl0 hown hts (by decide) (by decide) tk_I ti_I t1_I t2_I t3_I (List.mem_of_getElem? (i := 20) rfl) htab hlocks (hl.1.trans hml.symm) hW (by rw [hR]; exact ⟨(show (1 : Nat) ≠ 0 by decide), rfl⟩) (Nat.le_of_ble_eq_true rfl) (Nat.le_of_ble_eq_true rfl) ⟨Nat.le_of_ble_eq_true rfl, Nat.le_of_ble_eq_true rfl⟩ ⟨Nat.le_of_ble_eq_true rfl, Nat.le_of_ble_eq_true rfl⟩ dX5_beside_15 dX5_beside_18 dX5_beside_19 dX5_beside_21 dX5_beside_24

def f_X5_widths (z : Sg) (p0 : Int32) (p1 : Int32) (p2 : Int32) (p3 : Int32) : Nat × Int32 × Sg :=
  if (f_X5_existing z p0).1 = 0 then
    if (z.1 (46 + 6 * p0.toNatClampNeg) 1) = 1 then
      if (f_X5_isWidth z p1) = 0 then
        (1, 0, z)
      else
        if (f_X5_isWidth z p2) = 0 then
          (1, 0, z)
        else
          if (f_X5_isWidth z p3) = 0 then
            (1, 0, z)
          else
            (0, (f_X3_rowWidth (uI (uI (uI z (46 + 6 * p0.toNatClampNeg) 7 p1) (46 + 6 * p0.toNatClampNeg) 8 p2) (46 + 6 * p0.toNatClampNeg) 9 p3) p0.toNatClampNeg), (uI (uI (uI z (46 + 6 * p0.toNatClampNeg) 7 p1) (46 + 6 * p0.toNatClampNeg) 8 p2) (46 + 6 * p0.toNatClampNeg) 9 p3))
    else
      (1, 0, z)
  else
    ((f_X5_existing z p0).1, 0, z)
set_option maxHeartbeats 4000000 in
set_option maxRecDepth 100000 in
theorem c_X5_widths (l : Launch) (hl0 : l.stackTraces = false) (E : Ev) (S sz : Nat) (z : Sg) (p0 : Int32) (p1 : Int32) (p2 : Int32) (p3 : Int32) (hI : k_I S z) : k_XMet l yX5_widths cX5_widths 6 (some .int) ({ frames := 7, cells := 2, slots := 12, locals := 132 }) [.ref (E.2.2 0), .int p0, .int p1, .int p2, .int p3] E (46 + 6 * S) z sz (fun v u => (f_X5_widths z p0 p1 p2 p3).1 = 0 ∧ v = some (.int ((f_X5_widths z p0 p1 p2 p3).2.1)) ∧ u = (f_X5_widths z p0 p1 p2 p3).2.2) (fun X => (f_X5_widths z p0 p1 p2 p3).1 ≠ 0 ∧ X = k_ex (f_X5_widths z p0 p1 p2 p3).1) 2 12 := by
  refine k_bodyX (by decide +kernel) (Nat.le_of_ble_eq_true rfl) ?_
  intro p e s m below meth cd ls hx hb hr hml hown hlocks htab hts hW hl
  have hl : lv_has ls 6 [(0, .ref (E.2.2 0)), (1, .int p0), (2, .int p1), (3, .int p2), (4, .int p3)] := hl
  refine lv_aload_n hx hb dX5_widths_0 rfl (lv_at hl 0 rfl) ?_
  refine lv_iload_n hx hb dX5_widths_1 rfl (lv_at hl 1 rfl) ?_
  refine k_callVX (As := [.int p0]) (rest := []) hx hb hml hown hts (c_X5_existing l hl0 E S _ z p0 hI) lm_RX5_72 ln_X5_existing le_X5_existing li_X5 lk_X5_existing (show k_nm yX5_existing 1 by decide +kernel) ⟨Nat.le_of_ble_eq_true rfl, Nat.le_of_ble_eq_true rfl⟩ rfl rfl ⟨Nat.le_of_ble_eq_true rfl, Nat.le_of_ble_eq_true rfl⟩ hl.1 rfl (Nat.le_of_ble_eq_true rfl) dX5_widths_2 (by omega) (k_c0 _ _ _) rfl hW (fun X ce q9 H locs hp hW hce hcv hcl => ?_) (fun v z1 H locs hp hW => ?_)
  · have hR : (f_X5_widths z p0 p1 p2 p3) = ((f_X5_existing z p0).1, 0, z) := (by simp only [f_X5_widths, if_neg hp.1])
    exact k_out (z' := z) htab hlocks hW hce hcv hcl (by rw [hR]; exact ⟨hp.1, hp.2⟩) ⟨Nat.le_of_ble_eq_true rfl, Nat.le_of_ble_eq_true rfl⟩
  · obtain ⟨h1, rfl, hz1⟩ := hp
    rw [hz1] at hW
    refine W.eq (g2 := F0 m 5 ls [k_o E ((f_X5_existing z p0).2)]) rfl ?_
    have lk4 : p0.toNatClampNeg < S := (ex_some hI h1).2
    rw [show (f_X5_existing z p0).2 = some p0.toNatClampNeg from (ex_some hI h1).1]
    refine W.eq (g2 := F0 m 5 ls [.ref (E.2.2 (46 + 6 * p0.toNatClampNeg))]) rfl ?_
    refine lv_astore (lv' := [(5, .ref (E.2.2 (46 + 6 * p0.toNatClampNeg))), (0, .ref (E.2.2 0)), (1, .int p0), (2, .int p1), (3, .int p2), (4, .int p3)]) hx hb dX5_widths_5 hl (by decide) rfl (fun ls hl => ?_)
    refine lv_aload hx hb dX5_widths_7 (lv_at hl 0 rfl) ?_
    refine k_get hx hb hts inlX3 hown hW (46 + 6 * p0.toNatClampNeg) (by omega) (k_cell_sec p0.toNatClampNeg) rfl 1 (by decide) lf_RX5_90 rfl (v := .int (z.1 (46 + 6 * p0.toNatClampNeg) 1)) rfl dX5_widths_9 ?_
    refine lv_iconst (v := 1) hx hb dX5_widths_12 (by decide) ?_
    refine lv_icmp_eq (tgt := 26) hx hb dX5_widths_13 (by decide) (fun h5 => ?_) (fun h5 => ?_)
    · refine lv_iload_n hx hb dX5_widths_26 rfl (lv_at hl 3 rfl) ?_
      refine k_callS (rest := []) hx hb hml hown hts (c_X5_isWidth l E S _ z p1) lm_RX5_103 ls_X5_isWidth li_X5 lk_X5_isWidth (show k_nm yX5_isWidth 1 by decide +kernel) ⟨Nat.le_of_ble_eq_true rfl, Nat.le_of_ble_eq_true rfl⟩ rfl rfl ⟨Nat.le_of_ble_eq_true rfl, Nat.le_of_ble_eq_true rfl⟩ hl.1 rfl (Nat.le_of_ble_eq_true rfl) dX5_widths_27 hW (fun v z1 H locs hp hW => ?_)
      obtain ⟨rfl, hz1⟩ := hp
      rw [hz1] at hW
      refine W.eq (g2 := F0 m 30 ls [.int (f_X5_isWidth z p1)]) rfl ?_
      refine lv_if_eq (tgt := 48) hx hb dX5_widths_30 (by decide) (fun h6 => ?_) (fun h6 => ?_)
      · have hR : (f_X5_widths z p0 p1 p2 p3) = (1, 0, z) := (by simp only [f_X5_widths, if_pos h1, if_pos h5, if_pos h6])
        exact k_th (names := nm_2) hx hb hl0 hown hts (by decide) (by decide) tk_I ti_I t1_I t2_I t3_I (List.mem_of_getElem? (i := 1) rfl) htab hlocks (hl.1.trans hml.symm) hW (by rw [hR]; exact ⟨(show (1 : Nat) ≠ 0 by decide), rfl⟩) (Nat.le_of_ble_eq_true rfl) (Nat.le_of_ble_eq_true rfl) ⟨Nat.le_of_ble_eq_true rfl, Nat.le_of_ble_eq_true rfl⟩ ⟨Nat.le_of_ble_eq_true rfl, Nat.le_of_ble_eq_true rfl⟩ dX5_widths_48 dX5_widths_51 dX5_widths_52 dX5_widths_54 dX5_widths_57
      · refine lv_iload_n hx hb dX5_widths_33 rfl (lv_at hl 4 rfl) ?_
        refine k_callS (rest := []) hx hb hml hown hts (c_X5_isWidth l E S _ z p2) lm_RX5_103 ls_X5_isWidth li_X5 lk_X5_isWidth (show k_nm yX5_isWidth 1 by decide +kernel) ⟨Nat.le_of_ble_eq_true rfl, Nat.le_of_ble_eq_true rfl⟩ rfl rfl ⟨Nat.le_of_ble_eq_true rfl, Nat.le_of_ble_eq_true rfl⟩ hl.1 rfl (Nat.le_of_ble_eq_true rfl) dX5_widths_34 hW (fun v z1 H locs hp hW => ?_)
        obtain ⟨rfl, hz1⟩ := hp
        rw [hz1] at hW
        refine W.eq (g2 := F0 m 37 ls [.int (f_X5_isWidth z p2)]) rfl ?_
        refine lv_if_eq (tgt := 48) hx hb dX5_widths_37 (by decide) (fun h7 => ?_) (fun h7 => ?_)
        · have hR : (f_X5_widths z p0 p1 p2 p3) = (1, 0, z) := (by simp only [f_X5_widths, if_pos h1, if_pos h5, if_neg h6, if_pos h7])
          exact k_th (names := nm_2) hx hb hl0 hown hts (by decide) (by decide) tk_I ti_I t1_I t2_I t3_I (List.mem_of_getElem? (i := 1) rfl) htab hlocks (hl.1.trans hml.symm) hW (by rw [hR]; exact ⟨(show (1 : Nat) ≠ 0 by decide), rfl⟩) (Nat.le_of_ble_eq_true rfl) (Nat.le_of_ble_eq_true rfl) ⟨Nat.le_of_ble_eq_true rfl, Nat.le_of_ble_eq_true rfl⟩ ⟨Nat.le_of_ble_eq_true rfl, Nat.le_of_ble_eq_true rfl⟩ dX5_widths_48 dX5_widths_51 dX5_widths_52 dX5_widths_54 dX5_widths_57
        · refine lv_iload hx hb dX5_widths_40 (lv_at hl 5 rfl) ?_
          refine k_callS (rest := []) hx hb hml hown hts (c_X5_isWidth l E S _ z p3) lm_RX5_103 ls_X5_isWidth li_X5 lk_X5_isWidth (show k_nm yX5_isWidth 1 by decide +kernel) ⟨Nat.le_of_ble_eq_true rfl, Nat.le_of_ble_eq_true rfl⟩ rfl rfl ⟨Nat.le_of_ble_eq_true rfl, Nat.le_of_ble_eq_true rfl⟩ hl.1 rfl (Nat.le_of_ble_eq_true rfl) dX5_widths_42 hW (fun v z1 H locs hp hW => ?_)
          obtain ⟨rfl, hz1⟩ := hp
          rw [hz1] at hW
          refine W.eq (g2 := F0 m 45 ls [.int (f_X5_isWidth z p3)]) rfl ?_
          refine lv_if_ne (tgt := 58) hx hb dX5_widths_45 (by decide) (fun h8 => ?_) (fun h8 => ?_)
          · refine lv_aload hx hb dX5_widths_58 (lv_at hl 0 rfl) ?_
            refine lv_iload_n hx hb dX5_widths_60 rfl (lv_at hl 3 rfl) ?_
            refine k_putI hx hb hts inlX3 tyX3_ok nmX3 hown hW (46 + 6 * p0.toNatClampNeg) (by omega) (k_cell_sec p0.toNatClampNeg) rfl 7 (by decide) lf_RX5_109 rfl rfl (tyX3_ok 7 (by decide)) (Nat.le_of_ble_eq_true rfl) ks_X3_7 dX5_widths_61 (fun H locs hW => ?_)
            refine lv_aload hx hb dX5_widths_64 (lv_at hl 0 rfl) ?_
            refine lv_iload_n hx hb dX5_widths_66 rfl (lv_at hl 4 rfl) ?_
            refine k_putI hx hb hts inlX3 tyX3_ok nmX3 hown hW (46 + 6 * p0.toNatClampNeg) (by omega) (k_cell_sec p0.toNatClampNeg) rfl 8 (by decide) lf_RX5_112 rfl rfl (tyX3_ok 8 (by decide)) (Nat.le_of_ble_eq_true rfl) ks_X3_8 dX5_widths_67 (fun H locs hW => ?_)
            refine lv_aload hx hb dX5_widths_70 (lv_at hl 0 rfl) ?_
            refine lv_iload hx hb dX5_widths_72 (lv_at hl 5 rfl) ?_
            refine k_putI hx hb hts inlX3 tyX3_ok nmX3 hown hW (46 + 6 * p0.toNatClampNeg) (by omega) (k_cell_sec p0.toNatClampNeg) rfl 9 (by decide) lf_RX5_115 rfl rfl (tyX3_ok 9 (by decide)) (Nat.le_of_ble_eq_true rfl) ks_X3_9 dX5_widths_74 (fun H locs hW => ?_)
            refine lv_aload hx hb dX5_widths_77 (lv_at hl 0 rfl) ?_
            refine k_callV (As := []) (rest := []) hx hb hml hown hts (c_X3_rowWidth l E S _ (uI (uI (uI z (46 + 6 * p0.toNatClampNeg) 7 p1) (46 + 6 * p0.toNatClampNeg) 8 p2) (46 + 6 * p0.toNatClampNeg) 9 p3) p0.toNatClampNeg lk4) lm_RX5_118 ln_X3_rowWidth le_X3_rowWidth li_X3 lk_X3_rowWidth (show k_nm yX3_rowWidth 0 by decide +kernel) ⟨Nat.le_of_ble_eq_true rfl, Nat.le_of_ble_eq_true rfl⟩ rfl rfl ⟨Nat.le_of_ble_eq_true rfl, Nat.le_of_ble_eq_true rfl⟩ hl.1 rfl (Nat.le_of_ble_eq_true rfl) dX5_widths_79 (by omega) ((k_cell_sec p0.toNatClampNeg) _ _ _) rfl hW (fun v z1 H locs hp hW => ?_)
            obtain ⟨rfl, hz1⟩ := hp
            rw [hz1] at hW
            refine W.eq (g2 := F0 m 82 ls [.int (f_X3_rowWidth (uI (uI (uI z (46 + 6 * p0.toNatClampNeg) 7 p1) (46 + 6 * p0.toNatClampNeg) 8 p2) (46 + 6 * p0.toNatClampNeg) 9 p3) p0.toNatClampNeg)]) rfl ?_
            have hR : (f_X5_widths z p0 p1 p2 p3) = (0, (f_X3_rowWidth (uI (uI (uI z (46 + 6 * p0.toNatClampNeg) 7 p1) (46 + 6 * p0.toNatClampNeg) 8 p2) (46 + 6 * p0.toNatClampNeg) 9 p3) p0.toNatClampNeg), (uI (uI (uI z (46 + 6 * p0.toNatClampNeg) 7 p1) (46 + 6 * p0.toNatClampNeg) 8 p2) (46 + 6 * p0.toNatClampNeg) 9 p3)) := (by simp only [f_X5_widths, if_pos h1, if_pos h5, if_neg h6, if_neg h7, if_neg h8])
            refine vx_ret (W.widen (k := 2) (n := 12) (by omega) (by omega) ?_)
            exact k_iret hx hb hr rfl hlocks hW ⟨by rw [hR], by rw [hR], by rw [hR]⟩ dX5_widths_82
          · have hR : (f_X5_widths z p0 p1 p2 p3) = (1, 0, z) := (by simp only [f_X5_widths, if_pos h1, if_pos h5, if_neg h6, if_neg h7, if_pos h8])
            exact k_th (names := nm_2) hx hb hl0 hown hts (by decide) (by decide) tk_I ti_I t1_I t2_I t3_I (List.mem_of_getElem? (i := 1) rfl) htab hlocks (hl.1.trans hml.symm) hW (by rw [hR]; exact ⟨(show (1 : Nat) ≠ 0 by decide), rfl⟩) (Nat.le_of_ble_eq_true rfl) (Nat.le_of_ble_eq_true rfl) ⟨Nat.le_of_ble_eq_true rfl, Nat.le_of_ble_eq_true rfl⟩ ⟨Nat.le_of_ble_eq_true rfl, Nat.le_of_ble_eq_true rfl⟩ dX5_widths_48 dX5_widths_51 dX5_widths_52 dX5_widths_54 dX5_widths_57
    · have hR : (f_X5_widths z p0 p1 p2 p3) = (1, 0, z) := (by simp only [f_X5_widths, if_pos h1, if_neg h5])
      exact k_th (names := nm_2) hx hb hl0 hown hts (by decide) (by decide) tk_I ti_I t1_I t2_I t3_I (List.mem_of_getElem? (i := 0) rfl) htab hlocks (hl.1.trans hml.symm) hW (by rw [hR]; exact ⟨(show (1 : Nat) ≠ 0 by decide), rfl⟩) (Nat.le_of_ble_eq_true rfl) (Nat.le_of_ble_eq_true rfl) ⟨Nat.le_of_ble_eq_true rfl, Nat.le_of_ble_eq_true rfl⟩ ⟨Nat.le_of_ble_eq_true rfl, Nat.le_of_ble_eq_true rfl⟩ dX5_widths_16 dX5_widths_19 dX5_widths_20 dX5_widths_22 dX5_widths_25

def f_X5_run (z : Sg) (p0 : Int32) (p1 : Int32) (p2 : Int32) : Nat × Int32 × Sg :=
  if (f_X5_existing z p0).1 = 0 then
    if (z.1 (46 + 6 * p0.toNatClampNeg) 1) = 1 then
      if p1 < 0 then
        (1, 0, z)
      else
        if p1 ≤ 999 then
          if p2 < 1 then
            (1, 0, z)
          else
            if p2 ≤ 100 then
              if (z.1 (46 + 6 * p0.toNatClampNeg) 12) < 6 then
                (0, (z.1 (46 + 6 * p0.toNatClampNeg) 12) + 1, (uI (uI (uI z (46 + 6 * p0.toNatClampNeg + 2) ((z.1 (46 + 6 * p0.toNatClampNeg) 12).toNatClampNeg) p1) (46 + 6 * p0.toNatClampNeg + 3) ((z.1 (46 + 6 * p0.toNatClampNeg) 12).toNatClampNeg) p2) (46 + 6 * p0.toNatClampNeg) 12 ((z.1 (46 + 6 * p0.toNatClampNeg) 12) + 1)))
              else
                (2, 0, z)
            else
              (1, 0, z)
        else
          (1, 0, z)
    else
      (1, 0, z)
  else
    ((f_X5_existing z p0).1, 0, z)
set_option maxHeartbeats 4000000 in
set_option maxRecDepth 100000 in
theorem c_X5_run (l : Launch) (hl0 : l.stackTraces = false) (E : Ev) (S sz : Nat) (z : Sg) (p0 : Int32) (p1 : Int32) (p2 : Int32) (hI : k_I S z) : k_XMet l yX5_run cX5_run 5 (some .int) ({ frames := 7, cells := 2, slots := 12, locals := 132 }) [.ref (E.2.2 0), .int p0, .int p1, .int p2] E (46 + 6 * S) z sz (fun v u => (f_X5_run z p0 p1 p2).1 = 0 ∧ v = some (.int ((f_X5_run z p0 p1 p2).2.1)) ∧ u = (f_X5_run z p0 p1 p2).2.2) (fun X => (f_X5_run z p0 p1 p2).1 ≠ 0 ∧ X = k_ex (f_X5_run z p0 p1 p2).1) 2 12 := by
  refine k_bodyX (by decide +kernel) (Nat.le_of_ble_eq_true rfl) ?_
  intro p e s m below meth cd ls hx hb hr hml hown hlocks htab hts hW hl
  have hl : lv_has ls 5 [(0, .ref (E.2.2 0)), (1, .int p0), (2, .int p1), (3, .int p2)] := hl
  refine lv_aload_n hx hb dX5_run_0 rfl (lv_at hl 0 rfl) ?_
  refine lv_iload_n hx hb dX5_run_1 rfl (lv_at hl 1 rfl) ?_
  refine k_callVX (As := [.int p0]) (rest := []) hx hb hml hown hts (c_X5_existing l hl0 E S _ z p0 hI) lm_RX5_72 ln_X5_existing le_X5_existing li_X5 lk_X5_existing (show k_nm yX5_existing 1 by decide +kernel) ⟨Nat.le_of_ble_eq_true rfl, Nat.le_of_ble_eq_true rfl⟩ rfl rfl ⟨Nat.le_of_ble_eq_true rfl, Nat.le_of_ble_eq_true rfl⟩ hl.1 rfl (Nat.le_of_ble_eq_true rfl) dX5_run_2 (by omega) (k_c0 _ _ _) rfl hW (fun X ce q9 H locs hp hW hce hcv hcl => ?_) (fun v z1 H locs hp hW => ?_)
  · have hR : (f_X5_run z p0 p1 p2) = ((f_X5_existing z p0).1, 0, z) := (by simp only [f_X5_run, if_neg hp.1])
    exact k_out (z' := z) htab hlocks hW hce hcv hcl (by rw [hR]; exact ⟨hp.1, hp.2⟩) ⟨Nat.le_of_ble_eq_true rfl, Nat.le_of_ble_eq_true rfl⟩
  · obtain ⟨h1, rfl, hz1⟩ := hp
    rw [hz1] at hW
    refine W.eq (g2 := F0 m 5 ls [k_o E ((f_X5_existing z p0).2)]) rfl ?_
    have lk4 : p0.toNatClampNeg < S := (ex_some hI h1).2
    rw [show (f_X5_existing z p0).2 = some p0.toNatClampNeg from (ex_some hI h1).1]
    refine W.eq (g2 := F0 m 5 ls [.ref (E.2.2 (46 + 6 * p0.toNatClampNeg))]) rfl ?_
    refine lv_astore (lv' := [(4, .ref (E.2.2 (46 + 6 * p0.toNatClampNeg))), (0, .ref (E.2.2 0)), (1, .int p0), (2, .int p1), (3, .int p2)]) hx hb dX5_run_5 hl (by decide) rfl (fun ls hl => ?_)
    refine lv_aload hx hb dX5_run_7 (lv_at hl 0 rfl) ?_
    refine k_get hx hb hts inlX3 hown hW (46 + 6 * p0.toNatClampNeg) (by omega) (k_cell_sec p0.toNatClampNeg) rfl 1 (by decide) lf_RX5_90 rfl (v := .int (z.1 (46 + 6 * p0.toNatClampNeg) 1)) rfl dX5_run_9 ?_
    refine lv_iconst (v := 1) hx hb dX5_run_12 (by decide) ?_
    refine lv_icmp_eq (tgt := 26) hx hb dX5_run_13 (by decide) (fun h5 => ?_) (fun h5 => ?_)
    · refine lv_iload_n hx hb dX5_run_26 rfl (lv_at hl 3 rfl) ?_
      refine lv_if_lt (tgt := 37) hx hb dX5_run_27 (by decide) (fun h6 => ?_) (fun h6 => ?_)
      · have hR : (f_X5_run z p0 p1 p2) = (1, 0, z) := (by simp only [f_X5_run, if_pos h1, if_pos h5, if_pos h6])
        exact k_th (names := nm_2) hx hb hl0 hown hts (by decide) (by decide) tk_I ti_I t1_I t2_I t3_I (List.mem_of_getElem? (i := 2) rfl) htab hlocks (hl.1.trans hml.symm) hW (by rw [hR]; exact ⟨(show (1 : Nat) ≠ 0 by decide), rfl⟩) (Nat.le_of_ble_eq_true rfl) (Nat.le_of_ble_eq_true rfl) ⟨Nat.le_of_ble_eq_true rfl, Nat.le_of_ble_eq_true rfl⟩ ⟨Nat.le_of_ble_eq_true rfl, Nat.le_of_ble_eq_true rfl⟩ dX5_run_37 dX5_run_40 dX5_run_41 dX5_run_43 dX5_run_46
      · refine lv_iload_n hx hb dX5_run_30 rfl (lv_at hl 3 rfl) ?_
        refine lv_sipush (v := 999) hx hb dX5_run_31 (by decide) ?_
        refine lv_icmp_le (tgt := 47) hx hb dX5_run_34 (by decide) (fun h7 => ?_) (fun h7 => ?_)
        · refine lv_iload_n hx hb dX5_run_47 rfl (lv_at hl 4 rfl) ?_
          refine lv_iconst (v := 1) hx hb dX5_run_48 (by decide) ?_
          refine lv_icmp_lt (tgt := 58) hx hb dX5_run_49 (by decide) (fun h8 => ?_) (fun h8 => ?_)
          · have hR : (f_X5_run z p0 p1 p2) = (1, 0, z) := (by simp only [f_X5_run, if_pos h1, if_pos h5, if_neg h6, if_pos h7, if_pos h8])
            exact k_th (names := nm_2) hx hb hl0 hown hts (by decide) (by decide) tk_I ti_I t1_I t2_I t3_I (List.mem_of_getElem? (i := 3) rfl) htab hlocks (hl.1.trans hml.symm) hW (by rw [hR]; exact ⟨(show (1 : Nat) ≠ 0 by decide), rfl⟩) (Nat.le_of_ble_eq_true rfl) (Nat.le_of_ble_eq_true rfl) ⟨Nat.le_of_ble_eq_true rfl, Nat.le_of_ble_eq_true rfl⟩ ⟨Nat.le_of_ble_eq_true rfl, Nat.le_of_ble_eq_true rfl⟩ dX5_run_58 dX5_run_61 dX5_run_62 dX5_run_64 dX5_run_67
          · refine lv_iload_n hx hb dX5_run_52 rfl (lv_at hl 4 rfl) ?_
            refine lv_bipush (v := 100) hx hb dX5_run_53 (by decide) ?_
            refine lv_icmp_le (tgt := 68) hx hb dX5_run_55 (by decide) (fun h9 => ?_) (fun h9 => ?_)
            · refine lv_aload hx hb dX5_run_68 (lv_at hl 0 rfl) ?_
              refine k_get hx hb hts inlX3 hown hW (46 + 6 * p0.toNatClampNeg) (by omega) (k_cell_sec p0.toNatClampNeg) rfl 12 (by decide) lf_RX5_126 rfl (v := .int (z.1 (46 + 6 * p0.toNatClampNeg) 12)) rfl dX5_run_70 ?_
              refine lv_bipush (v := 6) hx hb dX5_run_73 (by decide) ?_
              refine lv_icmp_lt (tgt := 88) hx hb dX5_run_75 (by decide) (fun h10 => ?_) (fun h10 => ?_)
              · refine lv_aload hx hb dX5_run_88 (lv_at hl 0 rfl) ?_
                refine k_get hx hb hts inlX3 hown hW (46 + 6 * p0.toNatClampNeg) (by omega) (k_cell_sec p0.toNatClampNeg) rfl 10 (by decide) lf_RX5_131 rfl (v := .ref (E.2.2 (46 + 6 * p0.toNatClampNeg + 2))) rfl dX5_run_90 ?_
                refine lv_aload hx hb dX5_run_93 (lv_at hl 0 rfl) ?_
                refine k_get hx hb hts inlX3 hown hW (46 + 6 * p0.toNatClampNeg) (by omega) (k_cell_sec p0.toNatClampNeg) rfl 12 (by decide) lf_RX5_126 rfl (v := .int (z.1 (46 + 6 * p0.toNatClampNeg) 12)) rfl dX5_run_95 ?_
                refine lv_iload_n hx hb dX5_run_98 rfl (lv_at hl 3 rfl) ?_
                refine k_iast hx hb hW (46 + 6 * p0.toNatClampNeg + 2) 6 (by omega) (k_cell_sf p0.toNatClampNeg) (by exact in_ltp (k_Is hI lk4).2.2.2.1.1 h10 rfl) dX5_run_99 (fun H locs hW => ?_)
                refine lv_aload hx hb dX5_run_100 (lv_at hl 0 rfl) ?_
                refine k_get hx hb hts inlX3 hown hW (46 + 6 * p0.toNatClampNeg) (by omega) (k_cell_sec p0.toNatClampNeg) rfl 11 (by decide) lf_RX5_135 rfl (v := .ref (E.2.2 (46 + 6 * p0.toNatClampNeg + 3))) rfl dX5_run_102 ?_
                refine lv_aload hx hb dX5_run_105 (lv_at hl 0 rfl) ?_
                refine k_get hx hb hts inlX3 hown hW (46 + 6 * p0.toNatClampNeg) (by omega) (k_cell_sec p0.toNatClampNeg) rfl 12 (by decide) lf_RX5_126 rfl (v := .int (z.1 (46 + 6 * p0.toNatClampNeg) 12)) (by rw [uI_r (show (46 + 6 * p0.toNatClampNeg) ≠ (46 + 6 * p0.toNatClampNeg + 2) by omega)]; rfl) dX5_run_107 ?_
                refine lv_iload_n hx hb dX5_run_110 rfl (lv_at hl 4 rfl) ?_
                refine k_iast hx hb hW (46 + 6 * p0.toNatClampNeg + 3) 6 (by omega) (k_cell_sm p0.toNatClampNeg) (by exact in_ltp (k_Is hI lk4).2.2.2.1.1 h10 rfl) dX5_run_111 (fun H locs hW => ?_)
                refine lv_aload hx hb dX5_run_112 (lv_at hl 0 rfl) ?_
                refine lv_dup hx hb dX5_run_114 rfl ?_
                refine k_get hx hb hts inlX3 hown hW (46 + 6 * p0.toNatClampNeg) (by omega) (k_cell_sec p0.toNatClampNeg) rfl 12 (by decide) lf_RX5_126 rfl (v := .int (z.1 (46 + 6 * p0.toNatClampNeg) 12)) (by rw [uI_r (show (46 + 6 * p0.toNatClampNeg) ≠ (46 + 6 * p0.toNatClampNeg + 3) by omega)]; rw [uI_r (show (46 + 6 * p0.toNatClampNeg) ≠ (46 + 6 * p0.toNatClampNeg + 2) by omega)]; rfl) dX5_run_115 ?_
                refine lv_iconst (v := 1) hx hb dX5_run_118 (by decide) ?_
                refine lv_iadd hx hb dX5_run_119 ?_
                refine k_putI hx hb hts inlX3 tyX3_ok nmX3 hown hW (46 + 6 * p0.toNatClampNeg) (by omega) (k_cell_sec p0.toNatClampNeg) rfl 12 (by decide) lf_RX5_126 rfl rfl (tyX3_ok 12 (by decide)) (Nat.le_of_ble_eq_true rfl) ks_X3_12 dX5_run_120 (fun H locs hW => ?_)
                refine lv_aload hx hb dX5_run_123 (lv_at hl 0 rfl) ?_
                refine k_get hx hb hts inlX3 hown hW (46 + 6 * p0.toNatClampNeg) (by omega) (k_cell_sec p0.toNatClampNeg) rfl 12 (by decide) lf_RX5_126 rfl (v := .int ((z.1 (46 + 6 * p0.toNatClampNeg) 12) + 1)) (by rw [uI_s]; rfl) dX5_run_125 ?_
                have hR : (f_X5_run z p0 p1 p2) = (0, (z.1 (46 + 6 * p0.toNatClampNeg) 12) + 1, (uI (uI (uI z (46 + 6 * p0.toNatClampNeg + 2) ((z.1 (46 + 6 * p0.toNatClampNeg) 12).toNatClampNeg) p1) (46 + 6 * p0.toNatClampNeg + 3) ((z.1 (46 + 6 * p0.toNatClampNeg) 12).toNatClampNeg) p2) (46 + 6 * p0.toNatClampNeg) 12 ((z.1 (46 + 6 * p0.toNatClampNeg) 12) + 1))) := (by simp only [f_X5_run, if_pos h1, if_pos h5, if_neg h6, if_pos h7, if_neg h8, if_pos h9, if_pos h10])
                refine vx_ret (W.widen (k := 2) (n := 12) (by omega) (by omega) ?_)
                exact k_iret hx hb hr rfl hlocks hW ⟨by rw [hR], by rw [hR], by rw [hR]⟩ dX5_run_128
              · have hR : (f_X5_run z p0 p1 p2) = (2, 0, z) := (by simp only [f_X5_run, if_pos h1, if_pos h5, if_neg h6, if_pos h7, if_neg h8, if_pos h9, if_neg h10])
                exact k_th (names := nm_2) hx hb hl0 hown hts (by decide) (by decide) tk_U ti_U t1_U t2_U t3_U (List.mem_of_getElem? (i := 4) rfl) htab hlocks (hl.1.trans hml.symm) hW (by rw [hR]; exact ⟨(show (2 : Nat) ≠ 0 by decide), rfl⟩) (Nat.le_of_ble_eq_true rfl) (Nat.le_of_ble_eq_true rfl) ⟨Nat.le_of_ble_eq_true rfl, Nat.le_of_ble_eq_true rfl⟩ ⟨Nat.le_of_ble_eq_true rfl, Nat.le_of_ble_eq_true rfl⟩ dX5_run_78 dX5_run_81 dX5_run_82 dX5_run_84 dX5_run_87
            · have hR : (f_X5_run z p0 p1 p2) = (1, 0, z) := (by simp only [f_X5_run, if_pos h1, if_pos h5, if_neg h6, if_pos h7, if_neg h8, if_neg h9])
              exact k_th (names := nm_2) hx hb hl0 hown hts (by decide) (by decide) tk_I ti_I t1_I t2_I t3_I (List.mem_of_getElem? (i := 3) rfl) htab hlocks (hl.1.trans hml.symm) hW (by rw [hR]; exact ⟨(show (1 : Nat) ≠ 0 by decide), rfl⟩) (Nat.le_of_ble_eq_true rfl) (Nat.le_of_ble_eq_true rfl) ⟨Nat.le_of_ble_eq_true rfl, Nat.le_of_ble_eq_true rfl⟩ ⟨Nat.le_of_ble_eq_true rfl, Nat.le_of_ble_eq_true rfl⟩ dX5_run_58 dX5_run_61 dX5_run_62 dX5_run_64 dX5_run_67
        · have hR : (f_X5_run z p0 p1 p2) = (1, 0, z) := (by simp only [f_X5_run, if_pos h1, if_pos h5, if_neg h6, if_neg h7])
          exact k_th (names := nm_2) hx hb hl0 hown hts (by decide) (by decide) tk_I ti_I t1_I t2_I t3_I (List.mem_of_getElem? (i := 2) rfl) htab hlocks (hl.1.trans hml.symm) hW (by rw [hR]; exact ⟨(show (1 : Nat) ≠ 0 by decide), rfl⟩) (Nat.le_of_ble_eq_true rfl) (Nat.le_of_ble_eq_true rfl) ⟨Nat.le_of_ble_eq_true rfl, Nat.le_of_ble_eq_true rfl⟩ ⟨Nat.le_of_ble_eq_true rfl, Nat.le_of_ble_eq_true rfl⟩ dX5_run_37 dX5_run_40 dX5_run_41 dX5_run_43 dX5_run_46
    · have hR : (f_X5_run z p0 p1 p2) = (1, 0, z) := (by simp only [f_X5_run, if_pos h1, if_neg h5])
      exact k_th (names := nm_2) hx hb hl0 hown hts (by decide) (by decide) tk_I ti_I t1_I t2_I t3_I (List.mem_of_getElem? (i := 0) rfl) htab hlocks (hl.1.trans hml.symm) hW (by rw [hR]; exact ⟨(show (1 : Nat) ≠ 0 by decide), rfl⟩) (Nat.le_of_ble_eq_true rfl) (Nat.le_of_ble_eq_true rfl) ⟨Nat.le_of_ble_eq_true rfl, Nat.le_of_ble_eq_true rfl⟩ ⟨Nat.le_of_ble_eq_true rfl, Nat.le_of_ble_eq_true rfl⟩ dX5_run_16 dX5_run_19 dX5_run_20 dX5_run_22 dX5_run_25

def f_X5_key (z : Sg) (p0 : Int32) (p1 : Int32) (p2 : Int32) : Nat × Int32 × Sg :=
  if (f_X5_existing z p0).1 = 0 then
    if (f_X5_isKey z p1) = 0 then
      (1, 0, z)
    else
      if (z.1 (46 + 6 * p0.toNatClampNeg + 5) p1.toNatClampNeg) = 0 then
        (0, 0, (uI (uI z (46 + 6 * p0.toNatClampNeg + 5) p1.toNatClampNeg (vp_nar .boolean 1)) (46 + 6 * p0.toNatClampNeg + 4) p1.toNatClampNeg p2))
      else
        (0, 1, (uI (uI z (46 + 6 * p0.toNatClampNeg + 5) p1.toNatClampNeg (vp_nar .boolean 1)) (46 + 6 * p0.toNatClampNeg + 4) p1.toNatClampNeg p2))
  else
    ((f_X5_existing z p0).1, 0, z)
set_option maxHeartbeats 4000000 in
set_option maxRecDepth 100000 in
theorem c_X5_key (l : Launch) (hl0 : l.stackTraces = false) (E : Ev) (S sz : Nat) (z : Sg) (p0 : Int32) (p1 : Int32) (p2 : Int32) (hI : k_I S z) : k_XMet l yX5_key cX5_key 6 (some .int) ({ frames := 7, cells := 2, slots := 12, locals := 132 }) [.ref (E.2.2 0), .int p0, .int p1, .int p2] E (46 + 6 * S) z sz (fun v u => (f_X5_key z p0 p1 p2).1 = 0 ∧ v = some (.int ((f_X5_key z p0 p1 p2).2.1)) ∧ u = (f_X5_key z p0 p1 p2).2.2) (fun X => (f_X5_key z p0 p1 p2).1 ≠ 0 ∧ X = k_ex (f_X5_key z p0 p1 p2).1) 2 12 := by
  refine k_bodyX (by decide +kernel) (Nat.le_of_ble_eq_true rfl) ?_
  intro p e s m below meth cd ls hx hb hr hml hown hlocks htab hts hW hl
  have hl : lv_has ls 6 [(0, .ref (E.2.2 0)), (1, .int p0), (2, .int p1), (3, .int p2)] := hl
  refine lv_aload_n hx hb dX5_key_0 rfl (lv_at hl 0 rfl) ?_
  refine lv_iload_n hx hb dX5_key_1 rfl (lv_at hl 1 rfl) ?_
  refine k_callVX (As := [.int p0]) (rest := []) hx hb hml hown hts (c_X5_existing l hl0 E S _ z p0 hI) lm_RX5_72 ln_X5_existing le_X5_existing li_X5 lk_X5_existing (show k_nm yX5_existing 1 by decide +kernel) ⟨Nat.le_of_ble_eq_true rfl, Nat.le_of_ble_eq_true rfl⟩ rfl rfl ⟨Nat.le_of_ble_eq_true rfl, Nat.le_of_ble_eq_true rfl⟩ hl.1 rfl (Nat.le_of_ble_eq_true rfl) dX5_key_2 (by omega) (k_c0 _ _ _) rfl hW (fun X ce q9 H locs hp hW hce hcv hcl => ?_) (fun v z1 H locs hp hW => ?_)
  · have hR : (f_X5_key z p0 p1 p2) = ((f_X5_existing z p0).1, 0, z) := (by simp only [f_X5_key, if_neg hp.1])
    exact k_out (z' := z) htab hlocks hW hce hcv hcl (by rw [hR]; exact ⟨hp.1, hp.2⟩) ⟨Nat.le_of_ble_eq_true rfl, Nat.le_of_ble_eq_true rfl⟩
  · obtain ⟨h1, rfl, hz1⟩ := hp
    rw [hz1] at hW
    refine W.eq (g2 := F0 m 5 ls [k_o E ((f_X5_existing z p0).2)]) rfl ?_
    have lk4 : p0.toNatClampNeg < S := (ex_some hI h1).2
    rw [show (f_X5_existing z p0).2 = some p0.toNatClampNeg from (ex_some hI h1).1]
    refine W.eq (g2 := F0 m 5 ls [.ref (E.2.2 (46 + 6 * p0.toNatClampNeg))]) rfl ?_
    refine lv_astore (lv' := [(4, .ref (E.2.2 (46 + 6 * p0.toNatClampNeg))), (0, .ref (E.2.2 0)), (1, .int p0), (2, .int p1), (3, .int p2)]) hx hb dX5_key_5 hl (by decide) rfl (fun ls hl => ?_)
    refine lv_iload_n hx hb dX5_key_7 rfl (lv_at hl 3 rfl) ?_
    refine k_callS (rest := []) hx hb hml hown hts (c_X5_isKey l E S _ z p1) lm_RX5_138 ls_X5_isKey li_X5 lk_X5_isKey (show k_nm yX5_isKey 1 by decide +kernel) ⟨Nat.le_of_ble_eq_true rfl, Nat.le_of_ble_eq_true rfl⟩ rfl rfl ⟨Nat.le_of_ble_eq_true rfl, Nat.le_of_ble_eq_true rfl⟩ hl.1 rfl (Nat.le_of_ble_eq_true rfl) dX5_key_8 hW (fun v z1 H locs hp hW => ?_)
    obtain ⟨rfl, hz1⟩ := hp
    rw [hz1] at hW
    refine W.eq (g2 := F0 m 11 ls [.int (f_X5_isKey z p1)]) rfl ?_
    refine lv_if_ne (tgt := 24) hx hb dX5_key_11 (by decide) (fun h5 => ?_) (fun h5 => ?_)
    · refine lv_aload hx hb dX5_key_24 (lv_at hl 0 rfl) ?_
      refine k_get hx hb hts inlX3 hown hW (46 + 6 * p0.toNatClampNeg) (by omega) (k_cell_sec p0.toNatClampNeg) rfl 14 (by decide) lf_RX5_143 rfl (v := .ref (E.2.2 (46 + 6 * p0.toNatClampNeg + 5))) rfl dX5_key_26 ?_
      refine lv_iload_n hx hb dX5_key_29 rfl (lv_at hl 3 rfl) ?_
      refine k_zald hx hb hW (46 + 6 * p0.toNatClampNeg + 5) 10 (by omega) (k_cell_sh p0.toNatClampNeg) (v := (z.1 (46 + 6 * p0.toNatClampNeg + 5) p1.toNatClampNeg)) (by exact key_in h5) rfl dX5_key_30 ?_
      refine lv_if_eq (tgt := 38) hx hb dX5_key_31 (by decide) (fun h6 => ?_) (fun h6 => ?_)
      · refine lv_iconst (v := 0) hx hb dX5_key_38 (by decide) ?_
        refine lv_istore (lv' := [(5, .int 0), (4, .ref (E.2.2 (46 + 6 * p0.toNatClampNeg))), (0, .ref (E.2.2 0)), (1, .int p0), (2, .int p1), (3, .int p2)]) hx hb dX5_key_39 hl (by decide) rfl (fun ls hl => ?_)
        refine lv_aload hx hb dX5_key_41 (lv_at hl 1 rfl) ?_
        refine k_get hx hb hts inlX3 hown hW (46 + 6 * p0.toNatClampNeg) (by omega) (k_cell_sec p0.toNatClampNeg) rfl 14 (by decide) lf_RX5_143 rfl (v := .ref (E.2.2 (46 + 6 * p0.toNatClampNeg + 5))) rfl dX5_key_43 ?_
        refine lv_iload_n hx hb dX5_key_46 rfl (lv_at hl 4 rfl) ?_
        refine lv_iconst (v := 1) hx hb dX5_key_47 (by decide) ?_
        refine k_zast hx hb hW (46 + 6 * p0.toNatClampNeg + 5) 10 (by omega) (k_cell_sh p0.toNatClampNeg) (by exact key_in h5) dX5_key_48 (fun H locs hW => ?_)
        refine lv_aload hx hb dX5_key_49 (lv_at hl 1 rfl) ?_
        refine k_get hx hb hts inlX3 hown hW (46 + 6 * p0.toNatClampNeg) (by omega) (k_cell_sec p0.toNatClampNeg) rfl 13 (by decide) lf_RX5_147 rfl (v := .ref (E.2.2 (46 + 6 * p0.toNatClampNeg + 4))) rfl dX5_key_51 ?_
        refine lv_iload_n hx hb dX5_key_54 rfl (lv_at hl 4 rfl) ?_
        refine lv_iload_n hx hb dX5_key_55 rfl (lv_at hl 5 rfl) ?_
        refine k_iast hx hb hW (46 + 6 * p0.toNatClampNeg + 4) 10 (by omega) (k_cell_sv p0.toNatClampNeg) (by exact key_in h5) dX5_key_56 (fun H locs hW => ?_)
        refine lv_iload hx hb dX5_key_57 (lv_at hl 0 rfl) ?_
        have hR : (f_X5_key z p0 p1 p2) = (0, 0, (uI (uI z (46 + 6 * p0.toNatClampNeg + 5) p1.toNatClampNeg (vp_nar .boolean 1)) (46 + 6 * p0.toNatClampNeg + 4) p1.toNatClampNeg p2)) := (by simp only [f_X5_key, if_pos h1, if_neg h5, if_pos h6])
        refine vx_ret (W.widen (k := 2) (n := 12) (by omega) (by omega) ?_)
        exact k_iret hx hb hr rfl hlocks hW ⟨by rw [hR], by rw [hR], by rw [hR]⟩ dX5_key_59
      · refine lv_iconst (v := 1) hx hb dX5_key_34 (by decide) ?_
        refine lv_goto (tgt := 39) hx hb dX5_key_35 (by decide) ?_
        refine lv_istore (lv' := [(5, .int 1), (4, .ref (E.2.2 (46 + 6 * p0.toNatClampNeg))), (0, .ref (E.2.2 0)), (1, .int p0), (2, .int p1), (3, .int p2)]) hx hb dX5_key_39 hl (by decide) rfl (fun ls hl => ?_)
        refine lv_aload hx hb dX5_key_41 (lv_at hl 1 rfl) ?_
        refine k_get hx hb hts inlX3 hown hW (46 + 6 * p0.toNatClampNeg) (by omega) (k_cell_sec p0.toNatClampNeg) rfl 14 (by decide) lf_RX5_143 rfl (v := .ref (E.2.2 (46 + 6 * p0.toNatClampNeg + 5))) rfl dX5_key_43 ?_
        refine lv_iload_n hx hb dX5_key_46 rfl (lv_at hl 4 rfl) ?_
        refine lv_iconst (v := 1) hx hb dX5_key_47 (by decide) ?_
        refine k_zast hx hb hW (46 + 6 * p0.toNatClampNeg + 5) 10 (by omega) (k_cell_sh p0.toNatClampNeg) (by exact key_in h5) dX5_key_48 (fun H locs hW => ?_)
        refine lv_aload hx hb dX5_key_49 (lv_at hl 1 rfl) ?_
        refine k_get hx hb hts inlX3 hown hW (46 + 6 * p0.toNatClampNeg) (by omega) (k_cell_sec p0.toNatClampNeg) rfl 13 (by decide) lf_RX5_147 rfl (v := .ref (E.2.2 (46 + 6 * p0.toNatClampNeg + 4))) rfl dX5_key_51 ?_
        refine lv_iload_n hx hb dX5_key_54 rfl (lv_at hl 4 rfl) ?_
        refine lv_iload_n hx hb dX5_key_55 rfl (lv_at hl 5 rfl) ?_
        refine k_iast hx hb hW (46 + 6 * p0.toNatClampNeg + 4) 10 (by omega) (k_cell_sv p0.toNatClampNeg) (by exact key_in h5) dX5_key_56 (fun H locs hW => ?_)
        refine lv_iload hx hb dX5_key_57 (lv_at hl 0 rfl) ?_
        have hR : (f_X5_key z p0 p1 p2) = (0, 1, (uI (uI z (46 + 6 * p0.toNatClampNeg + 5) p1.toNatClampNeg (vp_nar .boolean 1)) (46 + 6 * p0.toNatClampNeg + 4) p1.toNatClampNeg p2)) := (by simp only [f_X5_key, if_pos h1, if_neg h5, if_neg h6])
        refine vx_ret (W.widen (k := 2) (n := 12) (by omega) (by omega) ?_)
        exact k_iret hx hb hr rfl hlocks hW ⟨by rw [hR], by rw [hR], by rw [hR]⟩ dX5_key_59
    · have hR : (f_X5_key z p0 p1 p2) = (1, 0, z) := (by simp only [f_X5_key, if_pos h1, if_pos h5])
      exact k_th (names := nm_2) hx hb hl0 hown hts (by decide) (by decide) tk_I ti_I t1_I t2_I t3_I (List.mem_of_getElem? (i := 5) rfl) htab hlocks (hl.1.trans hml.symm) hW (by rw [hR]; exact ⟨(show (1 : Nat) ≠ 0 by decide), rfl⟩) (Nat.le_of_ble_eq_true rfl) (Nat.le_of_ble_eq_true rfl) ⟨Nat.le_of_ble_eq_true rfl, Nat.le_of_ble_eq_true rfl⟩ ⟨Nat.le_of_ble_eq_true rfl, Nat.le_of_ble_eq_true rfl⟩ dX5_key_14 dX5_key_17 dX5_key_18 dX5_key_20 dX5_key_23

def f_X5_value (z : Sg) (p0 : Int32) (p1 : Int32) : Nat × Int32 :=
  if (f_X5_existing z p0).1 = 0 then
    if (f_X5_isKey z p1) = 0 then
      (1, 0)
    else
      (0, (z.1 (46 + 6 * p0.toNatClampNeg + 4) p1.toNatClampNeg))
  else
    ((f_X5_existing z p0).1, 0)
set_option maxHeartbeats 4000000 in
set_option maxRecDepth 100000 in
theorem c_X5_value (l : Launch) (hl0 : l.stackTraces = false) (E : Ev) (S sz : Nat) (z : Sg) (p0 : Int32) (p1 : Int32) (hI : k_I S z) : k_XMet l yX5_value cX5_value 4 (some .int) ({ frames := 7, cells := 2, slots := 12, locals := 132 }) [.ref (E.2.2 0), .int p0, .int p1] E (46 + 6 * S) z sz (fun v u => (f_X5_value z p0 p1).1 = 0 ∧ v = some (.int ((f_X5_value z p0 p1).2)) ∧ u = z) (fun X => (f_X5_value z p0 p1).1 ≠ 0 ∧ X = k_ex (f_X5_value z p0 p1).1) 2 12 := by
  refine k_bodyX (by decide +kernel) (Nat.le_of_ble_eq_true rfl) ?_
  intro p e s m below meth cd ls hx hb hr hml hown hlocks htab hts hW hl
  have hl : lv_has ls 4 [(0, .ref (E.2.2 0)), (1, .int p0), (2, .int p1)] := hl
  refine lv_aload_n hx hb dX5_value_0 rfl (lv_at hl 0 rfl) ?_
  refine lv_iload_n hx hb dX5_value_1 rfl (lv_at hl 1 rfl) ?_
  refine k_callVX (As := [.int p0]) (rest := []) hx hb hml hown hts (c_X5_existing l hl0 E S _ z p0 hI) lm_RX5_72 ln_X5_existing le_X5_existing li_X5 lk_X5_existing (show k_nm yX5_existing 1 by decide +kernel) ⟨Nat.le_of_ble_eq_true rfl, Nat.le_of_ble_eq_true rfl⟩ rfl rfl ⟨Nat.le_of_ble_eq_true rfl, Nat.le_of_ble_eq_true rfl⟩ hl.1 rfl (Nat.le_of_ble_eq_true rfl) dX5_value_2 (by omega) (k_c0 _ _ _) rfl hW (fun X ce q9 H locs hp hW hce hcv hcl => ?_) (fun v z1 H locs hp hW => ?_)
  · have hR : (f_X5_value z p0 p1) = ((f_X5_existing z p0).1, 0) := (by simp only [f_X5_value, if_neg hp.1])
    exact k_out (z' := z) htab hlocks hW hce hcv hcl (by rw [hR]; exact ⟨hp.1, hp.2⟩) ⟨Nat.le_of_ble_eq_true rfl, Nat.le_of_ble_eq_true rfl⟩
  · obtain ⟨h1, rfl, hz1⟩ := hp
    rw [hz1] at hW
    refine W.eq (g2 := F0 m 5 ls [k_o E ((f_X5_existing z p0).2)]) rfl ?_
    have lk4 : p0.toNatClampNeg < S := (ex_some hI h1).2
    rw [show (f_X5_existing z p0).2 = some p0.toNatClampNeg from (ex_some hI h1).1]
    refine W.eq (g2 := F0 m 5 ls [.ref (E.2.2 (46 + 6 * p0.toNatClampNeg))]) rfl ?_
    refine lv_astore_n (lv' := [(3, .ref (E.2.2 (46 + 6 * p0.toNatClampNeg))), (0, .ref (E.2.2 0)), (1, .int p0), (2, .int p1)]) hx hb dX5_value_5 rfl hl (by decide) rfl (fun ls hl => ?_)
    refine lv_iload_n hx hb dX5_value_6 rfl (lv_at hl 3 rfl) ?_
    refine k_callS (rest := []) hx hb hml hown hts (c_X5_isKey l E S _ z p1) lm_RX5_138 ls_X5_isKey li_X5 lk_X5_isKey (show k_nm yX5_isKey 1 by decide +kernel) ⟨Nat.le_of_ble_eq_true rfl, Nat.le_of_ble_eq_true rfl⟩ rfl rfl ⟨Nat.le_of_ble_eq_true rfl, Nat.le_of_ble_eq_true rfl⟩ hl.1 rfl (Nat.le_of_ble_eq_true rfl) dX5_value_7 hW (fun v z1 H locs hp hW => ?_)
    obtain ⟨rfl, hz1⟩ := hp
    rw [hz1] at hW
    refine W.eq (g2 := F0 m 10 ls [.int (f_X5_isKey z p1)]) rfl ?_
    refine lv_if_ne (tgt := 23) hx hb dX5_value_10 (by decide) (fun h5 => ?_) (fun h5 => ?_)
    · refine lv_aload_n hx hb dX5_value_23 rfl (lv_at hl 0 rfl) ?_
      refine k_get hx hb hts inlX3 hown hW (46 + 6 * p0.toNatClampNeg) (by omega) (k_cell_sec p0.toNatClampNeg) rfl 13 (by decide) lf_RX5_147 rfl (v := .ref (E.2.2 (46 + 6 * p0.toNatClampNeg + 4))) rfl dX5_value_24 ?_
      refine lv_iload_n hx hb dX5_value_27 rfl (lv_at hl 3 rfl) ?_
      refine k_iald hx hb hW (46 + 6 * p0.toNatClampNeg + 4) 10 (by omega) (k_cell_sv p0.toNatClampNeg) (v := (z.1 (46 + 6 * p0.toNatClampNeg + 4) p1.toNatClampNeg)) (by exact key_in h5) rfl dX5_value_28 ?_
      have hR : (f_X5_value z p0 p1) = (0, (z.1 (46 + 6 * p0.toNatClampNeg + 4) p1.toNatClampNeg)) := (by simp only [f_X5_value, if_pos h1, if_neg h5])
      refine vx_ret (W.widen (k := 2) (n := 12) (by omega) (by omega) ?_)
      exact k_iret hx hb hr rfl hlocks hW ⟨by rw [hR], by rw [hR], rfl⟩ dX5_value_29
    · have hR : (f_X5_value z p0 p1) = (1, 0) := (by simp only [f_X5_value, if_pos h1, if_pos h5])
      exact k_th (names := nm_2) hx hb hl0 hown hts (by decide) (by decide) tk_I ti_I t1_I t2_I t3_I (List.mem_of_getElem? (i := 5) rfl) htab hlocks (hl.1.trans hml.symm) hW (by rw [hR]; exact ⟨(show (1 : Nat) ≠ 0 by decide), rfl⟩) (Nat.le_of_ble_eq_true rfl) (Nat.le_of_ble_eq_true rfl) ⟨Nat.le_of_ble_eq_true rfl, Nat.le_of_ble_eq_true rfl⟩ ⟨Nat.le_of_ble_eq_true rfl, Nat.le_of_ble_eq_true rfl⟩ dX5_value_13 dX5_value_16 dX5_value_17 dX5_value_19 dX5_value_22

def f_X5_head (z : Sg) (p0 : Int64) (p1 : Int32) (p2 : Int32) : Nat × Int32 × Sg :=
  if (f_X5_isPlace z p0) = 0 then
    (1, 0, z)
  else
    if (f_X5_isObject z ((p1 : Int32).toInt64)) = 0 then
      (1, 0, z)
    else
      if p2 < 0 then
        (1, 0, z)
      else
        if p2 ≤ 99999 then
          if (f_X0_hasRoomFor z p0) = 0 then
            (2, 0, z)
          else
            let z7 := (f_X0_put z p0 p1 p2)
            (0, (z7.1 2 3), z7)
        else
          (1, 0, z)
set_option maxHeartbeats 4000000 in
set_option maxRecDepth 100000 in
theorem c_X5_head (l : Launch) (hl0 : l.stackTraces = false) (E : Ev) (S sz : Nat) (z : Sg) (p0 : Int64) (p1 : Int32) (p2 : Int32) (hI : k_I S z) : k_XMet l yX5_head cX5_head 5 (some .int) ({ frames := 6, cells := 1, slots := 6, locals := 110 }) [.ref (E.2.2 0), .long p0, .int p1, .int p2] E (46 + 6 * S) z sz (fun v u => (f_X5_head z p0 p1 p2).1 = 0 ∧ v = some (.int ((f_X5_head z p0 p1 p2).2.1)) ∧ u = (f_X5_head z p0 p1 p2).2.2) (fun X => (f_X5_head z p0 p1 p2).1 ≠ 0 ∧ X = k_ex (f_X5_head z p0 p1 p2).1) 1 6 := by
  refine k_bodyX (by decide +kernel) (Nat.le_of_ble_eq_true rfl) ?_
  intro p e s m below meth cd ls hx hb hr hml hown hlocks htab hts hW hl
  have hl : lv_has ls 5 [(0, .ref (E.2.2 0)), (1, .long p0), (3, .int p1), (4, .int p2)] := hl
  refine lv_lload_n hx hb dX5_head_0 rfl (lv_at hl 1 rfl) ?_
  refine k_callS (rest := []) hx hb hml hown hts (c_X5_isPlace l E S _ z p0) lm_RX5_49 ls_X5_isPlace li_X5 lk_X5_isPlace (show k_nm yX5_isPlace 1 by decide +kernel) ⟨Nat.le_of_ble_eq_true rfl, Nat.le_of_ble_eq_true rfl⟩ rfl rfl ⟨Nat.le_of_ble_eq_true rfl, Nat.le_of_ble_eq_true rfl⟩ hl.1 rfl (Nat.le_of_ble_eq_true rfl) dX5_head_1 hW (fun v z1 H locs hp hW => ?_)
  obtain ⟨rfl, hz1⟩ := hp
  rw [hz1] at hW
  refine W.eq (g2 := F0 m 4 ls [.int (f_X5_isPlace z p0)]) rfl ?_
  refine lv_if_ne (tgt := 17) hx hb dX5_head_4 (by decide) (fun h1 => ?_) (fun h1 => ?_)
  · refine lv_iload_n hx hb dX5_head_17 rfl (lv_at hl 2 rfl) ?_
    refine lv_i2l (v := (p1 : Int32).toInt64) hx hb dX5_head_18 rfl ?_
    refine k_callS (rest := []) hx hb hml hown hts (c_X5_isObject l E S _ z ((p1 : Int32).toInt64)) lm_RX5_150 ls_X5_isObject li_X5 lk_X5_isObject (show k_nm yX5_isObject 1 by decide +kernel) ⟨Nat.le_of_ble_eq_true rfl, Nat.le_of_ble_eq_true rfl⟩ rfl rfl ⟨Nat.le_of_ble_eq_true rfl, Nat.le_of_ble_eq_true rfl⟩ hl.1 rfl (Nat.le_of_ble_eq_true rfl) dX5_head_19 hW (fun v z1 H locs hp hW => ?_)
    obtain ⟨rfl, hz1⟩ := hp
    rw [hz1] at hW
    refine W.eq (g2 := F0 m 22 ls [.int (f_X5_isObject z ((p1 : Int32).toInt64))]) rfl ?_
    refine lv_if_ne (tgt := 35) hx hb dX5_head_22 (by decide) (fun h2 => ?_) (fun h2 => ?_)
    · refine lv_iload hx hb dX5_head_35 (lv_at hl 3 rfl) ?_
      refine lv_if_lt (tgt := 47) hx hb dX5_head_37 (by decide) (fun h3 => ?_) (fun h3 => ?_)
      · have hR : (f_X5_head z p0 p1 p2) = (1, 0, z) := (by simp only [f_X5_head, if_neg h1, if_neg h2, if_pos h3])
        exact k_th (names := nm_2) hx hb hl0 hown hts (by decide) (by decide) tk_I ti_I t1_I t2_I t3_I (List.mem_of_getElem? (i := 7) rfl) htab hlocks (hl.1.trans hml.symm) hW (by rw [hR]; exact ⟨(show (1 : Nat) ≠ 0 by decide), rfl⟩) (Nat.le_of_ble_eq_true rfl) (Nat.le_of_ble_eq_true rfl) ⟨Nat.le_of_ble_eq_true rfl, Nat.le_of_ble_eq_true rfl⟩ ⟨Nat.le_of_ble_eq_true rfl, Nat.le_of_ble_eq_true rfl⟩ dX5_head_47 dX5_head_50 dX5_head_51 dX5_head_53 dX5_head_56
      · refine lv_iload hx hb dX5_head_40 (lv_at hl 3 rfl) ?_
        refine lv_ldc (v := 99999) hx hb hown (hts _ lc_RX5_155) dX5_head_42 ?_
        refine lv_icmp_le (tgt := 57) hx hb dX5_head_44 (by decide) (fun h4 => ?_) (fun h4 => ?_)
        · refine lv_aload_n hx hb dX5_head_57 rfl (lv_at hl 0 rfl) ?_
          refine k_get hx hb hts inlX5 hown hW 0 (by omega) k_c0 rfl 2 (by decide) lf_RX5_22 rfl (v := .ref (E.2.2 2)) rfl dX5_head_58 ?_
          refine lv_lload_n hx hb dX5_head_61 rfl (lv_at hl 1 rfl) ?_
          refine k_callV (As := [.long p0]) (rest := []) hx hb hml hown hts (c_X0_hasRoomFor l E S _ z p0 hI) lm_RX5_158 ln_X0_hasRoomFor le_X0_hasRoomFor li_X0 lk_X0_hasRoomFor (show k_nm yX0_hasRoomFor 1 by decide +kernel) ⟨Nat.le_of_ble_eq_true rfl, Nat.le_of_ble_eq_true rfl⟩ rfl rfl ⟨Nat.le_of_ble_eq_true rfl, Nat.le_of_ble_eq_true rfl⟩ hl.1 rfl (Nat.le_of_ble_eq_true rfl) dX5_head_62 (by omega) (k_c2 _ _ _) rfl hW (fun v z1 H locs hp hW => ?_)
          obtain ⟨rfl, hz1⟩ := hp
          rw [hz1] at hW
          refine W.eq (g2 := F0 m 65 ls [.int (f_X0_hasRoomFor z p0)]) rfl ?_
          refine lv_if_ne (tgt := 78) hx hb dX5_head_65 (by decide) (fun h5 => ?_) (fun h5 => ?_)
          · refine lv_aload_n hx hb dX5_head_78 rfl (lv_at hl 0 rfl) ?_
            refine k_get hx hb hts inlX5 hown hW 0 (by omega) k_c0 rfl 2 (by decide) lf_RX5_22 rfl (v := .ref (E.2.2 2)) rfl dX5_head_79 ?_
            refine lv_lload_n hx hb dX5_head_82 rfl (lv_at hl 1 rfl) ?_
            refine lv_iload_n hx hb dX5_head_83 rfl (lv_at hl 2 rfl) ?_
            refine lv_iload hx hb dX5_head_84 (lv_at hl 3 rfl) ?_
            refine k_callV (As := [.long p0, .int p1, .int p2]) (rest := []) hx hb hml hown hts (c_X0_put l E S _ z p0 p1 p2 hI) lm_RX5_163 ln_X0_put le_X0_put li_X0 lk_X0_put (show k_nm yX0_put 3 by decide +kernel) ⟨Nat.le_of_ble_eq_true rfl, Nat.le_of_ble_eq_true rfl⟩ rfl rfl ⟨Nat.le_of_ble_eq_true rfl, Nat.le_of_ble_eq_true rfl⟩ hl.1 rfl (Nat.le_of_ble_eq_true rfl) dX5_head_86 (by omega) (k_c2 _ _ _) rfl hW (fun v z1 H locs hp hW => ?_)
            obtain ⟨rfl, hz1⟩ := hp
            rw [hz1] at hW
            obtain ⟨z7, ez7⟩ : ∃ y9 : Sg, y9 = (f_X0_put z p0 p1 p2) := ⟨_, rfl⟩
            rw [← ez7] at hW
            refine W.eq (g2 := F0 m 89 ls []) rfl ?_
            refine lv_aload_n hx hb dX5_head_89 rfl (lv_at hl 0 rfl) ?_
            refine k_get hx hb hts inlX5 hown hW 0 (by omega) k_c0 rfl 2 (by decide) lf_RX5_22 rfl (v := .ref (E.2.2 2)) rfl dX5_head_90 ?_
            refine k_get hx hb hts inlX0 hown hW 2 (by omega) k_c2 rfl 3 (by decide) lf_RX5_167 rfl (v := .int (z7.1 2 3)) rfl dX5_head_93 ?_
            have hR : (f_X5_head z p0 p1 p2) = (0, (z7.1 2 3), z7) := (by subst ez7; simp only [f_X5_head, if_neg h1, if_neg h2, if_neg h3, if_pos h4, if_neg h5])
            refine vx_ret (W.widen (k := 1) (n := 6) (by omega) (by omega) ?_)
            exact k_iret hx hb hr rfl hlocks hW ⟨by rw [hR], by rw [hR], by rw [hR]⟩ dX5_head_96
          · have hR : (f_X5_head z p0 p1 p2) = (2, 0, z) := (by simp only [f_X5_head, if_neg h1, if_neg h2, if_neg h3, if_pos h4, if_pos h5])
            exact k_th (names := nm_2) hx hb hl0 hown hts (by decide) (by decide) tk_U ti_U t1_U t2_U t3_U (List.mem_of_getElem? (i := 8) rfl) htab hlocks (hl.1.trans hml.symm) hW (by rw [hR]; exact ⟨(show (2 : Nat) ≠ 0 by decide), rfl⟩) (Nat.le_of_ble_eq_true rfl) (Nat.le_of_ble_eq_true rfl) ⟨Nat.le_of_ble_eq_true rfl, Nat.le_of_ble_eq_true rfl⟩ ⟨Nat.le_of_ble_eq_true rfl, Nat.le_of_ble_eq_true rfl⟩ dX5_head_68 dX5_head_71 dX5_head_72 dX5_head_74 dX5_head_77
        · have hR : (f_X5_head z p0 p1 p2) = (1, 0, z) := (by simp only [f_X5_head, if_neg h1, if_neg h2, if_neg h3, if_neg h4])
          exact k_th (names := nm_2) hx hb hl0 hown hts (by decide) (by decide) tk_I ti_I t1_I t2_I t3_I (List.mem_of_getElem? (i := 7) rfl) htab hlocks (hl.1.trans hml.symm) hW (by rw [hR]; exact ⟨(show (1 : Nat) ≠ 0 by decide), rfl⟩) (Nat.le_of_ble_eq_true rfl) (Nat.le_of_ble_eq_true rfl) ⟨Nat.le_of_ble_eq_true rfl, Nat.le_of_ble_eq_true rfl⟩ ⟨Nat.le_of_ble_eq_true rfl, Nat.le_of_ble_eq_true rfl⟩ dX5_head_47 dX5_head_50 dX5_head_51 dX5_head_53 dX5_head_56
    · have hR : (f_X5_head z p0 p1 p2) = (1, 0, z) := (by simp only [f_X5_head, if_neg h1, if_pos h2])
      exact k_th (names := nm_2) hx hb hl0 hown hts (by decide) (by decide) tk_I ti_I t1_I t2_I t3_I (List.mem_of_getElem? (i := 6) rfl) htab hlocks (hl.1.trans hml.symm) hW (by rw [hR]; exact ⟨(show (1 : Nat) ≠ 0 by decide), rfl⟩) (Nat.le_of_ble_eq_true rfl) (Nat.le_of_ble_eq_true rfl) ⟨Nat.le_of_ble_eq_true rfl, Nat.le_of_ble_eq_true rfl⟩ ⟨Nat.le_of_ble_eq_true rfl, Nat.le_of_ble_eq_true rfl⟩ dX5_head_25 dX5_head_28 dX5_head_29 dX5_head_31 dX5_head_34
  · have hR : (f_X5_head z p0 p1 p2) = (1, 0, z) := (by simp only [f_X5_head, if_pos h1])
    exact k_th (names := nm_2) hx hb hl0 hown hts (by decide) (by decide) tk_I ti_I t1_I t2_I t3_I (List.mem_of_getElem? (i := 21) rfl) htab hlocks (hl.1.trans hml.symm) hW (by rw [hR]; exact ⟨(show (1 : Nat) ≠ 0 by decide), rfl⟩) (Nat.le_of_ble_eq_true rfl) (Nat.le_of_ble_eq_true rfl) ⟨Nat.le_of_ble_eq_true rfl, Nat.le_of_ble_eq_true rfl⟩ ⟨Nat.le_of_ble_eq_true rfl, Nat.le_of_ble_eq_true rfl⟩ dX5_head_7 dX5_head_10 dX5_head_11 dX5_head_13 dX5_head_16

def f_X5_kind (z : Sg) (p0 : Int32) : Nat × Int32 :=
  if (f_X5_isObject z ((p0 : Int32).toInt64)) = 0 then
    (4, 0)
  else
    (0, (z.1 8 p0.toNatClampNeg))
set_option maxHeartbeats 4000000 in
set_option maxRecDepth 100000 in
theorem c_X5_kind (l : Launch) (hl0 : l.stackTraces = false) (E : Ev) (S sz : Nat) (z : Sg) (p0 : Int32) (hI : k_I S z) : k_XMet l yX5_kind cX5_kind 2 (some .int) ({ frames := 6, cells := 1, slots := 6, locals := 110 }) [.ref (E.2.2 0), .int p0] E (46 + 6 * S) z sz (fun v u => (f_X5_kind z p0).1 = 0 ∧ v = some (.int ((f_X5_kind z p0).2)) ∧ u = z) (fun X => (f_X5_kind z p0).1 ≠ 0 ∧ X = k_ex (f_X5_kind z p0).1) 1 6 := by
  refine k_bodyX (by decide +kernel) (Nat.le_of_ble_eq_true rfl) ?_
  intro p e s m below meth cd ls hx hb hr hml hown hlocks htab hts hW hl
  have hl : lv_has ls 2 [(0, .ref (E.2.2 0)), (1, .int p0)] := hl
  refine lv_iload_n hx hb dX5_kind_0 rfl (lv_at hl 1 rfl) ?_
  refine lv_i2l (v := (p0 : Int32).toInt64) hx hb dX5_kind_1 rfl ?_
  refine k_callS (rest := []) hx hb hml hown hts (c_X5_isObject l E S _ z ((p0 : Int32).toInt64)) lm_RX5_150 ls_X5_isObject li_X5 lk_X5_isObject (show k_nm yX5_isObject 1 by decide +kernel) ⟨Nat.le_of_ble_eq_true rfl, Nat.le_of_ble_eq_true rfl⟩ rfl rfl ⟨Nat.le_of_ble_eq_true rfl, Nat.le_of_ble_eq_true rfl⟩ hl.1 rfl (Nat.le_of_ble_eq_true rfl) dX5_kind_2 hW (fun v z1 H locs hp hW => ?_)
  obtain ⟨rfl, hz1⟩ := hp
  rw [hz1] at hW
  refine W.eq (g2 := F0 m 5 ls [.int (f_X5_isObject z ((p0 : Int32).toInt64))]) rfl ?_
  refine lv_if_ne (tgt := 18) hx hb dX5_kind_5 (by decide) (fun h1 => ?_) (fun h1 => ?_)
  · refine lv_aload_n hx hb dX5_kind_18 rfl (lv_at hl 0 rfl) ?_
    refine k_get hx hb hts inlX5 hown hW 0 (by omega) k_c0 rfl 3 (by decide) lf_RX5_29 rfl (v := .ref (E.2.2 6)) rfl dX5_kind_19 ?_
    refine k_get hx hb hts inlX1 hown hW 6 (by omega) k_c6 rfl 2 (by decide) lf_RX5_189 rfl (v := .ref (E.2.2 8)) rfl dX5_kind_22 ?_
    refine lv_iload_n hx hb dX5_kind_25 rfl (lv_at hl 1 rfl) ?_
    refine k_iald hx hb hW 8 100 (by omega) k_c8 (v := (z.1 8 p0.toNatClampNeg)) (by exact obj_inI h1) rfl dX5_kind_26 ?_
    have hR : (f_X5_kind z p0) = (0, (z.1 8 p0.toNatClampNeg)) := (by simp only [f_X5_kind, if_neg h1])
    refine vx_ret (W.widen (k := 1) (n := 6) (by omega) (by omega) ?_)
    exact k_iret hx hb hr rfl hlocks hW ⟨by rw [hR], by rw [hR], rfl⟩ dX5_kind_27
  · have hR : (f_X5_kind z p0) = (4, 0) := (by simp only [f_X5_kind, if_pos h1])
    exact k_th (names := nm_2) hx hb hl0 hown hts (by decide) (by decide) tk_B ti_B t1_B t2_B t3_B (List.mem_of_getElem? (i := 6) rfl) htab hlocks (hl.1.trans hml.symm) hW (by rw [hR]; exact ⟨(show (4 : Nat) ≠ 0 by decide), rfl⟩) (Nat.le_of_ble_eq_true rfl) (Nat.le_of_ble_eq_true rfl) ⟨Nat.le_of_ble_eq_true rfl, Nat.le_of_ble_eq_true rfl⟩ ⟨Nat.le_of_ble_eq_true rfl, Nat.le_of_ble_eq_true rfl⟩ dX5_kind_8 dX5_kind_11 dX5_kind_12 dX5_kind_14 dX5_kind_17

def f_X5_place (z : Sg) (p0 : Int32) (p1 : Int32) : Nat × Int64 :=
  if (f_X5_isObject z ((p0 : Int32).toInt64)) = 0 then
    (4, 0)
  else
    if p1 = 0 then
      if (z.1 8 p0.toNatClampNeg) = 0 then
        (0, (-1))
      else
        (0, (z.2.1 9 p0.toNatClampNeg))
    else
      if p1 = 1 then
        if (z.1 8 p0.toNatClampNeg) = 0 then
          (0, (-1))
        else
          (0, (z.2.1 10 p0.toNatClampNeg))
      else
        (4, 0)
set_option maxHeartbeats 4000000 in
set_option maxRecDepth 100000 in
theorem c_X5_place (l : Launch) (hl0 : l.stackTraces = false) (E : Ev) (S sz : Nat) (z : Sg) (p0 : Int32) (p1 : Int32) (hI : k_I S z) : k_XMet l yX5_place cX5_place 3 (some .long) ({ frames := 6, cells := 1, slots := 6, locals := 110 }) [.ref (E.2.2 0), .int p0, .int p1] E (46 + 6 * S) z sz (fun v u => (f_X5_place z p0 p1).1 = 0 ∧ v = some (.long ((f_X5_place z p0 p1).2)) ∧ u = z) (fun X => (f_X5_place z p0 p1).1 ≠ 0 ∧ X = k_ex (f_X5_place z p0 p1).1) 1 6 := by
  refine k_bodyX (by decide +kernel) (Nat.le_of_ble_eq_true rfl) ?_
  intro p e s m below meth cd ls hx hb hr hml hown hlocks htab hts hW hl
  have hl : lv_has ls 3 [(0, .ref (E.2.2 0)), (1, .int p0), (2, .int p1)] := hl
  refine lv_iload_n hx hb dX5_place_0 rfl (lv_at hl 1 rfl) ?_
  refine lv_i2l (v := (p0 : Int32).toInt64) hx hb dX5_place_1 rfl ?_
  refine k_callS (rest := []) hx hb hml hown hts (c_X5_isObject l E S _ z ((p0 : Int32).toInt64)) lm_RX5_150 ls_X5_isObject li_X5 lk_X5_isObject (show k_nm yX5_isObject 1 by decide +kernel) ⟨Nat.le_of_ble_eq_true rfl, Nat.le_of_ble_eq_true rfl⟩ rfl rfl ⟨Nat.le_of_ble_eq_true rfl, Nat.le_of_ble_eq_true rfl⟩ hl.1 rfl (Nat.le_of_ble_eq_true rfl) dX5_place_2 hW (fun v z1 H locs hp hW => ?_)
  obtain ⟨rfl, hz1⟩ := hp
  rw [hz1] at hW
  refine W.eq (g2 := F0 m 5 ls [.int (f_X5_isObject z ((p0 : Int32).toInt64))]) rfl ?_
  refine lv_if_ne (tgt := 18) hx hb dX5_place_5 (by decide) (fun h1 => ?_) (fun h1 => ?_)
  · refine lv_iload_n hx hb dX5_place_18 rfl (lv_at hl 2 rfl) ?_
    refine lv_if_eq (tgt := 37) hx hb dX5_place_19 (by decide) (fun h2 => ?_) (fun h2 => ?_)
    · refine lv_aload_n hx hb dX5_place_37 rfl (lv_at hl 0 rfl) ?_
      refine k_get hx hb hts inlX5 hown hW 0 (by omega) k_c0 rfl 3 (by decide) lf_RX5_29 rfl (v := .ref (E.2.2 6)) rfl dX5_place_38 ?_
      refine k_get hx hb hts inlX1 hown hW 6 (by omega) k_c6 rfl 2 (by decide) lf_RX5_189 rfl (v := .ref (E.2.2 8)) rfl dX5_place_41 ?_
      refine lv_iload_n hx hb dX5_place_44 rfl (lv_at hl 1 rfl) ?_
      refine k_iald hx hb hW 8 100 (by omega) k_c8 (v := (z.1 8 p0.toNatClampNeg)) (by exact obj_inI h1) rfl dX5_place_45 ?_
      refine lv_if_ne (tgt := 53) hx hb dX5_place_46 (by decide) (fun h3 => ?_) (fun h3 => ?_)
      · refine lv_iload_n hx hb dX5_place_53 rfl (lv_at hl 2 rfl) ?_
        refine lv_if_ne (tgt := 69) hx hb dX5_place_54 (by decide) (fun h9 => absurd h2 h9) (fun _ => ?_)
        refine lv_aload_n hx hb dX5_place_57 rfl (lv_at hl 0 rfl) ?_
        refine k_get hx hb hts inlX5 hown hW 0 (by omega) k_c0 rfl 3 (by decide) lf_RX5_29 rfl (v := .ref (E.2.2 6)) rfl dX5_place_58 ?_
        refine k_get hx hb hts inlX1 hown hW 6 (by omega) k_c6 rfl 3 (by decide) lf_RX5_196 rfl (v := .ref (E.2.2 9)) rfl dX5_place_61 ?_
        refine lv_iload_n hx hb dX5_place_64 rfl (lv_at hl 1 rfl) ?_
        refine k_lald hx hb hW 9 100 (by omega) k_c9 (v := (z.2.1 9 p0.toNatClampNeg)) (by exact obj_inI h1) rfl dX5_place_65 ?_
        refine lv_goto (tgt := 78) hx hb dX5_place_66 (by decide) ?_
        have hR : (f_X5_place z p0 p1) = (0, (z.2.1 9 p0.toNatClampNeg)) := (by simp only [f_X5_place, if_neg h1, if_pos h2, if_neg h3])
        refine vx_ret (W.widen (k := 1) (n := 6) (by omega) (by omega) ?_)
        exact k_lret hx hb hr hlocks hW ⟨by rw [hR], by rw [hR], rfl⟩ dX5_place_78
      · refine lv_ldc2 (v := (-1)) hx hb hown (hts _ lc_RX5_194) dX5_place_49 ?_
        have hR : (f_X5_place z p0 p1) = (0, (-1)) := (by simp only [f_X5_place, if_neg h1, if_pos h2, if_pos h3])
        refine vx_ret (W.widen (k := 1) (n := 6) (by omega) (by omega) ?_)
        exact k_lret hx hb hr hlocks hW ⟨by rw [hR], by rw [hR], rfl⟩ dX5_place_52
    · refine lv_iload_n hx hb dX5_place_22 rfl (lv_at hl 2 rfl) ?_
      refine lv_iconst (v := 1) hx hb dX5_place_23 (by decide) ?_
      refine lv_icmp_eq (tgt := 37) hx hb dX5_place_24 (by decide) (fun h5 => ?_) (fun h5 => ?_)
      · refine lv_aload_n hx hb dX5_place_37 rfl (lv_at hl 0 rfl) ?_
        refine k_get hx hb hts inlX5 hown hW 0 (by omega) k_c0 rfl 3 (by decide) lf_RX5_29 rfl (v := .ref (E.2.2 6)) rfl dX5_place_38 ?_
        refine k_get hx hb hts inlX1 hown hW 6 (by omega) k_c6 rfl 2 (by decide) lf_RX5_189 rfl (v := .ref (E.2.2 8)) rfl dX5_place_41 ?_
        refine lv_iload_n hx hb dX5_place_44 rfl (lv_at hl 1 rfl) ?_
        refine k_iald hx hb hW 8 100 (by omega) k_c8 (v := (z.1 8 p0.toNatClampNeg)) (by exact obj_inI h1) rfl dX5_place_45 ?_
        refine lv_if_ne (tgt := 53) hx hb dX5_place_46 (by decide) (fun h6 => ?_) (fun h6 => ?_)
        · refine lv_iload_n hx hb dX5_place_53 rfl (lv_at hl 2 rfl) ?_
          refine lv_if_ne (tgt := 69) hx hb dX5_place_54 (by decide) (fun _ => ?_) (fun h9 => absurd h9 h2)
          refine lv_aload_n hx hb dX5_place_69 rfl (lv_at hl 0 rfl) ?_
          refine k_get hx hb hts inlX5 hown hW 0 (by omega) k_c0 rfl 3 (by decide) lf_RX5_29 rfl (v := .ref (E.2.2 6)) rfl dX5_place_70 ?_
          refine k_get hx hb hts inlX1 hown hW 6 (by omega) k_c6 rfl 4 (by decide) lf_RX5_200 rfl (v := .ref (E.2.2 10)) rfl dX5_place_73 ?_
          refine lv_iload_n hx hb dX5_place_76 rfl (lv_at hl 1 rfl) ?_
          refine k_lald hx hb hW 10 100 (by omega) k_c10 (v := (z.2.1 10 p0.toNatClampNeg)) (by exact obj_inI h1) rfl dX5_place_77 ?_
          have hR : (f_X5_place z p0 p1) = (0, (z.2.1 10 p0.toNatClampNeg)) := (by simp only [f_X5_place, if_neg h1, if_neg h2, if_pos h5, if_neg h6])
          refine vx_ret (W.widen (k := 1) (n := 6) (by omega) (by omega) ?_)
          exact k_lret hx hb hr hlocks hW ⟨by rw [hR], by rw [hR], rfl⟩ dX5_place_78
        · refine lv_ldc2 (v := (-1)) hx hb hown (hts _ lc_RX5_194) dX5_place_49 ?_
          have hR : (f_X5_place z p0 p1) = (0, (-1)) := (by simp only [f_X5_place, if_neg h1, if_neg h2, if_pos h5, if_pos h6])
          refine vx_ret (W.widen (k := 1) (n := 6) (by omega) (by omega) ?_)
          exact k_lret hx hb hr hlocks hW ⟨by rw [hR], by rw [hR], rfl⟩ dX5_place_52
      · have hR : (f_X5_place z p0 p1) = (4, 0) := (by simp only [f_X5_place, if_neg h1, if_neg h2, if_neg h5])
        exact k_th (names := nm_2) hx hb hl0 hown hts (by decide) (by decide) tk_B ti_B t1_B t2_B t3_B (List.mem_of_getElem? (i := 9) rfl) htab hlocks (hl.1.trans hml.symm) hW (by rw [hR]; exact ⟨(show (4 : Nat) ≠ 0 by decide), rfl⟩) (Nat.le_of_ble_eq_true rfl) (Nat.le_of_ble_eq_true rfl) ⟨Nat.le_of_ble_eq_true rfl, Nat.le_of_ble_eq_true rfl⟩ ⟨Nat.le_of_ble_eq_true rfl, Nat.le_of_ble_eq_true rfl⟩ dX5_place_27 dX5_place_30 dX5_place_31 dX5_place_33 dX5_place_36
  · have hR : (f_X5_place z p0 p1) = (4, 0) := (by simp only [f_X5_place, if_pos h1])
    exact k_th (names := nm_2) hx hb hl0 hown hts (by decide) (by decide) tk_B ti_B t1_B t2_B t3_B (List.mem_of_getElem? (i := 6) rfl) htab hlocks (hl.1.trans hml.symm) hW (by rw [hR]; exact ⟨(show (4 : Nat) ≠ 0 by decide), rfl⟩) (Nat.le_of_ble_eq_true rfl) (Nat.le_of_ble_eq_true rfl) ⟨Nat.le_of_ble_eq_true rfl, Nat.le_of_ble_eq_true rfl⟩ ⟨Nat.le_of_ble_eq_true rfl, Nat.le_of_ble_eq_true rfl⟩ dX5_place_8 dX5_place_11 dX5_place_12 dX5_place_14 dX5_place_17

def f_X5_told (z : Sg) (p0 : Int32) (p1 : Int32) : Nat × Int64 :=
  if p0 = (-1) then
    (0, ((z.1 6 9) : Int32).toInt64)
  else
    if p0 < (-1) then
      (4, 0)
    else
      if p0 < (z.1 6 9) then
        if p1 = 0 then
          (0, ((z.1 12 p0.toNatClampNeg) : Int32).toInt64)
        else
          if p1 = 1 then
            (0, ((z.1 13 p0.toNatClampNeg) : Int32).toInt64)
          else
            if p1 = 2 then
              (0, (z.2.1 14 p0.toNatClampNeg))
            else
              (4, 0)
      else
        (4, 0)
set_option maxHeartbeats 4000000 in
set_option maxRecDepth 100000 in
theorem c_X5_told (l : Launch) (hl0 : l.stackTraces = false) (E : Ev) (S sz : Nat) (z : Sg) (p0 : Int32) (p1 : Int32) (hI : k_I S z) : k_XMet l yX5_told cX5_told 3 (some .long) ({ frames := 6, cells := 1, slots := 6, locals := 110 }) [.ref (E.2.2 0), .int p0, .int p1] E (46 + 6 * S) z sz (fun v u => (f_X5_told z p0 p1).1 = 0 ∧ v = some (.long ((f_X5_told z p0 p1).2)) ∧ u = z) (fun X => (f_X5_told z p0 p1).1 ≠ 0 ∧ X = k_ex (f_X5_told z p0 p1).1) 1 6 := by
  refine k_bodyX (by decide +kernel) (Nat.le_of_ble_eq_true rfl) ?_
  intro p e s m below meth cd ls hx hb hr hml hown hlocks htab hts hW hl
  have hl : lv_has ls 3 [(0, .ref (E.2.2 0)), (1, .int p0), (2, .int p1)] := hl
  refine lv_iload_n hx hb dX5_told_0 rfl (lv_at hl 1 rfl) ?_
  refine lv_iconst (v := (-1)) hx hb dX5_told_1 (by decide) ?_
  refine lv_icmp_ne (tgt := 14) hx hb dX5_told_2 (by decide) (fun h1 => ?_) (fun h1 => ?_)
  · refine lv_iload_n hx hb dX5_told_14 rfl (lv_at hl 1 rfl) ?_
    refine lv_iconst (v := (-1)) hx hb dX5_told_15 (by decide) ?_
    refine lv_icmp_lt (tgt := 30) hx hb dX5_told_16 (by decide) (fun h2 => ?_) (fun h2 => ?_)
    · have hR : (f_X5_told z p0 p1) = (4, 0) := (by simp only [f_X5_told, if_neg h1, if_pos h2])
      exact k_th (names := nm_2) hx hb hl0 hown hts (by decide) (by decide) tk_B ti_B t1_B t2_B t3_B (List.mem_of_getElem? (i := 11) rfl) htab hlocks (hl.1.trans hml.symm) hW (by rw [hR]; exact ⟨(show (4 : Nat) ≠ 0 by decide), rfl⟩) (Nat.le_of_ble_eq_true rfl) (Nat.le_of_ble_eq_true rfl) ⟨Nat.le_of_ble_eq_true rfl, Nat.le_of_ble_eq_true rfl⟩ ⟨Nat.le_of_ble_eq_true rfl, Nat.le_of_ble_eq_true rfl⟩ dX5_told_30 dX5_told_33 dX5_told_34 dX5_told_36 dX5_told_39
    · refine lv_iload_n hx hb dX5_told_19 rfl (lv_at hl 1 rfl) ?_
      refine lv_aload_n hx hb dX5_told_20 rfl (lv_at hl 0 rfl) ?_
      refine k_get hx hb hts inlX5 hown hW 0 (by omega) k_c0 rfl 3 (by decide) lf_RX5_29 rfl (v := .ref (E.2.2 6)) rfl dX5_told_21 ?_
      refine k_get hx hb hts inlX1 hown hW 6 (by omega) k_c6 rfl 9 (by decide) lf_RX5_213 rfl (v := .int (z.1 6 9)) rfl dX5_told_24 ?_
      refine lv_icmp_lt (tgt := 40) hx hb dX5_told_27 (by decide) (fun h3 => ?_) (fun h3 => ?_)
      · refine lv_iload_n hx hb dX5_told_40 rfl (lv_at hl 2 rfl) ?_
        by_cases h4 : p1 = 0
        · refine lv_tableIn (tgt := 68) (off := 27) hx hb dX5_told_41 (by rw [h4]; decide) (by rw [h4]; decide) (by rw [h4]; rfl) (by decide) ?_
          refine lv_aload_n hx hb dX5_told_68 rfl (lv_at hl 0 rfl) ?_
          refine k_get hx hb hts inlX5 hown hW 0 (by omega) k_c0 rfl 3 (by decide) lf_RX5_29 rfl (v := .ref (E.2.2 6)) rfl dX5_told_69 ?_
          refine k_get hx hb hts inlX1 hown hW 6 (by omega) k_c6 rfl 6 (by decide) lf_RX5_218 rfl (v := .ref (E.2.2 12)) rfl dX5_told_72 ?_
          refine lv_iload_n hx hb dX5_told_75 rfl (lv_at hl 1 rfl) ?_
          refine k_iald hx hb hW 12 200 (by omega) k_c12 (v := (z.1 12 p0.toNatClampNeg)) (by exact in_told h1 h2 h3 hI.2.2.2.1.2) rfl dX5_told_76 ?_
          refine lv_i2l (v := ((z.1 12 p0.toNatClampNeg) : Int32).toInt64) hx hb dX5_told_77 rfl ?_
          have hR : (f_X5_told z p0 p1) = (0, ((z.1 12 p0.toNatClampNeg) : Int32).toInt64) := (by simp only [f_X5_told, if_neg h1, if_neg h2, if_pos h3, if_pos h4])
          refine vx_ret (W.widen (k := 1) (n := 6) (by omega) (by omega) ?_)
          exact k_lret hx hb hr hlocks hW ⟨by rw [hR], by rw [hR], rfl⟩ dX5_told_78
        · skip
          by_cases h5 : p1 = 1
          · refine lv_tableIn (tgt := 79) (off := 38) hx hb dX5_told_41 (by rw [h5]; decide) (by rw [h5]; decide) (by rw [h5]; rfl) (by decide) ?_
            refine lv_aload_n hx hb dX5_told_79 rfl (lv_at hl 0 rfl) ?_
            refine k_get hx hb hts inlX5 hown hW 0 (by omega) k_c0 rfl 3 (by decide) lf_RX5_29 rfl (v := .ref (E.2.2 6)) rfl dX5_told_80 ?_
            refine k_get hx hb hts inlX1 hown hW 6 (by omega) k_c6 rfl 7 (by decide) lf_RX5_221 rfl (v := .ref (E.2.2 13)) rfl dX5_told_83 ?_
            refine lv_iload_n hx hb dX5_told_86 rfl (lv_at hl 1 rfl) ?_
            refine k_iald hx hb hW 13 200 (by omega) k_c13 (v := (z.1 13 p0.toNatClampNeg)) (by exact in_told h1 h2 h3 hI.2.2.2.1.2) rfl dX5_told_87 ?_
            refine lv_i2l (v := ((z.1 13 p0.toNatClampNeg) : Int32).toInt64) hx hb dX5_told_88 rfl ?_
            have hR : (f_X5_told z p0 p1) = (0, ((z.1 13 p0.toNatClampNeg) : Int32).toInt64) := (by simp only [f_X5_told, if_neg h1, if_neg h2, if_pos h3, if_neg h4, if_pos h5])
            refine vx_ret (W.widen (k := 1) (n := 6) (by omega) (by omega) ?_)
            exact k_lret hx hb hr hlocks hW ⟨by rw [hR], by rw [hR], rfl⟩ dX5_told_89
          · skip
            by_cases h6 : p1 = 2
            · refine lv_tableIn (tgt := 90) (off := 49) hx hb dX5_told_41 (by rw [h6]; decide) (by rw [h6]; decide) (by rw [h6]; rfl) (by decide) ?_
              refine lv_aload_n hx hb dX5_told_90 rfl (lv_at hl 0 rfl) ?_
              refine k_get hx hb hts inlX5 hown hW 0 (by omega) k_c0 rfl 3 (by decide) lf_RX5_29 rfl (v := .ref (E.2.2 6)) rfl dX5_told_91 ?_
              refine k_get hx hb hts inlX1 hown hW 6 (by omega) k_c6 rfl 8 (by decide) lf_RX5_224 rfl (v := .ref (E.2.2 14)) rfl dX5_told_94 ?_
              refine lv_iload_n hx hb dX5_told_97 rfl (lv_at hl 1 rfl) ?_
              refine k_lald hx hb hW 14 200 (by omega) k_c14 (v := (z.2.1 14 p0.toNatClampNeg)) (by exact in_told h1 h2 h3 hI.2.2.2.1.2) rfl dX5_told_98 ?_
              have hR : (f_X5_told z p0 p1) = (0, (z.2.1 14 p0.toNatClampNeg)) := (by simp only [f_X5_told, if_neg h1, if_neg h2, if_pos h3, if_neg h4, if_neg h5, if_pos h6])
              refine vx_ret (W.widen (k := 1) (n := 6) (by omega) (by omega) ?_)
              exact k_lret hx hb hr hlocks hW ⟨by rw [hR], by rw [hR], rfl⟩ dX5_told_99
            · skip
              refine lv_tableOut (tgt := 100) hx hb dX5_told_41 (sw_out3 h4 h5 h6) (by decide) ?_
              have hR : (f_X5_told z p0 p1) = (4, 0) := (by simp only [f_X5_told, if_neg h1, if_neg h2, if_pos h3, if_neg h4, if_neg h5, if_neg h6])
              exact k_th (names := nm_2) hx hb hl0 hown hts (by decide) (by decide) tk_B ti_B t1_B t2_B t3_B (List.mem_of_getElem? (i := 12) rfl) htab hlocks (hl.1.trans hml.symm) hW (by rw [hR]; exact ⟨(show (4 : Nat) ≠ 0 by decide), rfl⟩) (Nat.le_of_ble_eq_true rfl) (Nat.le_of_ble_eq_true rfl) ⟨Nat.le_of_ble_eq_true rfl, Nat.le_of_ble_eq_true rfl⟩ ⟨Nat.le_of_ble_eq_true rfl, Nat.le_of_ble_eq_true rfl⟩ dX5_told_100 dX5_told_103 dX5_told_104 dX5_told_106 dX5_told_109
      · have hR : (f_X5_told z p0 p1) = (4, 0) := (by simp only [f_X5_told, if_neg h1, if_neg h2, if_neg h3])
        exact k_th (names := nm_2) hx hb hl0 hown hts (by decide) (by decide) tk_B ti_B t1_B t2_B t3_B (List.mem_of_getElem? (i := 11) rfl) htab hlocks (hl.1.trans hml.symm) hW (by rw [hR]; exact ⟨(show (4 : Nat) ≠ 0 by decide), rfl⟩) (Nat.le_of_ble_eq_true rfl) (Nat.le_of_ble_eq_true rfl) ⟨Nat.le_of_ble_eq_true rfl, Nat.le_of_ble_eq_true rfl⟩ ⟨Nat.le_of_ble_eq_true rfl, Nat.le_of_ble_eq_true rfl⟩ dX5_told_30 dX5_told_33 dX5_told_34 dX5_told_36 dX5_told_39
  · refine lv_aload_n hx hb dX5_told_5 rfl (lv_at hl 0 rfl) ?_
    refine k_get hx hb hts inlX5 hown hW 0 (by omega) k_c0 rfl 3 (by decide) lf_RX5_29 rfl (v := .ref (E.2.2 6)) rfl dX5_told_6 ?_
    refine k_get hx hb hts inlX1 hown hW 6 (by omega) k_c6 rfl 9 (by decide) lf_RX5_213 rfl (v := .int (z.1 6 9)) rfl dX5_told_9 ?_
    refine lv_i2l (v := ((z.1 6 9) : Int32).toInt64) hx hb dX5_told_12 rfl ?_
    have hR : (f_X5_told z p0 p1) = (0, ((z.1 6 9) : Int32).toInt64) := (by simp only [f_X5_told, if_pos h1])
    refine vx_ret (W.widen (k := 1) (n := 6) (by omega) (by omega) ?_)
    exact k_lret hx hb hr hlocks hW ⟨by rw [hR], by rw [hR], rfl⟩ dX5_told_13

def f_X5_free (z : Sg) (p0 : Int32) : Nat × Int32 :=
  if (-1 : Int32) ≤ p0 then
    if p0 = (-1) then
      (0, (z.1 6 12))
    else
      if (z.1 6 12) ≤ p0 then
        (0, (-1))
      else
        (0, (z.1 15 p0.toNatClampNeg))
  else
    (4, 0)
set_option maxHeartbeats 4000000 in
set_option maxRecDepth 100000 in
theorem c_X5_free (l : Launch) (hl0 : l.stackTraces = false) (E : Ev) (S sz : Nat) (z : Sg) (p0 : Int32) (hI : k_I S z) : k_XMet l yX5_free cX5_free 2 (some .int) ({ frames := 6, cells := 1, slots := 6, locals := 110 }) [.ref (E.2.2 0), .int p0] E (46 + 6 * S) z sz (fun v u => (f_X5_free z p0).1 = 0 ∧ v = some (.int ((f_X5_free z p0).2)) ∧ u = z) (fun X => (f_X5_free z p0).1 ≠ 0 ∧ X = k_ex (f_X5_free z p0).1) 1 6 := by
  refine k_bodyX (by decide +kernel) (Nat.le_of_ble_eq_true rfl) ?_
  intro p e s m below meth cd ls hx hb hr hml hown hlocks htab hts hW hl
  have hl : lv_has ls 2 [(0, .ref (E.2.2 0)), (1, .int p0)] := hl
  refine lv_iload_n hx hb dX5_free_0 rfl (lv_at hl 1 rfl) ?_
  refine lv_iconst (v := (-1)) hx hb dX5_free_1 (by decide) ?_
  refine lv_icmp_ge (tgt := 15) hx hb dX5_free_2 (by decide) (fun h1 => ?_) (fun h1 => ?_)
  · refine lv_iload_n hx hb dX5_free_15 rfl (lv_at hl 1 rfl) ?_
    refine lv_iconst (v := (-1)) hx hb dX5_free_16 (by decide) ?_
    refine lv_icmp_ne (tgt := 28) hx hb dX5_free_17 (by decide) (fun h2 => ?_) (fun h2 => ?_)
    · refine lv_iload_n hx hb dX5_free_28 rfl (lv_at hl 1 rfl) ?_
      refine lv_aload_n hx hb dX5_free_29 rfl (lv_at hl 0 rfl) ?_
      refine k_get hx hb hts inlX5 hown hW 0 (by omega) k_c0 rfl 3 (by decide) lf_RX5_29 rfl (v := .ref (E.2.2 6)) rfl dX5_free_30 ?_
      refine k_get hx hb hts inlX1 hown hW 6 (by omega) k_c6 rfl 12 (by decide) lf_RX5_229 rfl (v := .int (z.1 6 12)) rfl dX5_free_33 ?_
      refine lv_icmp_ge (tgt := 51) hx hb dX5_free_36 (by decide) (fun h3 => ?_) (fun h3 => ?_)
      · refine lv_iconst (v := (-1)) hx hb dX5_free_51 (by decide) ?_
        have hR : (f_X5_free z p0) = (0, (-1)) := (by simp only [f_X5_free, if_pos h1, if_neg h2, if_pos h3])
        refine vx_ret (W.widen (k := 1) (n := 6) (by omega) (by omega) ?_)
        exact k_iret hx hb hr rfl hlocks hW ⟨by rw [hR], by rw [hR], rfl⟩ dX5_free_52
      · refine lv_aload_n hx hb dX5_free_39 rfl (lv_at hl 0 rfl) ?_
        refine k_get hx hb hts inlX5 hown hW 0 (by omega) k_c0 rfl 3 (by decide) lf_RX5_29 rfl (v := .ref (E.2.2 6)) rfl dX5_free_40 ?_
        refine k_get hx hb hts inlX1 hown hW 6 (by omega) k_c6 rfl 10 (by decide) lf_RX5_232 rfl (v := .ref (E.2.2 15)) rfl dX5_free_43 ?_
        refine lv_iload_n hx hb dX5_free_46 rfl (lv_at hl 1 rfl) ?_
        refine k_iald hx hb hW 15 100 (by omega) k_c15 (v := (z.1 15 p0.toNatClampNeg)) (by exact in_free h1 h2 h3 hI.2.2.2.2.1.2) rfl dX5_free_47 ?_
        refine lv_goto (tgt := 52) hx hb dX5_free_48 (by decide) ?_
        have hR : (f_X5_free z p0) = (0, (z.1 15 p0.toNatClampNeg)) := (by simp only [f_X5_free, if_pos h1, if_neg h2, if_neg h3])
        refine vx_ret (W.widen (k := 1) (n := 6) (by omega) (by omega) ?_)
        exact k_iret hx hb hr rfl hlocks hW ⟨by rw [hR], by rw [hR], rfl⟩ dX5_free_52
    · refine lv_aload_n hx hb dX5_free_20 rfl (lv_at hl 0 rfl) ?_
      refine k_get hx hb hts inlX5 hown hW 0 (by omega) k_c0 rfl 3 (by decide) lf_RX5_29 rfl (v := .ref (E.2.2 6)) rfl dX5_free_21 ?_
      refine k_get hx hb hts inlX1 hown hW 6 (by omega) k_c6 rfl 12 (by decide) lf_RX5_229 rfl (v := .int (z.1 6 12)) rfl dX5_free_24 ?_
      have hR : (f_X5_free z p0) = (0, (z.1 6 12)) := (by simp only [f_X5_free, if_pos h1, if_pos h2])
      refine vx_ret (W.widen (k := 1) (n := 6) (by omega) (by omega) ?_)
      exact k_iret hx hb hr rfl hlocks hW ⟨by rw [hR], by rw [hR], rfl⟩ dX5_free_27
  · have hR : (f_X5_free z p0) = (4, 0) := (by simp only [f_X5_free, if_neg h1])
    exact k_th (names := nm_2) hx hb hl0 hown hts (by decide) (by decide) tk_B ti_B t1_B t2_B t3_B (List.mem_of_getElem? (i := 10) rfl) htab hlocks (hl.1.trans hml.symm) hW (by rw [hR]; exact ⟨(show (4 : Nat) ≠ 0 by decide), rfl⟩) (Nat.le_of_ble_eq_true rfl) (Nat.le_of_ble_eq_true rfl) ⟨Nat.le_of_ble_eq_true rfl, Nat.le_of_ble_eq_true rfl⟩ ⟨Nat.le_of_ble_eq_true rfl, Nat.le_of_ble_eq_true rfl⟩ dX5_free_5 dX5_free_8 dX5_free_9 dX5_free_11 dX5_free_14

def f_X5_trailer (z : Sg) (p0 : Int32) : Nat × Int32 :=
  if (f_X5_isKey z p0) = 0 then
    (1, 0)
  else
    (0, (f_X1_firstWithKey z p0))
set_option maxHeartbeats 4000000 in
set_option maxRecDepth 100000 in
theorem c_X5_trailer (l : Launch) (hl0 : l.stackTraces = false) (E : Ev) (S sz : Nat) (z : Sg) (p0 : Int32) (hI : k_I S z) : k_XMet l yX5_trailer cX5_trailer 2 (some .int) ({ frames := 6, cells := 1, slots := 6, locals := 110 }) [.ref (E.2.2 0), .int p0] E (46 + 6 * S) z sz (fun v u => (f_X5_trailer z p0).1 = 0 ∧ v = some (.int ((f_X5_trailer z p0).2)) ∧ u = z) (fun X => (f_X5_trailer z p0).1 ≠ 0 ∧ X = k_ex (f_X5_trailer z p0).1) 1 6 := by
  refine k_bodyX (by decide +kernel) (Nat.le_of_ble_eq_true rfl) ?_
  intro p e s m below meth cd ls hx hb hr hml hown hlocks htab hts hW hl
  have hl : lv_has ls 2 [(0, .ref (E.2.2 0)), (1, .int p0)] := hl
  refine lv_iload_n hx hb dX5_trailer_0 rfl (lv_at hl 1 rfl) ?_
  refine k_callS (rest := []) hx hb hml hown hts (c_X5_isKey l E S _ z p0) lm_RX5_138 ls_X5_isKey li_X5 lk_X5_isKey (show k_nm yX5_isKey 1 by decide +kernel) ⟨Nat.le_of_ble_eq_true rfl, Nat.le_of_ble_eq_true rfl⟩ rfl rfl ⟨Nat.le_of_ble_eq_true rfl, Nat.le_of_ble_eq_true rfl⟩ hl.1 rfl (Nat.le_of_ble_eq_true rfl) dX5_trailer_1 hW (fun v z1 H locs hp hW => ?_)
  obtain ⟨rfl, hz1⟩ := hp
  rw [hz1] at hW
  refine W.eq (g2 := F0 m 4 ls [.int (f_X5_isKey z p0)]) rfl ?_
  refine lv_if_ne (tgt := 17) hx hb dX5_trailer_4 (by decide) (fun h1 => ?_) (fun h1 => ?_)
  · refine lv_aload_n hx hb dX5_trailer_17 rfl (lv_at hl 0 rfl) ?_
    refine k_get hx hb hts inlX5 hown hW 0 (by omega) k_c0 rfl 3 (by decide) lf_RX5_29 rfl (v := .ref (E.2.2 6)) rfl dX5_trailer_18 ?_
    refine lv_iload_n hx hb dX5_trailer_21 rfl (lv_at hl 1 rfl) ?_
    refine k_callV (As := [.int p0]) (rest := []) hx hb hml hown hts (c_X1_firstWithKey l E S _ z p0 hI) lm_RX5_235 ln_X1_firstWithKey le_X1_firstWithKey li_X1 lk_X1_firstWithKey (show k_nm yX1_firstWithKey 1 by decide +kernel) ⟨Nat.le_of_ble_eq_true rfl, Nat.le_of_ble_eq_true rfl⟩ rfl rfl ⟨Nat.le_of_ble_eq_true rfl, Nat.le_of_ble_eq_true rfl⟩ hl.1 rfl (Nat.le_of_ble_eq_true rfl) dX5_trailer_22 (by omega) (k_c6 _ _ _) rfl hW (fun v z1 H locs hp hW => ?_)
    obtain ⟨rfl, hz1⟩ := hp
    rw [hz1] at hW
    refine W.eq (g2 := F0 m 25 ls [.int (f_X1_firstWithKey z p0)]) rfl ?_
    have hR : (f_X5_trailer z p0) = (0, (f_X1_firstWithKey z p0)) := (by simp only [f_X5_trailer, if_neg h1])
    refine vx_ret (W.widen (k := 1) (n := 6) (by omega) (by omega) ?_)
    exact k_iret hx hb hr rfl hlocks hW ⟨by rw [hR], by rw [hR], rfl⟩ dX5_trailer_25
  · have hR : (f_X5_trailer z p0) = (1, 0) := (by simp only [f_X5_trailer, if_pos h1])
    exact k_th (names := nm_2) hx hb hl0 hown hts (by decide) (by decide) tk_I ti_I t1_I t2_I t3_I (List.mem_of_getElem? (i := 5) rfl) htab hlocks (hl.1.trans hml.symm) hW (by rw [hR]; exact ⟨(show (1 : Nat) ≠ 0 by decide), rfl⟩) (Nat.le_of_ble_eq_true rfl) (Nat.le_of_ble_eq_true rfl) ⟨Nat.le_of_ble_eq_true rfl, Nat.le_of_ble_eq_true rfl⟩ ⟨Nat.le_of_ble_eq_true rfl, Nat.le_of_ble_eq_true rfl⟩ dX5_trailer_7 dX5_trailer_10 dX5_trailer_11 dX5_trailer_13 dX5_trailer_16
