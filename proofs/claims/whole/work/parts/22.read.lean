def f_X5_goThrough (z : Sg) (c : Nat) : Option Nat × Sg :=
  let z2 := (f_X1_enter z c)
  let z4 := (f_X5_besideToGoTo z2 c).2
  match (f_X5_besideToGoTo z2 c).1 with
  | none =>
    let z8 := (f_X2_readRowsOf z4 c)
    let z10 := (f_X5_beforeToGoTo z8 c).2
    match (f_X5_beforeToGoTo z8 c).1 with
    | none =>
      (none, z10)
    | some c12 =>
      (some c12, z10)
  | some c6 =>
    let z14 := (f_X2_readRowsOf z4 c)
    let z16 := (f_X1_enter z14 c6)
    let z18 := (f_X2_readRowsOf z16 c6)
    let z20 := (f_X5_beforeToGoTo z18 c).2
    match (f_X5_beforeToGoTo z18 c).1 with
    | none =>
      (none, z20)
    | some c22 =>
      (some c22, z20)
set_option maxHeartbeats 4000000 in
set_option maxRecDepth 100000 in
theorem c_X5_goThrough (l : Launch) (E : Ev) (S sz : Nat) (z : Sg) (c : Nat) (lc : c < S) (hI : k_I S z) : k_Met l yX5_goThrough cX5_goThrough 3 (some (.object "CrossTables$Section")) ({ frames := 6, cells := 0, slots := 0, locals := 127 }) [.ref (E.2.2 0), .ref (E.2.2 (46 + 6 * c))] E (46 + 6 * S) z sz (fun v u => v = some (k_o E ((f_X5_goThrough z c).1)) ∧ u = (f_X5_goThrough z c).2) 0 0 := by
  refine k_body (by decide +kernel) (Nat.le_of_ble_eq_true rfl) ?_
  intro p e s m below meth cd ls hx hb hr hml hown hlocks hts hW hl
  have hl : lv_has ls 3 [(0, .ref (E.2.2 0)), (1, .ref (E.2.2 (46 + 6 * c)))] := hl
  refine lv_aload_n hx hb dX5_goThrough_0 rfl (lv_at hl 0 rfl) ?_
  refine k_get hx hb hts inlX5 hown hW 0 (by omega) k_c0 rfl 3 (by decide) lf_RX5_29 rfl (v := .ref (E.2.2 6)) rfl dX5_goThrough_1 ?_
  refine lv_aload_n hx hb dX5_goThrough_4 rfl (lv_at hl 1 rfl) ?_
  refine k_callV (As := [.ref (E.2.2 (46 + 6 * c))]) (rest := []) hx hb hml hown hts (c_X1_enter l E S _ z c lc hI) lm_RX5_250 ln_X1_enter le_X1_enter li_X1 lk_X1_enter (show k_nm yX1_enter 1 by decide +kernel) ⟨Nat.le_of_ble_eq_true rfl, Nat.le_of_ble_eq_true rfl⟩ rfl rfl ⟨Nat.le_of_ble_eq_true rfl, Nat.le_of_ble_eq_true rfl⟩ hl.1 rfl (Nat.le_of_ble_eq_true rfl) dX5_goThrough_5 (by omega) (k_c6 _ _ _) rfl hW (fun v z1 H locs hp hW => ?_)
  obtain ⟨rfl, hz1⟩ := hp
  rw [hz1] at hW
  obtain ⟨z2, ez2⟩ : ∃ y9 : Sg, y9 = (f_X1_enter z c) := ⟨_, rfl⟩
  rw [← ez2] at hW
  have Jz2 : k_I S z2 := by rw [ez2]; exact I_enter lc hI
  refine W.eq (g2 := F0 m 8 ls []) rfl ?_
  refine lv_aload_n hx hb dX5_goThrough_8 rfl (lv_at hl 0 rfl) ?_
  refine lv_aload_n hx hb dX5_goThrough_9 rfl (lv_at hl 1 rfl) ?_
  refine k_callV (As := [.ref (E.2.2 (46 + 6 * c))]) (rest := []) hx hb hml hown hts (c_X5_besideToGoTo l E S _ z2 c lc Jz2) lm_RX5_254 ln_X5_besideToGoTo le_X5_besideToGoTo li_X5 lk_X5_besideToGoTo (show k_nm yX5_besideToGoTo 1 by decide +kernel) ⟨Nat.le_of_ble_eq_true rfl, Nat.le_of_ble_eq_true rfl⟩ rfl rfl ⟨Nat.le_of_ble_eq_true rfl, Nat.le_of_ble_eq_true rfl⟩ hl.1 rfl (Nat.le_of_ble_eq_true rfl) dX5_goThrough_10 (by omega) (k_c0 _ _ _) rfl hW (fun v z1 H locs hp hW => ?_)
  obtain ⟨rfl, hz1⟩ := hp
  rw [hz1] at hW
  obtain ⟨z4, ez4⟩ : ∃ y9 : Sg, y9 = (f_X5_besideToGoTo z2 c).2 := ⟨_, rfl⟩
  rw [← ez4] at hW
  have Jz4 : k_I S z4 := by rw [ez4]; exact (I_besideToGoTo Jz2).1
  refine W.eq (g2 := F0 m 13 ls [k_o E ((f_X5_besideToGoTo z2 c).1)]) rfl ?_
  rcases h5 : (f_X5_besideToGoTo z2 c).1 with _ | c6
  · refine W.eq (g2 := F0 m 13 ls [.null]) rfl ?_
    refine lv_astore_nN (lv' := [(2, .null), (0, .ref (E.2.2 0)), (1, .ref (E.2.2 (46 + 6 * c)))]) hx hb dX5_goThrough_13 rfl hl (by decide) rfl (fun ls hl => ?_)
    refine lv_aload_n hx hb dX5_goThrough_14 rfl (lv_at hl 1 rfl) ?_
    refine k_get hx hb hts inlX5 hown hW 0 (by omega) k_c0 rfl 4 (by decide) lf_RX5_38 rfl (v := .ref (E.2.2 17)) rfl dX5_goThrough_15 ?_
    refine lv_aload_n hx hb dX5_goThrough_18 rfl (lv_at hl 2 rfl) ?_
    refine k_callV (As := [.ref (E.2.2 (46 + 6 * c))]) (rest := []) hx hb hml hown hts (c_X2_readRowsOf l E S _ z4 c lc Jz4) lm_RX5_257 ln_X2_readRowsOf le_X2_readRowsOf li_X2 lk_X2_readRowsOf (show k_nm yX2_readRowsOf 1 by decide +kernel) ⟨Nat.le_of_ble_eq_true rfl, Nat.le_of_ble_eq_true rfl⟩ rfl rfl ⟨Nat.le_of_ble_eq_true rfl, Nat.le_of_ble_eq_true rfl⟩ hl.1 rfl (Nat.le_of_ble_eq_true rfl) dX5_goThrough_19 (by omega) (k_c17 _ _ _) rfl hW (fun v z1 H locs hp hW => ?_)
    obtain ⟨rfl, hz1⟩ := hp
    rw [hz1] at hW
    obtain ⟨z8, ez8⟩ : ∃ y9 : Sg, y9 = (f_X2_readRowsOf z4 c) := ⟨_, rfl⟩
    rw [← ez8] at hW
    have Jz8 : k_I S z8 := by rw [ez8]; exact I_readRowsOf lc Jz4
    refine W.eq (g2 := F0 m 22 ls []) rfl ?_
    refine lv_aload_nN hx hb dX5_goThrough_22 rfl (lv_at hl 0 rfl) ?_
    refine lv_ifnullN (tgt := 42) hx hb dX5_goThrough_23 (by decide) ?_
    refine lv_aload_n hx hb dX5_goThrough_42 rfl (lv_at hl 1 rfl) ?_
    refine lv_aload_n hx hb dX5_goThrough_43 rfl (lv_at hl 2 rfl) ?_
    refine k_callV (As := [.ref (E.2.2 (46 + 6 * c))]) (rest := []) hx hb hml hown hts (c_X5_beforeToGoTo l E S _ z8 c lc Jz8) lm_RX5_260 ln_X5_beforeToGoTo le_X5_beforeToGoTo li_X5 lk_X5_beforeToGoTo (show k_nm yX5_beforeToGoTo 1 by decide +kernel) ⟨Nat.le_of_ble_eq_true rfl, Nat.le_of_ble_eq_true rfl⟩ rfl rfl ⟨Nat.le_of_ble_eq_true rfl, Nat.le_of_ble_eq_true rfl⟩ hl.1 rfl (Nat.le_of_ble_eq_true rfl) dX5_goThrough_44 (by omega) (k_c0 _ _ _) rfl hW (fun v z1 H locs hp hW => ?_)
    obtain ⟨rfl, hz1⟩ := hp
    rw [hz1] at hW
    obtain ⟨z10, ez10⟩ : ∃ y9 : Sg, y9 = (f_X5_beforeToGoTo z8 c).2 := ⟨_, rfl⟩
    rw [← ez10] at hW
    have Jz10 : k_I S z10 := by rw [ez10]; exact (I_beforeToGoTo Jz8).1
    refine W.eq (g2 := F0 m 47 ls [k_o E ((f_X5_beforeToGoTo z8 c).1)]) rfl ?_
    rcases h11 : (f_X5_beforeToGoTo z8 c).1 with _ | c12
    · refine W.eq (g2 := F0 m 47 ls [.null]) rfl ?_
      have hR : (f_X5_goThrough z c) = (none, z10) := (by subst ez10 ez8 ez4 ez2; simp only [f_X5_goThrough, h5, h11])
      exact k_aret (o := none) hx hb hr hlocks hW ⟨by rw [hR], by rw [hR]⟩ dX5_goThrough_47
    · have lc12 : c12 < S := (I_beforeToGoTo Jz8).2 _ h11
      refine W.eq (g2 := F0 m 47 ls [.ref (E.2.2 (46 + 6 * c12))]) rfl ?_
      have hR : (f_X5_goThrough z c) = (some c12, z10) := (by subst ez10 ez8 ez4 ez2; simp only [f_X5_goThrough, h5, h11])
      exact k_aret (o := some c12) hx hb hr hlocks hW ⟨by rw [hR], by rw [hR]⟩ dX5_goThrough_47
  · have lc6 : c6 < S := (I_besideToGoTo Jz2).2 _ h5
    refine W.eq (g2 := F0 m 13 ls [.ref (E.2.2 (46 + 6 * c6))]) rfl ?_
    refine lv_astore_n (lv' := [(2, .ref (E.2.2 (46 + 6 * c6))), (0, .ref (E.2.2 0)), (1, .ref (E.2.2 (46 + 6 * c)))]) hx hb dX5_goThrough_13 rfl hl (by decide) rfl (fun ls hl => ?_)
    refine lv_aload_n hx hb dX5_goThrough_14 rfl (lv_at hl 1 rfl) ?_
    refine k_get hx hb hts inlX5 hown hW 0 (by omega) k_c0 rfl 4 (by decide) lf_RX5_38 rfl (v := .ref (E.2.2 17)) rfl dX5_goThrough_15 ?_
    refine lv_aload_n hx hb dX5_goThrough_18 rfl (lv_at hl 2 rfl) ?_
    refine k_callV (As := [.ref (E.2.2 (46 + 6 * c))]) (rest := []) hx hb hml hown hts (c_X2_readRowsOf l E S _ z4 c lc Jz4) lm_RX5_257 ln_X2_readRowsOf le_X2_readRowsOf li_X2 lk_X2_readRowsOf (show k_nm yX2_readRowsOf 1 by decide +kernel) ⟨Nat.le_of_ble_eq_true rfl, Nat.le_of_ble_eq_true rfl⟩ rfl rfl ⟨Nat.le_of_ble_eq_true rfl, Nat.le_of_ble_eq_true rfl⟩ hl.1 rfl (Nat.le_of_ble_eq_true rfl) dX5_goThrough_19 (by omega) (k_c17 _ _ _) rfl hW (fun v z1 H locs hp hW => ?_)
    obtain ⟨rfl, hz1⟩ := hp
    rw [hz1] at hW
    obtain ⟨z14, ez14⟩ : ∃ y9 : Sg, y9 = (f_X2_readRowsOf z4 c) := ⟨_, rfl⟩
    rw [← ez14] at hW
    have Jz14 : k_I S z14 := by rw [ez14]; exact I_readRowsOf lc Jz4
    refine W.eq (g2 := F0 m 22 ls []) rfl ?_
    refine lv_aload_n hx hb dX5_goThrough_22 rfl (lv_at hl 0 rfl) ?_
    refine lv_ifnull hx hb dX5_goThrough_23 ?_
    refine lv_aload_n hx hb dX5_goThrough_26 rfl (lv_at hl 1 rfl) ?_
    refine k_get hx hb hts inlX5 hown hW 0 (by omega) k_c0 rfl 3 (by decide) lf_RX5_29 rfl (v := .ref (E.2.2 6)) rfl dX5_goThrough_27 ?_
    refine lv_aload_n hx hb dX5_goThrough_30 rfl (lv_at hl 0 rfl) ?_
    refine k_callV (As := [.ref (E.2.2 (46 + 6 * c6))]) (rest := []) hx hb hml hown hts (c_X1_enter l E S _ z14 c6 lc6 Jz14) lm_RX5_250 ln_X1_enter le_X1_enter li_X1 lk_X1_enter (show k_nm yX1_enter 1 by decide +kernel) ⟨Nat.le_of_ble_eq_true rfl, Nat.le_of_ble_eq_true rfl⟩ rfl rfl ⟨Nat.le_of_ble_eq_true rfl, Nat.le_of_ble_eq_true rfl⟩ hl.1 rfl (Nat.le_of_ble_eq_true rfl) dX5_goThrough_31 (by omega) (k_c6 _ _ _) rfl hW (fun v z1 H locs hp hW => ?_)
    obtain ⟨rfl, hz1⟩ := hp
    rw [hz1] at hW
    obtain ⟨z16, ez16⟩ : ∃ y9 : Sg, y9 = (f_X1_enter z14 c6) := ⟨_, rfl⟩
    rw [← ez16] at hW
    have Jz16 : k_I S z16 := by rw [ez16]; exact I_enter lc6 Jz14
    refine W.eq (g2 := F0 m 34 ls []) rfl ?_
    refine lv_aload_n hx hb dX5_goThrough_34 rfl (lv_at hl 1 rfl) ?_
    refine k_get hx hb hts inlX5 hown hW 0 (by omega) k_c0 rfl 4 (by decide) lf_RX5_38 rfl (v := .ref (E.2.2 17)) rfl dX5_goThrough_35 ?_
    refine lv_aload_n hx hb dX5_goThrough_38 rfl (lv_at hl 0 rfl) ?_
    refine k_callV (As := [.ref (E.2.2 (46 + 6 * c6))]) (rest := []) hx hb hml hown hts (c_X2_readRowsOf l E S _ z16 c6 lc6 Jz16) lm_RX5_257 ln_X2_readRowsOf le_X2_readRowsOf li_X2 lk_X2_readRowsOf (show k_nm yX2_readRowsOf 1 by decide +kernel) ⟨Nat.le_of_ble_eq_true rfl, Nat.le_of_ble_eq_true rfl⟩ rfl rfl ⟨Nat.le_of_ble_eq_true rfl, Nat.le_of_ble_eq_true rfl⟩ hl.1 rfl (Nat.le_of_ble_eq_true rfl) dX5_goThrough_39 (by omega) (k_c17 _ _ _) rfl hW (fun v z1 H locs hp hW => ?_)
    obtain ⟨rfl, hz1⟩ := hp
    rw [hz1] at hW
    obtain ⟨z18, ez18⟩ : ∃ y9 : Sg, y9 = (f_X2_readRowsOf z16 c6) := ⟨_, rfl⟩
    rw [← ez18] at hW
    have Jz18 : k_I S z18 := by rw [ez18]; exact I_readRowsOf lc6 Jz16
    refine W.eq (g2 := F0 m 42 ls []) rfl ?_
    refine lv_aload_n hx hb dX5_goThrough_42 rfl (lv_at hl 1 rfl) ?_
    refine lv_aload_n hx hb dX5_goThrough_43 rfl (lv_at hl 2 rfl) ?_
    refine k_callV (As := [.ref (E.2.2 (46 + 6 * c))]) (rest := []) hx hb hml hown hts (c_X5_beforeToGoTo l E S _ z18 c lc Jz18) lm_RX5_260 ln_X5_beforeToGoTo le_X5_beforeToGoTo li_X5 lk_X5_beforeToGoTo (show k_nm yX5_beforeToGoTo 1 by decide +kernel) ⟨Nat.le_of_ble_eq_true rfl, Nat.le_of_ble_eq_true rfl⟩ rfl rfl ⟨Nat.le_of_ble_eq_true rfl, Nat.le_of_ble_eq_true rfl⟩ hl.1 rfl (Nat.le_of_ble_eq_true rfl) dX5_goThrough_44 (by omega) (k_c0 _ _ _) rfl hW (fun v z1 H locs hp hW => ?_)
    obtain ⟨rfl, hz1⟩ := hp
    rw [hz1] at hW
    obtain ⟨z20, ez20⟩ : ∃ y9 : Sg, y9 = (f_X5_beforeToGoTo z18 c).2 := ⟨_, rfl⟩
    rw [← ez20] at hW
    have Jz20 : k_I S z20 := by rw [ez20]; exact (I_beforeToGoTo Jz18).1
    refine W.eq (g2 := F0 m 47 ls [k_o E ((f_X5_beforeToGoTo z18 c).1)]) rfl ?_
    rcases h21 : (f_X5_beforeToGoTo z18 c).1 with _ | c22
    · refine W.eq (g2 := F0 m 47 ls [.null]) rfl ?_
      have hR : (f_X5_goThrough z c) = (none, z20) := (by subst ez20 ez18 ez16 ez14 ez4 ez2; simp only [f_X5_goThrough, h5, h21])
      exact k_aret (o := none) hx hb hr hlocks hW ⟨by rw [hR], by rw [hR]⟩ dX5_goThrough_47
    · have lc22 : c22 < S := (I_beforeToGoTo Jz18).2 _ h21
      refine W.eq (g2 := F0 m 47 ls [.ref (E.2.2 (46 + 6 * c22))]) rfl ?_
      have hR : (f_X5_goThrough z c) = (some c22, z20) := (by subst ez20 ez18 ez16 ez14 ez4 ez2; simp only [f_X5_goThrough, h5, h21])
      exact k_aret (o := some c22) hx hb hr hlocks hW ⟨by rw [hR], by rw [hR]⟩ dX5_goThrough_47

def f_X5_judgeFree (z : Sg) (p0 : Int32) : Sg :=
  if p0 = 0 then
    z
  else
    if (f_X0_leastPlaceOf z p0) = (-1) then
      z
    else
      let z4 := (f_X1_tell z 6 p0 (f_X0_leastPlaceOf z p0))
      z4
set_option maxHeartbeats 4000000 in
set_option maxRecDepth 100000 in
theorem c_X5_judgeFree (l : Launch) (E : Ev) (S sz : Nat) (z : Sg) (p0 : Int32) (hI : k_I S z) : k_Met l yX5_judgeFree cX5_judgeFree 4 none ({ frames := 1, cells := 0, slots := 0, locals := 24 }) [.ref (E.2.2 0), .int p0] E (46 + 6 * S) z sz (fun v u => v = none ∧ u = (f_X5_judgeFree z p0)) 0 0 := by
  refine k_body (by decide +kernel) (Nat.le_of_ble_eq_true rfl) ?_
  intro p e s m below meth cd ls hx hb hr hml hown hlocks hts hW hl
  have hl : lv_has ls 4 [(0, .ref (E.2.2 0)), (1, .int p0)] := hl
  refine lv_iload_n hx hb dX5_judgeFree_0 rfl (lv_at hl 1 rfl) ?_
  refine lv_if_ne (tgt := 10) hx hb dX5_judgeFree_1 (by decide) (fun h1 => ?_) (fun h1 => ?_)
  · refine lv_aload_n hx hb dX5_judgeFree_10 rfl (lv_at hl 0 rfl) ?_
    refine k_get hx hb hts inlX5 hown hW 0 (by omega) k_c0 rfl 2 (by decide) lf_RX5_22 rfl (v := .ref (E.2.2 2)) rfl dX5_judgeFree_11 ?_
    refine lv_iload_n hx hb dX5_judgeFree_14 rfl (lv_at hl 1 rfl) ?_
    refine k_callV (As := [.int p0]) (rest := []) hx hb hml hown hts (c_X0_leastPlaceOf l E S _ z p0 hI) lm_RX5_288 ln_X0_leastPlaceOf le_X0_leastPlaceOf li_X0 lk_X0_leastPlaceOf (show k_nm yX0_leastPlaceOf 1 by decide +kernel) ⟨Nat.le_of_ble_eq_true rfl, Nat.le_of_ble_eq_true rfl⟩ rfl rfl ⟨Nat.le_of_ble_eq_true rfl, Nat.le_of_ble_eq_true rfl⟩ hl.1 rfl (Nat.le_of_ble_eq_true rfl) dX5_judgeFree_15 (by omega) (k_c2 _ _ _) rfl hW (fun v z1 H locs hp hW => ?_)
    obtain ⟨rfl, hz1⟩ := hp
    rw [hz1] at hW
    refine W.eq (g2 := F0 m 18 ls [.long (f_X0_leastPlaceOf z p0)]) rfl ?_
    refine lv_lstore_n (lv' := [(2, .long (f_X0_leastPlaceOf z p0)), (0, .ref (E.2.2 0)), (1, .int p0)]) hx hb dX5_judgeFree_18 rfl hl (by decide) rfl (fun ls hl => ?_)
    refine lv_lload_n hx hb dX5_judgeFree_19 rfl (lv_at hl 0 rfl) ?_
    refine lv_ldc2 (v := (-1)) hx hb hown (hts _ lc_RX5_194) dX5_judgeFree_20 ?_
    refine k_lif_eq (tgt := 38) hx hb dX5_judgeFree_23 dX5_judgeFree_24 (by decide) (fun h2 => ?_) (fun h2 => ?_)
    · have hR : (f_X5_judgeFree z p0) = z := (by simp only [f_X5_judgeFree, if_neg h1, if_pos h2])
      exact k_vret hx hb hr hlocks hW ⟨rfl, by rw [hR]⟩ dX5_judgeFree_38
    · refine lv_aload_n hx hb dX5_judgeFree_27 rfl (lv_at hl 1 rfl) ?_
      refine k_get hx hb hts inlX5 hown hW 0 (by omega) k_c0 rfl 3 (by decide) lf_RX5_29 rfl (v := .ref (E.2.2 6)) rfl dX5_judgeFree_28 ?_
      refine lv_bipush (v := 6) hx hb dX5_judgeFree_31 (by decide) ?_
      refine lv_iload_n hx hb dX5_judgeFree_33 rfl (lv_at hl 2 rfl) ?_
      refine lv_lload_n hx hb dX5_judgeFree_34 rfl (lv_at hl 0 rfl) ?_
      refine k_callV (As := [.int 6, .int p0, .long (f_X0_leastPlaceOf z p0)]) (rest := []) hx hb hml hown hts (c_X1_tell l E S _ z 6 p0 (f_X0_leastPlaceOf z p0) hI) lm_RX5_273 ln_X1_tell le_X1_tell li_X1 lk_X1_tell (show k_nm yX1_tell 3 by decide +kernel) ⟨Nat.le_of_ble_eq_true rfl, Nat.le_of_ble_eq_true rfl⟩ rfl rfl ⟨Nat.le_of_ble_eq_true rfl, Nat.le_of_ble_eq_true rfl⟩ hl.1 rfl (Nat.le_of_ble_eq_true rfl) dX5_judgeFree_35 (by omega) (k_c6 _ _ _) rfl hW (fun v z1 H locs hp hW => ?_)
      obtain ⟨rfl, hz1⟩ := hp
      rw [hz1] at hW
      obtain ⟨z4, ez4⟩ : ∃ y9 : Sg, y9 = (f_X1_tell z 6 p0 (f_X0_leastPlaceOf z p0)) := ⟨_, rfl⟩
      rw [← ez4] at hW
      have Jz4 : k_I S z4 := by rw [ez4]; exact I_tell hI
      refine W.eq (g2 := F0 m 38 ls []) rfl ?_
      have hR : (f_X5_judgeFree z p0) = z4 := (by subst ez4; simp only [f_X5_judgeFree, if_neg h1, if_neg h2])
      exact k_vret hx hb hr hlocks hW ⟨rfl, by rw [hR]⟩ dX5_judgeFree_38
  · refine lv_ldc2 (v := (-1)) hx hb hown (hts _ lc_RX5_194) dX5_judgeFree_4 ?_
    refine lv_goto (tgt := 18) hx hb dX5_judgeFree_7 (by decide) ?_
    refine lv_lstore_n (lv' := [(2, .long (-1)), (0, .ref (E.2.2 0)), (1, .int p0)]) hx hb dX5_judgeFree_18 rfl hl (by decide) rfl (fun ls hl => ?_)
    refine lv_lload_n hx hb dX5_judgeFree_19 rfl (lv_at hl 0 rfl) ?_
    refine lv_ldc2 (v := (-1)) hx hb hown (hts _ lc_RX5_194) dX5_judgeFree_20 ?_
    refine k_lif_eq (tgt := 38) hx hb dX5_judgeFree_23 dX5_judgeFree_24 (by decide) (fun _ => ?_) (fun h5 => absurd h5 (by decide))
    have hR : (f_X5_judgeFree z p0) = z := (by simp only [f_X5_judgeFree, if_pos h1])
    exact k_vret hx hb hr hlocks hW ⟨rfl, by rw [hR]⟩ dX5_judgeFree_38

def f_X5_judgeUsed (z : Sg) (p0 : Int32) : Sg :=
  if (f_X0_standsAt z (z.2.1 9 p0.toNatClampNeg) p0 (z.2.1 10 p0.toNatClampNeg)) = 0 then
    let z3 := (f_X1_tell (uI z 8 p0.toNatClampNeg 4) 7 p0 (z.2.1 9 p0.toNatClampNeg))
    z3
  else
    z
set_option maxHeartbeats 4000000 in
set_option maxRecDepth 100000 in
theorem c_X5_judgeUsed (l : Launch) (E : Ev) (S sz : Nat) (z : Sg) (p0 : Int32) (hp : vp_in p0 100) (hI : k_I S z) : k_Met l yX5_judgeUsed cX5_judgeUsed 4 none ({ frames := 2, cells := 0, slots := 0, locals := 49 }) [.ref (E.2.2 0), .int p0] E (46 + 6 * S) z sz (fun v u => v = none ∧ u = (f_X5_judgeUsed z p0)) 0 0 := by
  refine k_body (by decide +kernel) (Nat.le_of_ble_eq_true rfl) ?_
  intro p e s m below meth cd ls hx hb hr hml hown hlocks hts hW hl
  have hl : lv_has ls 4 [(0, .ref (E.2.2 0)), (1, .int p0)] := hl
  refine lv_aload_n hx hb dX5_judgeUsed_0 rfl (lv_at hl 0 rfl) ?_
  refine k_get hx hb hts inlX5 hown hW 0 (by omega) k_c0 rfl 3 (by decide) lf_RX5_29 rfl (v := .ref (E.2.2 6)) rfl dX5_judgeUsed_1 ?_
  refine k_get hx hb hts inlX1 hown hW 6 (by omega) k_c6 rfl 3 (by decide) lf_RX5_196 rfl (v := .ref (E.2.2 9)) rfl dX5_judgeUsed_4 ?_
  refine lv_iload_n hx hb dX5_judgeUsed_7 rfl (lv_at hl 1 rfl) ?_
  refine k_lald hx hb hW 9 100 (by omega) k_c9 (v := (z.2.1 9 p0.toNatClampNeg)) (by exact hp) rfl dX5_judgeUsed_8 ?_
  refine lv_lstore_n (lv' := [(2, .long (z.2.1 9 p0.toNatClampNeg)), (0, .ref (E.2.2 0)), (1, .int p0)]) hx hb dX5_judgeUsed_9 rfl hl (by decide) rfl (fun ls hl => ?_)
  refine lv_aload_n hx hb dX5_judgeUsed_10 rfl (lv_at hl 1 rfl) ?_
  refine k_get hx hb hts inlX5 hown hW 0 (by omega) k_c0 rfl 2 (by decide) lf_RX5_22 rfl (v := .ref (E.2.2 2)) rfl dX5_judgeUsed_11 ?_
  refine lv_lload_n hx hb dX5_judgeUsed_14 rfl (lv_at hl 0 rfl) ?_
  refine lv_iload_n hx hb dX5_judgeUsed_15 rfl (lv_at hl 2 rfl) ?_
  refine lv_aload_n hx hb dX5_judgeUsed_16 rfl (lv_at hl 1 rfl) ?_
  refine k_get hx hb hts inlX5 hown hW 0 (by omega) k_c0 rfl 3 (by decide) lf_RX5_29 rfl (v := .ref (E.2.2 6)) rfl dX5_judgeUsed_17 ?_
  refine k_get hx hb hts inlX1 hown hW 6 (by omega) k_c6 rfl 4 (by decide) lf_RX5_200 rfl (v := .ref (E.2.2 10)) rfl dX5_judgeUsed_20 ?_
  refine lv_iload_n hx hb dX5_judgeUsed_23 rfl (lv_at hl 2 rfl) ?_
  refine k_lald hx hb hW 10 100 (by omega) k_c10 (v := (z.2.1 10 p0.toNatClampNeg)) (by exact hp) rfl dX5_judgeUsed_24 ?_
  refine k_callV (As := [.long (z.2.1 9 p0.toNatClampNeg), .int p0, .long (z.2.1 10 p0.toNatClampNeg)]) (rest := []) hx hb hml hown hts (c_X0_standsAt l E S _ z (z.2.1 9 p0.toNatClampNeg) p0 (z.2.1 10 p0.toNatClampNeg) hI) lm_RX5_292 ln_X0_standsAt le_X0_standsAt li_X0 lk_X0_standsAt (show k_nm yX0_standsAt 3 by decide +kernel) ⟨Nat.le_of_ble_eq_true rfl, Nat.le_of_ble_eq_true rfl⟩ rfl rfl ⟨Nat.le_of_ble_eq_true rfl, Nat.le_of_ble_eq_true rfl⟩ hl.1 rfl (Nat.le_of_ble_eq_true rfl) dX5_judgeUsed_25 (by omega) (k_c2 _ _ _) rfl hW (fun v z1 H locs hp hW => ?_)
  obtain ⟨rfl, hz1⟩ := hp
  rw [hz1] at hW
  refine W.eq (g2 := F0 m 28 ls [.int (f_X0_standsAt z (z.2.1 9 p0.toNatClampNeg) p0 (z.2.1 10 p0.toNatClampNeg))]) rfl ?_
  refine lv_if_ne (tgt := 52) hx hb dX5_judgeUsed_28 (by decide) (fun h1 => ?_) (fun h1 => ?_)
  · have hR : (f_X5_judgeUsed z p0) = z := (by simp only [f_X5_judgeUsed, if_neg h1])
    exact k_vret hx hb hr hlocks hW ⟨rfl, by rw [hR]⟩ dX5_judgeUsed_52
  · refine lv_aload_n hx hb dX5_judgeUsed_31 rfl (lv_at hl 1 rfl) ?_
    refine k_get hx hb hts inlX5 hown hW 0 (by omega) k_c0 rfl 3 (by decide) lf_RX5_29 rfl (v := .ref (E.2.2 6)) rfl dX5_judgeUsed_32 ?_
    refine k_get hx hb hts inlX1 hown hW 6 (by omega) k_c6 rfl 2 (by decide) lf_RX5_189 rfl (v := .ref (E.2.2 8)) rfl dX5_judgeUsed_35 ?_
    refine lv_iload_n hx hb dX5_judgeUsed_38 rfl (lv_at hl 2 rfl) ?_
    refine lv_iconst (v := 4) hx hb dX5_judgeUsed_39 (by decide) ?_
    refine k_iast hx hb hW 8 100 (by omega) k_c8 (by exact hp) dX5_judgeUsed_40 (fun H locs hW => ?_)
    refine lv_aload_n hx hb dX5_judgeUsed_41 rfl (lv_at hl 1 rfl) ?_
    refine k_get hx hb hts inlX5 hown hW 0 (by omega) k_c0 rfl 3 (by decide) lf_RX5_29 rfl (v := .ref (E.2.2 6)) rfl dX5_judgeUsed_42 ?_
    refine lv_bipush (v := 7) hx hb dX5_judgeUsed_45 (by decide) ?_
    refine lv_iload_n hx hb dX5_judgeUsed_47 rfl (lv_at hl 2 rfl) ?_
    refine lv_lload_n hx hb dX5_judgeUsed_48 rfl (lv_at hl 0 rfl) ?_
    refine k_callV (As := [.int 7, .int p0, .long (z.2.1 9 p0.toNatClampNeg)]) (rest := []) hx hb hml hown hts (c_X1_tell l E S _ (uI z 8 p0.toNatClampNeg 4) 7 p0 (z.2.1 9 p0.toNatClampNeg) (k_I_u (by decide) hI)) lm_RX5_273 ln_X1_tell le_X1_tell li_X1 lk_X1_tell (show k_nm yX1_tell 3 by decide +kernel) ⟨Nat.le_of_ble_eq_true rfl, Nat.le_of_ble_eq_true rfl⟩ rfl rfl ⟨Nat.le_of_ble_eq_true rfl, Nat.le_of_ble_eq_true rfl⟩ hl.1 rfl (Nat.le_of_ble_eq_true rfl) dX5_judgeUsed_49 (by omega) (k_c6 _ _ _) rfl hW (fun v z1 H locs hp hW => ?_)
    obtain ⟨rfl, hz1⟩ := hp
    rw [hz1] at hW
    obtain ⟨z3, ez3⟩ : ∃ y9 : Sg, y9 = (f_X1_tell (uI z 8 p0.toNatClampNeg 4) 7 p0 (z.2.1 9 p0.toNatClampNeg)) := ⟨_, rfl⟩
    rw [← ez3] at hW
    have Jz3 : k_I S z3 := by rw [ez3]; exact I_tell (k_I_u (by decide) hI)
    refine W.eq (g2 := F0 m 52 ls []) rfl ?_
    have hR : (f_X5_judgeUsed z p0) = z3 := (by subst ez3; simp only [f_X5_judgeUsed, if_pos h1])
    exact k_vret hx hb hr hlocks hW ⟨rfl, by rw [hR]⟩ dX5_judgeUsed_52

theorem I_judgeFree {S : Nat} {z : Sg} {p : Int32} (hI : k_I S z) : k_I S (f_X5_judgeFree z p) := by
  unfold f_X5_judgeFree
  split
  · exact hI
  · split
    · exact hI
    · exact I_tell hI
theorem I_judgeUsed {S : Nat} {z : Sg} {p : Int32} (hI : k_I S z) : k_I S (f_X5_judgeUsed z p) := by
  unfold f_X5_judgeUsed
  split
  · exact I_tell (k_I_u (by decide) hI)
  · exact hI

def f_X5_judgeObjects_L2 : Nat → Sg → Int32 → Sg
  | 0, w, _ => w
  | k + 1, w, i =>
    if (100 : Int32) ≤ i then
      w
    else
      if (w.1 8 i.toNatClampNeg) = 1 then
        let z7 := (f_X5_judgeFree w i)
        f_X5_judgeObjects_L2 k z7 (i + 1)
      else
        if (w.1 8 i.toNatClampNeg) = 2 then
          let z5 := (f_X5_judgeUsed w i)
          f_X5_judgeObjects_L2 k z5 (i + 1)
        else
          f_X5_judgeObjects_L2 k w (i + 1)
termination_by k9 => k9
def f_X5_judgeObjects (z : Sg) : Sg :=
  f_X5_judgeObjects_L2 101 z 0
set_option maxHeartbeats 4000000 in
set_option maxRecDepth 100000 in
theorem c_X5_judgeObjects (l : Launch) (E : Ev) (S sz : Nat) (z : Sg) (hI : k_I S z) : k_Met l yX5_judgeObjects cX5_judgeObjects 2 none ({ frames := 3, cells := 0, slots := 0, locals := 72 }) [.ref (E.2.2 0)] E (46 + 6 * S) z sz (fun v u => v = none ∧ u = (f_X5_judgeObjects z)) 0 0 := by
  refine k_body (by decide +kernel) (Nat.le_of_ble_eq_true rfl) ?_
  intro p e s m below meth cd ls hx hb hr hml hown hlocks hts hW hl
  have L2 : ∀ (k : Nat) (w : Sg) (i : Int32) (H : Heap) (locs : List Loc) (ls : Array Slot), (k_I S w) → (0 ≤ i.toInt) → 100 - i.toInt.toNat < k → k_W E (46 + 6 * S) w (k_A E (46 + 6 * S) z s.heap.size) s H locs → lv_has ls 2 [(0, .ref (E.2.2 0)), (1, .int i)] → f_X5_judgeObjects_L2 k w i = (f_X5_judgeObjects z) → W p l e ({ frames := 3, cells := 0, slots := 0, locals := 72 }) s m ([.ref (E.2.2 0)] : List Value).toArray below meth cd H locs 0 0 (MQ below (k_Q (fun v u => v = none ∧ u = (f_X5_judgeObjects z)) E (46 + 6 * S) z s.heap.size) ([.ref (E.2.2 0)] : List Value).toArray s 0 0 (k_A E (46 + 6 * S) z s.heap.size)) (F0 m 2 ls []) := by
    intro k
    induction k with
    | zero =>
      intro w i H locs ls hi0 hi1 hm
      exact absurd hm (Nat.not_lt_zero _)
    | succ k ih =>
      intro w i H locs ls hi0 hi1 hm hW hl hG
      refine lv_iload_n hx hb dX5_judgeObjects_2 rfl (lv_at hl 1 rfl) ?_
      refine lv_bipush (v := 100) hx hb dX5_judgeObjects_3 (by decide) ?_
      refine lv_icmp_ge (tgt := 53) hx hb dX5_judgeObjects_5 (by decide) (fun h1 => ?_) (fun h1 => ?_)
      · have hR : (f_X5_judgeObjects z) = w := (hG.symm.trans (by simp only [f_X5_judgeObjects_L2, if_pos h1]))
        exact k_vret hx hb hr hlocks hW ⟨rfl, by rw [hR]⟩ dX5_judgeObjects_53
      · refine lv_aload_n hx hb dX5_judgeObjects_8 rfl (lv_at hl 0 rfl) ?_
        refine k_get hx hb hts inlX5 hown hW 0 (by omega) k_c0 rfl 3 (by decide) lf_RX5_29 rfl (v := .ref (E.2.2 6)) rfl dX5_judgeObjects_9 ?_
        refine k_get hx hb hts inlX1 hown hW 6 (by omega) k_c6 rfl 2 (by decide) lf_RX5_189 rfl (v := .ref (E.2.2 8)) rfl dX5_judgeObjects_12 ?_
        refine lv_iload_n hx hb dX5_judgeObjects_15 rfl (lv_at hl 1 rfl) ?_
        refine k_iald hx hb hW 8 100 (by omega) k_c8 (v := (w.1 8 i.toNatClampNeg)) (by exact in_lt hi1 h1 rfl) rfl dX5_judgeObjects_16 ?_
        refine lv_iconst (v := 1) hx hb dX5_judgeObjects_17 (by decide) ?_
        refine lv_icmp_ne (tgt := 29) hx hb dX5_judgeObjects_18 (by decide) (fun h2 => ?_) (fun h2 => ?_)
        · refine lv_aload_n hx hb dX5_judgeObjects_29 rfl (lv_at hl 0 rfl) ?_
          refine k_get hx hb hts inlX5 hown hW 0 (by omega) k_c0 rfl 3 (by decide) lf_RX5_29 rfl (v := .ref (E.2.2 6)) rfl dX5_judgeObjects_30 ?_
          refine k_get hx hb hts inlX1 hown hW 6 (by omega) k_c6 rfl 2 (by decide) lf_RX5_189 rfl (v := .ref (E.2.2 8)) rfl dX5_judgeObjects_33 ?_
          refine lv_iload_n hx hb dX5_judgeObjects_36 rfl (lv_at hl 1 rfl) ?_
          refine k_iald hx hb hW 8 100 (by omega) k_c8 (v := (w.1 8 i.toNatClampNeg)) (by exact in_lt hi1 h1 rfl) rfl dX5_judgeObjects_37 ?_
          refine lv_iconst (v := 2) hx hb dX5_judgeObjects_38 (by decide) ?_
          refine lv_icmp_ne (tgt := 47) hx hb dX5_judgeObjects_39 (by decide) (fun h3 => ?_) (fun h3 => ?_)
          · refine lv_iinc (v := i + 1) (lv' := [(1, .int (i + 1)), (0, .ref (E.2.2 0))]) hx hb dX5_judgeObjects_47 hl (k := 1) rfl rfl (by decide) rfl (fun ls hl => ?_)
            refine lv_goto (tgt := 2) hx hb dX5_judgeObjects_50 (by decide) ?_
            exact ih w (i + 1) _ _ _ (hi0) (in_s0 (m := 100) (n := 100) hi1 h1 (by decide)) (in_sm (m := 100) hi1 h1 (by decide) hm) hW (lv_sub hl [1, 0] rfl) (Eq.symm (hG.symm.trans (by simp only [f_X5_judgeObjects_L2, if_neg h1, if_neg h2, if_neg h3])))
          · refine lv_aload_n hx hb dX5_judgeObjects_42 rfl (lv_at hl 0 rfl) ?_
            refine lv_iload_n hx hb dX5_judgeObjects_43 rfl (lv_at hl 1 rfl) ?_
            refine k_callV (As := [.int i]) (rest := []) hx hb hml hown hts (c_X5_judgeUsed l E S _ w i (in_lt hi1 h1 rfl) hi0) lm_RX5_285 ln_X5_judgeUsed le_X5_judgeUsed li_X5 lk_X5_judgeUsed (show k_nm yX5_judgeUsed 1 by decide +kernel) ⟨Nat.le_of_ble_eq_true rfl, Nat.le_of_ble_eq_true rfl⟩ rfl rfl ⟨Nat.le_of_ble_eq_true rfl, Nat.le_of_ble_eq_true rfl⟩ hl.1 rfl (Nat.le_of_ble_eq_true rfl) dX5_judgeObjects_44 (by omega) (k_c0 _ _ _) rfl hW (fun v z1 H locs hp hW => ?_)
            obtain ⟨rfl, hz1⟩ := hp
            rw [hz1] at hW
            obtain ⟨z5, ez5⟩ : ∃ y9 : Sg, y9 = (f_X5_judgeUsed w i) := ⟨_, rfl⟩
            rw [← ez5] at hW
            have Jz5 : k_I S z5 := by rw [ez5]; exact I_judgeUsed hi0
            refine W.eq (g2 := F0 m 47 ls []) rfl ?_
            refine lv_iinc (v := i + 1) (lv' := [(1, .int (i + 1)), (0, .ref (E.2.2 0))]) hx hb dX5_judgeObjects_47 hl (k := 1) rfl rfl (by decide) rfl (fun ls hl => ?_)
            refine lv_goto (tgt := 2) hx hb dX5_judgeObjects_50 (by decide) ?_
            exact ih z5 (i + 1) _ _ _ (Jz5) (in_s0 (m := 100) (n := 100) hi1 h1 (by decide)) (in_sm (m := 100) hi1 h1 (by decide) hm) hW (lv_sub hl [1, 0] rfl) (Eq.symm (hG.symm.trans (by subst ez5; simp only [f_X5_judgeObjects_L2, if_neg h1, if_neg h2, if_pos h3])))
        · refine lv_aload_n hx hb dX5_judgeObjects_21 rfl (lv_at hl 0 rfl) ?_
          refine lv_iload_n hx hb dX5_judgeObjects_22 rfl (lv_at hl 1 rfl) ?_
          refine k_callV (As := [.int i]) (rest := []) hx hb hml hown hts (c_X5_judgeFree l E S _ w i hi0) lm_RX5_281 ln_X5_judgeFree le_X5_judgeFree li_X5 lk_X5_judgeFree (show k_nm yX5_judgeFree 1 by decide +kernel) ⟨Nat.le_of_ble_eq_true rfl, Nat.le_of_ble_eq_true rfl⟩ rfl rfl ⟨Nat.le_of_ble_eq_true rfl, Nat.le_of_ble_eq_true rfl⟩ hl.1 rfl (Nat.le_of_ble_eq_true rfl) dX5_judgeObjects_23 (by omega) (k_c0 _ _ _) rfl hW (fun v z1 H locs hp hW => ?_)
          obtain ⟨rfl, hz1⟩ := hp
          rw [hz1] at hW
          obtain ⟨z7, ez7⟩ : ∃ y9 : Sg, y9 = (f_X5_judgeFree w i) := ⟨_, rfl⟩
          rw [← ez7] at hW
          have Jz7 : k_I S z7 := by rw [ez7]; exact I_judgeFree hi0
          refine W.eq (g2 := F0 m 26 ls []) rfl ?_
          refine lv_goto (tgt := 47) hx hb dX5_judgeObjects_26 (by decide) ?_
          refine lv_iinc (v := i + 1) (lv' := [(1, .int (i + 1)), (0, .ref (E.2.2 0))]) hx hb dX5_judgeObjects_47 hl (k := 1) rfl rfl (by decide) rfl (fun ls hl => ?_)
          refine lv_goto (tgt := 2) hx hb dX5_judgeObjects_50 (by decide) ?_
          exact ih z7 (i + 1) _ _ _ (Jz7) (in_s0 (m := 100) (n := 100) hi1 h1 (by decide)) (in_sm (m := 100) hi1 h1 (by decide) hm) hW (lv_sub hl [1, 0] rfl) (Eq.symm (hG.symm.trans (by subst ez7; simp only [f_X5_judgeObjects_L2, if_neg h1, if_pos h2])))
  have hl : lv_has ls 2 [(0, .ref (E.2.2 0))] := hl
  refine lv_iconst (v := 0) hx hb dX5_judgeObjects_0 (by decide) ?_
  refine lv_istore_n (lv' := [(1, .int 0), (0, .ref (E.2.2 0))]) hx hb dX5_judgeObjects_1 rfl hl (by decide) rfl (fun ls hl => ?_)
  exact L2 101 z 0 _ _ _ (hI) (by decide) (by decide) hW (lv_sub hl [1, 0] rfl) (Eq.symm (by simp only [f_X5_judgeObjects]))

theorem I_judgeObjects_L2 {S : Nat} : ∀ (k : Nat) (w : Sg) (i : Int32), k_I S w → k_I S (f_X5_judgeObjects_L2 k w i) := by
  intro k
  induction k with
  | zero => intro w i h; rw [f_X5_judgeObjects_L2]; exact h
  | succ k ih =>
    intro w i h
    rw [f_X5_judgeObjects_L2]
    split
    · exact h
    · split
      · exact ih _ _ (I_judgeFree h)
      · split
        · exact ih _ _ (I_judgeUsed h)
        · exact ih _ _ h
theorem I_judgeObjects {S : Nat} {z : Sg} (hI : k_I S z) : k_I S (f_X5_judgeObjects z) := I_judgeObjects_L2 _ _ _ hI

theorem I_clear_L17 {S : Nat} : ∀ (k : Nat) (w : Sg) (i : Int32), k_I S w → k_I S (f_X1_clear_L17 k w i) := by
  intro k
  induction k with
  | zero => intro w i h; rw [f_X1_clear_L17]; exact h
  | succ k ih =>
    intro w i h
    rw [f_X1_clear_L17]
    split
    · exact h
    · exact ih _ _ (k_I_u (by decide) (k_I_u (by decide) (k_I_u (by decide) h)))
theorem I_clear {S : Nat} {z : Sg} (hI : k_I S z) : k_I S (f_X1_clear z) := by
  unfold f_X1_clear
  refine I_clear_L17 _ _ _ (k_I_of hI (fun q hq => ?_) (show 0 ≤ (0 : Int32).toInt ∧ (0 : Int32).toInt ≤ 12 by decide) (show 0 ≤ (0 : Int32).toInt ∧ (0 : Int32).toInt ≤ 200 by decide) (show 0 ≤ (0 : Int32).toInt ∧ (0 : Int32).toInt ≤ 100 by decide) rfl hI.2.2.2.2.2.2.1 hI.2.2.2.2.2.2.2.1 (show k_T z from k_IT hI))
  rw [uI_r (by omega), uI_r (by omega), uI_r (by omega)]
theorem I_goThrough {S c : Nat} {z : Sg} (lc : c < S) (hI : k_I S z) : k_I S (f_X5_goThrough z c).2 ∧ ∀ d, (f_X5_goThrough z c).1 = some d → d < S := by
  have h1 := I_besideToGoTo (c := c) (I_enter lc hI)
  have h2 := I_readRowsOf lc h1.1
  unfold f_X5_goThrough
  dsimp only
  split
  · have hg := I_beforeToGoTo (c := c) h2
    split
    · exact ⟨hg.1, fun d h => by cases h⟩
    · next h => exact ⟨hg.1, fun d g => by cases g; exact hg.2 _ h⟩
  · next hs =>
    have lb := h1.2 _ hs
    have hg := I_beforeToGoTo (c := c) (I_readRowsOf lb (I_enter lb h2))
    split
    · exact ⟨hg.1, fun d h => by cases h⟩
    · next h => exact ⟨hg.1, fun d g => by cases g; exact hg.2 _ h⟩

def f_X5_read_L22 (p0 : Int64) : Nat → Sg → Option Nat → Int32 → Int32 × Sg
  | 0, w, _, _ => (0, w)
  | k + 1, w, o, i =>
    match o with
    | none =>
      if (12 : Int32) ≤ i then
        let z4 := (f_X5_judgeObjects w)
        let z6 := (f_X1_listFree z4)
        ((f_X1_countObjects z6), z6)
      else
        let z8 := (f_X5_judgeObjects w)
        let z10 := (f_X1_listFree z8)
        ((f_X1_countObjects z10), z10)
    | some c1 =>
      if (12 : Int32) ≤ i then
        let z13 := (f_X5_judgeObjects w)
        let z15 := (f_X1_listFree z13)
        ((f_X1_countObjects z15), z15)
      else
        let z17 := (f_X5_goThrough w c1).2
        match (f_X5_goThrough w c1).1 with
        | none =>
          f_X5_read_L22 p0 k z17 none (i + 1)
        | some c19 =>
          f_X5_read_L22 p0 k z17 (some c19) (i + 1)
termination_by k9 => k9
def f_X5_read (z : Sg) (p0 : Int64) : Int32 × Sg :=
  let z21 := (f_X1_clear z)
  match (f_X5_sectionAt z21 p0) with
  | none =>
    ((-1), z21)
  | some c23 =>
    f_X5_read_L22 p0 13 z21 (some c23) 0
set_option maxHeartbeats 4000000 in
set_option maxRecDepth 100000 in
theorem c_X5_read (l : Launch) (E : Ev) (S sz : Nat) (z : Sg) (p0 : Int64) (hI : k_I S z) : k_Met l yX5_read cX5_read 5 (some .int) ({ frames := 7, cells := 0, slots := 0, locals := 149 }) [.ref (E.2.2 0), .long p0] E (46 + 6 * S) z sz (fun v u => v = some (.int ((f_X5_read z p0).1)) ∧ u = (f_X5_read z p0).2) 0 0 := by
  refine k_body (by decide +kernel) (Nat.le_of_ble_eq_true rfl) ?_
  intro p e s m below meth cd ls hx hb hr hml hown hlocks hts hW hl
  have L22 : ∀ (k : Nat) (w : Sg) (o : Option Nat) (i : Int32) (H : Heap) (locs : List Loc) (ls : Array Slot), (k_I S w) → (∀ d, o = some d → d < S) → (0 ≤ i.toInt) → 12 - i.toInt.toNat < k → k_W E (46 + 6 * S) w (k_A E (46 + 6 * S) z s.heap.size) s H locs → lv_has ls 5 [(0, .ref (E.2.2 0)), (1, .long p0), (3, k_o E o), (4, .int i)] → f_X5_read_L22 p0 k w o i = (f_X5_read z p0) → W p l e ({ frames := 7, cells := 0, slots := 0, locals := 149 }) s m ([.ref (E.2.2 0), .long p0] : List Value).toArray below meth cd H locs 0 0 (MQ below (k_Q (fun v u => v = some (.int ((f_X5_read z p0).1)) ∧ u = (f_X5_read z p0).2) E (46 + 6 * S) z s.heap.size) ([.ref (E.2.2 0), .long p0] : List Value).toArray s 0 0 (k_A E (46 + 6 * S) z s.heap.size)) (F0 m 22 ls []) := by
    intro k
    induction k with
    | zero =>
      intro w o i H locs ls hi0 hi1 hi2 hm
      exact absurd hm (Nat.not_lt_zero _)
    | succ k ih =>
      intro w o i H locs ls hi0 hi1 hi2 hm hW hl hG
      rcases o with _ | c1
      · have hl : lv_has ls 5 [(0, .ref (E.2.2 0)), (1, .long p0), (3, .null), (4, .int i)] := hl
        refine lv_iload hx hb dX5_read_22 (lv_at hl 3 rfl) ?_
        refine lv_bipush (v := 12) hx hb dX5_read_24 (by decide) ?_
        refine lv_icmp_ge (tgt := 45) hx hb dX5_read_26 (by decide) (fun h2 => ?_) (fun h2 => ?_)
        · refine lv_aload_n hx hb dX5_read_45 rfl (lv_at hl 0 rfl) ?_
          refine k_callV (As := []) (rest := []) hx hb hml hown hts (c_X5_judgeObjects l E S _ w hi0) lm_RX5_177 ln_X5_judgeObjects le_X5_judgeObjects li_X5 lk_X5_judgeObjects (show k_nm yX5_judgeObjects 0 by decide +kernel) ⟨Nat.le_of_ble_eq_true rfl, Nat.le_of_ble_eq_true rfl⟩ rfl rfl ⟨Nat.le_of_ble_eq_true rfl, Nat.le_of_ble_eq_true rfl⟩ hl.1 rfl (Nat.le_of_ble_eq_true rfl) dX5_read_46 (by omega) (k_c0 _ _ _) rfl hW (fun v z1 H locs hp hW => ?_)
          obtain ⟨rfl, hz1⟩ := hp
          rw [hz1] at hW
          obtain ⟨z4, ez4⟩ : ∃ y9 : Sg, y9 = (f_X5_judgeObjects w) := ⟨_, rfl⟩
          rw [← ez4] at hW
          have Jz4 : k_I S z4 := by rw [ez4]; exact I_judgeObjects hi0
          refine W.eq (g2 := F0 m 49 ls []) rfl ?_
          refine lv_aload_n hx hb dX5_read_49 rfl (lv_at hl 0 rfl) ?_
          refine k_get hx hb hts inlX5 hown hW 0 (by omega) k_c0 rfl 3 (by decide) lf_RX5_29 rfl (v := .ref (E.2.2 6)) rfl dX5_read_50 ?_
          refine k_callV (As := []) (rest := []) hx hb hml hown hts (c_X1_listFree l E S _ z4) lm_RX5_180 ln_X1_listFree le_X1_listFree li_X1 lk_X1_listFree (show k_nm yX1_listFree 0 by decide +kernel) ⟨Nat.le_of_ble_eq_true rfl, Nat.le_of_ble_eq_true rfl⟩ rfl rfl ⟨Nat.le_of_ble_eq_true rfl, Nat.le_of_ble_eq_true rfl⟩ hl.1 rfl (Nat.le_of_ble_eq_true rfl) dX5_read_53 (by omega) (k_c6 _ _ _) rfl hW (fun v z1 H locs hp hW => ?_)
          obtain ⟨rfl, hz1⟩ := hp
          rw [hz1] at hW
          obtain ⟨z6, ez6⟩ : ∃ y9 : Sg, y9 = (f_X1_listFree z4) := ⟨_, rfl⟩
          rw [← ez6] at hW
          have Jz6 : k_I S z6 := by rw [ez6]; exact I_listFree Jz4
          refine W.eq (g2 := F0 m 56 ls []) rfl ?_
          refine lv_aload_n hx hb dX5_read_56 rfl (lv_at hl 0 rfl) ?_
          refine k_get hx hb hts inlX5 hown hW 0 (by omega) k_c0 rfl 3 (by decide) lf_RX5_29 rfl (v := .ref (E.2.2 6)) rfl dX5_read_57 ?_
          refine k_callV (As := []) (rest := []) hx hb hml hown hts (c_X1_countObjects l E S _ z6) lm_RX5_183 ln_X1_countObjects le_X1_countObjects li_X1 lk_X1_countObjects (show k_nm yX1_countObjects 0 by decide +kernel) ⟨Nat.le_of_ble_eq_true rfl, Nat.le_of_ble_eq_true rfl⟩ rfl rfl ⟨Nat.le_of_ble_eq_true rfl, Nat.le_of_ble_eq_true rfl⟩ hl.1 rfl (Nat.le_of_ble_eq_true rfl) dX5_read_60 (by omega) (k_c6 _ _ _) rfl hW (fun v z1 H locs hp hW => ?_)
          obtain ⟨rfl, hz1⟩ := hp
          rw [hz1] at hW
          refine W.eq (g2 := F0 m 63 ls [.int (f_X1_countObjects z6)]) rfl ?_
          have hR : (f_X5_read z p0) = ((f_X1_countObjects z6), z6) := (hG.symm.trans (by subst ez6 ez4; simp only [f_X5_read_L22, if_pos h2]))
          exact k_iret hx hb hr rfl hlocks hW ⟨by rw [hR], by rw [hR]⟩ dX5_read_63
        · refine lv_aload_nN hx hb dX5_read_29 rfl (lv_at hl 2 rfl) ?_
          refine lv_ifnullN (tgt := 45) hx hb dX5_read_30 (by decide) ?_
          refine lv_aload_n hx hb dX5_read_45 rfl (lv_at hl 0 rfl) ?_
          refine k_callV (As := []) (rest := []) hx hb hml hown hts (c_X5_judgeObjects l E S _ w hi0) lm_RX5_177 ln_X5_judgeObjects le_X5_judgeObjects li_X5 lk_X5_judgeObjects (show k_nm yX5_judgeObjects 0 by decide +kernel) ⟨Nat.le_of_ble_eq_true rfl, Nat.le_of_ble_eq_true rfl⟩ rfl rfl ⟨Nat.le_of_ble_eq_true rfl, Nat.le_of_ble_eq_true rfl⟩ hl.1 rfl (Nat.le_of_ble_eq_true rfl) dX5_read_46 (by omega) (k_c0 _ _ _) rfl hW (fun v z1 H locs hp hW => ?_)
          obtain ⟨rfl, hz1⟩ := hp
          rw [hz1] at hW
          obtain ⟨z8, ez8⟩ : ∃ y9 : Sg, y9 = (f_X5_judgeObjects w) := ⟨_, rfl⟩
          rw [← ez8] at hW
          have Jz8 : k_I S z8 := by rw [ez8]; exact I_judgeObjects hi0
          refine W.eq (g2 := F0 m 49 ls []) rfl ?_
          refine lv_aload_n hx hb dX5_read_49 rfl (lv_at hl 0 rfl) ?_
          refine k_get hx hb hts inlX5 hown hW 0 (by omega) k_c0 rfl 3 (by decide) lf_RX5_29 rfl (v := .ref (E.2.2 6)) rfl dX5_read_50 ?_
          refine k_callV (As := []) (rest := []) hx hb hml hown hts (c_X1_listFree l E S _ z8) lm_RX5_180 ln_X1_listFree le_X1_listFree li_X1 lk_X1_listFree (show k_nm yX1_listFree 0 by decide +kernel) ⟨Nat.le_of_ble_eq_true rfl, Nat.le_of_ble_eq_true rfl⟩ rfl rfl ⟨Nat.le_of_ble_eq_true rfl, Nat.le_of_ble_eq_true rfl⟩ hl.1 rfl (Nat.le_of_ble_eq_true rfl) dX5_read_53 (by omega) (k_c6 _ _ _) rfl hW (fun v z1 H locs hp hW => ?_)
          obtain ⟨rfl, hz1⟩ := hp
          rw [hz1] at hW
          obtain ⟨z10, ez10⟩ : ∃ y9 : Sg, y9 = (f_X1_listFree z8) := ⟨_, rfl⟩
          rw [← ez10] at hW
          have Jz10 : k_I S z10 := by rw [ez10]; exact I_listFree Jz8
          refine W.eq (g2 := F0 m 56 ls []) rfl ?_
          refine lv_aload_n hx hb dX5_read_56 rfl (lv_at hl 0 rfl) ?_
          refine k_get hx hb hts inlX5 hown hW 0 (by omega) k_c0 rfl 3 (by decide) lf_RX5_29 rfl (v := .ref (E.2.2 6)) rfl dX5_read_57 ?_
          refine k_callV (As := []) (rest := []) hx hb hml hown hts (c_X1_countObjects l E S _ z10) lm_RX5_183 ln_X1_countObjects le_X1_countObjects li_X1 lk_X1_countObjects (show k_nm yX1_countObjects 0 by decide +kernel) ⟨Nat.le_of_ble_eq_true rfl, Nat.le_of_ble_eq_true rfl⟩ rfl rfl ⟨Nat.le_of_ble_eq_true rfl, Nat.le_of_ble_eq_true rfl⟩ hl.1 rfl (Nat.le_of_ble_eq_true rfl) dX5_read_60 (by omega) (k_c6 _ _ _) rfl hW (fun v z1 H locs hp hW => ?_)
          obtain ⟨rfl, hz1⟩ := hp
          rw [hz1] at hW
          refine W.eq (g2 := F0 m 63 ls [.int (f_X1_countObjects z10)]) rfl ?_
          have hR : (f_X5_read z p0) = ((f_X1_countObjects z10), z10) := (hG.symm.trans (by subst ez10 ez8; simp only [f_X5_read_L22, if_neg h2]))
          exact k_iret hx hb hr rfl hlocks hW ⟨by rw [hR], by rw [hR]⟩ dX5_read_63
      · have hl : lv_has ls 5 [(0, .ref (E.2.2 0)), (1, .long p0), (3, .ref (E.2.2 (46 + 6 * c1))), (4, .int i)] := hl
        have lc1 : c1 < S := hi1 _ rfl
        refine lv_iload hx hb dX5_read_22 (lv_at hl 3 rfl) ?_
        refine lv_bipush (v := 12) hx hb dX5_read_24 (by decide) ?_
        refine lv_icmp_ge (tgt := 45) hx hb dX5_read_26 (by decide) (fun h11 => ?_) (fun h11 => ?_)
        · refine lv_aload_n hx hb dX5_read_45 rfl (lv_at hl 0 rfl) ?_
          refine k_callV (As := []) (rest := []) hx hb hml hown hts (c_X5_judgeObjects l E S _ w hi0) lm_RX5_177 ln_X5_judgeObjects le_X5_judgeObjects li_X5 lk_X5_judgeObjects (show k_nm yX5_judgeObjects 0 by decide +kernel) ⟨Nat.le_of_ble_eq_true rfl, Nat.le_of_ble_eq_true rfl⟩ rfl rfl ⟨Nat.le_of_ble_eq_true rfl, Nat.le_of_ble_eq_true rfl⟩ hl.1 rfl (Nat.le_of_ble_eq_true rfl) dX5_read_46 (by omega) (k_c0 _ _ _) rfl hW (fun v z1 H locs hp hW => ?_)
          obtain ⟨rfl, hz1⟩ := hp
          rw [hz1] at hW
          obtain ⟨z13, ez13⟩ : ∃ y9 : Sg, y9 = (f_X5_judgeObjects w) := ⟨_, rfl⟩
          rw [← ez13] at hW
          have Jz13 : k_I S z13 := by rw [ez13]; exact I_judgeObjects hi0
          refine W.eq (g2 := F0 m 49 ls []) rfl ?_
          refine lv_aload_n hx hb dX5_read_49 rfl (lv_at hl 0 rfl) ?_
          refine k_get hx hb hts inlX5 hown hW 0 (by omega) k_c0 rfl 3 (by decide) lf_RX5_29 rfl (v := .ref (E.2.2 6)) rfl dX5_read_50 ?_
          refine k_callV (As := []) (rest := []) hx hb hml hown hts (c_X1_listFree l E S _ z13) lm_RX5_180 ln_X1_listFree le_X1_listFree li_X1 lk_X1_listFree (show k_nm yX1_listFree 0 by decide +kernel) ⟨Nat.le_of_ble_eq_true rfl, Nat.le_of_ble_eq_true rfl⟩ rfl rfl ⟨Nat.le_of_ble_eq_true rfl, Nat.le_of_ble_eq_true rfl⟩ hl.1 rfl (Nat.le_of_ble_eq_true rfl) dX5_read_53 (by omega) (k_c6 _ _ _) rfl hW (fun v z1 H locs hp hW => ?_)
          obtain ⟨rfl, hz1⟩ := hp
          rw [hz1] at hW
          obtain ⟨z15, ez15⟩ : ∃ y9 : Sg, y9 = (f_X1_listFree z13) := ⟨_, rfl⟩
          rw [← ez15] at hW
          have Jz15 : k_I S z15 := by rw [ez15]; exact I_listFree Jz13
          refine W.eq (g2 := F0 m 56 ls []) rfl ?_
          refine lv_aload_n hx hb dX5_read_56 rfl (lv_at hl 0 rfl) ?_
          refine k_get hx hb hts inlX5 hown hW 0 (by omega) k_c0 rfl 3 (by decide) lf_RX5_29 rfl (v := .ref (E.2.2 6)) rfl dX5_read_57 ?_
          refine k_callV (As := []) (rest := []) hx hb hml hown hts (c_X1_countObjects l E S _ z15) lm_RX5_183 ln_X1_countObjects le_X1_countObjects li_X1 lk_X1_countObjects (show k_nm yX1_countObjects 0 by decide +kernel) ⟨Nat.le_of_ble_eq_true rfl, Nat.le_of_ble_eq_true rfl⟩ rfl rfl ⟨Nat.le_of_ble_eq_true rfl, Nat.le_of_ble_eq_true rfl⟩ hl.1 rfl (Nat.le_of_ble_eq_true rfl) dX5_read_60 (by omega) (k_c6 _ _ _) rfl hW (fun v z1 H locs hp hW => ?_)
          obtain ⟨rfl, hz1⟩ := hp
          rw [hz1] at hW
          refine W.eq (g2 := F0 m 63 ls [.int (f_X1_countObjects z15)]) rfl ?_
          have hR : (f_X5_read z p0) = ((f_X1_countObjects z15), z15) := (hG.symm.trans (by subst ez15 ez13; simp only [f_X5_read_L22, if_pos h11]))
          exact k_iret hx hb hr rfl hlocks hW ⟨by rw [hR], by rw [hR]⟩ dX5_read_63
        · refine lv_aload_n hx hb dX5_read_29 rfl (lv_at hl 2 rfl) ?_
          refine lv_ifnull hx hb dX5_read_30 ?_
          refine lv_aload_n hx hb dX5_read_33 rfl (lv_at hl 0 rfl) ?_
          refine lv_aload_n hx hb dX5_read_34 rfl (lv_at hl 2 rfl) ?_
          refine k_callV (As := [.ref (E.2.2 (46 + 6 * c1))]) (rest := []) hx hb hml hown hts (c_X5_goThrough l E S _ w c1 lc1 hi0) lm_RX5_173 ln_X5_goThrough le_X5_goThrough li_X5 lk_X5_goThrough (show k_nm yX5_goThrough 1 by decide +kernel) ⟨Nat.le_of_ble_eq_true rfl, Nat.le_of_ble_eq_true rfl⟩ rfl rfl ⟨Nat.le_of_ble_eq_true rfl, Nat.le_of_ble_eq_true rfl⟩ hl.1 rfl (Nat.le_of_ble_eq_true rfl) dX5_read_35 (by omega) (k_c0 _ _ _) rfl hW (fun v z1 H locs hp hW => ?_)
          obtain ⟨rfl, hz1⟩ := hp
          rw [hz1] at hW
          obtain ⟨z17, ez17⟩ : ∃ y9 : Sg, y9 = (f_X5_goThrough w c1).2 := ⟨_, rfl⟩
          rw [← ez17] at hW
          have Jz17 : k_I S z17 := by rw [ez17]; exact (I_goThrough lc1 hi0).1
          refine W.eq (g2 := F0 m 38 ls [k_o E ((f_X5_goThrough w c1).1)]) rfl ?_
          rcases h18 : (f_X5_goThrough w c1).1 with _ | c19
          · refine W.eq (g2 := F0 m 38 ls [.null]) rfl ?_
            refine lv_astore_nN (lv' := [(3, .null), (0, .ref (E.2.2 0)), (1, .long p0), (4, .int i)]) hx hb dX5_read_38 rfl hl (by decide) rfl (fun ls hl => ?_)
            refine lv_iinc (v := i + 1) (lv' := [(4, .int (i + 1)), (3, .null), (0, .ref (E.2.2 0)), (1, .long p0)]) hx hb dX5_read_39 hl (k := 3) rfl rfl (by decide) rfl (fun ls hl => ?_)
            refine lv_goto (tgt := 22) hx hb dX5_read_42 (by decide) ?_
            exact ih z17 none (i + 1) _ _ _ (Jz17) (fun d h => by cases h <;> assumption) (in_s0 (m := 12) (n := 12) hi2 h11 (by decide)) (in_sm (m := 12) hi2 h11 (by decide) hm) hW (lv_sub hl [2, 3, 1, 0] rfl) (Eq.symm (hG.symm.trans (by subst ez17; simp only [f_X5_read_L22, if_neg h11, h18])))
          · have lc19 : c19 < S := (I_goThrough lc1 hi0).2 _ h18
            refine W.eq (g2 := F0 m 38 ls [.ref (E.2.2 (46 + 6 * c19))]) rfl ?_
            refine lv_astore_n (lv' := [(3, .ref (E.2.2 (46 + 6 * c19))), (0, .ref (E.2.2 0)), (1, .long p0), (4, .int i)]) hx hb dX5_read_38 rfl hl (by decide) rfl (fun ls hl => ?_)
            refine lv_iinc (v := i + 1) (lv' := [(4, .int (i + 1)), (3, .ref (E.2.2 (46 + 6 * c19))), (0, .ref (E.2.2 0)), (1, .long p0)]) hx hb dX5_read_39 hl (k := 3) rfl rfl (by decide) rfl (fun ls hl => ?_)
            refine lv_goto (tgt := 22) hx hb dX5_read_42 (by decide) ?_
            exact ih z17 (some c19) (i + 1) _ _ _ (Jz17) (fun d h => by cases h <;> assumption) (in_s0 (m := 12) (n := 12) hi2 h11 (by decide)) (in_sm (m := 12) hi2 h11 (by decide) hm) hW (lv_sub hl [2, 3, 1, 0] rfl) (Eq.symm (hG.symm.trans (by subst ez17; simp only [f_X5_read_L22, if_neg h11, h18])))
  have hl : lv_has ls 5 [(0, .ref (E.2.2 0)), (1, .long p0)] := hl
  refine lv_aload_n hx hb dX5_read_0 rfl (lv_at hl 0 rfl) ?_
  refine k_get hx hb hts inlX5 hown hW 0 (by omega) k_c0 rfl 3 (by decide) lf_RX5_29 rfl (v := .ref (E.2.2 6)) rfl dX5_read_1 ?_
  refine k_callV (As := []) (rest := []) hx hb hml hown hts (c_X1_clear l E S _ z) lm_RX5_170 ln_X1_clear le_X1_clear li_X1 lk_X1_clear (show k_nm yX1_clear 0 by decide +kernel) ⟨Nat.le_of_ble_eq_true rfl, Nat.le_of_ble_eq_true rfl⟩ rfl rfl ⟨Nat.le_of_ble_eq_true rfl, Nat.le_of_ble_eq_true rfl⟩ hl.1 rfl (Nat.le_of_ble_eq_true rfl) dX5_read_4 (by omega) (k_c6 _ _ _) rfl hW (fun v z1 H locs hp hW => ?_)
  obtain ⟨rfl, hz1⟩ := hp
  rw [hz1] at hW
  obtain ⟨z21, ez21⟩ : ∃ y9 : Sg, y9 = (f_X1_clear z) := ⟨_, rfl⟩
  rw [← ez21] at hW
  have Jz21 : k_I S z21 := by rw [ez21]; exact I_clear hI
  refine W.eq (g2 := F0 m 7 ls []) rfl ?_
  refine lv_aload_n hx hb dX5_read_7 rfl (lv_at hl 0 rfl) ?_
  refine lv_lload_n hx hb dX5_read_8 rfl (lv_at hl 1 rfl) ?_
  refine k_callV (As := [.long p0]) (rest := []) hx hb hml hown hts (c_X5_sectionAt l E S _ z21 p0 Jz21) lm_RX5_53 ln_X5_sectionAt le_X5_sectionAt li_X5 lk_X5_sectionAt (show k_nm yX5_sectionAt 1 by decide +kernel) ⟨Nat.le_of_ble_eq_true rfl, Nat.le_of_ble_eq_true rfl⟩ rfl rfl ⟨Nat.le_of_ble_eq_true rfl, Nat.le_of_ble_eq_true rfl⟩ hl.1 rfl (Nat.le_of_ble_eq_true rfl) dX5_read_9 (by omega) (k_c0 _ _ _) rfl hW (fun v z1 H locs hp hW => ?_)
  obtain ⟨rfl, hz1⟩ := hp
  rw [hz1] at hW
  refine W.eq (g2 := F0 m 12 ls [k_o E (f_X5_sectionAt z21 p0)]) rfl ?_
  rcases h22 : (f_X5_sectionAt z21 p0) with _ | c23
  · refine W.eq (g2 := F0 m 12 ls [.null]) rfl ?_
    refine lv_astore_nN (lv' := [(3, .null), (0, .ref (E.2.2 0)), (1, .long p0)]) hx hb dX5_read_12 rfl hl (by decide) rfl (fun ls hl => ?_)
    refine lv_aload_nN hx hb dX5_read_13 rfl (lv_at hl 0 rfl) ?_
    refine lv_ifnonnullN hx hb dX5_read_14 ?_
    refine lv_iconst (v := (-1)) hx hb dX5_read_17 (by decide) ?_
    have hR : (f_X5_read z p0) = ((-1), z21) := (by subst ez21; simp only [f_X5_read, h22])
    exact k_iret hx hb hr rfl hlocks hW ⟨by rw [hR], by rw [hR]⟩ dX5_read_18
  · have lc23 : c23 < S := lt_sectionAt Jz21 h22
    refine W.eq (g2 := F0 m 12 ls [.ref (E.2.2 (46 + 6 * c23))]) rfl ?_
    refine lv_astore_n (lv' := [(3, .ref (E.2.2 (46 + 6 * c23))), (0, .ref (E.2.2 0)), (1, .long p0)]) hx hb dX5_read_12 rfl hl (by decide) rfl (fun ls hl => ?_)
    refine lv_aload_n hx hb dX5_read_13 rfl (lv_at hl 0 rfl) ?_
    refine lv_ifnonnull (tgt := 19) hx hb dX5_read_14 (by decide) ?_
    refine lv_iconst (v := 0) hx hb dX5_read_19 (by decide) ?_
    refine lv_istore (lv' := [(4, .int 0), (3, .ref (E.2.2 (46 + 6 * c23))), (0, .ref (E.2.2 0)), (1, .long p0)]) hx hb dX5_read_20 hl (by decide) rfl (fun ls hl => ?_)
    exact L22 13 z21 (some c23) 0 _ _ _ (Jz21) (fun d h => by cases h; assumption) (by decide) (by decide) hW (lv_sub hl [2, 3, 1, 0] rfl) (Eq.symm (by subst ez21; simp only [f_X5_read, h22]))
