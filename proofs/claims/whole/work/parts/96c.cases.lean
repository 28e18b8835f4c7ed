set_option maxHeartbeats 4000000 in
set_option maxRecDepth 100000 in
theorem lc_kind {p : Program} {l : Launch} {e : Env} {s : State} {m : MethodId} {below : List Frame} {meth : Method} {c : Code} {b L n : Nat} {xs : Nat → Int32} {Q : State → Prop} (hl0 : l.stackTraces = false) (C0 : lk_A p s m meth c b L xs) (hn : 6 * n + 6 ≤ L) {E : Ev} {S : Nat} {z : Sg} {H : Heap} {locs : List Loc} {ls : Array Slot} {cells slots : Nat} (hq : q_I S z z) (hW : k_W E (46 + 6 * S) z (fun q => s.heap.size ≤ q) s H locs) (hl : lv_has ls 8 (lk_lv E b n)) (hce : cells ≤ 100 + 6 * n) (hsl : slots ≤ 10000 + 347 * n) (K : lk_C p l e s m b below meth c n Q) : W p l e room_1 s m #[Value.ref b] below meth c H locs cells slots Q (F0 m 922 ls []) := by
  obtain ⟨hx, hb, hml, hown, hts, hX, hbl, hL⟩ := C0
  have hbA : ¬ (fun q : Nat => s.heap.size ≤ q) b := Nat.not_le.mpr hbl
  have hl : lv_has ls 8 [(4, .int (nI (6 * n))), (3, .ref (E.2.2 45)), (2, .ref (E.2.2 19)), (1, .ref (E.2.2 0)), (0, .ref b)] := hl
  obtain ⟨y1, hy1⟩ : ∃ y : Int32, xs ((nI (6 * n) + 1).toNatClampNeg) = y := ⟨_, rfl⟩
  refine lv_aload_n hx hb dL_law_922 rfl (lv_at hl 3 rfl) ?_
  refine lv_aload_n hx hb dL_law_923 rfl (lv_at hl 4 rfl) ?_
  refine lv_iload hx hb dL_law_924 (lv_at hl 0 rfl) ?_
  refine lv_iconst (v := 1) hx hb dL_law_926 (by decide) ?_
  refine lv_iadd hx hb dL_law_927 ?_
  refine k_sld (i := nI (6 * n) + 1) (v := y1) hx hb hX hbl hbA hW (ix_L 1 (by decide) hn hL) hy1 dL_law_928 ?_
  refine lv_aload_n hx hb dL_law_929 rfl (lv_at hl 1 rfl) ?_
  refine k_callSH (As := [.ref (E.2.2 0), .int y1, .ref (E.2.2 45)]) (rest := []) hx hb hml hown hts (c_L_kind l hl0 E S _ z y1 hq.1.1) lm_RL_122 ls_L_kind li_L lw_kind (show k_nm yL_kind 3 by decide +kernel) ⟨Nat.le_of_ble_eq_true rfl, Nat.le_of_ble_eq_true rfl⟩ rfl rfl ⟨by show _ ≤ 603072; omega, by show _ ≤ 7202922; omega⟩ hl.1 rfl (Nat.le_of_ble_eq_true rfl) dL_law_930 hW (fun v z9 H locs hp hW => ?_)
  obtain ⟨rfl, rfl⟩ := hp
  have hok := st_kind hq y1
  refine W.eq (g2 := F0 m 933 ls [.int (f_L_kind z y1).1]) rfl ?_
  refine lv_istore (lv' := [(5, .int (f_L_kind z y1).1), (4, .int (nI (6 * n))), (3, .ref (E.2.2 45)), (2, .ref (E.2.2 19)), (1, .ref (E.2.2 0)), (0, .ref b)]) hx hb dL_law_933 hl (by decide) rfl (fun ls hl => ?_)
  refine lv_aload_n hx hb dL_law_935 rfl (lv_at hl 3 rfl) ?_
  refine lv_aload_n hx hb dL_law_936 rfl (lv_at hl 5 rfl) ?_
  refine lv_iload hx hb dL_law_937 (lv_at hl 1 rfl) ?_
  refine lv_iconst (v := 1) hx hb dL_law_939 (by decide) ?_
  refine lv_iadd hx hb dL_law_940 ?_
  refine k_sld (i := nI (6 * n) + 1) (v := y1) hx hb hX hbl hbA hW (ix_L 1 (by decide) hn hL) hy1 dL_law_941 ?_
  refine k_callV (r := 19) (As := [.int y1]) (rest := []) hx hb hml hown hts (c_X6_kind l E S _ (f_L_kind z y1).2 y1 hok.1.1) lm_RL_125 ln_X6_kind le_X6_kind li_X6 lk_X6_kind (show k_nm yX6_kind 1 by decide +kernel) ⟨Nat.le_of_ble_eq_true rfl, Nat.le_of_ble_eq_true rfl⟩ rfl rfl ⟨by show _ ≤ 603072; omega, by show _ ≤ 7202922; omega⟩ hl.1 rfl (Nat.le_of_ble_eq_true rfl) dL_law_942 (by omega) (k_c19 _ _ _) rfl hW (fun v z9 H locs hp hW => ?_)
  obtain ⟨rfl, rfl⟩ := hp
  refine W.eq (g2 := F0 m 945 ls [.int (f_X6_kind (f_L_kind z y1).2 y1).1]) rfl ?_
  refine lv_istore (lv' := [(6, .int (f_X6_kind (f_L_kind z y1).2 y1).1), (5, .int (f_L_kind z y1).1), (4, .int (nI (6 * n))), (3, .ref (E.2.2 45)), (2, .ref (E.2.2 19)), (1, .ref (E.2.2 0)), (0, .ref b)]) hx hb dL_law_945 hl (by decide) rfl (fun ls hl => ?_)
  refine lv_aload_n hx hb dL_law_947 rfl (lv_at hl 4 rfl) ?_
  refine k_callV (r := 19) (As := []) (rest := []) hx hb hml hown hts (c_X6_thrown l E S _ (f_X6_kind (f_L_kind z y1).2 y1).2) lm_RL_86 ln_X6_thrown le_X6_thrown li_X6 lk_X6_thrown (show k_nm yX6_thrown 0 by decide +kernel) ⟨Nat.le_of_ble_eq_true rfl, Nat.le_of_ble_eq_true rfl⟩ rfl rfl ⟨by show _ ≤ 603072; omega, by show _ ≤ 7202922; omega⟩ hl.1 rfl (Nat.le_of_ble_eq_true rfl) dL_law_948 (by omega) (k_c19 _ _ _) rfl hW (fun v z9 H locs hp hW => ?_)
  obtain ⟨rfl, rfl⟩ := hp
  refine W.eq (g2 := F0 m 951 ls [.int (f_X6_thrown (f_X6_kind (f_L_kind z y1).2 y1).2)]) rfl ?_
  refine lv_iload hx hb dL_law_951 (lv_at hl 1 rfl) ?_
  refine lv_icmp_eq (tgt := 958) hx hb dL_law_953 (by decide) (fun c1 => ?_) (fun c1 => absurd hok.2.1 c1)
  refine lv_iload hx hb dL_law_958 (lv_at hl 1 rfl) ?_
  refine lv_if_ne (tgt := 975) hx hb dL_law_960 (by decide) (fun c2 => ?_) (fun c2 => ?_)
  · refine lv_goto (tgt := 1360) hx hb dL_law_975 (by decide) ?_
    exact K E S _ H locs ls _ _ hok.2.2.2 hW (lv_sub hl [2, 3, 4, 5, 6] rfl) (by omega) (by omega)
  · refine lv_aload_n hx hb dL_law_963 rfl (lv_at hl 3 rfl) ?_
    refine lv_iconst (v := 0) hx hb dL_law_964 (by decide) ?_
    refine k_lald hx hb hW 45 1 (by omega) k_c45 (vp_in_iff.mpr (by decide)) rfl dL_law_965 ?_
    refine lv_iload hx hb dL_law_966 (lv_at hl 0 rfl) ?_
    refine lv_i2l (v := ((f_X6_kind (f_L_kind z y1).2 y1).1).toInt64) hx hb dL_law_968 rfl ?_
    refine k_lif_eq (tgt := 975) hx hb dL_law_969 dL_law_970 (by decide) (fun c3 => ?_) (fun c3 => absurd (hok.2.2.1 c2) c3)
    refine lv_goto (tgt := 1360) hx hb dL_law_975 (by decide) ?_
    exact K E S _ H locs ls _ _ hok.2.2.2 hW (lv_sub hl [2, 3, 4, 5, 6] rfl) (by omega) (by omega)
set_option maxHeartbeats 4000000 in
set_option maxRecDepth 100000 in
theorem lc_place {p : Program} {l : Launch} {e : Env} {s : State} {m : MethodId} {below : List Frame} {meth : Method} {c : Code} {b L n : Nat} {xs : Nat → Int32} {Q : State → Prop} (hl0 : l.stackTraces = false) (C0 : lk_A p s m meth c b L xs) (hn : 6 * n + 6 ≤ L) {E : Ev} {S : Nat} {z : Sg} {H : Heap} {locs : List Loc} {ls : Array Slot} {cells slots : Nat} (hq : q_I S z z) (hW : k_W E (46 + 6 * S) z (fun q => s.heap.size ≤ q) s H locs) (hl : lv_has ls 8 (lk_lv E b n)) (hce : cells ≤ 100 + 6 * n) (hsl : slots ≤ 10000 + 347 * n) (K : lk_C p l e s m b below meth c n Q) : W p l e room_1 s m #[Value.ref b] below meth c H locs cells slots Q (F0 m 978 ls []) := by
  obtain ⟨hx, hb, hml, hown, hts, hX, hbl, hL⟩ := C0
  have hbA : ¬ (fun q : Nat => s.heap.size ≤ q) b := Nat.not_le.mpr hbl
  have hl : lv_has ls 8 [(4, .int (nI (6 * n))), (3, .ref (E.2.2 45)), (2, .ref (E.2.2 19)), (1, .ref (E.2.2 0)), (0, .ref b)] := hl
  obtain ⟨y1, hy1⟩ : ∃ y : Int32, xs ((nI (6 * n) + 1).toNatClampNeg) = y := ⟨_, rfl⟩
  obtain ⟨y2, hy2⟩ : ∃ y : Int32, xs ((nI (6 * n) + 2).toNatClampNeg) = y := ⟨_, rfl⟩
  refine lv_aload_n hx hb dL_law_978 rfl (lv_at hl 3 rfl) ?_
  refine lv_aload_n hx hb dL_law_979 rfl (lv_at hl 4 rfl) ?_
  refine lv_iload hx hb dL_law_980 (lv_at hl 0 rfl) ?_
  refine lv_iconst (v := 1) hx hb dL_law_982 (by decide) ?_
  refine lv_iadd hx hb dL_law_983 ?_
  refine k_sld (i := nI (6 * n) + 1) (v := y1) hx hb hX hbl hbA hW (ix_L 1 (by decide) hn hL) hy1 dL_law_984 ?_
  refine lv_aload_n hx hb dL_law_985 rfl (lv_at hl 4 rfl) ?_
  refine lv_iload hx hb dL_law_986 (lv_at hl 0 rfl) ?_
  refine lv_iconst (v := 2) hx hb dL_law_988 (by decide) ?_
  refine lv_iadd hx hb dL_law_989 ?_
  refine k_sld (i := nI (6 * n) + 2) (v := y2) hx hb hX hbl hbA hW (ix_L 2 (by decide) hn hL) hy2 dL_law_990 ?_
  refine lv_aload_n hx hb dL_law_991 rfl (lv_at hl 1 rfl) ?_
  refine k_callSH (As := [.ref (E.2.2 0), .int y1, .int y2, .ref (E.2.2 45)]) (rest := []) hx hb hml hown hts (c_L_place l hl0 E S _ z y1 y2 hq.1.1) lm_RL_126 ls_L_place li_L lw_place (show k_nm yL_place 4 by decide +kernel) ⟨Nat.le_of_ble_eq_true rfl, Nat.le_of_ble_eq_true rfl⟩ rfl rfl ⟨by show _ ≤ 603072; omega, by show _ ≤ 7202922; omega⟩ hl.1 rfl (Nat.le_of_ble_eq_true rfl) dL_law_992 hW (fun v z9 H locs hp hW => ?_)
  obtain ⟨rfl, rfl⟩ := hp
  have hok := st_place hq y1 y2
  refine W.eq (g2 := F0 m 995 ls [.int (f_L_place z y1 y2).1]) rfl ?_
  refine lv_istore (lv' := [(5, .int (f_L_place z y1 y2).1), (4, .int (nI (6 * n))), (3, .ref (E.2.2 45)), (2, .ref (E.2.2 19)), (1, .ref (E.2.2 0)), (0, .ref b)]) hx hb dL_law_995 hl (by decide) rfl (fun ls hl => ?_)
  refine lv_aload_n hx hb dL_law_997 rfl (lv_at hl 3 rfl) ?_
  refine lv_aload_n hx hb dL_law_998 rfl (lv_at hl 5 rfl) ?_
  refine lv_iload hx hb dL_law_999 (lv_at hl 1 rfl) ?_
  refine lv_iconst (v := 1) hx hb dL_law_1001 (by decide) ?_
  refine lv_iadd hx hb dL_law_1002 ?_
  refine k_sld (i := nI (6 * n) + 1) (v := y1) hx hb hX hbl hbA hW (ix_L 1 (by decide) hn hL) hy1 dL_law_1003 ?_
  refine lv_aload_n hx hb dL_law_1004 rfl (lv_at hl 5 rfl) ?_
  refine lv_iload hx hb dL_law_1005 (lv_at hl 1 rfl) ?_
  refine lv_iconst (v := 2) hx hb dL_law_1007 (by decide) ?_
  refine lv_iadd hx hb dL_law_1008 ?_
  refine k_sld (i := nI (6 * n) + 2) (v := y2) hx hb hX hbl hbA hW (ix_L 2 (by decide) hn hL) hy2 dL_law_1009 ?_
  refine k_callV (r := 19) (As := [.int y1, .int y2]) (rest := []) hx hb hml hown hts (c_X6_place l E S _ (f_L_place z y1 y2).2 y1 y2 hok.1.1) lm_RL_128 ln_X6_place le_X6_place li_X6 lk_X6_place (show k_nm yX6_place 2 by decide +kernel) ⟨Nat.le_of_ble_eq_true rfl, Nat.le_of_ble_eq_true rfl⟩ rfl rfl ⟨by show _ ≤ 603072; omega, by show _ ≤ 7202922; omega⟩ hl.1 rfl (Nat.le_of_ble_eq_true rfl) dL_law_1010 (by omega) (k_c19 _ _ _) rfl hW (fun v z9 H locs hp hW => ?_)
  obtain ⟨rfl, rfl⟩ := hp
  refine W.eq (g2 := F0 m 1013 ls [.long (f_X6_place (f_L_place z y1 y2).2 y1 y2).1]) rfl ?_
  refine lv_lstore (lv' := [(6, .long (f_X6_place (f_L_place z y1 y2).2 y1 y2).1), (5, .int (f_L_place z y1 y2).1), (4, .int (nI (6 * n))), (3, .ref (E.2.2 45)), (2, .ref (E.2.2 19)), (1, .ref (E.2.2 0)), (0, .ref b)]) hx hb dL_law_1013 hl (by decide) rfl (fun ls hl => ?_)
  refine lv_aload_n hx hb dL_law_1015 rfl (lv_at hl 4 rfl) ?_
  refine k_callV (r := 19) (As := []) (rest := []) hx hb hml hown hts (c_X6_thrown l E S _ (f_X6_place (f_L_place z y1 y2).2 y1 y2).2) lm_RL_86 ln_X6_thrown le_X6_thrown li_X6 lk_X6_thrown (show k_nm yX6_thrown 0 by decide +kernel) ⟨Nat.le_of_ble_eq_true rfl, Nat.le_of_ble_eq_true rfl⟩ rfl rfl ⟨by show _ ≤ 603072; omega, by show _ ≤ 7202922; omega⟩ hl.1 rfl (Nat.le_of_ble_eq_true rfl) dL_law_1016 (by omega) (k_c19 _ _ _) rfl hW (fun v z9 H locs hp hW => ?_)
  obtain ⟨rfl, rfl⟩ := hp
  refine W.eq (g2 := F0 m 1019 ls [.int (f_X6_thrown (f_X6_place (f_L_place z y1 y2).2 y1 y2).2)]) rfl ?_
  refine lv_iload hx hb dL_law_1019 (lv_at hl 1 rfl) ?_
  refine lv_icmp_eq (tgt := 1026) hx hb dL_law_1021 (by decide) (fun c1 => ?_) (fun c1 => absurd hok.2.1 c1)
  refine lv_iload hx hb dL_law_1026 (lv_at hl 1 rfl) ?_
  refine lv_if_ne (tgt := 1042) hx hb dL_law_1028 (by decide) (fun c2 => ?_) (fun c2 => ?_)
  · refine lv_goto (tgt := 1360) hx hb dL_law_1042 (by decide) ?_
    exact K E S _ H locs ls _ _ hok.2.2.2 hW (lv_sub hl [2, 3, 4, 5, 6] rfl) (by omega) (by omega)
  · refine lv_aload_n hx hb dL_law_1031 rfl (lv_at hl 3 rfl) ?_
    refine lv_iconst (v := 0) hx hb dL_law_1032 (by decide) ?_
    refine k_lald hx hb hW 45 1 (by omega) k_c45 (vp_in_iff.mpr (by decide)) rfl dL_law_1033 ?_
    refine lv_lload hx hb dL_law_1034 (lv_at hl 0 rfl) ?_
    refine k_lif_eq (tgt := 1042) hx hb dL_law_1036 dL_law_1037 (by decide) (fun c3 => ?_) (fun c3 => absurd (hok.2.2.1 c2) c3)
    refine lv_goto (tgt := 1360) hx hb dL_law_1042 (by decide) ?_
    exact K E S _ H locs ls _ _ hok.2.2.2 hW (lv_sub hl [2, 3, 4, 5, 6] rfl) (by omega) (by omega)
set_option maxHeartbeats 4000000 in
set_option maxRecDepth 100000 in
theorem lc_revision {p : Program} {l : Launch} {e : Env} {s : State} {m : MethodId} {below : List Frame} {meth : Method} {c : Code} {b L n : Nat} {xs : Nat → Int32} {Q : State → Prop} (hl0 : l.stackTraces = false) (C0 : lk_A p s m meth c b L xs) (hn : 6 * n + 6 ≤ L) {E : Ev} {S : Nat} {z : Sg} {H : Heap} {locs : List Loc} {ls : Array Slot} {cells slots : Nat} (hq : q_I S z z) (hW : k_W E (46 + 6 * S) z (fun q => s.heap.size ≤ q) s H locs) (hl : lv_has ls 8 (lk_lv E b n)) (hce : cells ≤ 100 + 6 * n) (hsl : slots ≤ 10000 + 347 * n) (K : lk_C p l e s m b below meth c n Q) : W p l e room_1 s m #[Value.ref b] below meth c H locs cells slots Q (F0 m 1045 ls []) := by
  obtain ⟨hx, hb, hml, hown, hts, hX, hbl, hL⟩ := C0
  have hbA : ¬ (fun q : Nat => s.heap.size ≤ q) b := Nat.not_le.mpr hbl
  have hl : lv_has ls 8 [(4, .int (nI (6 * n))), (3, .ref (E.2.2 45)), (2, .ref (E.2.2 19)), (1, .ref (E.2.2 0)), (0, .ref b)] := hl
  obtain ⟨y1, hy1⟩ : ∃ y : Int32, xs ((nI (6 * n) + 1).toNatClampNeg) = y := ⟨_, rfl⟩
  obtain ⟨y2, hy2⟩ : ∃ y : Int32, xs ((nI (6 * n) + 2).toNatClampNeg) = y := ⟨_, rfl⟩
  refine lv_aload_n hx hb dL_law_1045 rfl (lv_at hl 3 rfl) ?_
  refine lv_aload_n hx hb dL_law_1046 rfl (lv_at hl 4 rfl) ?_
  refine lv_iload hx hb dL_law_1047 (lv_at hl 0 rfl) ?_
  refine lv_iconst (v := 1) hx hb dL_law_1049 (by decide) ?_
  refine lv_iadd hx hb dL_law_1050 ?_
  refine k_sld (i := nI (6 * n) + 1) (v := y1) hx hb hX hbl hbA hW (ix_L 1 (by decide) hn hL) hy1 dL_law_1051 ?_
  refine lv_aload_n hx hb dL_law_1052 rfl (lv_at hl 4 rfl) ?_
  refine lv_iload hx hb dL_law_1053 (lv_at hl 0 rfl) ?_
  refine lv_iconst (v := 2) hx hb dL_law_1055 (by decide) ?_
  refine lv_iadd hx hb dL_law_1056 ?_
  refine k_sld (i := nI (6 * n) + 2) (v := y2) hx hb hX hbl hbA hW (ix_L 2 (by decide) hn hL) hy2 dL_law_1057 ?_
  refine lv_aload_n hx hb dL_law_1058 rfl (lv_at hl 1 rfl) ?_
  refine k_callSH (As := [.ref (E.2.2 0), .int y1, .int y2, .ref (E.2.2 45)]) (rest := []) hx hb hml hown hts (c_L_revision l hl0 E S _ z y1 y2 hq.1.1) lm_RL_129 ls_L_revision li_L lw_revision (show k_nm yL_revision 4 by decide +kernel) ⟨Nat.le_of_ble_eq_true rfl, Nat.le_of_ble_eq_true rfl⟩ rfl rfl ⟨by show _ ≤ 603072; omega, by show _ ≤ 7202922; omega⟩ hl.1 rfl (Nat.le_of_ble_eq_true rfl) dL_law_1059 hW (fun v z9 H locs hp hW => ?_)
  obtain ⟨rfl, rfl⟩ := hp
  have hok := st_revision hq y1 y2
  refine W.eq (g2 := F0 m 1062 ls [.int (f_L_revision z y1 y2).1]) rfl ?_
  refine lv_istore (lv' := [(5, .int (f_L_revision z y1 y2).1), (4, .int (nI (6 * n))), (3, .ref (E.2.2 45)), (2, .ref (E.2.2 19)), (1, .ref (E.2.2 0)), (0, .ref b)]) hx hb dL_law_1062 hl (by decide) rfl (fun ls hl => ?_)
  refine lv_aload_n hx hb dL_law_1064 rfl (lv_at hl 3 rfl) ?_
  refine lv_aload_n hx hb dL_law_1065 rfl (lv_at hl 5 rfl) ?_
  refine lv_iload hx hb dL_law_1066 (lv_at hl 1 rfl) ?_
  refine lv_iconst (v := 1) hx hb dL_law_1068 (by decide) ?_
  refine lv_iadd hx hb dL_law_1069 ?_
  refine k_sld (i := nI (6 * n) + 1) (v := y1) hx hb hX hbl hbA hW (ix_L 1 (by decide) hn hL) hy1 dL_law_1070 ?_
  refine lv_aload_n hx hb dL_law_1071 rfl (lv_at hl 5 rfl) ?_
  refine lv_iload hx hb dL_law_1072 (lv_at hl 1 rfl) ?_
  refine lv_iconst (v := 2) hx hb dL_law_1074 (by decide) ?_
  refine lv_iadd hx hb dL_law_1075 ?_
  refine k_sld (i := nI (6 * n) + 2) (v := y2) hx hb hX hbl hbA hW (ix_L 2 (by decide) hn hL) hy2 dL_law_1076 ?_
  refine k_callV (r := 19) (As := [.int y1, .int y2]) (rest := []) hx hb hml hown hts (c_X6_revision l E S _ (f_L_revision z y1 y2).2 y1 y2 hok.1.1) lm_RL_131 ln_X6_revision le_X6_revision li_X6 lk_X6_revision (show k_nm yX6_revision 2 by decide +kernel) ⟨Nat.le_of_ble_eq_true rfl, Nat.le_of_ble_eq_true rfl⟩ rfl rfl ⟨by show _ ≤ 603072; omega, by show _ ≤ 7202922; omega⟩ hl.1 rfl (Nat.le_of_ble_eq_true rfl) dL_law_1077 (by omega) (k_c19 _ _ _) rfl hW (fun v z9 H locs hp hW => ?_)
  obtain ⟨rfl, rfl⟩ := hp
  refine W.eq (g2 := F0 m 1080 ls [.int (f_X6_revision (f_L_revision z y1 y2).2 y1 y2).1]) rfl ?_
  refine lv_istore (lv' := [(6, .int (f_X6_revision (f_L_revision z y1 y2).2 y1 y2).1), (5, .int (f_L_revision z y1 y2).1), (4, .int (nI (6 * n))), (3, .ref (E.2.2 45)), (2, .ref (E.2.2 19)), (1, .ref (E.2.2 0)), (0, .ref b)]) hx hb dL_law_1080 hl (by decide) rfl (fun ls hl => ?_)
  refine lv_aload_n hx hb dL_law_1082 rfl (lv_at hl 4 rfl) ?_
  refine k_callV (r := 19) (As := []) (rest := []) hx hb hml hown hts (c_X6_thrown l E S _ (f_X6_revision (f_L_revision z y1 y2).2 y1 y2).2) lm_RL_86 ln_X6_thrown le_X6_thrown li_X6 lk_X6_thrown (show k_nm yX6_thrown 0 by decide +kernel) ⟨Nat.le_of_ble_eq_true rfl, Nat.le_of_ble_eq_true rfl⟩ rfl rfl ⟨by show _ ≤ 603072; omega, by show _ ≤ 7202922; omega⟩ hl.1 rfl (Nat.le_of_ble_eq_true rfl) dL_law_1083 (by omega) (k_c19 _ _ _) rfl hW (fun v z9 H locs hp hW => ?_)
  obtain ⟨rfl, rfl⟩ := hp
  refine W.eq (g2 := F0 m 1086 ls [.int (f_X6_thrown (f_X6_revision (f_L_revision z y1 y2).2 y1 y2).2)]) rfl ?_
  refine lv_iload hx hb dL_law_1086 (lv_at hl 1 rfl) ?_
  refine lv_icmp_eq (tgt := 1093) hx hb dL_law_1088 (by decide) (fun c1 => ?_) (fun c1 => absurd hok.2.1 c1)
  refine lv_iload hx hb dL_law_1093 (lv_at hl 1 rfl) ?_
  refine lv_if_ne (tgt := 1110) hx hb dL_law_1095 (by decide) (fun c2 => ?_) (fun c2 => ?_)
  · refine lv_goto (tgt := 1360) hx hb dL_law_1110 (by decide) ?_
    exact K E S _ H locs ls _ _ hok.2.2.2 hW (lv_sub hl [2, 3, 4, 5, 6] rfl) (by omega) (by omega)
  · refine lv_aload_n hx hb dL_law_1098 rfl (lv_at hl 3 rfl) ?_
    refine lv_iconst (v := 0) hx hb dL_law_1099 (by decide) ?_
    refine k_lald hx hb hW 45 1 (by omega) k_c45 (vp_in_iff.mpr (by decide)) rfl dL_law_1100 ?_
    refine lv_iload hx hb dL_law_1101 (lv_at hl 0 rfl) ?_
    refine lv_i2l (v := ((f_X6_revision (f_L_revision z y1 y2).2 y1 y2).1).toInt64) hx hb dL_law_1103 rfl ?_
    refine k_lif_eq (tgt := 1110) hx hb dL_law_1104 dL_law_1105 (by decide) (fun c3 => ?_) (fun c3 => absurd (hok.2.2.1 c2) c3)
    refine lv_goto (tgt := 1360) hx hb dL_law_1110 (by decide) ?_
    exact K E S _ H locs ls _ _ hok.2.2.2 hW (lv_sub hl [2, 3, 4, 5, 6] rfl) (by omega) (by omega)
set_option maxHeartbeats 4000000 in
set_option maxRecDepth 100000 in
theorem lc_told {p : Program} {l : Launch} {e : Env} {s : State} {m : MethodId} {below : List Frame} {meth : Method} {c : Code} {b L n : Nat} {xs : Nat → Int32} {Q : State → Prop} (hl0 : l.stackTraces = false) (C0 : lk_A p s m meth c b L xs) (hn : 6 * n + 6 ≤ L) {E : Ev} {S : Nat} {z : Sg} {H : Heap} {locs : List Loc} {ls : Array Slot} {cells slots : Nat} (hq : q_I S z z) (hW : k_W E (46 + 6 * S) z (fun q => s.heap.size ≤ q) s H locs) (hl : lv_has ls 8 (lk_lv E b n)) (hce : cells ≤ 100 + 6 * n) (hsl : slots ≤ 10000 + 347 * n) (K : lk_C p l e s m b below meth c n Q) : W p l e room_1 s m #[Value.ref b] below meth c H locs cells slots Q (F0 m 1113 ls []) := by
  obtain ⟨hx, hb, hml, hown, hts, hX, hbl, hL⟩ := C0
  have hbA : ¬ (fun q : Nat => s.heap.size ≤ q) b := Nat.not_le.mpr hbl
  have hl : lv_has ls 8 [(4, .int (nI (6 * n))), (3, .ref (E.2.2 45)), (2, .ref (E.2.2 19)), (1, .ref (E.2.2 0)), (0, .ref b)] := hl
  obtain ⟨y1, hy1⟩ : ∃ y : Int32, xs ((nI (6 * n) + 1).toNatClampNeg) = y := ⟨_, rfl⟩
  obtain ⟨y2, hy2⟩ : ∃ y : Int32, xs ((nI (6 * n) + 2).toNatClampNeg) = y := ⟨_, rfl⟩
  refine lv_aload_n hx hb dL_law_1113 rfl (lv_at hl 3 rfl) ?_
  refine lv_aload_n hx hb dL_law_1114 rfl (lv_at hl 4 rfl) ?_
  refine lv_iload hx hb dL_law_1115 (lv_at hl 0 rfl) ?_
  refine lv_iconst (v := 1) hx hb dL_law_1117 (by decide) ?_
  refine lv_iadd hx hb dL_law_1118 ?_
  refine k_sld (i := nI (6 * n) + 1) (v := y1) hx hb hX hbl hbA hW (ix_L 1 (by decide) hn hL) hy1 dL_law_1119 ?_
  refine lv_aload_n hx hb dL_law_1120 rfl (lv_at hl 4 rfl) ?_
  refine lv_iload hx hb dL_law_1121 (lv_at hl 0 rfl) ?_
  refine lv_iconst (v := 2) hx hb dL_law_1123 (by decide) ?_
  refine lv_iadd hx hb dL_law_1124 ?_
  refine k_sld (i := nI (6 * n) + 2) (v := y2) hx hb hX hbl hbA hW (ix_L 2 (by decide) hn hL) hy2 dL_law_1125 ?_
  refine lv_aload_n hx hb dL_law_1126 rfl (lv_at hl 1 rfl) ?_
  refine k_callSH (As := [.ref (E.2.2 0), .int y1, .int y2, .ref (E.2.2 45)]) (rest := []) hx hb hml hown hts (c_L_told l hl0 E S _ z y1 y2 hq.1.1) lm_RL_132 ls_L_told li_L lw_told (show k_nm yL_told 4 by decide +kernel) ⟨Nat.le_of_ble_eq_true rfl, Nat.le_of_ble_eq_true rfl⟩ rfl rfl ⟨by show _ ≤ 603072; omega, by show _ ≤ 7202922; omega⟩ hl.1 rfl (Nat.le_of_ble_eq_true rfl) dL_law_1127 hW (fun v z9 H locs hp hW => ?_)
  obtain ⟨rfl, rfl⟩ := hp
  have hok := st_told hq y1 y2
  refine W.eq (g2 := F0 m 1130 ls [.int (f_L_told z y1 y2).1]) rfl ?_
  refine lv_istore (lv' := [(5, .int (f_L_told z y1 y2).1), (4, .int (nI (6 * n))), (3, .ref (E.2.2 45)), (2, .ref (E.2.2 19)), (1, .ref (E.2.2 0)), (0, .ref b)]) hx hb dL_law_1130 hl (by decide) rfl (fun ls hl => ?_)
  refine lv_aload_n hx hb dL_law_1132 rfl (lv_at hl 3 rfl) ?_
  refine lv_aload_n hx hb dL_law_1133 rfl (lv_at hl 5 rfl) ?_
  refine lv_iload hx hb dL_law_1134 (lv_at hl 1 rfl) ?_
  refine lv_iconst (v := 1) hx hb dL_law_1136 (by decide) ?_
  refine lv_iadd hx hb dL_law_1137 ?_
  refine k_sld (i := nI (6 * n) + 1) (v := y1) hx hb hX hbl hbA hW (ix_L 1 (by decide) hn hL) hy1 dL_law_1138 ?_
  refine lv_aload_n hx hb dL_law_1139 rfl (lv_at hl 5 rfl) ?_
  refine lv_iload hx hb dL_law_1140 (lv_at hl 1 rfl) ?_
  refine lv_iconst (v := 2) hx hb dL_law_1142 (by decide) ?_
  refine lv_iadd hx hb dL_law_1143 ?_
  refine k_sld (i := nI (6 * n) + 2) (v := y2) hx hb hX hbl hbA hW (ix_L 2 (by decide) hn hL) hy2 dL_law_1144 ?_
  refine k_callV (r := 19) (As := [.int y1, .int y2]) (rest := []) hx hb hml hown hts (c_X6_told l E S _ (f_L_told z y1 y2).2 y1 y2 hok.1.1) lm_RL_134 ln_X6_told le_X6_told li_X6 lk_X6_told (show k_nm yX6_told 2 by decide +kernel) ⟨Nat.le_of_ble_eq_true rfl, Nat.le_of_ble_eq_true rfl⟩ rfl rfl ⟨by show _ ≤ 603072; omega, by show _ ≤ 7202922; omega⟩ hl.1 rfl (Nat.le_of_ble_eq_true rfl) dL_law_1145 (by omega) (k_c19 _ _ _) rfl hW (fun v z9 H locs hp hW => ?_)
  obtain ⟨rfl, rfl⟩ := hp
  refine W.eq (g2 := F0 m 1148 ls [.long (f_X6_told (f_L_told z y1 y2).2 y1 y2).1]) rfl ?_
  refine lv_lstore (lv' := [(6, .long (f_X6_told (f_L_told z y1 y2).2 y1 y2).1), (5, .int (f_L_told z y1 y2).1), (4, .int (nI (6 * n))), (3, .ref (E.2.2 45)), (2, .ref (E.2.2 19)), (1, .ref (E.2.2 0)), (0, .ref b)]) hx hb dL_law_1148 hl (by decide) rfl (fun ls hl => ?_)
  refine lv_aload_n hx hb dL_law_1150 rfl (lv_at hl 4 rfl) ?_
  refine k_callV (r := 19) (As := []) (rest := []) hx hb hml hown hts (c_X6_thrown l E S _ (f_X6_told (f_L_told z y1 y2).2 y1 y2).2) lm_RL_86 ln_X6_thrown le_X6_thrown li_X6 lk_X6_thrown (show k_nm yX6_thrown 0 by decide +kernel) ⟨Nat.le_of_ble_eq_true rfl, Nat.le_of_ble_eq_true rfl⟩ rfl rfl ⟨by show _ ≤ 603072; omega, by show _ ≤ 7202922; omega⟩ hl.1 rfl (Nat.le_of_ble_eq_true rfl) dL_law_1151 (by omega) (k_c19 _ _ _) rfl hW (fun v z9 H locs hp hW => ?_)
  obtain ⟨rfl, rfl⟩ := hp
  refine W.eq (g2 := F0 m 1154 ls [.int (f_X6_thrown (f_X6_told (f_L_told z y1 y2).2 y1 y2).2)]) rfl ?_
  refine lv_iload hx hb dL_law_1154 (lv_at hl 1 rfl) ?_
  refine lv_icmp_eq (tgt := 1161) hx hb dL_law_1156 (by decide) (fun c1 => ?_) (fun c1 => absurd hok.2.1 c1)
  refine lv_iload hx hb dL_law_1161 (lv_at hl 1 rfl) ?_
  refine lv_if_ne (tgt := 1177) hx hb dL_law_1163 (by decide) (fun c2 => ?_) (fun c2 => ?_)
  · refine lv_goto (tgt := 1360) hx hb dL_law_1177 (by decide) ?_
    exact K E S _ H locs ls _ _ hok.2.2.2 hW (lv_sub hl [2, 3, 4, 5, 6] rfl) (by omega) (by omega)
  · refine lv_aload_n hx hb dL_law_1166 rfl (lv_at hl 3 rfl) ?_
    refine lv_iconst (v := 0) hx hb dL_law_1167 (by decide) ?_
    refine k_lald hx hb hW 45 1 (by omega) k_c45 (vp_in_iff.mpr (by decide)) rfl dL_law_1168 ?_
    refine lv_lload hx hb dL_law_1169 (lv_at hl 0 rfl) ?_
    refine k_lif_eq (tgt := 1177) hx hb dL_law_1171 dL_law_1172 (by decide) (fun c3 => ?_) (fun c3 => absurd (hok.2.2.1 c2) c3)
    refine lv_goto (tgt := 1360) hx hb dL_law_1177 (by decide) ?_
    exact K E S _ H locs ls _ _ hok.2.2.2 hW (lv_sub hl [2, 3, 4, 5, 6] rfl) (by omega) (by omega)
