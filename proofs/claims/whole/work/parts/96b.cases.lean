set_option maxHeartbeats 4000000 in
set_option maxRecDepth 100000 in
theorem lc_run {p : Program} {l : Launch} {e : Env} {s : State} {m : MethodId} {below : List Frame} {meth : Method} {c : Code} {b L n : Nat} {xs : Nat → Int32} {Q : State → Prop} (hl0 : l.stackTraces = false) (C0 : lk_A p s m meth c b L xs) (hn : 6 * n + 6 ≤ L) {E : Ev} {S : Nat} {z : Sg} {H : Heap} {locs : List Loc} {ls : Array Slot} {cells slots : Nat} (hq : q_I S z z) (hW : k_W E (46 + 6 * S) z (fun q => s.heap.size ≤ q) s H locs) (hl : lv_has ls 8 (lk_lv E b n)) (hce : cells ≤ 100 + 6 * n) (hsl : slots ≤ 10000 + 347 * n) (K : lk_C p l e s m b below meth c n Q) : W p l e room_1 s m #[Value.ref b] below meth c H locs cells slots Q (F0 m 593 ls []) := by
  obtain ⟨hx, hb, hml, hown, hts, hX, hbl, hL⟩ := C0
  have hbA : ¬ (fun q : Nat => s.heap.size ≤ q) b := Nat.not_le.mpr hbl
  have hl : lv_has ls 8 [(4, .int (nI (6 * n))), (3, .ref (E.2.2 45)), (2, .ref (E.2.2 19)), (1, .ref (E.2.2 0)), (0, .ref b)] := hl
  obtain ⟨y1, hy1⟩ : ∃ y : Int32, xs ((nI (6 * n) + 1).toNatClampNeg) = y := ⟨_, rfl⟩
  obtain ⟨y2, hy2⟩ : ∃ y : Int32, xs ((nI (6 * n) + 2).toNatClampNeg) = y := ⟨_, rfl⟩
  obtain ⟨y3, hy3⟩ : ∃ y : Int32, xs ((nI (6 * n) + 3).toNatClampNeg) = y := ⟨_, rfl⟩
  refine lv_aload_n hx hb dL_law_593 rfl (lv_at hl 3 rfl) ?_
  refine lv_aload_n hx hb dL_law_594 rfl (lv_at hl 4 rfl) ?_
  refine lv_iload hx hb dL_law_595 (lv_at hl 0 rfl) ?_
  refine lv_iconst (v := 1) hx hb dL_law_597 (by decide) ?_
  refine lv_iadd hx hb dL_law_598 ?_
  refine k_sld (i := nI (6 * n) + 1) (v := y1) hx hb hX hbl hbA hW (ix_L 1 (by decide) hn hL) hy1 dL_law_599 ?_
  refine lv_aload_n hx hb dL_law_600 rfl (lv_at hl 4 rfl) ?_
  refine lv_iload hx hb dL_law_601 (lv_at hl 0 rfl) ?_
  refine lv_iconst (v := 2) hx hb dL_law_603 (by decide) ?_
  refine lv_iadd hx hb dL_law_604 ?_
  refine k_sld (i := nI (6 * n) + 2) (v := y2) hx hb hX hbl hbA hW (ix_L 2 (by decide) hn hL) hy2 dL_law_605 ?_
  refine lv_aload_n hx hb dL_law_606 rfl (lv_at hl 4 rfl) ?_
  refine lv_iload hx hb dL_law_607 (lv_at hl 0 rfl) ?_
  refine lv_iconst (v := 3) hx hb dL_law_609 (by decide) ?_
  refine lv_iadd hx hb dL_law_610 ?_
  refine k_sld (i := nI (6 * n) + 3) (v := y3) hx hb hX hbl hbA hW (ix_L 3 (by decide) hn hL) hy3 dL_law_611 ?_
  refine lv_aload_n hx hb dL_law_612 rfl (lv_at hl 1 rfl) ?_
  refine k_callSH (As := [.ref (E.2.2 0), .int y1, .int y2, .int y3, .ref (E.2.2 45)]) (rest := []) hx hb hml hown hts (c_L_run l hl0 E S _ z y1 y2 y3 hq.1.1) lm_RL_106 ls_L_run li_L lw_run (show k_nm yL_run 5 by decide +kernel) ⟨Nat.le_of_ble_eq_true rfl, Nat.le_of_ble_eq_true rfl⟩ rfl rfl ⟨by show _ ≤ 603072; omega, by show _ ≤ 7202922; omega⟩ hl.1 rfl (Nat.le_of_ble_eq_true rfl) dL_law_613 hW (fun v z9 H locs hp hW => ?_)
  obtain ⟨rfl, rfl⟩ := hp
  have hok := st_run hq y1 y2 y3
  refine W.eq (g2 := F0 m 616 ls [.int (f_L_run z y1 y2 y3).1]) rfl ?_
  refine lv_istore (lv' := [(5, .int (f_L_run z y1 y2 y3).1), (4, .int (nI (6 * n))), (3, .ref (E.2.2 45)), (2, .ref (E.2.2 19)), (1, .ref (E.2.2 0)), (0, .ref b)]) hx hb dL_law_616 hl (by decide) rfl (fun ls hl => ?_)
  refine lv_aload_n hx hb dL_law_618 rfl (lv_at hl 3 rfl) ?_
  refine lv_aload_n hx hb dL_law_619 rfl (lv_at hl 5 rfl) ?_
  refine lv_iload hx hb dL_law_620 (lv_at hl 1 rfl) ?_
  refine lv_iconst (v := 1) hx hb dL_law_622 (by decide) ?_
  refine lv_iadd hx hb dL_law_623 ?_
  refine k_sld (i := nI (6 * n) + 1) (v := y1) hx hb hX hbl hbA hW (ix_L 1 (by decide) hn hL) hy1 dL_law_624 ?_
  refine lv_aload_n hx hb dL_law_625 rfl (lv_at hl 5 rfl) ?_
  refine lv_iload hx hb dL_law_626 (lv_at hl 1 rfl) ?_
  refine lv_iconst (v := 2) hx hb dL_law_628 (by decide) ?_
  refine lv_iadd hx hb dL_law_629 ?_
  refine k_sld (i := nI (6 * n) + 2) (v := y2) hx hb hX hbl hbA hW (ix_L 2 (by decide) hn hL) hy2 dL_law_630 ?_
  refine lv_aload_n hx hb dL_law_631 rfl (lv_at hl 5 rfl) ?_
  refine lv_iload hx hb dL_law_632 (lv_at hl 1 rfl) ?_
  refine lv_iconst (v := 3) hx hb dL_law_634 (by decide) ?_
  refine lv_iadd hx hb dL_law_635 ?_
  refine k_sld (i := nI (6 * n) + 3) (v := y3) hx hb hX hbl hbA hW (ix_L 3 (by decide) hn hL) hy3 dL_law_636 ?_
  refine k_callV (r := 19) (As := [.int y1, .int y2, .int y3]) (rest := []) hx hb hml hown hts (c_X6_run l E S _ (f_L_run z y1 y2 y3).2 y1 y2 y3 hok.1.1) lm_RL_109 ln_X6_run le_X6_run li_X6 lk_X6_run (show k_nm yX6_run 3 by decide +kernel) ⟨Nat.le_of_ble_eq_true rfl, Nat.le_of_ble_eq_true rfl⟩ rfl rfl ⟨by show _ ≤ 603072; omega, by show _ ≤ 7202922; omega⟩ hl.1 rfl (Nat.le_of_ble_eq_true rfl) dL_law_637 (by omega) (k_c19 _ _ _) rfl hW (fun v z9 H locs hp hW => ?_)
  obtain ⟨rfl, rfl⟩ := hp
  refine W.eq (g2 := F0 m 640 ls [.int (f_X6_run (f_L_run z y1 y2 y3).2 y1 y2 y3).1]) rfl ?_
  refine lv_istore (lv' := [(6, .int (f_X6_run (f_L_run z y1 y2 y3).2 y1 y2 y3).1), (5, .int (f_L_run z y1 y2 y3).1), (4, .int (nI (6 * n))), (3, .ref (E.2.2 45)), (2, .ref (E.2.2 19)), (1, .ref (E.2.2 0)), (0, .ref b)]) hx hb dL_law_640 hl (by decide) rfl (fun ls hl => ?_)
  refine lv_aload_n hx hb dL_law_642 rfl (lv_at hl 4 rfl) ?_
  refine k_callV (r := 19) (As := []) (rest := []) hx hb hml hown hts (c_X6_thrown l E S _ (f_X6_run (f_L_run z y1 y2 y3).2 y1 y2 y3).2) lm_RL_86 ln_X6_thrown le_X6_thrown li_X6 lk_X6_thrown (show k_nm yX6_thrown 0 by decide +kernel) ⟨Nat.le_of_ble_eq_true rfl, Nat.le_of_ble_eq_true rfl⟩ rfl rfl ⟨by show _ ≤ 603072; omega, by show _ ≤ 7202922; omega⟩ hl.1 rfl (Nat.le_of_ble_eq_true rfl) dL_law_643 (by omega) (k_c19 _ _ _) rfl hW (fun v z9 H locs hp hW => ?_)
  obtain ⟨rfl, rfl⟩ := hp
  refine W.eq (g2 := F0 m 646 ls [.int (f_X6_thrown (f_X6_run (f_L_run z y1 y2 y3).2 y1 y2 y3).2)]) rfl ?_
  refine lv_iload hx hb dL_law_646 (lv_at hl 1 rfl) ?_
  refine lv_icmp_eq (tgt := 653) hx hb dL_law_648 (by decide) (fun c1 => ?_) (fun c1 => absurd hok.2.1 c1)
  refine lv_iload hx hb dL_law_653 (lv_at hl 1 rfl) ?_
  refine lv_if_ne (tgt := 670) hx hb dL_law_655 (by decide) (fun c2 => ?_) (fun c2 => ?_)
  · refine lv_goto (tgt := 1360) hx hb dL_law_670 (by decide) ?_
    exact K E S _ H locs ls _ _ hok.2.2.2 hW (lv_sub hl [2, 3, 4, 5, 6] rfl) (by omega) (by omega)
  · refine lv_aload_n hx hb dL_law_658 rfl (lv_at hl 3 rfl) ?_
    refine lv_iconst (v := 0) hx hb dL_law_659 (by decide) ?_
    refine k_lald hx hb hW 45 1 (by omega) k_c45 (vp_in_iff.mpr (by decide)) rfl dL_law_660 ?_
    refine lv_iload hx hb dL_law_661 (lv_at hl 0 rfl) ?_
    refine lv_i2l (v := ((f_X6_run (f_L_run z y1 y2 y3).2 y1 y2 y3).1).toInt64) hx hb dL_law_663 rfl ?_
    refine k_lif_eq (tgt := 670) hx hb dL_law_664 dL_law_665 (by decide) (fun c3 => ?_) (fun c3 => absurd (hok.2.2.1 c2) c3)
    refine lv_goto (tgt := 1360) hx hb dL_law_670 (by decide) ?_
    exact K E S _ H locs ls _ _ hok.2.2.2 hW (lv_sub hl [2, 3, 4, 5, 6] rfl) (by omega) (by omega)
set_option maxHeartbeats 4000000 in
set_option maxRecDepth 100000 in
theorem lc_key {p : Program} {l : Launch} {e : Env} {s : State} {m : MethodId} {below : List Frame} {meth : Method} {c : Code} {b L n : Nat} {xs : Nat → Int32} {Q : State → Prop} (hl0 : l.stackTraces = false) (C0 : lk_A p s m meth c b L xs) (hn : 6 * n + 6 ≤ L) {E : Ev} {S : Nat} {z : Sg} {H : Heap} {locs : List Loc} {ls : Array Slot} {cells slots : Nat} (hq : q_I S z z) (hW : k_W E (46 + 6 * S) z (fun q => s.heap.size ≤ q) s H locs) (hl : lv_has ls 8 (lk_lv E b n)) (hce : cells ≤ 100 + 6 * n) (hsl : slots ≤ 10000 + 347 * n) (K : lk_C p l e s m b below meth c n Q) : W p l e room_1 s m #[Value.ref b] below meth c H locs cells slots Q (F0 m 673 ls []) := by
  obtain ⟨hx, hb, hml, hown, hts, hX, hbl, hL⟩ := C0
  have hbA : ¬ (fun q : Nat => s.heap.size ≤ q) b := Nat.not_le.mpr hbl
  have hl : lv_has ls 8 [(4, .int (nI (6 * n))), (3, .ref (E.2.2 45)), (2, .ref (E.2.2 19)), (1, .ref (E.2.2 0)), (0, .ref b)] := hl
  obtain ⟨y1, hy1⟩ : ∃ y : Int32, xs ((nI (6 * n) + 1).toNatClampNeg) = y := ⟨_, rfl⟩
  obtain ⟨y2, hy2⟩ : ∃ y : Int32, xs ((nI (6 * n) + 2).toNatClampNeg) = y := ⟨_, rfl⟩
  obtain ⟨y3, hy3⟩ : ∃ y : Int32, xs ((nI (6 * n) + 3).toNatClampNeg) = y := ⟨_, rfl⟩
  refine lv_aload_n hx hb dL_law_673 rfl (lv_at hl 3 rfl) ?_
  refine lv_aload_n hx hb dL_law_674 rfl (lv_at hl 4 rfl) ?_
  refine lv_iload hx hb dL_law_675 (lv_at hl 0 rfl) ?_
  refine lv_iconst (v := 1) hx hb dL_law_677 (by decide) ?_
  refine lv_iadd hx hb dL_law_678 ?_
  refine k_sld (i := nI (6 * n) + 1) (v := y1) hx hb hX hbl hbA hW (ix_L 1 (by decide) hn hL) hy1 dL_law_679 ?_
  refine lv_aload_n hx hb dL_law_680 rfl (lv_at hl 4 rfl) ?_
  refine lv_iload hx hb dL_law_681 (lv_at hl 0 rfl) ?_
  refine lv_iconst (v := 2) hx hb dL_law_683 (by decide) ?_
  refine lv_iadd hx hb dL_law_684 ?_
  refine k_sld (i := nI (6 * n) + 2) (v := y2) hx hb hX hbl hbA hW (ix_L 2 (by decide) hn hL) hy2 dL_law_685 ?_
  refine lv_aload_n hx hb dL_law_686 rfl (lv_at hl 4 rfl) ?_
  refine lv_iload hx hb dL_law_687 (lv_at hl 0 rfl) ?_
  refine lv_iconst (v := 3) hx hb dL_law_689 (by decide) ?_
  refine lv_iadd hx hb dL_law_690 ?_
  refine k_sld (i := nI (6 * n) + 3) (v := y3) hx hb hX hbl hbA hW (ix_L 3 (by decide) hn hL) hy3 dL_law_691 ?_
  refine lv_aload_n hx hb dL_law_692 rfl (lv_at hl 1 rfl) ?_
  refine k_callSH (As := [.ref (E.2.2 0), .int y1, .int y2, .int y3, .ref (E.2.2 45)]) (rest := []) hx hb hml hown hts (c_L_key l hl0 E S _ z y1 y2 y3 hq.1.1) lm_RL_110 ls_L_key li_L lw_key (show k_nm yL_key 5 by decide +kernel) ⟨Nat.le_of_ble_eq_true rfl, Nat.le_of_ble_eq_true rfl⟩ rfl rfl ⟨by show _ ≤ 603072; omega, by show _ ≤ 7202922; omega⟩ hl.1 rfl (Nat.le_of_ble_eq_true rfl) dL_law_693 hW (fun v z9 H locs hp hW => ?_)
  obtain ⟨rfl, rfl⟩ := hp
  have hok := st_key hq y1 y2 y3
  refine W.eq (g2 := F0 m 696 ls [.int (f_L_key z y1 y2 y3).1]) rfl ?_
  refine lv_istore (lv' := [(5, .int (f_L_key z y1 y2 y3).1), (4, .int (nI (6 * n))), (3, .ref (E.2.2 45)), (2, .ref (E.2.2 19)), (1, .ref (E.2.2 0)), (0, .ref b)]) hx hb dL_law_696 hl (by decide) rfl (fun ls hl => ?_)
  refine lv_aload_n hx hb dL_law_698 rfl (lv_at hl 3 rfl) ?_
  refine lv_aload_n hx hb dL_law_699 rfl (lv_at hl 5 rfl) ?_
  refine lv_iload hx hb dL_law_700 (lv_at hl 1 rfl) ?_
  refine lv_iconst (v := 1) hx hb dL_law_702 (by decide) ?_
  refine lv_iadd hx hb dL_law_703 ?_
  refine k_sld (i := nI (6 * n) + 1) (v := y1) hx hb hX hbl hbA hW (ix_L 1 (by decide) hn hL) hy1 dL_law_704 ?_
  refine lv_aload_n hx hb dL_law_705 rfl (lv_at hl 5 rfl) ?_
  refine lv_iload hx hb dL_law_706 (lv_at hl 1 rfl) ?_
  refine lv_iconst (v := 2) hx hb dL_law_708 (by decide) ?_
  refine lv_iadd hx hb dL_law_709 ?_
  refine k_sld (i := nI (6 * n) + 2) (v := y2) hx hb hX hbl hbA hW (ix_L 2 (by decide) hn hL) hy2 dL_law_710 ?_
  refine lv_aload_n hx hb dL_law_711 rfl (lv_at hl 5 rfl) ?_
  refine lv_iload hx hb dL_law_712 (lv_at hl 1 rfl) ?_
  refine lv_iconst (v := 3) hx hb dL_law_714 (by decide) ?_
  refine lv_iadd hx hb dL_law_715 ?_
  refine k_sld (i := nI (6 * n) + 3) (v := y3) hx hb hX hbl hbA hW (ix_L 3 (by decide) hn hL) hy3 dL_law_716 ?_
  refine k_callV (r := 19) (As := [.int y1, .int y2, .int y3]) (rest := []) hx hb hml hown hts (c_X6_key l E S _ (f_L_key z y1 y2 y3).2 y1 y2 y3 hok.1.1) lm_RL_112 ln_X6_key le_X6_key li_X6 lk_X6_key (show k_nm yX6_key 3 by decide +kernel) ⟨Nat.le_of_ble_eq_true rfl, Nat.le_of_ble_eq_true rfl⟩ rfl rfl ⟨by show _ ≤ 603072; omega, by show _ ≤ 7202922; omega⟩ hl.1 rfl (Nat.le_of_ble_eq_true rfl) dL_law_717 (by omega) (k_c19 _ _ _) rfl hW (fun v z9 H locs hp hW => ?_)
  obtain ⟨rfl, rfl⟩ := hp
  refine W.eq (g2 := F0 m 720 ls [.int (f_X6_key (f_L_key z y1 y2 y3).2 y1 y2 y3).1]) rfl ?_
  refine lv_istore (lv' := [(6, .int (f_X6_key (f_L_key z y1 y2 y3).2 y1 y2 y3).1), (5, .int (f_L_key z y1 y2 y3).1), (4, .int (nI (6 * n))), (3, .ref (E.2.2 45)), (2, .ref (E.2.2 19)), (1, .ref (E.2.2 0)), (0, .ref b)]) hx hb dL_law_720 hl (by decide) rfl (fun ls hl => ?_)
  refine lv_aload_n hx hb dL_law_722 rfl (lv_at hl 4 rfl) ?_
  refine k_callV (r := 19) (As := []) (rest := []) hx hb hml hown hts (c_X6_thrown l E S _ (f_X6_key (f_L_key z y1 y2 y3).2 y1 y2 y3).2) lm_RL_86 ln_X6_thrown le_X6_thrown li_X6 lk_X6_thrown (show k_nm yX6_thrown 0 by decide +kernel) ⟨Nat.le_of_ble_eq_true rfl, Nat.le_of_ble_eq_true rfl⟩ rfl rfl ⟨by show _ ≤ 603072; omega, by show _ ≤ 7202922; omega⟩ hl.1 rfl (Nat.le_of_ble_eq_true rfl) dL_law_723 (by omega) (k_c19 _ _ _) rfl hW (fun v z9 H locs hp hW => ?_)
  obtain ⟨rfl, rfl⟩ := hp
  refine W.eq (g2 := F0 m 726 ls [.int (f_X6_thrown (f_X6_key (f_L_key z y1 y2 y3).2 y1 y2 y3).2)]) rfl ?_
  refine lv_iload hx hb dL_law_726 (lv_at hl 1 rfl) ?_
  refine lv_icmp_eq (tgt := 733) hx hb dL_law_728 (by decide) (fun c1 => ?_) (fun c1 => absurd hok.2.1 c1)
  refine lv_iload hx hb dL_law_733 (lv_at hl 1 rfl) ?_
  refine lv_if_ne (tgt := 750) hx hb dL_law_735 (by decide) (fun c2 => ?_) (fun c2 => ?_)
  · refine lv_goto (tgt := 1360) hx hb dL_law_750 (by decide) ?_
    exact K E S _ H locs ls _ _ hok.2.2.2 hW (lv_sub hl [2, 3, 4, 5, 6] rfl) (by omega) (by omega)
  · refine lv_aload_n hx hb dL_law_738 rfl (lv_at hl 3 rfl) ?_
    refine lv_iconst (v := 0) hx hb dL_law_739 (by decide) ?_
    refine k_lald hx hb hW 45 1 (by omega) k_c45 (vp_in_iff.mpr (by decide)) rfl dL_law_740 ?_
    refine lv_iload hx hb dL_law_741 (lv_at hl 0 rfl) ?_
    refine lv_i2l (v := ((f_X6_key (f_L_key z y1 y2 y3).2 y1 y2 y3).1).toInt64) hx hb dL_law_743 rfl ?_
    refine k_lif_eq (tgt := 750) hx hb dL_law_744 dL_law_745 (by decide) (fun c3 => ?_) (fun c3 => absurd (hok.2.2.1 c2) c3)
    refine lv_goto (tgt := 1360) hx hb dL_law_750 (by decide) ?_
    exact K E S _ H locs ls _ _ hok.2.2.2 hW (lv_sub hl [2, 3, 4, 5, 6] rfl) (by omega) (by omega)
set_option maxHeartbeats 4000000 in
set_option maxRecDepth 100000 in
theorem lc_head {p : Program} {l : Launch} {e : Env} {s : State} {m : MethodId} {below : List Frame} {meth : Method} {c : Code} {b L n : Nat} {xs : Nat → Int32} {Q : State → Prop} (hl0 : l.stackTraces = false) (C0 : lk_A p s m meth c b L xs) (hn : 6 * n + 6 ≤ L) {E : Ev} {S : Nat} {z : Sg} {H : Heap} {locs : List Loc} {ls : Array Slot} {cells slots : Nat} (hq : q_I S z z) (hW : k_W E (46 + 6 * S) z (fun q => s.heap.size ≤ q) s H locs) (hl : lv_has ls 8 (lk_lv E b n)) (hce : cells ≤ 100 + 6 * n) (hsl : slots ≤ 10000 + 347 * n) (K : lk_C p l e s m b below meth c n Q) : W p l e room_1 s m #[Value.ref b] below meth c H locs cells slots Q (F0 m 753 ls []) := by
  obtain ⟨hx, hb, hml, hown, hts, hX, hbl, hL⟩ := C0
  have hbA : ¬ (fun q : Nat => s.heap.size ≤ q) b := Nat.not_le.mpr hbl
  have hl : lv_has ls 8 [(4, .int (nI (6 * n))), (3, .ref (E.2.2 45)), (2, .ref (E.2.2 19)), (1, .ref (E.2.2 0)), (0, .ref b)] := hl
  obtain ⟨y1, hy1⟩ : ∃ y : Int32, xs ((nI (6 * n) + 1).toNatClampNeg) = y := ⟨_, rfl⟩
  obtain ⟨y2, hy2⟩ : ∃ y : Int32, xs ((nI (6 * n) + 2).toNatClampNeg) = y := ⟨_, rfl⟩
  obtain ⟨y3, hy3⟩ : ∃ y : Int32, xs ((nI (6 * n) + 3).toNatClampNeg) = y := ⟨_, rfl⟩
  obtain ⟨y4, hy4⟩ : ∃ y : Int32, xs ((nI (6 * n) + 4).toNatClampNeg) = y := ⟨_, rfl⟩
  refine lv_aload_n hx hb dL_law_753 rfl (lv_at hl 3 rfl) ?_
  refine lv_aload_n hx hb dL_law_754 rfl (lv_at hl 4 rfl) ?_
  refine lv_iload hx hb dL_law_755 (lv_at hl 0 rfl) ?_
  refine lv_iconst (v := 1) hx hb dL_law_757 (by decide) ?_
  refine lv_iadd hx hb dL_law_758 ?_
  refine k_sld (i := nI (6 * n) + 1) (v := y1) hx hb hX hbl hbA hW (ix_L 1 (by decide) hn hL) hy1 dL_law_759 ?_
  refine lv_i2l (v := (y1).toInt64) hx hb dL_law_760 rfl ?_
  refine lv_bipush (v := 32) hx hb dL_law_761 (by decide) ?_
  refine lv_lshl (v := (y1).toInt64 <<< ((32 : Int32).toInt64 &&& 63)) hx hb dL_law_763 rfl ?_
  refine lv_aload_n hx hb dL_law_764 rfl (lv_at hl 4 rfl) ?_
  refine lv_iload hx hb dL_law_765 (lv_at hl 0 rfl) ?_
  refine lv_iconst (v := 2) hx hb dL_law_767 (by decide) ?_
  refine lv_iadd hx hb dL_law_768 ?_
  refine k_sld (i := nI (6 * n) + 2) (v := y2) hx hb hX hbl hbA hW (ix_L 2 (by decide) hn hL) hy2 dL_law_769 ?_
  refine lv_i2l (v := (y2).toInt64) hx hb dL_law_770 rfl ?_
  refine lv_ldc2 (v := 4294967295) hx hb hown (hts _ lc_RL_78) dL_law_771 ?_
  refine lv_land hx hb dL_law_774 ?_
  refine lv_lor hx hb dL_law_775 ?_
  refine lv_aload_n hx hb dL_law_776 rfl (lv_at hl 4 rfl) ?_
  refine lv_iload hx hb dL_law_777 (lv_at hl 0 rfl) ?_
  refine lv_iconst (v := 3) hx hb dL_law_779 (by decide) ?_
  refine lv_iadd hx hb dL_law_780 ?_
  refine k_sld (i := nI (6 * n) + 3) (v := y3) hx hb hX hbl hbA hW (ix_L 3 (by decide) hn hL) hy3 dL_law_781 ?_
  refine lv_aload_n hx hb dL_law_782 rfl (lv_at hl 4 rfl) ?_
  refine lv_iload hx hb dL_law_783 (lv_at hl 0 rfl) ?_
  refine lv_iconst (v := 4) hx hb dL_law_785 (by decide) ?_
  refine lv_iadd hx hb dL_law_786 ?_
  refine k_sld (i := nI (6 * n) + 4) (v := y4) hx hb hX hbl hbA hW (ix_L 4 (by decide) hn hL) hy4 dL_law_787 ?_
  refine lv_aload_n hx hb dL_law_788 rfl (lv_at hl 1 rfl) ?_
  refine k_callSH (As := [.ref (E.2.2 0), .long ((y1).toInt64 <<< ((32 : Int32).toInt64 &&& 63) ||| ((y2).toInt64 &&& 4294967295)), .int y3, .int y4, .ref (E.2.2 45)]) (rest := []) hx hb hml hown hts (c_L_head l hl0 E S _ z ((y1).toInt64 <<< ((32 : Int32).toInt64 &&& 63) ||| ((y2).toInt64 &&& 4294967295)) y3 y4 hq.1.1) lm_RL_113 ls_L_head li_L lw_head (show k_nm yL_head 5 by decide +kernel) ⟨Nat.le_of_ble_eq_true rfl, Nat.le_of_ble_eq_true rfl⟩ rfl rfl ⟨by show _ ≤ 603072; omega, by show _ ≤ 7202922; omega⟩ hl.1 rfl (Nat.le_of_ble_eq_true rfl) dL_law_789 hW (fun v z9 H locs hp hW => ?_)
  obtain ⟨rfl, rfl⟩ := hp
  have hok := st_head hq ((y1).toInt64 <<< ((32 : Int32).toInt64 &&& 63) ||| ((y2).toInt64 &&& 4294967295)) y3 y4
  refine W.eq (g2 := F0 m 792 ls [.int (f_L_head z ((y1).toInt64 <<< ((32 : Int32).toInt64 &&& 63) ||| ((y2).toInt64 &&& 4294967295)) y3 y4).1]) rfl ?_
  refine lv_istore (lv' := [(5, .int (f_L_head z ((y1).toInt64 <<< ((32 : Int32).toInt64 &&& 63) ||| ((y2).toInt64 &&& 4294967295)) y3 y4).1), (4, .int (nI (6 * n))), (3, .ref (E.2.2 45)), (2, .ref (E.2.2 19)), (1, .ref (E.2.2 0)), (0, .ref b)]) hx hb dL_law_792 hl (by decide) rfl (fun ls hl => ?_)
  refine lv_aload_n hx hb dL_law_794 rfl (lv_at hl 3 rfl) ?_
  refine lv_aload_n hx hb dL_law_795 rfl (lv_at hl 5 rfl) ?_
  refine lv_iload hx hb dL_law_796 (lv_at hl 1 rfl) ?_
  refine lv_iconst (v := 1) hx hb dL_law_798 (by decide) ?_
  refine lv_iadd hx hb dL_law_799 ?_
  refine k_sld (i := nI (6 * n) + 1) (v := y1) hx hb hX hbl hbA hW (ix_L 1 (by decide) hn hL) hy1 dL_law_800 ?_
  refine lv_i2l (v := (y1).toInt64) hx hb dL_law_801 rfl ?_
  refine lv_bipush (v := 32) hx hb dL_law_802 (by decide) ?_
  refine lv_lshl (v := (y1).toInt64 <<< ((32 : Int32).toInt64 &&& 63)) hx hb dL_law_804 rfl ?_
  refine lv_aload_n hx hb dL_law_805 rfl (lv_at hl 5 rfl) ?_
  refine lv_iload hx hb dL_law_806 (lv_at hl 1 rfl) ?_
  refine lv_iconst (v := 2) hx hb dL_law_808 (by decide) ?_
  refine lv_iadd hx hb dL_law_809 ?_
  refine k_sld (i := nI (6 * n) + 2) (v := y2) hx hb hX hbl hbA hW (ix_L 2 (by decide) hn hL) hy2 dL_law_810 ?_
  refine lv_i2l (v := (y2).toInt64) hx hb dL_law_811 rfl ?_
  refine lv_ldc2 (v := 4294967295) hx hb hown (hts _ lc_RL_78) dL_law_812 ?_
  refine lv_land hx hb dL_law_815 ?_
  refine lv_lor hx hb dL_law_816 ?_
  refine lv_aload_n hx hb dL_law_817 rfl (lv_at hl 5 rfl) ?_
  refine lv_iload hx hb dL_law_818 (lv_at hl 1 rfl) ?_
  refine lv_iconst (v := 3) hx hb dL_law_820 (by decide) ?_
  refine lv_iadd hx hb dL_law_821 ?_
  refine k_sld (i := nI (6 * n) + 3) (v := y3) hx hb hX hbl hbA hW (ix_L 3 (by decide) hn hL) hy3 dL_law_822 ?_
  refine lv_aload_n hx hb dL_law_823 rfl (lv_at hl 5 rfl) ?_
  refine lv_iload hx hb dL_law_824 (lv_at hl 1 rfl) ?_
  refine lv_iconst (v := 4) hx hb dL_law_826 (by decide) ?_
  refine lv_iadd hx hb dL_law_827 ?_
  refine k_sld (i := nI (6 * n) + 4) (v := y4) hx hb hX hbl hbA hW (ix_L 4 (by decide) hn hL) hy4 dL_law_828 ?_
  refine k_callV (r := 19) (As := [.long ((y1).toInt64 <<< ((32 : Int32).toInt64 &&& 63) ||| ((y2).toInt64 &&& 4294967295)), .int y3, .int y4]) (rest := []) hx hb hml hown hts (c_X6_head l E S _ (f_L_head z ((y1).toInt64 <<< ((32 : Int32).toInt64 &&& 63) ||| ((y2).toInt64 &&& 4294967295)) y3 y4).2 ((y1).toInt64 <<< ((32 : Int32).toInt64 &&& 63) ||| ((y2).toInt64 &&& 4294967295)) y3 y4 hok.1.1) lm_RL_116 ln_X6_head le_X6_head li_X6 lk_X6_head (show k_nm yX6_head 3 by decide +kernel) ⟨Nat.le_of_ble_eq_true rfl, Nat.le_of_ble_eq_true rfl⟩ rfl rfl ⟨by show _ ≤ 603072; omega, by show _ ≤ 7202922; omega⟩ hl.1 rfl (Nat.le_of_ble_eq_true rfl) dL_law_829 (by omega) (k_c19 _ _ _) rfl hW (fun v z9 H locs hp hW => ?_)
  obtain ⟨rfl, rfl⟩ := hp
  refine W.eq (g2 := F0 m 832 ls [.int (f_X6_head (f_L_head z ((y1).toInt64 <<< ((32 : Int32).toInt64 &&& 63) ||| ((y2).toInt64 &&& 4294967295)) y3 y4).2 ((y1).toInt64 <<< ((32 : Int32).toInt64 &&& 63) ||| ((y2).toInt64 &&& 4294967295)) y3 y4).1]) rfl ?_
  refine lv_istore (lv' := [(6, .int (f_X6_head (f_L_head z ((y1).toInt64 <<< ((32 : Int32).toInt64 &&& 63) ||| ((y2).toInt64 &&& 4294967295)) y3 y4).2 ((y1).toInt64 <<< ((32 : Int32).toInt64 &&& 63) ||| ((y2).toInt64 &&& 4294967295)) y3 y4).1), (5, .int (f_L_head z ((y1).toInt64 <<< ((32 : Int32).toInt64 &&& 63) ||| ((y2).toInt64 &&& 4294967295)) y3 y4).1), (4, .int (nI (6 * n))), (3, .ref (E.2.2 45)), (2, .ref (E.2.2 19)), (1, .ref (E.2.2 0)), (0, .ref b)]) hx hb dL_law_832 hl (by decide) rfl (fun ls hl => ?_)
  refine lv_aload_n hx hb dL_law_834 rfl (lv_at hl 4 rfl) ?_
  refine k_callV (r := 19) (As := []) (rest := []) hx hb hml hown hts (c_X6_thrown l E S _ (f_X6_head (f_L_head z ((y1).toInt64 <<< ((32 : Int32).toInt64 &&& 63) ||| ((y2).toInt64 &&& 4294967295)) y3 y4).2 ((y1).toInt64 <<< ((32 : Int32).toInt64 &&& 63) ||| ((y2).toInt64 &&& 4294967295)) y3 y4).2) lm_RL_86 ln_X6_thrown le_X6_thrown li_X6 lk_X6_thrown (show k_nm yX6_thrown 0 by decide +kernel) ⟨Nat.le_of_ble_eq_true rfl, Nat.le_of_ble_eq_true rfl⟩ rfl rfl ⟨by show _ ≤ 603072; omega, by show _ ≤ 7202922; omega⟩ hl.1 rfl (Nat.le_of_ble_eq_true rfl) dL_law_835 (by omega) (k_c19 _ _ _) rfl hW (fun v z9 H locs hp hW => ?_)
  obtain ⟨rfl, rfl⟩ := hp
  refine W.eq (g2 := F0 m 838 ls [.int (f_X6_thrown (f_X6_head (f_L_head z ((y1).toInt64 <<< ((32 : Int32).toInt64 &&& 63) ||| ((y2).toInt64 &&& 4294967295)) y3 y4).2 ((y1).toInt64 <<< ((32 : Int32).toInt64 &&& 63) ||| ((y2).toInt64 &&& 4294967295)) y3 y4).2)]) rfl ?_
  refine lv_iload hx hb dL_law_838 (lv_at hl 1 rfl) ?_
  refine lv_icmp_eq (tgt := 845) hx hb dL_law_840 (by decide) (fun c1 => ?_) (fun c1 => absurd hok.2.1 c1)
  refine lv_iload hx hb dL_law_845 (lv_at hl 1 rfl) ?_
  refine lv_if_ne (tgt := 862) hx hb dL_law_847 (by decide) (fun c2 => ?_) (fun c2 => ?_)
  · refine lv_goto (tgt := 1360) hx hb dL_law_862 (by decide) ?_
    exact K E S _ H locs ls _ _ hok.2.2.2 hW (lv_sub hl [2, 3, 4, 5, 6] rfl) (by omega) (by omega)
  · refine lv_aload_n hx hb dL_law_850 rfl (lv_at hl 3 rfl) ?_
    refine lv_iconst (v := 0) hx hb dL_law_851 (by decide) ?_
    refine k_lald hx hb hW 45 1 (by omega) k_c45 (vp_in_iff.mpr (by decide)) rfl dL_law_852 ?_
    refine lv_iload hx hb dL_law_853 (lv_at hl 0 rfl) ?_
    refine lv_i2l (v := ((f_X6_head (f_L_head z ((y1).toInt64 <<< ((32 : Int32).toInt64 &&& 63) ||| ((y2).toInt64 &&& 4294967295)) y3 y4).2 ((y1).toInt64 <<< ((32 : Int32).toInt64 &&& 63) ||| ((y2).toInt64 &&& 4294967295)) y3 y4).1).toInt64) hx hb dL_law_855 rfl ?_
    refine k_lif_eq (tgt := 862) hx hb dL_law_856 dL_law_857 (by decide) (fun c3 => ?_) (fun c3 => absurd (hok.2.2.1 c2) c3)
    refine lv_goto (tgt := 1360) hx hb dL_law_862 (by decide) ?_
    exact K E S _ H locs ls _ _ hok.2.2.2 hW (lv_sub hl [2, 3, 4, 5, 6] rfl) (by omega) (by omega)
set_option maxHeartbeats 4000000 in
set_option maxRecDepth 100000 in
theorem lc_read {p : Program} {l : Launch} {e : Env} {s : State} {m : MethodId} {below : List Frame} {meth : Method} {c : Code} {b L n : Nat} {xs : Nat → Int32} {Q : State → Prop} (hl0 : l.stackTraces = false) (C0 : lk_A p s m meth c b L xs) (hn : 6 * n + 6 ≤ L) {E : Ev} {S : Nat} {z : Sg} {H : Heap} {locs : List Loc} {ls : Array Slot} {cells slots : Nat} (hq : q_I S z z) (hW : k_W E (46 + 6 * S) z (fun q => s.heap.size ≤ q) s H locs) (hl : lv_has ls 8 (lk_lv E b n)) (hce : cells ≤ 100 + 6 * n) (hsl : slots ≤ 10000 + 347 * n) (K : lk_C p l e s m b below meth c n Q) : W p l e room_1 s m #[Value.ref b] below meth c H locs cells slots Q (F0 m 865 ls []) := by
  obtain ⟨hx, hb, hml, hown, hts, hX, hbl, hL⟩ := C0
  have hbA : ¬ (fun q : Nat => s.heap.size ≤ q) b := Nat.not_le.mpr hbl
  have hl : lv_has ls 8 [(4, .int (nI (6 * n))), (3, .ref (E.2.2 45)), (2, .ref (E.2.2 19)), (1, .ref (E.2.2 0)), (0, .ref b)] := hl
  obtain ⟨y1, hy1⟩ : ∃ y : Int32, xs ((nI (6 * n) + 1).toNatClampNeg) = y := ⟨_, rfl⟩
  obtain ⟨y2, hy2⟩ : ∃ y : Int32, xs ((nI (6 * n) + 2).toNatClampNeg) = y := ⟨_, rfl⟩
  refine lv_aload_n hx hb dL_law_865 rfl (lv_at hl 3 rfl) ?_
  refine lv_aload_n hx hb dL_law_866 rfl (lv_at hl 4 rfl) ?_
  refine lv_iload hx hb dL_law_867 (lv_at hl 0 rfl) ?_
  refine lv_iconst (v := 1) hx hb dL_law_869 (by decide) ?_
  refine lv_iadd hx hb dL_law_870 ?_
  refine k_sld (i := nI (6 * n) + 1) (v := y1) hx hb hX hbl hbA hW (ix_L 1 (by decide) hn hL) hy1 dL_law_871 ?_
  refine lv_i2l (v := (y1).toInt64) hx hb dL_law_872 rfl ?_
  refine lv_bipush (v := 32) hx hb dL_law_873 (by decide) ?_
  refine lv_lshl (v := (y1).toInt64 <<< ((32 : Int32).toInt64 &&& 63)) hx hb dL_law_875 rfl ?_
  refine lv_aload_n hx hb dL_law_876 rfl (lv_at hl 4 rfl) ?_
  refine lv_iload hx hb dL_law_877 (lv_at hl 0 rfl) ?_
  refine lv_iconst (v := 2) hx hb dL_law_879 (by decide) ?_
  refine lv_iadd hx hb dL_law_880 ?_
  refine k_sld (i := nI (6 * n) + 2) (v := y2) hx hb hX hbl hbA hW (ix_L 2 (by decide) hn hL) hy2 dL_law_881 ?_
  refine lv_i2l (v := (y2).toInt64) hx hb dL_law_882 rfl ?_
  refine lv_ldc2 (v := 4294967295) hx hb hown (hts _ lc_RL_78) dL_law_883 ?_
  refine lv_land hx hb dL_law_886 ?_
  refine lv_lor hx hb dL_law_887 ?_
  refine k_callV (r := 0) (As := [.long ((y1).toInt64 <<< ((32 : Int32).toInt64 &&& 63) ||| ((y2).toInt64 &&& 4294967295))]) (rest := []) hx hb hml hown hts (c_X5_read l E S _ z ((y1).toInt64 <<< ((32 : Int32).toInt64 &&& 63) ||| ((y2).toInt64 &&& 4294967295)) hq.1.1) lm_RL_117 ln_X5_read le_X5_read li_X5 lk_X5_read (show k_nm yX5_read 1 by decide +kernel) ⟨Nat.le_of_ble_eq_true rfl, Nat.le_of_ble_eq_true rfl⟩ rfl rfl ⟨by show _ ≤ 603072; omega, by show _ ≤ 7202922; omega⟩ hl.1 rfl (Nat.le_of_ble_eq_true rfl) dL_law_888 (by omega) (k_c0 _ _ _) rfl hW (fun v z9 H locs hp hW => ?_)
  obtain ⟨rfl, rfl⟩ := hp
  have hok := st_read hq ((y1).toInt64 <<< ((32 : Int32).toInt64 &&& 63) ||| ((y2).toInt64 &&& 4294967295))
  refine W.eq (g2 := F0 m 891 ls [.int (f_X5_read z ((y1).toInt64 <<< ((32 : Int32).toInt64 &&& 63) ||| ((y2).toInt64 &&& 4294967295))).1]) rfl ?_
  refine lv_aload_n hx hb dL_law_891 rfl (lv_at hl 2 rfl) ?_
  refine lv_aload_n hx hb dL_law_892 rfl (lv_at hl 4 rfl) ?_
  refine lv_iload hx hb dL_law_893 (lv_at hl 0 rfl) ?_
  refine lv_iconst (v := 1) hx hb dL_law_895 (by decide) ?_
  refine lv_iadd hx hb dL_law_896 ?_
  refine k_sld (i := nI (6 * n) + 1) (v := y1) hx hb hX hbl hbA hW (ix_L 1 (by decide) hn hL) hy1 dL_law_897 ?_
  refine lv_i2l (v := (y1).toInt64) hx hb dL_law_898 rfl ?_
  refine lv_bipush (v := 32) hx hb dL_law_899 (by decide) ?_
  refine lv_lshl (v := (y1).toInt64 <<< ((32 : Int32).toInt64 &&& 63)) hx hb dL_law_901 rfl ?_
  refine lv_aload_n hx hb dL_law_902 rfl (lv_at hl 4 rfl) ?_
  refine lv_iload hx hb dL_law_903 (lv_at hl 0 rfl) ?_
  refine lv_iconst (v := 2) hx hb dL_law_905 (by decide) ?_
  refine lv_iadd hx hb dL_law_906 ?_
  refine k_sld (i := nI (6 * n) + 2) (v := y2) hx hb hX hbl hbA hW (ix_L 2 (by decide) hn hL) hy2 dL_law_907 ?_
  refine lv_i2l (v := (y2).toInt64) hx hb dL_law_908 rfl ?_
  refine lv_ldc2 (v := 4294967295) hx hb hown (hts _ lc_RL_78) dL_law_909 ?_
  refine lv_land hx hb dL_law_912 ?_
  refine lv_lor hx hb dL_law_913 ?_
  refine k_callV (r := 19) (As := [.long ((y1).toInt64 <<< ((32 : Int32).toInt64 &&& 63) ||| ((y2).toInt64 &&& 4294967295))]) (rest := [.int (f_X5_read z ((y1).toInt64 <<< ((32 : Int32).toInt64 &&& 63) ||| ((y2).toInt64 &&& 4294967295))).1]) hx hb hml hown hts (c_X6_read l E S _ (f_X5_read z ((y1).toInt64 <<< ((32 : Int32).toInt64 &&& 63) ||| ((y2).toInt64 &&& 4294967295))).2 ((y1).toInt64 <<< ((32 : Int32).toInt64 &&& 63) ||| ((y2).toInt64 &&& 4294967295)) hok.1.2 hok.1.1) lm_RL_121 ln_X6_read le_X6_read li_X6 lk_X6_read (show k_nm yX6_read 1 by decide +kernel) ⟨Nat.le_of_ble_eq_true rfl, Nat.le_of_ble_eq_true rfl⟩ rfl rfl ⟨by show _ ≤ 603072; omega, by show _ ≤ 7202922; omega⟩ hl.1 rfl (Nat.le_of_ble_eq_true rfl) dL_law_914 (by omega) (k_c19 _ _ _) rfl hW (fun v z9 H locs hp hW => ?_)
  obtain ⟨rfl, rfl⟩ := hp
  refine W.eq (g2 := F0 m 917 ls [.int (f_X6_read (f_X5_read z ((y1).toInt64 <<< ((32 : Int32).toInt64 &&& 63) ||| ((y2).toInt64 &&& 4294967295))).2 ((y1).toInt64 <<< ((32 : Int32).toInt64 &&& 63) ||| ((y2).toInt64 &&& 4294967295))).1, .int (f_X5_read z ((y1).toInt64 <<< ((32 : Int32).toInt64 &&& 63) ||| ((y2).toInt64 &&& 4294967295))).1]) rfl ?_
  refine lv_icmp_eq (tgt := 1360) hx hb dL_law_917 (by decide) (fun c1 => ?_) (fun c1 => absurd hok.2.1 c1)
  exact K E S _ H locs ls _ _ hok.2.2 hW hl (by omega) (by omega)
