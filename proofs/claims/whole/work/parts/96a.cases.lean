set_option maxHeartbeats 4000000 in
set_option maxRecDepth 100000 in
theorem lc_add {p : Program} {l : Launch} {e : Env} {s : State} {m : MethodId} {below : List Frame} {meth : Method} {c : Code} {b L n : Nat} {xs : Nat → Int32} {Q : State → Prop} (hl0 : l.stackTraces = false) (C0 : lk_A p s m meth c b L xs) (hn : 6 * n + 6 ≤ L) {E : Ev} {S : Nat} {z : Sg} {H : Heap} {locs : List Loc} {ls : Array Slot} {cells slots : Nat} (hq : q_I S z z) (hW : k_W E (46 + 6 * S) z (fun q => s.heap.size ≤ q) s H locs) (hl : lv_has ls 8 (lk_lv E b n)) (hce : cells ≤ 100 + 6 * n) (hsl : slots ≤ 10000 + 347 * n) (K : lk_C p l e s m b below meth c n Q) : W p l e room_1 s m #[Value.ref b] below meth c H locs cells slots Q (F0 m 264 ls []) := by
  obtain ⟨hx, hb, hml, hown, hts, hX, hbl, hL⟩ := C0
  have hbA : ¬ (fun q : Nat => s.heap.size ≤ q) b := Nat.not_le.mpr hbl
  have hl : lv_has ls 8 [(4, .int (nI (6 * n))), (3, .ref (E.2.2 45)), (2, .ref (E.2.2 19)), (1, .ref (E.2.2 0)), (0, .ref b)] := hl
  obtain ⟨y1, hy1⟩ : ∃ y : Int32, xs ((nI (6 * n) + 1).toNatClampNeg) = y := ⟨_, rfl⟩
  obtain ⟨y2, hy2⟩ : ∃ y : Int32, xs ((nI (6 * n) + 2).toNatClampNeg) = y := ⟨_, rfl⟩
  refine lv_aload_n hx hb dL_law_264 rfl (lv_at hl 3 rfl) ?_
  refine lv_aload_n hx hb dL_law_265 rfl (lv_at hl 4 rfl) ?_
  refine lv_iload hx hb dL_law_266 (lv_at hl 0 rfl) ?_
  refine lv_iconst (v := 1) hx hb dL_law_268 (by decide) ?_
  refine lv_iadd hx hb dL_law_269 ?_
  refine k_sld (i := nI (6 * n) + 1) (v := y1) hx hb hX hbl hbA hW (ix_L 1 (by decide) hn hL) hy1 dL_law_270 ?_
  refine lv_aload_n hx hb dL_law_271 rfl (lv_at hl 4 rfl) ?_
  refine lv_iload hx hb dL_law_272 (lv_at hl 0 rfl) ?_
  refine lv_iconst (v := 2) hx hb dL_law_274 (by decide) ?_
  refine lv_iadd hx hb dL_law_275 ?_
  refine k_sld (i := nI (6 * n) + 2) (v := y2) hx hb hX hbl hbA hW (ix_L 2 (by decide) hn hL) hy2 dL_law_276 ?_
  refine lv_i2b (v := (y2).toInt8.toInt32) hx hb dL_law_277 rfl ?_
  refine lv_aload_n hx hb dL_law_278 rfl (lv_at hl 1 rfl) ?_
  refine k_callSH (As := [.ref (E.2.2 0), .int y1, .int ((y2).toInt8.toInt32), .ref (E.2.2 45)]) (rest := []) hx hb hml hown hts (c_L_add l hl0 E S _ z y1 ((y2).toInt8.toInt32) hq.1.1) lm_RL_90 ls_L_add li_L lw_add (show k_nm yL_add 4 by decide +kernel) ⟨Nat.le_of_ble_eq_true rfl, Nat.le_of_ble_eq_true rfl⟩ rfl rfl ⟨by show _ ≤ 603072; omega, by show _ ≤ 7202922; omega⟩ hl.1 rfl (Nat.le_of_ble_eq_true rfl) dL_law_279 hW (fun v z9 H locs hp hW => ?_)
  obtain ⟨rfl, rfl⟩ := hp
  have hok := st_add hq y1 ((y2).toInt8.toInt32)
  refine W.eq (g2 := F0 m 282 ls [.int (f_L_add z y1 ((y2).toInt8.toInt32)).1]) rfl ?_
  refine lv_istore (lv' := [(5, .int (f_L_add z y1 ((y2).toInt8.toInt32)).1), (4, .int (nI (6 * n))), (3, .ref (E.2.2 45)), (2, .ref (E.2.2 19)), (1, .ref (E.2.2 0)), (0, .ref b)]) hx hb dL_law_282 hl (by decide) rfl (fun ls hl => ?_)
  refine lv_aload_n hx hb dL_law_284 rfl (lv_at hl 3 rfl) ?_
  refine lv_aload_n hx hb dL_law_285 rfl (lv_at hl 5 rfl) ?_
  refine lv_iload hx hb dL_law_286 (lv_at hl 1 rfl) ?_
  refine lv_iconst (v := 1) hx hb dL_law_288 (by decide) ?_
  refine lv_iadd hx hb dL_law_289 ?_
  refine k_sld (i := nI (6 * n) + 1) (v := y1) hx hb hX hbl hbA hW (ix_L 1 (by decide) hn hL) hy1 dL_law_290 ?_
  refine lv_aload_n hx hb dL_law_291 rfl (lv_at hl 5 rfl) ?_
  refine lv_iload hx hb dL_law_292 (lv_at hl 1 rfl) ?_
  refine lv_iconst (v := 2) hx hb dL_law_294 (by decide) ?_
  refine lv_iadd hx hb dL_law_295 ?_
  refine k_sld (i := nI (6 * n) + 2) (v := y2) hx hb hX hbl hbA hW (ix_L 2 (by decide) hn hL) hy2 dL_law_296 ?_
  refine lv_i2b (v := (y2).toInt8.toInt32) hx hb dL_law_297 rfl ?_
  refine k_callV (r := 19) (As := [.int y1, .int ((y2).toInt8.toInt32)]) (rest := []) hx hb hml hown hts (c_X6_add l E S _ (f_L_add z y1 ((y2).toInt8.toInt32)).2 y1 ((y2).toInt8.toInt32) hok.1.1) lm_RL_93 ln_X6_add le_X6_add li_X6 lk_X6_add (show k_nm yX6_add 2 by decide +kernel) ⟨Nat.le_of_ble_eq_true rfl, Nat.le_of_ble_eq_true rfl⟩ rfl rfl ⟨by show _ ≤ 603072; omega, by show _ ≤ 7202922; omega⟩ hl.1 rfl (Nat.le_of_ble_eq_true rfl) dL_law_298 (by omega) (k_c19 _ _ _) rfl hW (fun v z9 H locs hp hW => ?_)
  obtain ⟨rfl, rfl⟩ := hp
  refine W.eq (g2 := F0 m 301 ls [.int (f_X6_add (f_L_add z y1 ((y2).toInt8.toInt32)).2 y1 ((y2).toInt8.toInt32)).1]) rfl ?_
  refine lv_istore (lv' := [(6, .int (f_X6_add (f_L_add z y1 ((y2).toInt8.toInt32)).2 y1 ((y2).toInt8.toInt32)).1), (5, .int (f_L_add z y1 ((y2).toInt8.toInt32)).1), (4, .int (nI (6 * n))), (3, .ref (E.2.2 45)), (2, .ref (E.2.2 19)), (1, .ref (E.2.2 0)), (0, .ref b)]) hx hb dL_law_301 hl (by decide) rfl (fun ls hl => ?_)
  refine lv_aload_n hx hb dL_law_303 rfl (lv_at hl 4 rfl) ?_
  refine k_callV (r := 19) (As := []) (rest := []) hx hb hml hown hts (c_X6_thrown l E S _ (f_X6_add (f_L_add z y1 ((y2).toInt8.toInt32)).2 y1 ((y2).toInt8.toInt32)).2) lm_RL_86 ln_X6_thrown le_X6_thrown li_X6 lk_X6_thrown (show k_nm yX6_thrown 0 by decide +kernel) ⟨Nat.le_of_ble_eq_true rfl, Nat.le_of_ble_eq_true rfl⟩ rfl rfl ⟨by show _ ≤ 603072; omega, by show _ ≤ 7202922; omega⟩ hl.1 rfl (Nat.le_of_ble_eq_true rfl) dL_law_304 (by omega) (k_c19 _ _ _) rfl hW (fun v z9 H locs hp hW => ?_)
  obtain ⟨rfl, rfl⟩ := hp
  refine W.eq (g2 := F0 m 307 ls [.int (f_X6_thrown (f_X6_add (f_L_add z y1 ((y2).toInt8.toInt32)).2 y1 ((y2).toInt8.toInt32)).2)]) rfl ?_
  refine lv_iload hx hb dL_law_307 (lv_at hl 1 rfl) ?_
  refine lv_icmp_eq (tgt := 314) hx hb dL_law_309 (by decide) (fun c1 => ?_) (fun c1 => absurd hok.2.1 c1)
  refine lv_iload hx hb dL_law_314 (lv_at hl 1 rfl) ?_
  refine lv_if_ne (tgt := 331) hx hb dL_law_316 (by decide) (fun c2 => ?_) (fun c2 => ?_)
  · refine lv_goto (tgt := 1360) hx hb dL_law_331 (by decide) ?_
    exact K E S _ H locs ls _ _ hok.2.2.2 hW (lv_sub hl [2, 3, 4, 5, 6] rfl) (by omega) (by omega)
  · refine lv_aload_n hx hb dL_law_319 rfl (lv_at hl 3 rfl) ?_
    refine lv_iconst (v := 0) hx hb dL_law_320 (by decide) ?_
    refine k_lald hx hb hW 45 1 (by omega) k_c45 (vp_in_iff.mpr (by decide)) rfl dL_law_321 ?_
    refine lv_iload hx hb dL_law_322 (lv_at hl 0 rfl) ?_
    refine lv_i2l (v := ((f_X6_add (f_L_add z y1 ((y2).toInt8.toInt32)).2 y1 ((y2).toInt8.toInt32)).1).toInt64) hx hb dL_law_324 rfl ?_
    refine k_lif_eq (tgt := 331) hx hb dL_law_325 dL_law_326 (by decide) (fun c3 => ?_) (fun c3 => absurd (hok.2.2.1 c2) c3)
    refine lv_goto (tgt := 1360) hx hb dL_law_331 (by decide) ?_
    exact K E S _ H locs ls _ _ hok.2.2.2 hW (lv_sub hl [2, 3, 4, 5, 6] rfl) (by omega) (by omega)
set_option maxHeartbeats 4000000 in
set_option maxRecDepth 100000 in
theorem lc_octet {p : Program} {l : Launch} {e : Env} {s : State} {m : MethodId} {below : List Frame} {meth : Method} {c : Code} {b L n : Nat} {xs : Nat → Int32} {Q : State → Prop} (hl0 : l.stackTraces = false) (C0 : lk_A p s m meth c b L xs) (hn : 6 * n + 6 ≤ L) {E : Ev} {S : Nat} {z : Sg} {H : Heap} {locs : List Loc} {ls : Array Slot} {cells slots : Nat} (hq : q_I S z z) (hW : k_W E (46 + 6 * S) z (fun q => s.heap.size ≤ q) s H locs) (hl : lv_has ls 8 (lk_lv E b n)) (hce : cells ≤ 100 + 6 * n) (hsl : slots ≤ 10000 + 347 * n) (K : lk_C p l e s m b below meth c n Q) : W p l e room_1 s m #[Value.ref b] below meth c H locs cells slots Q (F0 m 334 ls []) := by
  obtain ⟨hx, hb, hml, hown, hts, hX, hbl, hL⟩ := C0
  have hbA : ¬ (fun q : Nat => s.heap.size ≤ q) b := Nat.not_le.mpr hbl
  have hl : lv_has ls 8 [(4, .int (nI (6 * n))), (3, .ref (E.2.2 45)), (2, .ref (E.2.2 19)), (1, .ref (E.2.2 0)), (0, .ref b)] := hl
  obtain ⟨y1, hy1⟩ : ∃ y : Int32, xs ((nI (6 * n) + 1).toNatClampNeg) = y := ⟨_, rfl⟩
  obtain ⟨y2, hy2⟩ : ∃ y : Int32, xs ((nI (6 * n) + 2).toNatClampNeg) = y := ⟨_, rfl⟩
  refine lv_aload_n hx hb dL_law_334 rfl (lv_at hl 3 rfl) ?_
  refine lv_aload_n hx hb dL_law_335 rfl (lv_at hl 4 rfl) ?_
  refine lv_iload hx hb dL_law_336 (lv_at hl 0 rfl) ?_
  refine lv_iconst (v := 1) hx hb dL_law_338 (by decide) ?_
  refine lv_iadd hx hb dL_law_339 ?_
  refine k_sld (i := nI (6 * n) + 1) (v := y1) hx hb hX hbl hbA hW (ix_L 1 (by decide) hn hL) hy1 dL_law_340 ?_
  refine lv_aload_n hx hb dL_law_341 rfl (lv_at hl 4 rfl) ?_
  refine lv_iload hx hb dL_law_342 (lv_at hl 0 rfl) ?_
  refine lv_iconst (v := 2) hx hb dL_law_344 (by decide) ?_
  refine lv_iadd hx hb dL_law_345 ?_
  refine k_sld (i := nI (6 * n) + 2) (v := y2) hx hb hX hbl hbA hW (ix_L 2 (by decide) hn hL) hy2 dL_law_346 ?_
  refine lv_aload_n hx hb dL_law_347 rfl (lv_at hl 1 rfl) ?_
  refine k_callSH (As := [.ref (E.2.2 0), .int y1, .int y2, .ref (E.2.2 45)]) (rest := []) hx hb hml hown hts (c_L_octet l hl0 E S _ z y1 y2 hq.1.1) lm_RL_94 ls_L_octet li_L lw_octet (show k_nm yL_octet 4 by decide +kernel) ⟨Nat.le_of_ble_eq_true rfl, Nat.le_of_ble_eq_true rfl⟩ rfl rfl ⟨by show _ ≤ 603072; omega, by show _ ≤ 7202922; omega⟩ hl.1 rfl (Nat.le_of_ble_eq_true rfl) dL_law_348 hW (fun v z9 H locs hp hW => ?_)
  obtain ⟨rfl, rfl⟩ := hp
  have hok := st_octet hq y1 y2
  refine W.eq (g2 := F0 m 351 ls [.int (f_L_octet z y1 y2).1]) rfl ?_
  refine lv_istore (lv' := [(5, .int (f_L_octet z y1 y2).1), (4, .int (nI (6 * n))), (3, .ref (E.2.2 45)), (2, .ref (E.2.2 19)), (1, .ref (E.2.2 0)), (0, .ref b)]) hx hb dL_law_351 hl (by decide) rfl (fun ls hl => ?_)
  refine lv_aload_n hx hb dL_law_353 rfl (lv_at hl 3 rfl) ?_
  refine lv_aload_n hx hb dL_law_354 rfl (lv_at hl 5 rfl) ?_
  refine lv_iload hx hb dL_law_355 (lv_at hl 1 rfl) ?_
  refine lv_iconst (v := 1) hx hb dL_law_357 (by decide) ?_
  refine lv_iadd hx hb dL_law_358 ?_
  refine k_sld (i := nI (6 * n) + 1) (v := y1) hx hb hX hbl hbA hW (ix_L 1 (by decide) hn hL) hy1 dL_law_359 ?_
  refine lv_aload_n hx hb dL_law_360 rfl (lv_at hl 5 rfl) ?_
  refine lv_iload hx hb dL_law_361 (lv_at hl 1 rfl) ?_
  refine lv_iconst (v := 2) hx hb dL_law_363 (by decide) ?_
  refine lv_iadd hx hb dL_law_364 ?_
  refine k_sld (i := nI (6 * n) + 2) (v := y2) hx hb hX hbl hbA hW (ix_L 2 (by decide) hn hL) hy2 dL_law_365 ?_
  refine k_callV (r := 19) (As := [.int y1, .int y2]) (rest := []) hx hb hml hown hts (c_X6_octet l E S _ (f_L_octet z y1 y2).2 y1 y2 hok.1.1) lm_RL_97 ln_X6_octet le_X6_octet li_X6 lk_X6_octet (show k_nm yX6_octet 2 by decide +kernel) ⟨Nat.le_of_ble_eq_true rfl, Nat.le_of_ble_eq_true rfl⟩ rfl rfl ⟨by show _ ≤ 603072; omega, by show _ ≤ 7202922; omega⟩ hl.1 rfl (Nat.le_of_ble_eq_true rfl) dL_law_366 (by omega) (k_c19 _ _ _) rfl hW (fun v z9 H locs hp hW => ?_)
  obtain ⟨rfl, rfl⟩ := hp
  refine W.eq (g2 := F0 m 369 ls [.int (f_X6_octet (f_L_octet z y1 y2).2 y1 y2).1]) rfl ?_
  refine lv_istore (lv' := [(6, .int (f_X6_octet (f_L_octet z y1 y2).2 y1 y2).1), (5, .int (f_L_octet z y1 y2).1), (4, .int (nI (6 * n))), (3, .ref (E.2.2 45)), (2, .ref (E.2.2 19)), (1, .ref (E.2.2 0)), (0, .ref b)]) hx hb dL_law_369 hl (by decide) rfl (fun ls hl => ?_)
  refine lv_aload_n hx hb dL_law_371 rfl (lv_at hl 4 rfl) ?_
  refine k_callV (r := 19) (As := []) (rest := []) hx hb hml hown hts (c_X6_thrown l E S _ (f_X6_octet (f_L_octet z y1 y2).2 y1 y2).2) lm_RL_86 ln_X6_thrown le_X6_thrown li_X6 lk_X6_thrown (show k_nm yX6_thrown 0 by decide +kernel) ⟨Nat.le_of_ble_eq_true rfl, Nat.le_of_ble_eq_true rfl⟩ rfl rfl ⟨by show _ ≤ 603072; omega, by show _ ≤ 7202922; omega⟩ hl.1 rfl (Nat.le_of_ble_eq_true rfl) dL_law_372 (by omega) (k_c19 _ _ _) rfl hW (fun v z9 H locs hp hW => ?_)
  obtain ⟨rfl, rfl⟩ := hp
  refine W.eq (g2 := F0 m 375 ls [.int (f_X6_thrown (f_X6_octet (f_L_octet z y1 y2).2 y1 y2).2)]) rfl ?_
  refine lv_iload hx hb dL_law_375 (lv_at hl 1 rfl) ?_
  refine lv_icmp_eq (tgt := 382) hx hb dL_law_377 (by decide) (fun c1 => ?_) (fun c1 => absurd hok.2.1 c1)
  refine lv_iload hx hb dL_law_382 (lv_at hl 1 rfl) ?_
  refine lv_if_ne (tgt := 399) hx hb dL_law_384 (by decide) (fun c2 => ?_) (fun c2 => ?_)
  · refine lv_goto (tgt := 1360) hx hb dL_law_399 (by decide) ?_
    exact K E S _ H locs ls _ _ hok.2.2.2 hW (lv_sub hl [2, 3, 4, 5, 6] rfl) (by omega) (by omega)
  · refine lv_aload_n hx hb dL_law_387 rfl (lv_at hl 3 rfl) ?_
    refine lv_iconst (v := 0) hx hb dL_law_388 (by decide) ?_
    refine k_lald hx hb hW 45 1 (by omega) k_c45 (vp_in_iff.mpr (by decide)) rfl dL_law_389 ?_
    refine lv_iload hx hb dL_law_390 (lv_at hl 0 rfl) ?_
    refine lv_i2l (v := ((f_X6_octet (f_L_octet z y1 y2).2 y1 y2).1).toInt64) hx hb dL_law_392 rfl ?_
    refine k_lif_eq (tgt := 399) hx hb dL_law_393 dL_law_394 (by decide) (fun c3 => ?_) (fun c3 => absurd (hok.2.2.1 c2) c3)
    refine lv_goto (tgt := 1360) hx hb dL_law_399 (by decide) ?_
    exact K E S _ H locs ls _ _ hok.2.2.2 hW (lv_sub hl [2, 3, 4, 5, 6] rfl) (by omega) (by omega)
set_option maxHeartbeats 4000000 in
set_option maxRecDepth 100000 in
theorem lc_beside {p : Program} {l : Launch} {e : Env} {s : State} {m : MethodId} {below : List Frame} {meth : Method} {c : Code} {b L n : Nat} {xs : Nat → Int32} {Q : State → Prop} (hl0 : l.stackTraces = false) (C0 : lk_A p s m meth c b L xs) (hn : 6 * n + 6 ≤ L) {E : Ev} {S : Nat} {z : Sg} {H : Heap} {locs : List Loc} {ls : Array Slot} {cells slots : Nat} (hq : q_I S z z) (hW : k_W E (46 + 6 * S) z (fun q => s.heap.size ≤ q) s H locs) (hl : lv_has ls 8 (lk_lv E b n)) (hce : cells ≤ 100 + 6 * n) (hsl : slots ≤ 10000 + 347 * n) (K : lk_C p l e s m b below meth c n Q) : W p l e room_1 s m #[Value.ref b] below meth c H locs cells slots Q (F0 m 402 ls []) := by
  obtain ⟨hx, hb, hml, hown, hts, hX, hbl, hL⟩ := C0
  have hbA : ¬ (fun q : Nat => s.heap.size ≤ q) b := Nat.not_le.mpr hbl
  have hl : lv_has ls 8 [(4, .int (nI (6 * n))), (3, .ref (E.2.2 45)), (2, .ref (E.2.2 19)), (1, .ref (E.2.2 0)), (0, .ref b)] := hl
  obtain ⟨y1, hy1⟩ : ∃ y : Int32, xs ((nI (6 * n) + 1).toNatClampNeg) = y := ⟨_, rfl⟩
  obtain ⟨y2, hy2⟩ : ∃ y : Int32, xs ((nI (6 * n) + 2).toNatClampNeg) = y := ⟨_, rfl⟩
  obtain ⟨y3, hy3⟩ : ∃ y : Int32, xs ((nI (6 * n) + 3).toNatClampNeg) = y := ⟨_, rfl⟩
  refine lv_aload_n hx hb dL_law_402 rfl (lv_at hl 3 rfl) ?_
  refine lv_aload_n hx hb dL_law_403 rfl (lv_at hl 4 rfl) ?_
  refine lv_iload hx hb dL_law_404 (lv_at hl 0 rfl) ?_
  refine lv_iconst (v := 1) hx hb dL_law_406 (by decide) ?_
  refine lv_iadd hx hb dL_law_407 ?_
  refine k_sld (i := nI (6 * n) + 1) (v := y1) hx hb hX hbl hbA hW (ix_L 1 (by decide) hn hL) hy1 dL_law_408 ?_
  refine lv_aload_n hx hb dL_law_409 rfl (lv_at hl 4 rfl) ?_
  refine lv_iload hx hb dL_law_410 (lv_at hl 0 rfl) ?_
  refine lv_iconst (v := 2) hx hb dL_law_412 (by decide) ?_
  refine lv_iadd hx hb dL_law_413 ?_
  refine k_sld (i := nI (6 * n) + 2) (v := y2) hx hb hX hbl hbA hW (ix_L 2 (by decide) hn hL) hy2 dL_law_414 ?_
  refine lv_i2l (v := (y2).toInt64) hx hb dL_law_415 rfl ?_
  refine lv_bipush (v := 32) hx hb dL_law_416 (by decide) ?_
  refine lv_lshl (v := (y2).toInt64 <<< ((32 : Int32).toInt64 &&& 63)) hx hb dL_law_418 rfl ?_
  refine lv_aload_n hx hb dL_law_419 rfl (lv_at hl 4 rfl) ?_
  refine lv_iload hx hb dL_law_420 (lv_at hl 0 rfl) ?_
  refine lv_iconst (v := 3) hx hb dL_law_422 (by decide) ?_
  refine lv_iadd hx hb dL_law_423 ?_
  refine k_sld (i := nI (6 * n) + 3) (v := y3) hx hb hX hbl hbA hW (ix_L 3 (by decide) hn hL) hy3 dL_law_424 ?_
  refine lv_i2l (v := (y3).toInt64) hx hb dL_law_425 rfl ?_
  refine lv_ldc2 (v := 4294967295) hx hb hown (hts _ lc_RL_78) dL_law_426 ?_
  refine lv_land hx hb dL_law_429 ?_
  refine lv_lor hx hb dL_law_430 ?_
  refine lv_aload_n hx hb dL_law_431 rfl (lv_at hl 1 rfl) ?_
  refine k_callSH (As := [.ref (E.2.2 0), .int y1, .long ((y2).toInt64 <<< ((32 : Int32).toInt64 &&& 63) ||| ((y3).toInt64 &&& 4294967295)), .ref (E.2.2 45)]) (rest := []) hx hb hml hown hts (c_L_beside l hl0 E S _ z y1 ((y2).toInt64 <<< ((32 : Int32).toInt64 &&& 63) ||| ((y3).toInt64 &&& 4294967295)) hq.1.1) lm_RL_98 ls_L_beside li_L lw_beside (show k_nm yL_beside 4 by decide +kernel) ⟨Nat.le_of_ble_eq_true rfl, Nat.le_of_ble_eq_true rfl⟩ rfl rfl ⟨by show _ ≤ 603072; omega, by show _ ≤ 7202922; omega⟩ hl.1 rfl (Nat.le_of_ble_eq_true rfl) dL_law_432 hW (fun v z9 H locs hp hW => ?_)
  obtain ⟨rfl, rfl⟩ := hp
  have hok := st_beside hq y1 ((y2).toInt64 <<< ((32 : Int32).toInt64 &&& 63) ||| ((y3).toInt64 &&& 4294967295))
  refine W.eq (g2 := F0 m 435 ls [.int (f_L_beside z y1 ((y2).toInt64 <<< ((32 : Int32).toInt64 &&& 63) ||| ((y3).toInt64 &&& 4294967295))).1]) rfl ?_
  refine lv_istore (lv' := [(5, .int (f_L_beside z y1 ((y2).toInt64 <<< ((32 : Int32).toInt64 &&& 63) ||| ((y3).toInt64 &&& 4294967295))).1), (4, .int (nI (6 * n))), (3, .ref (E.2.2 45)), (2, .ref (E.2.2 19)), (1, .ref (E.2.2 0)), (0, .ref b)]) hx hb dL_law_435 hl (by decide) rfl (fun ls hl => ?_)
  refine lv_aload_n hx hb dL_law_437 rfl (lv_at hl 3 rfl) ?_
  refine lv_aload_n hx hb dL_law_438 rfl (lv_at hl 5 rfl) ?_
  refine lv_iload hx hb dL_law_439 (lv_at hl 1 rfl) ?_
  refine lv_iconst (v := 1) hx hb dL_law_441 (by decide) ?_
  refine lv_iadd hx hb dL_law_442 ?_
  refine k_sld (i := nI (6 * n) + 1) (v := y1) hx hb hX hbl hbA hW (ix_L 1 (by decide) hn hL) hy1 dL_law_443 ?_
  refine lv_aload_n hx hb dL_law_444 rfl (lv_at hl 5 rfl) ?_
  refine lv_iload hx hb dL_law_445 (lv_at hl 1 rfl) ?_
  refine lv_iconst (v := 2) hx hb dL_law_447 (by decide) ?_
  refine lv_iadd hx hb dL_law_448 ?_
  refine k_sld (i := nI (6 * n) + 2) (v := y2) hx hb hX hbl hbA hW (ix_L 2 (by decide) hn hL) hy2 dL_law_449 ?_
  refine lv_i2l (v := (y2).toInt64) hx hb dL_law_450 rfl ?_
  refine lv_bipush (v := 32) hx hb dL_law_451 (by decide) ?_
  refine lv_lshl (v := (y2).toInt64 <<< ((32 : Int32).toInt64 &&& 63)) hx hb dL_law_453 rfl ?_
  refine lv_aload_n hx hb dL_law_454 rfl (lv_at hl 5 rfl) ?_
  refine lv_iload hx hb dL_law_455 (lv_at hl 1 rfl) ?_
  refine lv_iconst (v := 3) hx hb dL_law_457 (by decide) ?_
  refine lv_iadd hx hb dL_law_458 ?_
  refine k_sld (i := nI (6 * n) + 3) (v := y3) hx hb hX hbl hbA hW (ix_L 3 (by decide) hn hL) hy3 dL_law_459 ?_
  refine lv_i2l (v := (y3).toInt64) hx hb dL_law_460 rfl ?_
  refine lv_ldc2 (v := 4294967295) hx hb hown (hts _ lc_RL_78) dL_law_461 ?_
  refine lv_land hx hb dL_law_464 ?_
  refine lv_lor hx hb dL_law_465 ?_
  refine k_callV (r := 19) (As := [.int y1, .long ((y2).toInt64 <<< ((32 : Int32).toInt64 &&& 63) ||| ((y3).toInt64 &&& 4294967295))]) (rest := []) hx hb hml hown hts (c_X6_beside l E S _ (f_L_beside z y1 ((y2).toInt64 <<< ((32 : Int32).toInt64 &&& 63) ||| ((y3).toInt64 &&& 4294967295))).2 y1 ((y2).toInt64 <<< ((32 : Int32).toInt64 &&& 63) ||| ((y3).toInt64 &&& 4294967295)) hok.1.1) lm_RL_101 ln_X6_beside le_X6_beside li_X6 lk_X6_beside (show k_nm yX6_beside 2 by decide +kernel) ⟨Nat.le_of_ble_eq_true rfl, Nat.le_of_ble_eq_true rfl⟩ rfl rfl ⟨by show _ ≤ 603072; omega, by show _ ≤ 7202922; omega⟩ hl.1 rfl (Nat.le_of_ble_eq_true rfl) dL_law_466 (by omega) (k_c19 _ _ _) rfl hW (fun v z9 H locs hp hW => ?_)
  obtain ⟨rfl, rfl⟩ := hp
  refine W.eq (g2 := F0 m 469 ls [.long (f_X6_beside (f_L_beside z y1 ((y2).toInt64 <<< ((32 : Int32).toInt64 &&& 63) ||| ((y3).toInt64 &&& 4294967295))).2 y1 ((y2).toInt64 <<< ((32 : Int32).toInt64 &&& 63) ||| ((y3).toInt64 &&& 4294967295))).1]) rfl ?_
  refine lv_lstore (lv' := [(6, .long (f_X6_beside (f_L_beside z y1 ((y2).toInt64 <<< ((32 : Int32).toInt64 &&& 63) ||| ((y3).toInt64 &&& 4294967295))).2 y1 ((y2).toInt64 <<< ((32 : Int32).toInt64 &&& 63) ||| ((y3).toInt64 &&& 4294967295))).1), (5, .int (f_L_beside z y1 ((y2).toInt64 <<< ((32 : Int32).toInt64 &&& 63) ||| ((y3).toInt64 &&& 4294967295))).1), (4, .int (nI (6 * n))), (3, .ref (E.2.2 45)), (2, .ref (E.2.2 19)), (1, .ref (E.2.2 0)), (0, .ref b)]) hx hb dL_law_469 hl (by decide) rfl (fun ls hl => ?_)
  refine lv_aload_n hx hb dL_law_471 rfl (lv_at hl 4 rfl) ?_
  refine k_callV (r := 19) (As := []) (rest := []) hx hb hml hown hts (c_X6_thrown l E S _ (f_X6_beside (f_L_beside z y1 ((y2).toInt64 <<< ((32 : Int32).toInt64 &&& 63) ||| ((y3).toInt64 &&& 4294967295))).2 y1 ((y2).toInt64 <<< ((32 : Int32).toInt64 &&& 63) ||| ((y3).toInt64 &&& 4294967295))).2) lm_RL_86 ln_X6_thrown le_X6_thrown li_X6 lk_X6_thrown (show k_nm yX6_thrown 0 by decide +kernel) ⟨Nat.le_of_ble_eq_true rfl, Nat.le_of_ble_eq_true rfl⟩ rfl rfl ⟨by show _ ≤ 603072; omega, by show _ ≤ 7202922; omega⟩ hl.1 rfl (Nat.le_of_ble_eq_true rfl) dL_law_472 (by omega) (k_c19 _ _ _) rfl hW (fun v z9 H locs hp hW => ?_)
  obtain ⟨rfl, rfl⟩ := hp
  refine W.eq (g2 := F0 m 475 ls [.int (f_X6_thrown (f_X6_beside (f_L_beside z y1 ((y2).toInt64 <<< ((32 : Int32).toInt64 &&& 63) ||| ((y3).toInt64 &&& 4294967295))).2 y1 ((y2).toInt64 <<< ((32 : Int32).toInt64 &&& 63) ||| ((y3).toInt64 &&& 4294967295))).2)]) rfl ?_
  refine lv_iload hx hb dL_law_475 (lv_at hl 1 rfl) ?_
  refine lv_icmp_eq (tgt := 482) hx hb dL_law_477 (by decide) (fun c1 => ?_) (fun c1 => absurd hok.2.1 c1)
  refine lv_iload hx hb dL_law_482 (lv_at hl 1 rfl) ?_
  refine lv_if_ne (tgt := 498) hx hb dL_law_484 (by decide) (fun c2 => ?_) (fun c2 => ?_)
  · refine lv_goto (tgt := 1360) hx hb dL_law_498 (by decide) ?_
    exact K E S _ H locs ls _ _ hok.2.2.2 hW (lv_sub hl [2, 3, 4, 5, 6] rfl) (by omega) (by omega)
  · refine lv_aload_n hx hb dL_law_487 rfl (lv_at hl 3 rfl) ?_
    refine lv_iconst (v := 0) hx hb dL_law_488 (by decide) ?_
    refine k_lald hx hb hW 45 1 (by omega) k_c45 (vp_in_iff.mpr (by decide)) rfl dL_law_489 ?_
    refine lv_lload hx hb dL_law_490 (lv_at hl 0 rfl) ?_
    refine k_lif_eq (tgt := 498) hx hb dL_law_492 dL_law_493 (by decide) (fun c3 => ?_) (fun c3 => absurd (hok.2.2.1 c2) c3)
    refine lv_goto (tgt := 1360) hx hb dL_law_498 (by decide) ?_
    exact K E S _ H locs ls _ _ hok.2.2.2 hW (lv_sub hl [2, 3, 4, 5, 6] rfl) (by omega) (by omega)
set_option maxHeartbeats 4000000 in
set_option maxRecDepth 100000 in
theorem lc_widths {p : Program} {l : Launch} {e : Env} {s : State} {m : MethodId} {below : List Frame} {meth : Method} {c : Code} {b L n : Nat} {xs : Nat → Int32} {Q : State → Prop} (hl0 : l.stackTraces = false) (C0 : lk_A p s m meth c b L xs) (hn : 6 * n + 6 ≤ L) {E : Ev} {S : Nat} {z : Sg} {H : Heap} {locs : List Loc} {ls : Array Slot} {cells slots : Nat} (hq : q_I S z z) (hW : k_W E (46 + 6 * S) z (fun q => s.heap.size ≤ q) s H locs) (hl : lv_has ls 8 (lk_lv E b n)) (hce : cells ≤ 100 + 6 * n) (hsl : slots ≤ 10000 + 347 * n) (K : lk_C p l e s m b below meth c n Q) : W p l e room_1 s m #[Value.ref b] below meth c H locs cells slots Q (F0 m 501 ls []) := by
  obtain ⟨hx, hb, hml, hown, hts, hX, hbl, hL⟩ := C0
  have hbA : ¬ (fun q : Nat => s.heap.size ≤ q) b := Nat.not_le.mpr hbl
  have hl : lv_has ls 8 [(4, .int (nI (6 * n))), (3, .ref (E.2.2 45)), (2, .ref (E.2.2 19)), (1, .ref (E.2.2 0)), (0, .ref b)] := hl
  obtain ⟨y1, hy1⟩ : ∃ y : Int32, xs ((nI (6 * n) + 1).toNatClampNeg) = y := ⟨_, rfl⟩
  obtain ⟨y2, hy2⟩ : ∃ y : Int32, xs ((nI (6 * n) + 2).toNatClampNeg) = y := ⟨_, rfl⟩
  obtain ⟨y3, hy3⟩ : ∃ y : Int32, xs ((nI (6 * n) + 3).toNatClampNeg) = y := ⟨_, rfl⟩
  obtain ⟨y4, hy4⟩ : ∃ y : Int32, xs ((nI (6 * n) + 4).toNatClampNeg) = y := ⟨_, rfl⟩
  refine lv_aload_n hx hb dL_law_501 rfl (lv_at hl 3 rfl) ?_
  refine lv_aload_n hx hb dL_law_502 rfl (lv_at hl 4 rfl) ?_
  refine lv_iload hx hb dL_law_503 (lv_at hl 0 rfl) ?_
  refine lv_iconst (v := 1) hx hb dL_law_505 (by decide) ?_
  refine lv_iadd hx hb dL_law_506 ?_
  refine k_sld (i := nI (6 * n) + 1) (v := y1) hx hb hX hbl hbA hW (ix_L 1 (by decide) hn hL) hy1 dL_law_507 ?_
  refine lv_aload_n hx hb dL_law_508 rfl (lv_at hl 4 rfl) ?_
  refine lv_iload hx hb dL_law_509 (lv_at hl 0 rfl) ?_
  refine lv_iconst (v := 2) hx hb dL_law_511 (by decide) ?_
  refine lv_iadd hx hb dL_law_512 ?_
  refine k_sld (i := nI (6 * n) + 2) (v := y2) hx hb hX hbl hbA hW (ix_L 2 (by decide) hn hL) hy2 dL_law_513 ?_
  refine lv_aload_n hx hb dL_law_514 rfl (lv_at hl 4 rfl) ?_
  refine lv_iload hx hb dL_law_515 (lv_at hl 0 rfl) ?_
  refine lv_iconst (v := 3) hx hb dL_law_517 (by decide) ?_
  refine lv_iadd hx hb dL_law_518 ?_
  refine k_sld (i := nI (6 * n) + 3) (v := y3) hx hb hX hbl hbA hW (ix_L 3 (by decide) hn hL) hy3 dL_law_519 ?_
  refine lv_aload_n hx hb dL_law_520 rfl (lv_at hl 4 rfl) ?_
  refine lv_iload hx hb dL_law_521 (lv_at hl 0 rfl) ?_
  refine lv_iconst (v := 4) hx hb dL_law_523 (by decide) ?_
  refine lv_iadd hx hb dL_law_524 ?_
  refine k_sld (i := nI (6 * n) + 4) (v := y4) hx hb hX hbl hbA hW (ix_L 4 (by decide) hn hL) hy4 dL_law_525 ?_
  refine lv_aload_n hx hb dL_law_526 rfl (lv_at hl 1 rfl) ?_
  refine k_callSH (As := [.ref (E.2.2 0), .int y1, .int y2, .int y3, .int y4, .ref (E.2.2 45)]) (rest := []) hx hb hml hown hts (c_L_widths l hl0 E S _ z y1 y2 y3 y4 hq.1.1) lm_RL_102 ls_L_widths li_L lw_widths (show k_nm yL_widths 6 by decide +kernel) ⟨Nat.le_of_ble_eq_true rfl, Nat.le_of_ble_eq_true rfl⟩ rfl rfl ⟨by show _ ≤ 603072; omega, by show _ ≤ 7202922; omega⟩ hl.1 rfl (Nat.le_of_ble_eq_true rfl) dL_law_527 hW (fun v z9 H locs hp hW => ?_)
  obtain ⟨rfl, rfl⟩ := hp
  have hok := st_widths hq y1 y2 y3 y4
  refine W.eq (g2 := F0 m 530 ls [.int (f_L_widths z y1 y2 y3 y4).1]) rfl ?_
  refine lv_istore (lv' := [(5, .int (f_L_widths z y1 y2 y3 y4).1), (4, .int (nI (6 * n))), (3, .ref (E.2.2 45)), (2, .ref (E.2.2 19)), (1, .ref (E.2.2 0)), (0, .ref b)]) hx hb dL_law_530 hl (by decide) rfl (fun ls hl => ?_)
  refine lv_aload_n hx hb dL_law_532 rfl (lv_at hl 3 rfl) ?_
  refine lv_aload_n hx hb dL_law_533 rfl (lv_at hl 5 rfl) ?_
  refine lv_iload hx hb dL_law_534 (lv_at hl 1 rfl) ?_
  refine lv_iconst (v := 1) hx hb dL_law_536 (by decide) ?_
  refine lv_iadd hx hb dL_law_537 ?_
  refine k_sld (i := nI (6 * n) + 1) (v := y1) hx hb hX hbl hbA hW (ix_L 1 (by decide) hn hL) hy1 dL_law_538 ?_
  refine lv_aload_n hx hb dL_law_539 rfl (lv_at hl 5 rfl) ?_
  refine lv_iload hx hb dL_law_540 (lv_at hl 1 rfl) ?_
  refine lv_iconst (v := 2) hx hb dL_law_542 (by decide) ?_
  refine lv_iadd hx hb dL_law_543 ?_
  refine k_sld (i := nI (6 * n) + 2) (v := y2) hx hb hX hbl hbA hW (ix_L 2 (by decide) hn hL) hy2 dL_law_544 ?_
  refine lv_aload_n hx hb dL_law_545 rfl (lv_at hl 5 rfl) ?_
  refine lv_iload hx hb dL_law_546 (lv_at hl 1 rfl) ?_
  refine lv_iconst (v := 3) hx hb dL_law_548 (by decide) ?_
  refine lv_iadd hx hb dL_law_549 ?_
  refine k_sld (i := nI (6 * n) + 3) (v := y3) hx hb hX hbl hbA hW (ix_L 3 (by decide) hn hL) hy3 dL_law_550 ?_
  refine lv_aload_n hx hb dL_law_551 rfl (lv_at hl 5 rfl) ?_
  refine lv_iload hx hb dL_law_552 (lv_at hl 1 rfl) ?_
  refine lv_iconst (v := 4) hx hb dL_law_554 (by decide) ?_
  refine lv_iadd hx hb dL_law_555 ?_
  refine k_sld (i := nI (6 * n) + 4) (v := y4) hx hb hX hbl hbA hW (ix_L 4 (by decide) hn hL) hy4 dL_law_556 ?_
  refine k_callV (r := 19) (As := [.int y1, .int y2, .int y3, .int y4]) (rest := []) hx hb hml hown hts (c_X6_widths l E S _ (f_L_widths z y1 y2 y3 y4).2 y1 y2 y3 y4 hok.1.1) lm_RL_105 ln_X6_widths le_X6_widths li_X6 lk_X6_widths (show k_nm yX6_widths 4 by decide +kernel) ⟨Nat.le_of_ble_eq_true rfl, Nat.le_of_ble_eq_true rfl⟩ rfl rfl ⟨by show _ ≤ 603072; omega, by show _ ≤ 7202922; omega⟩ hl.1 rfl (Nat.le_of_ble_eq_true rfl) dL_law_557 (by omega) (k_c19 _ _ _) rfl hW (fun v z9 H locs hp hW => ?_)
  obtain ⟨rfl, rfl⟩ := hp
  refine W.eq (g2 := F0 m 560 ls [.int (f_X6_widths (f_L_widths z y1 y2 y3 y4).2 y1 y2 y3 y4).1]) rfl ?_
  refine lv_istore (lv' := [(6, .int (f_X6_widths (f_L_widths z y1 y2 y3 y4).2 y1 y2 y3 y4).1), (5, .int (f_L_widths z y1 y2 y3 y4).1), (4, .int (nI (6 * n))), (3, .ref (E.2.2 45)), (2, .ref (E.2.2 19)), (1, .ref (E.2.2 0)), (0, .ref b)]) hx hb dL_law_560 hl (by decide) rfl (fun ls hl => ?_)
  refine lv_aload_n hx hb dL_law_562 rfl (lv_at hl 4 rfl) ?_
  refine k_callV (r := 19) (As := []) (rest := []) hx hb hml hown hts (c_X6_thrown l E S _ (f_X6_widths (f_L_widths z y1 y2 y3 y4).2 y1 y2 y3 y4).2) lm_RL_86 ln_X6_thrown le_X6_thrown li_X6 lk_X6_thrown (show k_nm yX6_thrown 0 by decide +kernel) ⟨Nat.le_of_ble_eq_true rfl, Nat.le_of_ble_eq_true rfl⟩ rfl rfl ⟨by show _ ≤ 603072; omega, by show _ ≤ 7202922; omega⟩ hl.1 rfl (Nat.le_of_ble_eq_true rfl) dL_law_563 (by omega) (k_c19 _ _ _) rfl hW (fun v z9 H locs hp hW => ?_)
  obtain ⟨rfl, rfl⟩ := hp
  refine W.eq (g2 := F0 m 566 ls [.int (f_X6_thrown (f_X6_widths (f_L_widths z y1 y2 y3 y4).2 y1 y2 y3 y4).2)]) rfl ?_
  refine lv_iload hx hb dL_law_566 (lv_at hl 1 rfl) ?_
  refine lv_icmp_eq (tgt := 573) hx hb dL_law_568 (by decide) (fun c1 => ?_) (fun c1 => absurd hok.2.1 c1)
  refine lv_iload hx hb dL_law_573 (lv_at hl 1 rfl) ?_
  refine lv_if_ne (tgt := 590) hx hb dL_law_575 (by decide) (fun c2 => ?_) (fun c2 => ?_)
  · refine lv_goto (tgt := 1360) hx hb dL_law_590 (by decide) ?_
    exact K E S _ H locs ls _ _ hok.2.2.2 hW (lv_sub hl [2, 3, 4, 5, 6] rfl) (by omega) (by omega)
  · refine lv_aload_n hx hb dL_law_578 rfl (lv_at hl 3 rfl) ?_
    refine lv_iconst (v := 0) hx hb dL_law_579 (by decide) ?_
    refine k_lald hx hb hW 45 1 (by omega) k_c45 (vp_in_iff.mpr (by decide)) rfl dL_law_580 ?_
    refine lv_iload hx hb dL_law_581 (lv_at hl 0 rfl) ?_
    refine lv_i2l (v := ((f_X6_widths (f_L_widths z y1 y2 y3 y4).2 y1 y2 y3 y4).1).toInt64) hx hb dL_law_583 rfl ?_
    refine k_lif_eq (tgt := 590) hx hb dL_law_584 dL_law_585 (by decide) (fun c3 => ?_) (fun c3 => absurd (hok.2.2.1 c2) c3)
    refine lv_goto (tgt := 1360) hx hb dL_law_590 (by decide) ?_
    exact K E S _ H locs ls _ _ hok.2.2.2 hW (lv_sub hl [2, 3, 4, 5, 6] rfl) (by omega) (by omega)
