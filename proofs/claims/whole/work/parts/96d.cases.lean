set_option maxHeartbeats 4000000 in
set_option maxRecDepth 100000 in
theorem lc_section {p : Program} {l : Launch} {e : Env} {s : State} {m : MethodId} {below : List Frame} {meth : Method} {c : Code} {b L n : Nat} {xs : Nat → Int32} {Q : State → Prop} (hl0 : l.stackTraces = false) (C0 : lk_A p s m meth c b L xs) (hn : 6 * n + 6 ≤ L) {E : Ev} {S : Nat} {z : Sg} {H : Heap} {locs : List Loc} {ls : Array Slot} {cells slots : Nat} (hq : q_I S z z) (hW : k_W E (46 + 6 * S) z (fun q => s.heap.size ≤ q) s H locs) (hl : lv_has ls 8 (lk_lv E b n)) (hce : cells ≤ 100 + 6 * n) (hsl : slots ≤ 10000 + 347 * n) (K : lk_C p l e s m b below meth c n Q) : W p l e room_1 s m #[Value.ref b] below meth c H locs cells slots Q (F0 m 120 ls []) := by
  obtain ⟨hx, hb, hml, hown, hts, hX, hbl, hL⟩ := C0
  have hbA : ¬ (fun q : Nat => s.heap.size ≤ q) b := Nat.not_le.mpr hbl
  have hl : lv_has ls 8 [(4, .int (nI (6 * n))), (3, .ref (E.2.2 45)), (2, .ref (E.2.2 19)), (1, .ref (E.2.2 0)), (0, .ref b)] := hl
  obtain ⟨y1, hy1⟩ : ∃ y : Int32, xs ((nI (6 * n) + 1).toNatClampNeg) = y := ⟨_, rfl⟩
  obtain ⟨y2, hy2⟩ : ∃ y : Int32, xs ((nI (6 * n) + 2).toNatClampNeg) = y := ⟨_, rfl⟩
  obtain ⟨y3, hy3⟩ : ∃ y : Int32, xs ((nI (6 * n) + 3).toNatClampNeg) = y := ⟨_, rfl⟩
  obtain ⟨y4, hy4⟩ : ∃ y : Int32, xs ((nI (6 * n) + 4).toNatClampNeg) = y := ⟨_, rfl⟩
  obtain ⟨y5, hy5⟩ : ∃ y : Int32, xs ((nI (6 * n) + 5).toNatClampNeg) = y := ⟨_, rfl⟩
  refine lv_aload_n hx hb dL_law_120 rfl (lv_at hl 3 rfl) ?_
  refine lv_aload_n hx hb dL_law_121 rfl (lv_at hl 4 rfl) ?_
  refine lv_iload hx hb dL_law_122 (lv_at hl 0 rfl) ?_
  refine lv_iconst (v := 1) hx hb dL_law_124 (by decide) ?_
  refine lv_iadd hx hb dL_law_125 ?_
  refine k_sld (i := nI (6 * n) + 1) (v := y1) hx hb hX hbl hbA hW (ix_L 1 (by decide) hn hL) hy1 dL_law_126 ?_
  refine lv_aload_n hx hb dL_law_127 rfl (lv_at hl 4 rfl) ?_
  refine lv_iload hx hb dL_law_128 (lv_at hl 0 rfl) ?_
  refine lv_iconst (v := 2) hx hb dL_law_130 (by decide) ?_
  refine lv_iadd hx hb dL_law_131 ?_
  refine k_sld (i := nI (6 * n) + 2) (v := y2) hx hb hX hbl hbA hW (ix_L 2 (by decide) hn hL) hy2 dL_law_132 ?_
  refine lv_i2l (v := (y2).toInt64) hx hb dL_law_133 rfl ?_
  refine lv_bipush (v := 32) hx hb dL_law_134 (by decide) ?_
  refine lv_lshl (v := (y2).toInt64 <<< ((32 : Int32).toInt64 &&& 63)) hx hb dL_law_136 rfl ?_
  refine lv_aload_n hx hb dL_law_137 rfl (lv_at hl 4 rfl) ?_
  refine lv_iload hx hb dL_law_138 (lv_at hl 0 rfl) ?_
  refine lv_iconst (v := 3) hx hb dL_law_140 (by decide) ?_
  refine lv_iadd hx hb dL_law_141 ?_
  refine k_sld (i := nI (6 * n) + 3) (v := y3) hx hb hX hbl hbA hW (ix_L 3 (by decide) hn hL) hy3 dL_law_142 ?_
  refine lv_i2l (v := (y3).toInt64) hx hb dL_law_143 rfl ?_
  refine lv_ldc2 (v := 4294967295) hx hb hown (hts _ lc_RL_78) dL_law_144 ?_
  refine lv_land hx hb dL_law_147 ?_
  refine lv_lor hx hb dL_law_148 ?_
  refine lv_aload_n hx hb dL_law_149 rfl (lv_at hl 4 rfl) ?_
  refine lv_iload hx hb dL_law_150 (lv_at hl 0 rfl) ?_
  refine lv_iconst (v := 4) hx hb dL_law_152 (by decide) ?_
  refine lv_iadd hx hb dL_law_153 ?_
  refine k_sld (i := nI (6 * n) + 4) (v := y4) hx hb hX hbl hbA hW (ix_L 4 (by decide) hn hL) hy4 dL_law_154 ?_
  refine lv_i2l (v := (y4).toInt64) hx hb dL_law_155 rfl ?_
  refine lv_bipush (v := 32) hx hb dL_law_156 (by decide) ?_
  refine lv_lshl (v := (y4).toInt64 <<< ((32 : Int32).toInt64 &&& 63)) hx hb dL_law_158 rfl ?_
  refine lv_aload_n hx hb dL_law_159 rfl (lv_at hl 4 rfl) ?_
  refine lv_iload hx hb dL_law_160 (lv_at hl 0 rfl) ?_
  refine lv_iconst (v := 5) hx hb dL_law_162 (by decide) ?_
  refine lv_iadd hx hb dL_law_163 ?_
  refine k_sld (i := nI (6 * n) + 5) (v := y5) hx hb hX hbl hbA hW (ix_L 5 (by decide) hn hL) hy5 dL_law_164 ?_
  refine lv_i2l (v := (y5).toInt64) hx hb dL_law_165 rfl ?_
  refine lv_ldc2 (v := 4294967295) hx hb hown (hts _ lc_RL_78) dL_law_166 ?_
  refine lv_land hx hb dL_law_169 ?_
  refine lv_lor hx hb dL_law_170 ?_
  refine lv_aload_n hx hb dL_law_171 rfl (lv_at hl 1 rfl) ?_
  refine k_goLS (a := [.ref (E.2.2 0), .int y1, .long ((y2).toInt64 <<< ((32 : Int32).toInt64 &&& 63) ||| ((y3).toInt64 &&& 4294967295)), .long ((y4).toInt64 <<< ((32 : Int32).toInt64 &&& 63) ||| ((y5).toInt64 &&& 4294967295)), .ref (E.2.2 45)].toArray) (rest := []) (vx_runSX (hh := [(0, 13, 16, 13), (0, 13, 20, 15)]) ⟨hx, hb, hml, hown, hts⟩ (c_L_section l hl0 E S _ z y1 ((y2).toInt64 <<< ((32 : Int32).toInt64 &&& 63) ||| ((y3).toInt64 &&& 4294967295)) ((y4).toInt64 <<< ((32 : Int32).toInt64 &&& 63) ||| ((y5).toInt64 &&& 4294967295)) hq.1.1 hq.1.2.1) (vx_cwSW 5 hts (k_gSW lm_RL_80 ls_L_section li_L lw_section) rfl rfl rfl (show k_nm yL_section 5 by decide +kernel) ⟨Nat.le_of_ble_eq_true rfl, Nat.le_of_ble_eq_true rfl⟩) (k_preS hW) rfl rfl hl.1 rfl (lv_room (Nat.le_of_ble_eq_true rfl)) dL_law_172 ⟨by show _ ≤ 603072; omega, by show _ ≤ 7202922; omega⟩) hW (fun E2 H locs h0 hx2 hW => ?_) (fun H locs h0 hz hW => ?_)
  · have hok := (st_section hq y1 ((y2).toInt64 <<< ((32 : Int32).toInt64 &&& 63) ||| ((y3).toInt64 &&& 4294967295)) ((y4).toInt64 <<< ((32 : Int32).toInt64 &&& 63) ||| ((y5).toInt64 &&& 4294967295))).resolve_right (fun x => x.1 h0)
    have hl : lv_has ls 8 [(4, .int (nI (6 * n))), (3, .ref (E2.2.2 45)), (2, .ref (E2.2.2 19)), (1, .ref (E2.2.2 0)), (0, .ref b)] := by
      rw [hx2.2.2 45 (by omega), hx2.2.2 19 (by omega), hx2.2.2 0 (by omega)]; exact hl
    have hJ1 : k_J S (f_L_section S z y1 ((y2).toInt64 <<< ((32 : Int32).toInt64 &&& 63) ||| ((y3).toInt64 &&& 4294967295)) ((y4).toInt64 <<< ((32 : Int32).toInt64 &&& 63) ||| ((y5).toInt64 &&& 4294967295))).2 := hok.2.1.1
    refine W.eq (g2 := F0 m 175 ls [.int (f_L_section S z y1 ((y2).toInt64 <<< ((32 : Int32).toInt64 &&& 63) ||| ((y3).toInt64 &&& 4294967295)) ((y4).toInt64 <<< ((32 : Int32).toInt64 &&& 63) ||| ((y5).toInt64 &&& 4294967295))).1]) rfl ?_
    refine lv_istore (lv' := [(5, .int (f_L_section S z y1 ((y2).toInt64 <<< ((32 : Int32).toInt64 &&& 63) ||| ((y3).toInt64 &&& 4294967295)) ((y4).toInt64 <<< ((32 : Int32).toInt64 &&& 63) ||| ((y5).toInt64 &&& 4294967295))).1), (4, .int (nI (6 * n))), (3, .ref (E2.2.2 45)), (2, .ref (E2.2.2 19)), (1, .ref (E2.2.2 0)), (0, .ref b)]) hx hb dL_law_175 hl (by decide) rfl (fun ls hl => ?_)
    refine lv_aload_n hx hb dL_law_177 rfl (lv_at hl 3 rfl) ?_
    refine lv_aload_n hx hb dL_law_178 rfl (lv_at hl 5 rfl) ?_
    refine lv_iload hx hb dL_law_179 (lv_at hl 1 rfl) ?_
    refine lv_iconst (v := 1) hx hb dL_law_181 (by decide) ?_
    refine lv_iadd hx hb dL_law_182 ?_
    refine k_sld (i := nI (6 * n) + 1) (v := y1) hx hb hX hbl hbA hW (ix_L 1 (by decide) hn hL) hy1 dL_law_183 ?_
    refine lv_aload_n hx hb dL_law_184 rfl (lv_at hl 5 rfl) ?_
    refine lv_iload hx hb dL_law_185 (lv_at hl 1 rfl) ?_
    refine lv_iconst (v := 2) hx hb dL_law_187 (by decide) ?_
    refine lv_iadd hx hb dL_law_188 ?_
    refine k_sld (i := nI (6 * n) + 2) (v := y2) hx hb hX hbl hbA hW (ix_L 2 (by decide) hn hL) hy2 dL_law_189 ?_
    refine lv_i2l (v := (y2).toInt64) hx hb dL_law_190 rfl ?_
    refine lv_bipush (v := 32) hx hb dL_law_191 (by decide) ?_
    refine lv_lshl (v := (y2).toInt64 <<< ((32 : Int32).toInt64 &&& 63)) hx hb dL_law_193 rfl ?_
    refine lv_aload_n hx hb dL_law_194 rfl (lv_at hl 5 rfl) ?_
    refine lv_iload hx hb dL_law_195 (lv_at hl 1 rfl) ?_
    refine lv_iconst (v := 3) hx hb dL_law_197 (by decide) ?_
    refine lv_iadd hx hb dL_law_198 ?_
    refine k_sld (i := nI (6 * n) + 3) (v := y3) hx hb hX hbl hbA hW (ix_L 3 (by decide) hn hL) hy3 dL_law_199 ?_
    refine lv_i2l (v := (y3).toInt64) hx hb dL_law_200 rfl ?_
    refine lv_ldc2 (v := 4294967295) hx hb hown (hts _ lc_RL_78) dL_law_201 ?_
    refine lv_land hx hb dL_law_204 ?_
    refine lv_lor hx hb dL_law_205 ?_
    refine lv_aload_n hx hb dL_law_206 rfl (lv_at hl 5 rfl) ?_
    refine lv_iload hx hb dL_law_207 (lv_at hl 1 rfl) ?_
    refine lv_iconst (v := 4) hx hb dL_law_209 (by decide) ?_
    refine lv_iadd hx hb dL_law_210 ?_
    refine k_sld (i := nI (6 * n) + 4) (v := y4) hx hb hX hbl hbA hW (ix_L 4 (by decide) hn hL) hy4 dL_law_211 ?_
    refine lv_i2l (v := (y4).toInt64) hx hb dL_law_212 rfl ?_
    refine lv_bipush (v := 32) hx hb dL_law_213 (by decide) ?_
    refine lv_lshl (v := (y4).toInt64 <<< ((32 : Int32).toInt64 &&& 63)) hx hb dL_law_215 rfl ?_
    refine lv_aload_n hx hb dL_law_216 rfl (lv_at hl 5 rfl) ?_
    refine lv_iload hx hb dL_law_217 (lv_at hl 1 rfl) ?_
    refine lv_iconst (v := 5) hx hb dL_law_219 (by decide) ?_
    refine lv_iadd hx hb dL_law_220 ?_
    refine k_sld (i := nI (6 * n) + 5) (v := y5) hx hb hX hbl hbA hW (ix_L 5 (by decide) hn hL) hy5 dL_law_221 ?_
    refine lv_i2l (v := (y5).toInt64) hx hb dL_law_222 rfl ?_
    refine lv_ldc2 (v := 4294967295) hx hb hown (hts _ lc_RL_78) dL_law_223 ?_
    refine lv_land hx hb dL_law_226 ?_
    refine lv_lor hx hb dL_law_227 ?_
    refine k_callVF (n0 := 46 + 6 * S) (r := 19) (As := [.int y1, .long ((y2).toInt64 <<< ((32 : Int32).toInt64 &&& 63) ||| ((y3).toInt64 &&& 4294967295)), .long ((y4).toInt64 <<< ((32 : Int32).toInt64 &&& 63) ||| ((y5).toInt64 &&& 4294967295))]) (rest := []) hx hb hml hown hts (c_X6_section l E2 S _ (f_L_section S z y1 ((y2).toInt64 <<< ((32 : Int32).toInt64 &&& 63) ||| ((y3).toInt64 &&& 4294967295)) ((y4).toInt64 <<< ((32 : Int32).toInt64 &&& 63) ||| ((y5).toInt64 &&& 4294967295))).2 y1 ((y2).toInt64 <<< ((32 : Int32).toInt64 &&& 63) ||| ((y3).toInt64 &&& 4294967295)) ((y4).toInt64 <<< ((32 : Int32).toInt64 &&& 63) ||| ((y5).toInt64 &&& 4294967295)) hJ1) lm_RL_85 ln_X6_section le_X6_section li_X6 lk_X6_section (show k_nm yX6_section 3 by decide +kernel) ⟨Nat.le_of_ble_eq_true rfl, Nat.le_of_ble_eq_true rfl⟩ rfl rfl ⟨by show _ ≤ 603072; omega, by show _ ≤ 7202922; omega⟩ hl.1 rfl (Nat.le_of_ble_eq_true rfl) dL_law_228 (by omega) (by omega) (k_c19 _ _ _) rfl (fun v z9 hp q hq9 => by rw [hp.2]; exact ⟨((cl5_section _ _ _ _).1.1 q (by omega)).1, ((cl5_section _ _ _ _).1.1 q (by omega)).2, by rw [(cl5_section _ _ _ _).1.2]⟩) hW (fun v z9 H locs hp hW => ?_)
    obtain ⟨rfl, rfl⟩ := hp
    refine W.eq (g2 := F0 m 231 ls [.int (f_X6_section (f_L_section S z y1 ((y2).toInt64 <<< ((32 : Int32).toInt64 &&& 63) ||| ((y3).toInt64 &&& 4294967295)) ((y4).toInt64 <<< ((32 : Int32).toInt64 &&& 63) ||| ((y5).toInt64 &&& 4294967295))).2 y1 ((y2).toInt64 <<< ((32 : Int32).toInt64 &&& 63) ||| ((y3).toInt64 &&& 4294967295)) ((y4).toInt64 <<< ((32 : Int32).toInt64 &&& 63) ||| ((y5).toInt64 &&& 4294967295))).1]) rfl ?_
    refine lv_istore (lv' := [(6, .int (f_X6_section (f_L_section S z y1 ((y2).toInt64 <<< ((32 : Int32).toInt64 &&& 63) ||| ((y3).toInt64 &&& 4294967295)) ((y4).toInt64 <<< ((32 : Int32).toInt64 &&& 63) ||| ((y5).toInt64 &&& 4294967295))).2 y1 ((y2).toInt64 <<< ((32 : Int32).toInt64 &&& 63) ||| ((y3).toInt64 &&& 4294967295)) ((y4).toInt64 <<< ((32 : Int32).toInt64 &&& 63) ||| ((y5).toInt64 &&& 4294967295))).1), (5, .int (f_L_section S z y1 ((y2).toInt64 <<< ((32 : Int32).toInt64 &&& 63) ||| ((y3).toInt64 &&& 4294967295)) ((y4).toInt64 <<< ((32 : Int32).toInt64 &&& 63) ||| ((y5).toInt64 &&& 4294967295))).1), (4, .int (nI (6 * n))), (3, .ref (E2.2.2 45)), (2, .ref (E2.2.2 19)), (1, .ref (E2.2.2 0)), (0, .ref b)]) hx hb dL_law_231 hl (by decide) rfl (fun ls hl => ?_)
    refine lv_aload_n hx hb dL_law_233 rfl (lv_at hl 4 rfl) ?_
    refine k_callV (r := 19) (As := []) (rest := []) hx hb hml hown hts (c_X6_thrown l E2 (S + 1) _ (f_X6_section (f_L_section S z y1 ((y2).toInt64 <<< ((32 : Int32).toInt64 &&& 63) ||| ((y3).toInt64 &&& 4294967295)) ((y4).toInt64 <<< ((32 : Int32).toInt64 &&& 63) ||| ((y5).toInt64 &&& 4294967295))).2 y1 ((y2).toInt64 <<< ((32 : Int32).toInt64 &&& 63) ||| ((y3).toInt64 &&& 4294967295)) ((y4).toInt64 <<< ((32 : Int32).toInt64 &&& 63) ||| ((y5).toInt64 &&& 4294967295))).2) lm_RL_86 ln_X6_thrown le_X6_thrown li_X6 lk_X6_thrown (show k_nm yX6_thrown 0 by decide +kernel) ⟨Nat.le_of_ble_eq_true rfl, Nat.le_of_ble_eq_true rfl⟩ rfl rfl ⟨by show _ ≤ 603072; omega, by show _ ≤ 7202922; omega⟩ hl.1 rfl (Nat.le_of_ble_eq_true rfl) dL_law_234 (by omega) (k_c19 _ _ _) rfl hW (fun v z9 H locs hp hW => ?_)
    obtain ⟨rfl, rfl⟩ := hp
    refine W.eq (g2 := F0 m 237 ls [.int (f_X6_thrown (f_X6_section (f_L_section S z y1 ((y2).toInt64 <<< ((32 : Int32).toInt64 &&& 63) ||| ((y3).toInt64 &&& 4294967295)) ((y4).toInt64 <<< ((32 : Int32).toInt64 &&& 63) ||| ((y5).toInt64 &&& 4294967295))).2 y1 ((y2).toInt64 <<< ((32 : Int32).toInt64 &&& 63) ||| ((y3).toInt64 &&& 4294967295)) ((y4).toInt64 <<< ((32 : Int32).toInt64 &&& 63) ||| ((y5).toInt64 &&& 4294967295))).2)]) rfl ?_
    refine lv_iload hx hb dL_law_237 (lv_at hl 1 rfl) ?_
    refine lv_icmp_eq (tgt := 244) hx hb dL_law_239 (by decide) (fun c1 => ?_) (fun c1 => absurd hok.2.2.1 c1)
    refine lv_iload hx hb dL_law_244 (lv_at hl 1 rfl) ?_
    refine lv_if_ne (tgt := 261) hx hb dL_law_246 (by decide) (fun c2 => ?_) (fun c2 => ?_)
    · refine lv_goto (tgt := 1360) hx hb dL_law_261 (by decide) ?_
      exact K E2 (S + 1) _ H locs ls _ _ hok.2.2.2.2 hW (lv_sub hl [2, 3, 4, 5, 6] rfl) (by omega) (by omega)
    · refine lv_aload_n hx hb dL_law_249 rfl (lv_at hl 3 rfl) ?_
      refine lv_iconst (v := 0) hx hb dL_law_250 (by decide) ?_
      refine k_lald hx hb hW 45 1 (by omega) k_c45 (vp_in_iff.mpr (by decide)) rfl dL_law_251 ?_
      refine lv_iload hx hb dL_law_252 (lv_at hl 0 rfl) ?_
      refine lv_i2l (v := ((f_X6_section (f_L_section S z y1 ((y2).toInt64 <<< ((32 : Int32).toInt64 &&& 63) ||| ((y3).toInt64 &&& 4294967295)) ((y4).toInt64 <<< ((32 : Int32).toInt64 &&& 63) ||| ((y5).toInt64 &&& 4294967295))).2 y1 ((y2).toInt64 <<< ((32 : Int32).toInt64 &&& 63) ||| ((y3).toInt64 &&& 4294967295)) ((y4).toInt64 <<< ((32 : Int32).toInt64 &&& 63) ||| ((y5).toInt64 &&& 4294967295))).1).toInt64) hx hb dL_law_254 rfl ?_
      refine k_lif_eq (tgt := 261) hx hb dL_law_255 dL_law_256 (by decide) (fun c3 => ?_) (fun c3 => absurd (hok.2.2.2.1) c3)
      refine lv_goto (tgt := 1360) hx hb dL_law_261 (by decide) ?_
      exact K E2 (S + 1) _ H locs ls _ _ hok.2.2.2.2 hW (lv_sub hl [2, 3, 4, 5, 6] rfl) (by omega) (by omega)
  · have hok := (st_section hq y1 ((y2).toInt64 <<< ((32 : Int32).toInt64 &&& 63) ||| ((y3).toInt64 &&& 4294967295)) ((y4).toInt64 <<< ((32 : Int32).toInt64 &&& 63) ||| ((y5).toInt64 &&& 4294967295))).resolve_left (fun x => h0 x.1)
    refine W.eq (g2 := F0 m 175 ls [.int (f_L_section S z y1 ((y2).toInt64 <<< ((32 : Int32).toInt64 &&& 63) ||| ((y3).toInt64 &&& 4294967295)) ((y4).toInt64 <<< ((32 : Int32).toInt64 &&& 63) ||| ((y5).toInt64 &&& 4294967295))).1]) rfl ?_
    refine lv_istore (lv' := [(5, .int (f_L_section S z y1 ((y2).toInt64 <<< ((32 : Int32).toInt64 &&& 63) ||| ((y3).toInt64 &&& 4294967295)) ((y4).toInt64 <<< ((32 : Int32).toInt64 &&& 63) ||| ((y5).toInt64 &&& 4294967295))).1), (4, .int (nI (6 * n))), (3, .ref (E.2.2 45)), (2, .ref (E.2.2 19)), (1, .ref (E.2.2 0)), (0, .ref b)]) hx hb dL_law_175 hl (by decide) rfl (fun ls hl => ?_)
    refine lv_aload_n hx hb dL_law_177 rfl (lv_at hl 3 rfl) ?_
    refine lv_aload_n hx hb dL_law_178 rfl (lv_at hl 5 rfl) ?_
    refine lv_iload hx hb dL_law_179 (lv_at hl 1 rfl) ?_
    refine lv_iconst (v := 1) hx hb dL_law_181 (by decide) ?_
    refine lv_iadd hx hb dL_law_182 ?_
    refine k_sld (i := nI (6 * n) + 1) (v := y1) hx hb hX hbl hbA hW (ix_L 1 (by decide) hn hL) hy1 dL_law_183 ?_
    refine lv_aload_n hx hb dL_law_184 rfl (lv_at hl 5 rfl) ?_
    refine lv_iload hx hb dL_law_185 (lv_at hl 1 rfl) ?_
    refine lv_iconst (v := 2) hx hb dL_law_187 (by decide) ?_
    refine lv_iadd hx hb dL_law_188 ?_
    refine k_sld (i := nI (6 * n) + 2) (v := y2) hx hb hX hbl hbA hW (ix_L 2 (by decide) hn hL) hy2 dL_law_189 ?_
    refine lv_i2l (v := (y2).toInt64) hx hb dL_law_190 rfl ?_
    refine lv_bipush (v := 32) hx hb dL_law_191 (by decide) ?_
    refine lv_lshl (v := (y2).toInt64 <<< ((32 : Int32).toInt64 &&& 63)) hx hb dL_law_193 rfl ?_
    refine lv_aload_n hx hb dL_law_194 rfl (lv_at hl 5 rfl) ?_
    refine lv_iload hx hb dL_law_195 (lv_at hl 1 rfl) ?_
    refine lv_iconst (v := 3) hx hb dL_law_197 (by decide) ?_
    refine lv_iadd hx hb dL_law_198 ?_
    refine k_sld (i := nI (6 * n) + 3) (v := y3) hx hb hX hbl hbA hW (ix_L 3 (by decide) hn hL) hy3 dL_law_199 ?_
    refine lv_i2l (v := (y3).toInt64) hx hb dL_law_200 rfl ?_
    refine lv_ldc2 (v := 4294967295) hx hb hown (hts _ lc_RL_78) dL_law_201 ?_
    refine lv_land hx hb dL_law_204 ?_
    refine lv_lor hx hb dL_law_205 ?_
    refine lv_aload_n hx hb dL_law_206 rfl (lv_at hl 5 rfl) ?_
    refine lv_iload hx hb dL_law_207 (lv_at hl 1 rfl) ?_
    refine lv_iconst (v := 4) hx hb dL_law_209 (by decide) ?_
    refine lv_iadd hx hb dL_law_210 ?_
    refine k_sld (i := nI (6 * n) + 4) (v := y4) hx hb hX hbl hbA hW (ix_L 4 (by decide) hn hL) hy4 dL_law_211 ?_
    refine lv_i2l (v := (y4).toInt64) hx hb dL_law_212 rfl ?_
    refine lv_bipush (v := 32) hx hb dL_law_213 (by decide) ?_
    refine lv_lshl (v := (y4).toInt64 <<< ((32 : Int32).toInt64 &&& 63)) hx hb dL_law_215 rfl ?_
    refine lv_aload_n hx hb dL_law_216 rfl (lv_at hl 5 rfl) ?_
    refine lv_iload hx hb dL_law_217 (lv_at hl 1 rfl) ?_
    refine lv_iconst (v := 5) hx hb dL_law_219 (by decide) ?_
    refine lv_iadd hx hb dL_law_220 ?_
    refine k_sld (i := nI (6 * n) + 5) (v := y5) hx hb hX hbl hbA hW (ix_L 5 (by decide) hn hL) hy5 dL_law_221 ?_
    refine lv_i2l (v := (y5).toInt64) hx hb dL_law_222 rfl ?_
    refine lv_ldc2 (v := 4294967295) hx hb hown (hts _ lc_RL_78) dL_law_223 ?_
    refine lv_land hx hb dL_law_226 ?_
    refine lv_lor hx hb dL_law_227 ?_
    refine k_callV (r := 19) (As := [.int y1, .long ((y2).toInt64 <<< ((32 : Int32).toInt64 &&& 63) ||| ((y3).toInt64 &&& 4294967295)), .long ((y4).toInt64 <<< ((32 : Int32).toInt64 &&& 63) ||| ((y5).toInt64 &&& 4294967295))]) (rest := []) hx hb hml hown hts (c_X6_section l E S _ z y1 ((y2).toInt64 <<< ((32 : Int32).toInt64 &&& 63) ||| ((y3).toInt64 &&& 4294967295)) ((y4).toInt64 <<< ((32 : Int32).toInt64 &&& 63) ||| ((y5).toInt64 &&& 4294967295)) hok.2.1.1) lm_RL_85 ln_X6_section le_X6_section li_X6 lk_X6_section (show k_nm yX6_section 3 by decide +kernel) ⟨Nat.le_of_ble_eq_true rfl, Nat.le_of_ble_eq_true rfl⟩ rfl rfl ⟨by show _ ≤ 603072; omega, by show _ ≤ 7202922; omega⟩ hl.1 rfl (Nat.le_of_ble_eq_true rfl) dL_law_228 (by omega) (k_c19 _ _ _) rfl hW (fun v z9 H locs hp hW => ?_)
    obtain ⟨rfl, rfl⟩ := hp
    refine W.eq (g2 := F0 m 231 ls [.int (f_X6_section z y1 ((y2).toInt64 <<< ((32 : Int32).toInt64 &&& 63) ||| ((y3).toInt64 &&& 4294967295)) ((y4).toInt64 <<< ((32 : Int32).toInt64 &&& 63) ||| ((y5).toInt64 &&& 4294967295))).1]) rfl ?_
    refine lv_istore (lv' := [(6, .int (f_X6_section z y1 ((y2).toInt64 <<< ((32 : Int32).toInt64 &&& 63) ||| ((y3).toInt64 &&& 4294967295)) ((y4).toInt64 <<< ((32 : Int32).toInt64 &&& 63) ||| ((y5).toInt64 &&& 4294967295))).1), (5, .int (f_L_section S z y1 ((y2).toInt64 <<< ((32 : Int32).toInt64 &&& 63) ||| ((y3).toInt64 &&& 4294967295)) ((y4).toInt64 <<< ((32 : Int32).toInt64 &&& 63) ||| ((y5).toInt64 &&& 4294967295))).1), (4, .int (nI (6 * n))), (3, .ref (E.2.2 45)), (2, .ref (E.2.2 19)), (1, .ref (E.2.2 0)), (0, .ref b)]) hx hb dL_law_231 hl (by decide) rfl (fun ls hl => ?_)
    refine lv_aload_n hx hb dL_law_233 rfl (lv_at hl 4 rfl) ?_
    refine k_callV (r := 19) (As := []) (rest := []) hx hb hml hown hts (c_X6_thrown l E S _ (f_X6_section z y1 ((y2).toInt64 <<< ((32 : Int32).toInt64 &&& 63) ||| ((y3).toInt64 &&& 4294967295)) ((y4).toInt64 <<< ((32 : Int32).toInt64 &&& 63) ||| ((y5).toInt64 &&& 4294967295))).2) lm_RL_86 ln_X6_thrown le_X6_thrown li_X6 lk_X6_thrown (show k_nm yX6_thrown 0 by decide +kernel) ⟨Nat.le_of_ble_eq_true rfl, Nat.le_of_ble_eq_true rfl⟩ rfl rfl ⟨by show _ ≤ 603072; omega, by show _ ≤ 7202922; omega⟩ hl.1 rfl (Nat.le_of_ble_eq_true rfl) dL_law_234 (by omega) (k_c19 _ _ _) rfl hW (fun v z9 H locs hp hW => ?_)
    obtain ⟨rfl, rfl⟩ := hp
    refine W.eq (g2 := F0 m 237 ls [.int (f_X6_thrown (f_X6_section z y1 ((y2).toInt64 <<< ((32 : Int32).toInt64 &&& 63) ||| ((y3).toInt64 &&& 4294967295)) ((y4).toInt64 <<< ((32 : Int32).toInt64 &&& 63) ||| ((y5).toInt64 &&& 4294967295))).2)]) rfl ?_
    refine lv_iload hx hb dL_law_237 (lv_at hl 1 rfl) ?_
    refine lv_icmp_eq (tgt := 244) hx hb dL_law_239 (by decide) (fun c1 => ?_) (fun c1 => absurd hok.2.2.1 c1)
    refine lv_iload hx hb dL_law_244 (lv_at hl 1 rfl) ?_
    refine lv_if_ne (tgt := 261) hx hb dL_law_246 (by decide) (fun c2 => ?_) (fun c2 => ?_)
    · refine lv_goto (tgt := 1360) hx hb dL_law_261 (by decide) ?_
      exact K E S _ H locs ls _ _ hok.2.2.2 hW (lv_sub hl [2, 3, 4, 5, 6] rfl) (by omega) (by omega)
    · exact absurd c2 h0
set_option maxHeartbeats 4000000 in
set_option maxRecDepth 100000 in
theorem lc_free {p : Program} {l : Launch} {e : Env} {s : State} {m : MethodId} {below : List Frame} {meth : Method} {c : Code} {b L n : Nat} {xs : Nat → Int32} {Q : State → Prop} (hl0 : l.stackTraces = false) (C0 : lk_A p s m meth c b L xs) (hn : 6 * n + 6 ≤ L) {E : Ev} {S : Nat} {z : Sg} {H : Heap} {locs : List Loc} {ls : Array Slot} {cells slots : Nat} (hq : q_I S z z) (hW : k_W E (46 + 6 * S) z (fun q => s.heap.size ≤ q) s H locs) (hl : lv_has ls 8 (lk_lv E b n)) (hce : cells ≤ 100 + 6 * n) (hsl : slots ≤ 10000 + 347 * n) (K : lk_C p l e s m b below meth c n Q) : W p l e room_1 s m #[Value.ref b] below meth c H locs cells slots Q (F0 m 1180 ls []) := by
  obtain ⟨hx, hb, hml, hown, hts, hX, hbl, hL⟩ := C0
  have hbA : ¬ (fun q : Nat => s.heap.size ≤ q) b := Nat.not_le.mpr hbl
  have hl : lv_has ls 8 [(4, .int (nI (6 * n))), (3, .ref (E.2.2 45)), (2, .ref (E.2.2 19)), (1, .ref (E.2.2 0)), (0, .ref b)] := hl
  obtain ⟨y1, hy1⟩ : ∃ y : Int32, xs ((nI (6 * n) + 1).toNatClampNeg) = y := ⟨_, rfl⟩
  refine lv_aload_n hx hb dL_law_1180 rfl (lv_at hl 3 rfl) ?_
  refine lv_aload_n hx hb dL_law_1181 rfl (lv_at hl 4 rfl) ?_
  refine lv_iload hx hb dL_law_1182 (lv_at hl 0 rfl) ?_
  refine lv_iconst (v := 1) hx hb dL_law_1184 (by decide) ?_
  refine lv_iadd hx hb dL_law_1185 ?_
  refine k_sld (i := nI (6 * n) + 1) (v := y1) hx hb hX hbl hbA hW (ix_L 1 (by decide) hn hL) hy1 dL_law_1186 ?_
  refine lv_aload_n hx hb dL_law_1187 rfl (lv_at hl 1 rfl) ?_
  refine k_callSH (As := [.ref (E.2.2 0), .int y1, .ref (E.2.2 45)]) (rest := []) hx hb hml hown hts (c_L_free l hl0 E S _ z y1 hq.1.1) lm_RL_135 ls_L_free li_L lw_free (show k_nm yL_free 3 by decide +kernel) ⟨Nat.le_of_ble_eq_true rfl, Nat.le_of_ble_eq_true rfl⟩ rfl rfl ⟨by show _ ≤ 603072; omega, by show _ ≤ 7202922; omega⟩ hl.1 rfl (Nat.le_of_ble_eq_true rfl) dL_law_1188 hW (fun v z9 H locs hp hW => ?_)
  obtain ⟨rfl, rfl⟩ := hp
  have hok := st_free hq y1
  refine W.eq (g2 := F0 m 1191 ls [.int (f_L_free z y1).1]) rfl ?_
  refine lv_istore (lv' := [(5, .int (f_L_free z y1).1), (4, .int (nI (6 * n))), (3, .ref (E.2.2 45)), (2, .ref (E.2.2 19)), (1, .ref (E.2.2 0)), (0, .ref b)]) hx hb dL_law_1191 hl (by decide) rfl (fun ls hl => ?_)
  refine lv_aload_n hx hb dL_law_1193 rfl (lv_at hl 3 rfl) ?_
  refine lv_aload_n hx hb dL_law_1194 rfl (lv_at hl 5 rfl) ?_
  refine lv_iload hx hb dL_law_1195 (lv_at hl 1 rfl) ?_
  refine lv_iconst (v := 1) hx hb dL_law_1197 (by decide) ?_
  refine lv_iadd hx hb dL_law_1198 ?_
  refine k_sld (i := nI (6 * n) + 1) (v := y1) hx hb hX hbl hbA hW (ix_L 1 (by decide) hn hL) hy1 dL_law_1199 ?_
  refine k_callV (r := 19) (As := [.int y1]) (rest := []) hx hb hml hown hts (c_X6_free l E S _ (f_L_free z y1).2 y1 hok.1.1) lm_RL_137 ln_X6_free le_X6_free li_X6 lk_X6_free (show k_nm yX6_free 1 by decide +kernel) ⟨Nat.le_of_ble_eq_true rfl, Nat.le_of_ble_eq_true rfl⟩ rfl rfl ⟨by show _ ≤ 603072; omega, by show _ ≤ 7202922; omega⟩ hl.1 rfl (Nat.le_of_ble_eq_true rfl) dL_law_1200 (by omega) (k_c19 _ _ _) rfl hW (fun v z9 H locs hp hW => ?_)
  obtain ⟨rfl, rfl⟩ := hp
  refine W.eq (g2 := F0 m 1203 ls [.int (f_X6_free (f_L_free z y1).2 y1).1]) rfl ?_
  refine lv_istore (lv' := [(6, .int (f_X6_free (f_L_free z y1).2 y1).1), (5, .int (f_L_free z y1).1), (4, .int (nI (6 * n))), (3, .ref (E.2.2 45)), (2, .ref (E.2.2 19)), (1, .ref (E.2.2 0)), (0, .ref b)]) hx hb dL_law_1203 hl (by decide) rfl (fun ls hl => ?_)
  refine lv_aload_n hx hb dL_law_1205 rfl (lv_at hl 4 rfl) ?_
  refine k_callV (r := 19) (As := []) (rest := []) hx hb hml hown hts (c_X6_thrown l E S _ (f_X6_free (f_L_free z y1).2 y1).2) lm_RL_86 ln_X6_thrown le_X6_thrown li_X6 lk_X6_thrown (show k_nm yX6_thrown 0 by decide +kernel) ⟨Nat.le_of_ble_eq_true rfl, Nat.le_of_ble_eq_true rfl⟩ rfl rfl ⟨by show _ ≤ 603072; omega, by show _ ≤ 7202922; omega⟩ hl.1 rfl (Nat.le_of_ble_eq_true rfl) dL_law_1206 (by omega) (k_c19 _ _ _) rfl hW (fun v z9 H locs hp hW => ?_)
  obtain ⟨rfl, rfl⟩ := hp
  refine W.eq (g2 := F0 m 1209 ls [.int (f_X6_thrown (f_X6_free (f_L_free z y1).2 y1).2)]) rfl ?_
  refine lv_iload hx hb dL_law_1209 (lv_at hl 1 rfl) ?_
  refine lv_icmp_eq (tgt := 1216) hx hb dL_law_1211 (by decide) (fun c1 => ?_) (fun c1 => absurd hok.2.1 c1)
  refine lv_iload hx hb dL_law_1216 (lv_at hl 1 rfl) ?_
  refine lv_if_ne (tgt := 1233) hx hb dL_law_1218 (by decide) (fun c2 => ?_) (fun c2 => ?_)
  · refine lv_goto (tgt := 1360) hx hb dL_law_1233 (by decide) ?_
    exact K E S _ H locs ls _ _ hok.2.2.2 hW (lv_sub hl [2, 3, 4, 5, 6] rfl) (by omega) (by omega)
  · refine lv_aload_n hx hb dL_law_1221 rfl (lv_at hl 3 rfl) ?_
    refine lv_iconst (v := 0) hx hb dL_law_1222 (by decide) ?_
    refine k_lald hx hb hW 45 1 (by omega) k_c45 (vp_in_iff.mpr (by decide)) rfl dL_law_1223 ?_
    refine lv_iload hx hb dL_law_1224 (lv_at hl 0 rfl) ?_
    refine lv_i2l (v := ((f_X6_free (f_L_free z y1).2 y1).1).toInt64) hx hb dL_law_1226 rfl ?_
    refine k_lif_eq (tgt := 1233) hx hb dL_law_1227 dL_law_1228 (by decide) (fun c3 => ?_) (fun c3 => absurd (hok.2.2.1 c2) c3)
    refine lv_goto (tgt := 1360) hx hb dL_law_1233 (by decide) ?_
    exact K E S _ H locs ls _ _ hok.2.2.2 hW (lv_sub hl [2, 3, 4, 5, 6] rfl) (by omega) (by omega)
set_option maxHeartbeats 4000000 in
set_option maxRecDepth 100000 in
theorem lc_trailer {p : Program} {l : Launch} {e : Env} {s : State} {m : MethodId} {below : List Frame} {meth : Method} {c : Code} {b L n : Nat} {xs : Nat → Int32} {Q : State → Prop} (hl0 : l.stackTraces = false) (C0 : lk_A p s m meth c b L xs) (hn : 6 * n + 6 ≤ L) {E : Ev} {S : Nat} {z : Sg} {H : Heap} {locs : List Loc} {ls : Array Slot} {cells slots : Nat} (hq : q_I S z z) (hW : k_W E (46 + 6 * S) z (fun q => s.heap.size ≤ q) s H locs) (hl : lv_has ls 8 (lk_lv E b n)) (hce : cells ≤ 100 + 6 * n) (hsl : slots ≤ 10000 + 347 * n) (K : lk_C p l e s m b below meth c n Q) : W p l e room_1 s m #[Value.ref b] below meth c H locs cells slots Q (F0 m 1236 ls []) := by
  obtain ⟨hx, hb, hml, hown, hts, hX, hbl, hL⟩ := C0
  have hbA : ¬ (fun q : Nat => s.heap.size ≤ q) b := Nat.not_le.mpr hbl
  have hl : lv_has ls 8 [(4, .int (nI (6 * n))), (3, .ref (E.2.2 45)), (2, .ref (E.2.2 19)), (1, .ref (E.2.2 0)), (0, .ref b)] := hl
  obtain ⟨y1, hy1⟩ : ∃ y : Int32, xs ((nI (6 * n) + 1).toNatClampNeg) = y := ⟨_, rfl⟩
  refine lv_aload_n hx hb dL_law_1236 rfl (lv_at hl 3 rfl) ?_
  refine lv_aload_n hx hb dL_law_1237 rfl (lv_at hl 4 rfl) ?_
  refine lv_iload hx hb dL_law_1238 (lv_at hl 0 rfl) ?_
  refine lv_iconst (v := 1) hx hb dL_law_1240 (by decide) ?_
  refine lv_iadd hx hb dL_law_1241 ?_
  refine k_sld (i := nI (6 * n) + 1) (v := y1) hx hb hX hbl hbA hW (ix_L 1 (by decide) hn hL) hy1 dL_law_1242 ?_
  refine lv_aload_n hx hb dL_law_1243 rfl (lv_at hl 1 rfl) ?_
  refine k_callSH (As := [.ref (E.2.2 0), .int y1, .ref (E.2.2 45)]) (rest := []) hx hb hml hown hts (c_L_trailer l hl0 E S _ z y1 hq.1.1) lm_RL_138 ls_L_trailer li_L lw_trailer (show k_nm yL_trailer 3 by decide +kernel) ⟨Nat.le_of_ble_eq_true rfl, Nat.le_of_ble_eq_true rfl⟩ rfl rfl ⟨by show _ ≤ 603072; omega, by show _ ≤ 7202922; omega⟩ hl.1 rfl (Nat.le_of_ble_eq_true rfl) dL_law_1244 hW (fun v z9 H locs hp hW => ?_)
  obtain ⟨rfl, rfl⟩ := hp
  have hok := st_trailer hq y1
  refine W.eq (g2 := F0 m 1247 ls [.int (f_L_trailer z y1).1]) rfl ?_
  refine lv_istore (lv' := [(5, .int (f_L_trailer z y1).1), (4, .int (nI (6 * n))), (3, .ref (E.2.2 45)), (2, .ref (E.2.2 19)), (1, .ref (E.2.2 0)), (0, .ref b)]) hx hb dL_law_1247 hl (by decide) rfl (fun ls hl => ?_)
  refine lv_aload_n hx hb dL_law_1249 rfl (lv_at hl 3 rfl) ?_
  refine lv_aload_n hx hb dL_law_1250 rfl (lv_at hl 5 rfl) ?_
  refine lv_iload hx hb dL_law_1251 (lv_at hl 1 rfl) ?_
  refine lv_iconst (v := 1) hx hb dL_law_1253 (by decide) ?_
  refine lv_iadd hx hb dL_law_1254 ?_
  refine k_sld (i := nI (6 * n) + 1) (v := y1) hx hb hX hbl hbA hW (ix_L 1 (by decide) hn hL) hy1 dL_law_1255 ?_
  refine k_callV (r := 19) (As := [.int y1]) (rest := []) hx hb hml hown hts (c_X6_trailer l E S _ (f_L_trailer z y1).2 y1 hok.1.1) lm_RL_140 ln_X6_trailer le_X6_trailer li_X6 lk_X6_trailer (show k_nm yX6_trailer 1 by decide +kernel) ⟨Nat.le_of_ble_eq_true rfl, Nat.le_of_ble_eq_true rfl⟩ rfl rfl ⟨by show _ ≤ 603072; omega, by show _ ≤ 7202922; omega⟩ hl.1 rfl (Nat.le_of_ble_eq_true rfl) dL_law_1256 (by omega) (k_c19 _ _ _) rfl hW (fun v z9 H locs hp hW => ?_)
  obtain ⟨rfl, rfl⟩ := hp
  refine W.eq (g2 := F0 m 1259 ls [.int (f_X6_trailer (f_L_trailer z y1).2 y1).1]) rfl ?_
  refine lv_istore (lv' := [(6, .int (f_X6_trailer (f_L_trailer z y1).2 y1).1), (5, .int (f_L_trailer z y1).1), (4, .int (nI (6 * n))), (3, .ref (E.2.2 45)), (2, .ref (E.2.2 19)), (1, .ref (E.2.2 0)), (0, .ref b)]) hx hb dL_law_1259 hl (by decide) rfl (fun ls hl => ?_)
  refine lv_aload_n hx hb dL_law_1261 rfl (lv_at hl 4 rfl) ?_
  refine k_callV (r := 19) (As := []) (rest := []) hx hb hml hown hts (c_X6_thrown l E S _ (f_X6_trailer (f_L_trailer z y1).2 y1).2) lm_RL_86 ln_X6_thrown le_X6_thrown li_X6 lk_X6_thrown (show k_nm yX6_thrown 0 by decide +kernel) ⟨Nat.le_of_ble_eq_true rfl, Nat.le_of_ble_eq_true rfl⟩ rfl rfl ⟨by show _ ≤ 603072; omega, by show _ ≤ 7202922; omega⟩ hl.1 rfl (Nat.le_of_ble_eq_true rfl) dL_law_1262 (by omega) (k_c19 _ _ _) rfl hW (fun v z9 H locs hp hW => ?_)
  obtain ⟨rfl, rfl⟩ := hp
  refine W.eq (g2 := F0 m 1265 ls [.int (f_X6_thrown (f_X6_trailer (f_L_trailer z y1).2 y1).2)]) rfl ?_
  refine lv_iload hx hb dL_law_1265 (lv_at hl 1 rfl) ?_
  refine lv_icmp_eq (tgt := 1272) hx hb dL_law_1267 (by decide) (fun c1 => ?_) (fun c1 => absurd hok.2.1 c1)
  refine lv_iload hx hb dL_law_1272 (lv_at hl 1 rfl) ?_
  refine lv_if_ne (tgt := 1289) hx hb dL_law_1274 (by decide) (fun c2 => ?_) (fun c2 => ?_)
  · refine lv_goto (tgt := 1360) hx hb dL_law_1289 (by decide) ?_
    exact K E S _ H locs ls _ _ hok.2.2.2 hW (lv_sub hl [2, 3, 4, 5, 6] rfl) (by omega) (by omega)
  · refine lv_aload_n hx hb dL_law_1277 rfl (lv_at hl 3 rfl) ?_
    refine lv_iconst (v := 0) hx hb dL_law_1278 (by decide) ?_
    refine k_lald hx hb hW 45 1 (by omega) k_c45 (vp_in_iff.mpr (by decide)) rfl dL_law_1279 ?_
    refine lv_iload hx hb dL_law_1280 (lv_at hl 0 rfl) ?_
    refine lv_i2l (v := ((f_X6_trailer (f_L_trailer z y1).2 y1).1).toInt64) hx hb dL_law_1282 rfl ?_
    refine k_lif_eq (tgt := 1289) hx hb dL_law_1283 dL_law_1284 (by decide) (fun c3 => ?_) (fun c3 => absurd (hok.2.2.1 c2) c3)
    refine lv_goto (tgt := 1360) hx hb dL_law_1289 (by decide) ?_
    exact K E S _ H locs ls _ _ hok.2.2.2 hW (lv_sub hl [2, 3, 4, 5, 6] rfl) (by omega) (by omega)
set_option maxHeartbeats 4000000 in
set_option maxRecDepth 100000 in
theorem lc_value {p : Program} {l : Launch} {e : Env} {s : State} {m : MethodId} {below : List Frame} {meth : Method} {c : Code} {b L n : Nat} {xs : Nat → Int32} {Q : State → Prop} (hl0 : l.stackTraces = false) (C0 : lk_A p s m meth c b L xs) (hn : 6 * n + 6 ≤ L) {E : Ev} {S : Nat} {z : Sg} {H : Heap} {locs : List Loc} {ls : Array Slot} {cells slots : Nat} (hq : q_I S z z) (hW : k_W E (46 + 6 * S) z (fun q => s.heap.size ≤ q) s H locs) (hl : lv_has ls 8 (lk_lv E b n)) (hce : cells ≤ 100 + 6 * n) (hsl : slots ≤ 10000 + 347 * n) (K : lk_C p l e s m b below meth c n Q) : W p l e room_1 s m #[Value.ref b] below meth c H locs cells slots Q (F0 m 1292 ls []) := by
  obtain ⟨hx, hb, hml, hown, hts, hX, hbl, hL⟩ := C0
  have hbA : ¬ (fun q : Nat => s.heap.size ≤ q) b := Nat.not_le.mpr hbl
  have hl : lv_has ls 8 [(4, .int (nI (6 * n))), (3, .ref (E.2.2 45)), (2, .ref (E.2.2 19)), (1, .ref (E.2.2 0)), (0, .ref b)] := hl
  obtain ⟨y1, hy1⟩ : ∃ y : Int32, xs ((nI (6 * n) + 1).toNatClampNeg) = y := ⟨_, rfl⟩
  obtain ⟨y2, hy2⟩ : ∃ y : Int32, xs ((nI (6 * n) + 2).toNatClampNeg) = y := ⟨_, rfl⟩
  refine lv_aload_n hx hb dL_law_1292 rfl (lv_at hl 3 rfl) ?_
  refine lv_aload_n hx hb dL_law_1293 rfl (lv_at hl 4 rfl) ?_
  refine lv_iload hx hb dL_law_1294 (lv_at hl 0 rfl) ?_
  refine lv_iconst (v := 1) hx hb dL_law_1296 (by decide) ?_
  refine lv_iadd hx hb dL_law_1297 ?_
  refine k_sld (i := nI (6 * n) + 1) (v := y1) hx hb hX hbl hbA hW (ix_L 1 (by decide) hn hL) hy1 dL_law_1298 ?_
  refine lv_aload_n hx hb dL_law_1299 rfl (lv_at hl 4 rfl) ?_
  refine lv_iload hx hb dL_law_1300 (lv_at hl 0 rfl) ?_
  refine lv_iconst (v := 2) hx hb dL_law_1302 (by decide) ?_
  refine lv_iadd hx hb dL_law_1303 ?_
  refine k_sld (i := nI (6 * n) + 2) (v := y2) hx hb hX hbl hbA hW (ix_L 2 (by decide) hn hL) hy2 dL_law_1304 ?_
  refine lv_aload_n hx hb dL_law_1305 rfl (lv_at hl 1 rfl) ?_
  refine k_callSH (As := [.ref (E.2.2 0), .int y1, .int y2, .ref (E.2.2 45)]) (rest := []) hx hb hml hown hts (c_L_value l hl0 E S _ z y1 y2 hq.1.1) lm_RL_141 ls_L_value li_L lw_value (show k_nm yL_value 4 by decide +kernel) ⟨Nat.le_of_ble_eq_true rfl, Nat.le_of_ble_eq_true rfl⟩ rfl rfl ⟨by show _ ≤ 603072; omega, by show _ ≤ 7202922; omega⟩ hl.1 rfl (Nat.le_of_ble_eq_true rfl) dL_law_1306 hW (fun v z9 H locs hp hW => ?_)
  obtain ⟨rfl, rfl⟩ := hp
  have hok := st_value hq y1 y2
  refine W.eq (g2 := F0 m 1309 ls [.int (f_L_value z y1 y2).1]) rfl ?_
  refine lv_istore (lv' := [(5, .int (f_L_value z y1 y2).1), (4, .int (nI (6 * n))), (3, .ref (E.2.2 45)), (2, .ref (E.2.2 19)), (1, .ref (E.2.2 0)), (0, .ref b)]) hx hb dL_law_1309 hl (by decide) rfl (fun ls hl => ?_)
  refine lv_aload_n hx hb dL_law_1311 rfl (lv_at hl 3 rfl) ?_
  refine lv_aload_n hx hb dL_law_1312 rfl (lv_at hl 5 rfl) ?_
  refine lv_iload hx hb dL_law_1313 (lv_at hl 1 rfl) ?_
  refine lv_iconst (v := 1) hx hb dL_law_1315 (by decide) ?_
  refine lv_iadd hx hb dL_law_1316 ?_
  refine k_sld (i := nI (6 * n) + 1) (v := y1) hx hb hX hbl hbA hW (ix_L 1 (by decide) hn hL) hy1 dL_law_1317 ?_
  refine lv_aload_n hx hb dL_law_1318 rfl (lv_at hl 5 rfl) ?_
  refine lv_iload hx hb dL_law_1319 (lv_at hl 1 rfl) ?_
  refine lv_iconst (v := 2) hx hb dL_law_1321 (by decide) ?_
  refine lv_iadd hx hb dL_law_1322 ?_
  refine k_sld (i := nI (6 * n) + 2) (v := y2) hx hb hX hbl hbA hW (ix_L 2 (by decide) hn hL) hy2 dL_law_1323 ?_
  refine k_callV (r := 19) (As := [.int y1, .int y2]) (rest := []) hx hb hml hown hts (c_X6_value l E S _ (f_L_value z y1 y2).2 y1 y2 hok.1.1) lm_RL_143 ln_X6_value le_X6_value li_X6 lk_X6_value (show k_nm yX6_value 2 by decide +kernel) ⟨Nat.le_of_ble_eq_true rfl, Nat.le_of_ble_eq_true rfl⟩ rfl rfl ⟨by show _ ≤ 603072; omega, by show _ ≤ 7202922; omega⟩ hl.1 rfl (Nat.le_of_ble_eq_true rfl) dL_law_1324 (by omega) (k_c19 _ _ _) rfl hW (fun v z9 H locs hp hW => ?_)
  obtain ⟨rfl, rfl⟩ := hp
  refine W.eq (g2 := F0 m 1327 ls [.int (f_X6_value (f_L_value z y1 y2).2 y1 y2).1]) rfl ?_
  refine lv_istore (lv' := [(6, .int (f_X6_value (f_L_value z y1 y2).2 y1 y2).1), (5, .int (f_L_value z y1 y2).1), (4, .int (nI (6 * n))), (3, .ref (E.2.2 45)), (2, .ref (E.2.2 19)), (1, .ref (E.2.2 0)), (0, .ref b)]) hx hb dL_law_1327 hl (by decide) rfl (fun ls hl => ?_)
  refine lv_aload_n hx hb dL_law_1329 rfl (lv_at hl 4 rfl) ?_
  refine k_callV (r := 19) (As := []) (rest := []) hx hb hml hown hts (c_X6_thrown l E S _ (f_X6_value (f_L_value z y1 y2).2 y1 y2).2) lm_RL_86 ln_X6_thrown le_X6_thrown li_X6 lk_X6_thrown (show k_nm yX6_thrown 0 by decide +kernel) ⟨Nat.le_of_ble_eq_true rfl, Nat.le_of_ble_eq_true rfl⟩ rfl rfl ⟨by show _ ≤ 603072; omega, by show _ ≤ 7202922; omega⟩ hl.1 rfl (Nat.le_of_ble_eq_true rfl) dL_law_1330 (by omega) (k_c19 _ _ _) rfl hW (fun v z9 H locs hp hW => ?_)
  obtain ⟨rfl, rfl⟩ := hp
  refine W.eq (g2 := F0 m 1333 ls [.int (f_X6_thrown (f_X6_value (f_L_value z y1 y2).2 y1 y2).2)]) rfl ?_
  refine lv_iload hx hb dL_law_1333 (lv_at hl 1 rfl) ?_
  refine lv_icmp_eq (tgt := 1340) hx hb dL_law_1335 (by decide) (fun c1 => ?_) (fun c1 => absurd hok.2.1 c1)
  refine lv_iload hx hb dL_law_1340 (lv_at hl 1 rfl) ?_
  refine lv_if_ne (tgt := 1357) hx hb dL_law_1342 (by decide) (fun c2 => ?_) (fun c2 => ?_)
  · refine lv_goto (tgt := 1360) hx hb dL_law_1357 (by decide) ?_
    exact K E S _ H locs ls _ _ hok.2.2.2 hW (lv_sub hl [2, 3, 4, 5, 6] rfl) (by omega) (by omega)
  · refine lv_aload_n hx hb dL_law_1345 rfl (lv_at hl 3 rfl) ?_
    refine lv_iconst (v := 0) hx hb dL_law_1346 (by decide) ?_
    refine k_lald hx hb hW 45 1 (by omega) k_c45 (vp_in_iff.mpr (by decide)) rfl dL_law_1347 ?_
    refine lv_iload hx hb dL_law_1348 (lv_at hl 0 rfl) ?_
    refine lv_i2l (v := ((f_X6_value (f_L_value z y1 y2).2 y1 y2).1).toInt64) hx hb dL_law_1350 rfl ?_
    refine k_lif_eq (tgt := 1357) hx hb dL_law_1351 dL_law_1352 (by decide) (fun c3 => ?_) (fun c3 => absurd (hok.2.2.1 c2) c3)
    refine lv_goto (tgt := 1360) hx hb dL_law_1357 (by decide) ?_
    exact K E S _ H locs ls _ _ hok.2.2.2 hW (lv_sub hl [2, 3, 4, 5, 6] rfl) (by omega) (by omega)
