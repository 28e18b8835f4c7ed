/-! ===== the start: what the tables and the Statement give ===== -/
theorem sw_J0 : ∀ w ∈ u_ws RJ0 TJ0 2, w ∈ lw_tbl := by decide +kernel
theorem sw_J0i : Cond.instantiable RJ0 4 ∈ lw_tbl := by decide +kernel
theorem sw_J1i : Cond.instantiable RJx00060 6 ∈ lw_tbl := by decide +kernel
theorem sw_str : ∀ q ∈ k_st, Cond.stringRef RX5 q.1 q.2 ∈ lw_tbl := by decide +kernel
theorem sw_ex : ∀ q ∈ k_st, Cond.exactly (.string RX5 q.1) "java/lang/String" ∈ flatC (Jvm.Cond.and given_1 narrow_1) := by decide +kernel
theorem sw_nc : ∀ q ∈ k_nc, Cond.not (.castable q.1 q.2) ∈ flatC (Jvm.Cond.and given_1 narrow_1) := by decide +kernel
theorem sw_dec : ∀ x ∈ k_dec, Cond.declares x ∈ lw_tbl := by decide +kernel
theorem sw_cas : ∀ q ∈ k_cas, Cond.castable q.1 q.2 ∈ lw_tbl := by decide +kernel
theorem sw_n1 : Cond.methodLinkNest RX2 17 yX4_init RX5 ∈ lw_tbl := by decide +kernel
theorem sw_n2 : Cond.methodLinkNest RX1 57 yX5_isObject RX5 ∈ lw_tbl := by decide +kernel
theorem sw_n3 : Cond.methodLinkNest RX1 73 yX5_isKey RX5 ∈ lw_tbl := by decide +kernel
theorem sw_ao : Cond.arrayOver (.object RX3) ∈ lw_tbl := by decide +kernel
theorem sw_l1 : Cond.laysStatic Bundle.tN "UNASSIGNED_STACK" Bundle.steD ∈ lw_tbl := by decide +kernel
theorem sw_l2 : Cond.laysStatic Bundle.tN "SUPPRESSED_SENTINEL" Bundle.listD ∈ lw_tbl := by decide +kernel
theorem sw_it : Cond.initialized Bundle.tN ∈ lw_tbl := by decide +kernel
theorem sw_r1 : Cond.isRef (.static Bundle.tN "UNASSIGNED_STACK" Bundle.steD) ∈ flatC (Jvm.Cond.and given_1 narrow_1) := by decide +kernel
theorem sw_r2 : Cond.isRef (.static Bundle.tN "SUPPRESSED_SENTINEL" Bundle.listD) ∈ flatC (Jvm.Cond.and given_1 narrow_1) := by decide +kernel
theorem start_D {s : State} {args : Array Value} (hts : ∀ w ∈ lw_tbl, w.before args s = true) : ∃ D : va_G, ∀ (k : Nat) (q : vw_C), vwCl[k]? = some q → u_Kn s q.1 q.2.1 q.2.2 (D.1 k) (D.2 k) := by
  have ht2 : ∀ w ∈ wsL_law, w.before args s = true := fun w h => hts w (wsL_law_in w h)
  obtain ⟨c0, i0, h0⟩ := u_known (C := RJ0) (T := TJ0) (N := 2) (n := 4) hts sw_J0 (hts _ sw_J0i)
  obtain ⟨c1, i1, h1⟩ := u_known (C := RJx00060) (T := TJx00060) (N := 6) (n := 6) ht2 inlJx00060 (hts _ sw_J1i)
  obtain ⟨c2, i2, h2⟩ := u_known (C := RX0) (T := TX0) (N := 4) (n := 4) ht2 inlX0 (ht2 _ ly_X0)
  obtain ⟨c3, i3, h3⟩ := u_known (C := RX1) (T := TX1) (N := 13) (n := 13) ht2 inlX1 (ht2 _ ly_X1)
  obtain ⟨c4, i4, h4⟩ := u_known (C := RX2) (T := TX2) (N := 9) (n := 9) ht2 inlX2 (ht2 _ ly_X2)
  obtain ⟨c5, i5, h5⟩ := u_known (C := RX3) (T := TX3) (N := 15) (n := 15) ht2 inlX3 (ht2 _ ly_X3)
  obtain ⟨c6, i6, h6⟩ := u_known (C := RX4) (T := TX4) (N := 3) (n := 3) ht2 inlX4 (ht2 _ ly_X4)
  obtain ⟨c7, i7, h7⟩ := u_known (C := RX5) (T := TX5) (N := 5) (n := 5) ht2 inlX5 (ht2 _ ly_X5)
  obtain ⟨c8, i8, h8⟩ := u_known (C := RX6) (T := TX6) (N := 32) (n := 32) ht2 inlX6 (ht2 _ ly_X6)
  refine ⟨(fun k => match k with
    | 0 => c0
    | 1 => c1
    | 2 => c2
    | 3 => c3
    | 4 => c4
    | 5 => c5
    | 6 => c6
    | 7 => c7
    | _ => c8, fun k => match k with
    | 0 => i0
    | 1 => i1
    | 2 => i2
    | 3 => i3
    | 4 => i4
    | 5 => i5
    | 6 => i6
    | 7 => i7
    | _ => i8), ?_⟩
  intro k q hq
  match k, hq with
  | 0, hq => cases hq; exact h0
  | 1, hq => cases hq; exact h1
  | 2, hq => cases hq; exact h2
  | 3, hq => cases hq; exact h3
  | 4, hq => cases hq; exact h4
  | 5, hq => cases hq; exact h5
  | 6, hq => cases hq; exact h6
  | 7, hq => cases hq; exact h7
  | 8, hq => cases hq; exact h8
  | k + 9, hq => simp at hq
theorem start_A {s : State} {args : Array Value} (hts : ∀ w ∈ lw_tbl, w.before args s = true) : ∃ ar : Nat → ClassId, ∀ (D : va_G) (f : Nat → Nat) (k : Nat) (q : ClassId × FieldType), (k_tys (D, ar, f))[k]? = some q → ArrOfT s q.1 q.2 ∧ va_RA s q.1 q.2 := by
  have ht2 : ∀ w ∈ wsL_law, w.before args s = true := fun w h => hts w (wsL_law_in w h)
  obtain ⟨c0, k0, p0, a0, b0, d0⟩ := Cond.arrayClass_spec (ht2 _ la_byte)
  obtain ⟨c1, k1, p1, a1, b1, d1⟩ := Cond.arrayClass_spec (ht2 _ la_int)
  obtain ⟨c2, k2, p2, a2, b2, d2⟩ := Cond.arrayClass_spec (ht2 _ la_long)
  obtain ⟨c3, k3, p3, a3, b3, d3⟩ := Cond.arrayClass_spec (ht2 _ la_boolean)
  obtain ⟨p4, c4, k4, f4, -, b4, d4, a4⟩ := Cond.arrayOver_spec (hts _ sw_ao)
  refine ⟨fun k => match k with
    | 0 => c0
    | 1 => c1
    | 2 => c2
    | 3 => c3
    | _ => c4, ?_⟩
  intro D f k q hq
  match k, hq with
  | 0, hq => cases hq; exact ⟨fun n z => ⟨fun k h => (by cases h), k0, b0, p0, d0⟩, a0⟩
  | 1, hq => cases hq; exact ⟨fun n z => ⟨fun k h => (by cases h), k1, b1, p1, d1⟩, a1⟩
  | 2, hq => cases hq; exact ⟨fun n z => ⟨fun k h => (by cases h), k2, b2, p2, d2⟩, a2⟩
  | 3, hq => cases hq; exact ⟨fun n z => ⟨fun k h => (by cases h), k3, b3, p3, d3⟩, a3⟩
  | 4, hq => cases hq; exact ⟨fun n z => ⟨fun k h => (by cases h), k4, b4, p4, d4⟩, k4, p4, b4, d4, f4, a4⟩
  | k + 5, hq => simp [k_tys] at hq
theorem start_K {s : State} {args : Array Value} (hts : ∀ w ∈ lw_tbl, w.before args s = true) (hgv : (Jvm.Cond.and given_1 narrow_1).before args s = true) : ∃ (D : va_G) (ar : Nat → ClassId), ∀ f : Nat → Nat, k_K (D, ar, f) s := by
  obtain ⟨D, hD⟩ := start_D hts
  obtain ⟨ar, hA⟩ := start_A hts
  have hs := flat_of_before _ hgv
  refine ⟨D, ar, fun f => ⟨⟨hD, fun k q hq => hA D f k q hq⟩, ⟨va_Nw.of rfl (hts _ sw_n1), va_Nw.of rfl (hts _ sw_n2), va_Nw.of rfl (hts _ sw_n3)⟩, fun q hq => ?_, fun x hx => va_Nw.of rfl (hts _ (sw_dec x hx)), fun q hq => va_Nw.of rfl (hts _ (sw_cas q hq)), fun q hq => va_Nc.of (hs _ (sw_nc q hq))⟩⟩
  obtain ⟨a, c, cell, k, e1, -⟩ := Cond.exactly_spec (hs _ (sw_ex q hq))
  exact ⟨a, vk_R.of (hts _ (sw_str q hq)) e1⟩
theorem start_Z {s : State} {args : Array Value} (hts : ∀ w ∈ lw_tbl, w.before args s = true) (hgv : (Jvm.Cond.and given_1 narrow_1).before args s = true) : k_Z (fun q => s.heap.size ≤ q) s s.heap := by
  have hs := flat_of_before _ hgv
  exact ⟨vx_Zqof (hts _ sw_l1) (hts _ sw_it) (hs _ sw_r1) (fun a h => Nat.not_le.mpr h), vx_Zqof (hts _ sw_l2) (hts _ sw_it) (hs _ sw_r2) (fun a h => Nat.not_le.mpr h)⟩
theorem q_0 : q_I 0 z_0 z_0 := by
  have n0 : ¬ (z_0.1 8 0 = 1) := by decide
  refine ⟨⟨⟨⟨by decide, rfl⟩, by decide, by decide, by decide, by decide, fun i hi => absurd hi (Nat.not_lt_zero _), fun i c hc => (nomatch (show (none : Option Nat) = some c from hc)), fun c hc => (nomatch (show (none : Option Nat) = some c from hc)), fun c hc => absurd hc (Nat.not_lt_zero _), ⟨by decide, by decide⟩, by decide, by decide⟩, fun r i c hc => (nomatch (show (none : Option Nat) = some c from hc)), fun c hc => absurd hc (Nat.not_lt_zero _), fun k hk => absurd hk (Nat.not_lt_zero _), fun o => show 0 ≤ (0 : Int32).toInt ∧ (0 : Int32).toInt ≤ 4 by decide⟩, ⟨⟨⟨by decide, rfl⟩, by decide, by decide, by decide, by decide, by decide, fun k => show 0 ≤ (0 : Int32).toInt ∧ (0 : Int32).toInt ≤ 300 by decide, fun k => show 0 ≤ (0 : Int32).toInt ∧ (0 : Int32).toInt ≤ 6 by decide, fun k => show (0 : Int32).toInt8.toInt32 = 0 by decide, fun k => show 0 ≤ (0 : Int32).toInt ∧ (0 : Int32).toInt < 12 by decide, fun k => show 0 ≤ (0 : Int32).toInt ∧ (0 : Int32).toInt ≤ 12 by decide⟩, fun k => show 0 ≤ (0 : Int32).toInt ∧ (0 : Int32).toInt ≤ 4 by decide, fun k => show 0 ≤ (0 : Int32).toInt ∧ (0 : Int32).toInt ≤ 999 by decide, fun k => show (0 : Int32).toInt ≤ 100 by decide⟩, ⟨rfl, fun c hc => absurd hc (Nat.not_lt_zero _), fun c _ _ => ⟨rfl, rfl, fun _ _ => rfl, fun _ _ => ⟨rfl, rfl⟩, fun _ _ => ⟨rfl, rfl⟩⟩⟩, ⟨rfl, rfl, rfl, rfl⟩, ⟨rfl, rfl, rfl⟩, ⟨rfl, rfl, rfl, rfl⟩, ⟨rfl, ⟨rfl, fun i hi => absurd hi (Nat.not_lt_zero _)⟩, fun o ho => ⟨⟨show 0 ≤ (0 : Int32).toInt by decide, show (0 : Int32).toInt < 2 ^ 0 by decide⟩, rfl, fun p hp => absurd hp (Nat.not_lt_zero _)⟩, fun i hi => absurd hi (Nat.not_lt_zero _), fun i j _ hj => absurd hj (Nat.not_lt_zero _)⟩, ?_⟩
  have hf : frs (z_0.1 8) (z_0.2.1 9) = [] := by
    unfold frs
    rw [if_neg n0, frl_s, if_neg (fun x => absurd x.1.1 (by decide))]
  unfold q_F
  rw [hf]
  exact ⟨rfl, fun i hi => absurd hi (Nat.not_lt_zero _)⟩
/-- what holds at the law's entry -/
def lw_At (p : Program) (s : State) (m : MethodId) (meth : Method) (c : Code) (b L : Nat) (xs : Nat → Int32) : Prop :=
  p.tables.exec = Jvm.exec ∧ c.code = code ∧ meth.sig.returnType = ret ∧ c.maxLocals = 8 ∧ s.vm.findClass R_law = some m.cls ∧ (∀ w ∈ lw_tbl, w.before #[Value.ref b] s = true) ∧ va_X b L xs s s.heap ∧ b < s.heap.size ∧ meth.locks = false ∧ (Jvm.Cond.and given_1 narrow_1).before #[Value.ref b] s = true
set_option maxHeartbeats 4000000 in
set_option maxRecDepth 100000 in
theorem start_wl (D : va_G) (ar : Nat → ClassId) (f : Nat → Nat) (h0 q1 q2 q3 q4 q5 q6 q7 q8 q9 q10 q11 q12 q13 q14 q15 q16 q17 q18 r0 r1 r2 r3 r4 r5 r6 r7 r8 r9 r10 r11 r12 r13 r14 r15 r16 r17 r18 r19 r20 r21 r22 r23 r24 r25 o0 : Nat) : ([(h0, .inr (7, [.ref q1, .int 0, .ref q2, .ref q6, .ref q17])), (q1, k_aO (D, ar, f) 4 12 (fun _ => none)), (q2, .inr (2, [.ref q3, .ref q4, .ref q5, .int 0])), (q3, k_aJ (D, ar, f) 2 60 (fun _ => 0)), (q4, k_aI (D, ar, f) 1 60 (fun _ => 0)), (q5, k_aI (D, ar, f) 1 60 (fun _ => 0)), (q6, .inr (3, [.ref q7, .int 0, .ref q8, .ref q9, .ref q10, .ref q11, .ref q12, .ref q13, .ref q14, .int 0, .ref q15, .ref q16, .int 0])), (q7, k_aO (D, ar, f) 4 12 (fun _ => none)), (q8, k_aI (D, ar, f) 1 100 (fun _ => 0)), (q9, k_aJ (D, ar, f) 2 100 (fun _ => 0)), (q10, k_aJ (D, ar, f) 2 100 (fun _ => 0)), (q11, k_aI (D, ar, f) 1 100 (fun _ => 0)), (q12, k_aI (D, ar, f) 1 200 (fun _ => 0)), (q13, k_aI (D, ar, f) 1 200 (fun _ => 0)), (q14, k_aJ (D, ar, f) 2 200 (fun _ => 0)), (q15, k_aI (D, ar, f) 1 100 (fun _ => 0)), (q16, k_aI (D, ar, f) 3 100 (fun _ => 0)), (q17, .inr (4, [.ref q6, .ref q18, .int 0, .long 0, .long 0, .int 0, .long 0, .long 0, .int 0])), (q18, .inr (6, [.null, .int 0, .int 0])), (r0, .inr (8, [.int 0, .int 0, .ref r1, .ref r2, .ref r3, .ref r4, .ref r5, .ref r6, .ref r7, .ref r8, .ref r9, .ref r10, .ref r11, .ref r12, .int 0, .ref r13, .ref r14, .ref r15, .int 0, .ref r16, .ref r17, .ref r18, .ref r19, .ref r20, .ref r21, .int 0, .ref r22, .ref r23, .ref r24, .ref r25, .int 0, .int 0])), (r1, k_aI (D, ar, f) 1 12 (fun _ => 0)), (r2, k_aJ (D, ar, f) 2 12 (fun _ => 0)), (r3, k_aJ (D, ar, f) 2 12 (fun _ => 0)), (r4, k_aJ (D, ar, f) 2 12 (fun _ => 0)), (r5, k_aI (D, ar, f) 1 12 (fun _ => 0)), (r6, k_aI (D, ar, f) 0 3600 (fun _ => 0)), (r7, k_aI (D, ar, f) 1 36 (fun _ => 0)), (r8, k_aI (D, ar, f) 1 12 (fun _ => 0)), (r9, k_aI (D, ar, f) 1 72 (fun _ => 0)), (r10, k_aI (D, ar, f) 1 72 (fun _ => 0)), (r11, k_aI (D, ar, f) 3 120 (fun _ => 0)), (r12, k_aI (D, ar, f) 1 120 (fun _ => 0)), (r13, k_aJ (D, ar, f) 2 60 (fun _ => 0)), (r14, k_aI (D, ar, f) 1 60 (fun _ => 0)), (r15, k_aI (D, ar, f) 1 60 (fun _ => 0)), (r16, k_aI (D, ar, f) 1 12 (fun _ => 0)), (r17, k_aI (D, ar, f) 1 100 (fun _ => 0)), (r18, k_aJ (D, ar, f) 2 100 (fun _ => 0)), (r19, k_aJ (D, ar, f) 2 100 (fun _ => 0)), (r20, k_aI (D, ar, f) 1 100 (fun _ => 0)), (r21, k_aI (D, ar, f) 1 1200 (fun _ => 0)), (r22, k_aI (D, ar, f) 1 200 (fun _ => 0)), (r23, k_aI (D, ar, f) 1 200 (fun _ => 0)), (r24, k_aJ (D, ar, f) 2 200 (fun _ => 0)), (r25, k_aI (D, ar, f) 1 100 (fun _ => 0)), (o0, k_aJ (D, ar, f) 2 1 (fun _ => 0))] : va_W) = k_wl (D, ar, fun r => ([h0, q1, q2, q3, q4, q5, q6, q7, q8, q9, q10, q11, q12, q13, q14, q15, q16, q17, q18, r0, r1, r2, r3, r4, r5, r6, r7, r8, r9, r10, r11, r12, r13, r14, r15, r16, r17, r18, r19, r20, r21, r22, r23, r24, r25, o0] : List Nat).getD r 0) 46 z_0 := by
  rfl
set_option maxHeartbeats 4000000 in
set_option maxRecDepth 100000 in
theorem whole_start {p : Program} {e : Env} {s : State} {m : MethodId} {below : List Frame} {meth : Method} {c : Code} (l : Launch) (hl0 : l.stackTraces = false) {b L : Nat} {xs : Nat → Int32} (hL3 : L ≤ 3072) (C0 : lw_At p s m meth c b L xs) : W p l e room_1 s m #[Value.ref b] below meth c s.heap [] 0 0 (lw_Z below #[Value.ref b] s) (entryFrame m ([Value.ref b] : List Value).toArray 8) := by
  obtain ⟨hx, hb, hr, hml, hown, htb, hX, hbl, hlocks, hgv⟩ := C0
  have hown : s.vm.findClass RL = some m.cls := hown
  have hts : ∀ w ∈ wsL_law, w.before #[Value.ref b] s = true := fun w h => htb w (wsL_law_in w h)
  obtain ⟨D, ar, hKf⟩ := start_K htb hgv
  have hZ := start_Z htb hgv
  obtain ⟨E, hE⟩ : ∃ E : Ev, E = (D, ar, fun _ => 0) := ⟨_, rfl⟩
  have hL : k_L E true [] (fun q => s.heap.size ≤ q) s s.heap [] := ⟨fun k q h => by simp at h, ⟨fun i j p q h => by simp at h, fun k q h => by simp at h⟩, va_S.rf, ⟨by rw [hE]; exact hKf _, fun _ => va_AO.of (htb _ sw_ao)⟩, fun q h => h⟩
  have hl := lv_entry ([.ref b]) (n := 8) (Nat.le_of_ble_eq_true rfl)
  rw [lg_entry_eq]
  generalize (lg_sl ([.ref b]) ++ List.replicate (8 - (lg_sl ([.ref b])).length) Slot.unset).toArray = ls at hl ⊢
  have hl : lv_has ls 8 [(0, .ref b)] := hl
  refine l_new (ci := 7) (fs := [.null, .int 0, .null, .null, .null]) hx hb hts inlX5 tyX5_ok hown lx_RL_8 ly_X5 li_X5 hL rfl lz_X5 (Nat.le_of_ble_eq_true rfl) (Nat.le_of_ble_eq_true rfl) dL_law_0 (fun h0 H hL => ?_)
  have hL : k_L E true [(h0, .inr (7, [.null, .int 0, .null, .null, .null]))] _ s H _ := hL
  refine lv_dup hx hb dL_law_3 rfl ?_
  refine l_callI (wr := []) (q := h0) (x := .inr (7, [.null, .int 0, .null, .null, .null])) (As := []) (rest := [.ref h0]) hx hb hml hown hts (c_X5_init l E _ h0) lm_RL_74 ln_X5_init li_X5 lk_X5_init rfl (show k_nm yX5_init 0 by decide +kernel) ⟨Nat.le_of_ble_eq_true rfl, Nat.le_of_ble_eq_true rfl⟩ rfl rfl ⟨Nat.le_of_ble_eq_true rfl, Nat.le_of_ble_eq_true rfl⟩ hl.1 rfl (Nat.le_of_ble_eq_true rfl) dL_law_4 hL (fun w H locs hp hL => ?_)
  obtain ⟨q1, q2, q3, q4, q5, q6, q7, q8, q9, q10, q11, q12, q13, q14, q15, q16, q17, q18, rfl⟩ := hp
  have hL : k_L E true [(h0, .inr (7, [.ref q1, .int 0, .ref q2, .ref q6, .ref q17])), (q1, k_aO E 4 12 (fun _ => none)), (q2, .inr (2, [.ref q3, .ref q4, .ref q5, .int 0])), (q3, k_aJ E 2 60 (fun _ => 0)), (q4, k_aI E 1 60 (fun _ => 0)), (q5, k_aI E 1 60 (fun _ => 0)), (q6, .inr (3, [.ref q7, .int 0, .ref q8, .ref q9, .ref q10, .ref q11, .ref q12, .ref q13, .ref q14, .int 0, .ref q15, .ref q16, .int 0])), (q7, k_aO E 4 12 (fun _ => none)), (q8, k_aI E 1 100 (fun _ => 0)), (q9, k_aJ E 2 100 (fun _ => 0)), (q10, k_aJ E 2 100 (fun _ => 0)), (q11, k_aI E 1 100 (fun _ => 0)), (q12, k_aI E 1 200 (fun _ => 0)), (q13, k_aI E 1 200 (fun _ => 0)), (q14, k_aJ E 2 200 (fun _ => 0)), (q15, k_aI E 1 100 (fun _ => 0)), (q16, k_aI E 3 100 (fun _ => 0)), (q17, .inr (4, [.ref q6, .ref q18, .int 0, .long 0, .long 0, .int 0, .long 0, .long 0, .int 0])), (q18, .inr (6, [.null, .int 0, .int 0]))] _ s H _ := hL
  refine lv_astore_n (lv' := [(1, .ref h0), (0, .ref b)]) hx hb dL_law_7 rfl hl (by decide) rfl (fun ls hl => ?_)
  refine l_new (ci := 8) (fs := [.int 0, .int 0, .null, .null, .null, .null, .null, .null, .null, .null, .null, .null, .null, .null, .int 0, .null, .null, .null, .int 0, .null, .null, .null, .null, .null, .null, .int 0, .null, .null, .null, .null, .int 0, .int 0]) hx hb hts inlX6 tyX6_ok hown lx_RL_75 ly_X6 li_X6 hL rfl lz_X6 (Nat.le_of_ble_eq_true rfl) (Nat.le_of_ble_eq_true rfl) dL_law_8 (fun r0 H hL => ?_)
  have hL : k_L E true [(h0, .inr (7, [.ref q1, .int 0, .ref q2, .ref q6, .ref q17])), (q1, k_aO E 4 12 (fun _ => none)), (q2, .inr (2, [.ref q3, .ref q4, .ref q5, .int 0])), (q3, k_aJ E 2 60 (fun _ => 0)), (q4, k_aI E 1 60 (fun _ => 0)), (q5, k_aI E 1 60 (fun _ => 0)), (q6, .inr (3, [.ref q7, .int 0, .ref q8, .ref q9, .ref q10, .ref q11, .ref q12, .ref q13, .ref q14, .int 0, .ref q15, .ref q16, .int 0])), (q7, k_aO E 4 12 (fun _ => none)), (q8, k_aI E 1 100 (fun _ => 0)), (q9, k_aJ E 2 100 (fun _ => 0)), (q10, k_aJ E 2 100 (fun _ => 0)), (q11, k_aI E 1 100 (fun _ => 0)), (q12, k_aI E 1 200 (fun _ => 0)), (q13, k_aI E 1 200 (fun _ => 0)), (q14, k_aJ E 2 200 (fun _ => 0)), (q15, k_aI E 1 100 (fun _ => 0)), (q16, k_aI E 3 100 (fun _ => 0)), (q17, .inr (4, [.ref q6, .ref q18, .int 0, .long 0, .long 0, .int 0, .long 0, .long 0, .int 0])), (q18, .inr (6, [.null, .int 0, .int 0])), (r0, .inr (8, [.int 0, .int 0, .null, .null, .null, .null, .null, .null, .null, .null, .null, .null, .null, .null, .int 0, .null, .null, .null, .int 0, .null, .null, .null, .null, .null, .null, .int 0, .null, .null, .null, .null, .int 0, .int 0]))] _ s H _ := hL
  refine lv_dup hx hb dL_law_11 rfl ?_
  refine l_callI (wr := [(h0, .inr (7, [.ref q1, .int 0, .ref q2, .ref q6, .ref q17])), (q1, k_aO E 4 12 (fun _ => none)), (q2, .inr (2, [.ref q3, .ref q4, .ref q5, .int 0])), (q3, k_aJ E 2 60 (fun _ => 0)), (q4, k_aI E 1 60 (fun _ => 0)), (q5, k_aI E 1 60 (fun _ => 0)), (q6, .inr (3, [.ref q7, .int 0, .ref q8, .ref q9, .ref q10, .ref q11, .ref q12, .ref q13, .ref q14, .int 0, .ref q15, .ref q16, .int 0])), (q7, k_aO E 4 12 (fun _ => none)), (q8, k_aI E 1 100 (fun _ => 0)), (q9, k_aJ E 2 100 (fun _ => 0)), (q10, k_aJ E 2 100 (fun _ => 0)), (q11, k_aI E 1 100 (fun _ => 0)), (q12, k_aI E 1 200 (fun _ => 0)), (q13, k_aI E 1 200 (fun _ => 0)), (q14, k_aJ E 2 200 (fun _ => 0)), (q15, k_aI E 1 100 (fun _ => 0)), (q16, k_aI E 3 100 (fun _ => 0)), (q17, .inr (4, [.ref q6, .ref q18, .int 0, .long 0, .long 0, .int 0, .long 0, .long 0, .int 0])), (q18, .inr (6, [.null, .int 0, .int 0]))]) (q := r0) (x := .inr (8, [.int 0, .int 0, .null, .null, .null, .null, .null, .null, .null, .null, .null, .null, .null, .null, .int 0, .null, .null, .null, .int 0, .null, .null, .null, .null, .null, .null, .int 0, .null, .null, .null, .null, .int 0, .int 0])) (As := []) (rest := [.ref r0]) hx hb hml hown hts (c_X6_init l E _ r0) lm_RL_77 ln_X6_init li_X6 lk_X6_init rfl (show k_nm yX6_init 0 by decide +kernel) ⟨Nat.le_of_ble_eq_true rfl, Nat.le_of_ble_eq_true rfl⟩ rfl rfl ⟨Nat.le_of_ble_eq_true rfl, Nat.le_of_ble_eq_true rfl⟩ hl.1 rfl (Nat.le_of_ble_eq_true rfl) dL_law_12 hL (fun w H locs hp hL => ?_)
  obtain ⟨r1, r2, r3, r4, r5, r6, r7, r8, r9, r10, r11, r12, r13, r14, r15, r16, r17, r18, r19, r20, r21, r22, r23, r24, r25, rfl⟩ := hp
  have hL : k_L E true [(h0, .inr (7, [.ref q1, .int 0, .ref q2, .ref q6, .ref q17])), (q1, k_aO E 4 12 (fun _ => none)), (q2, .inr (2, [.ref q3, .ref q4, .ref q5, .int 0])), (q3, k_aJ E 2 60 (fun _ => 0)), (q4, k_aI E 1 60 (fun _ => 0)), (q5, k_aI E 1 60 (fun _ => 0)), (q6, .inr (3, [.ref q7, .int 0, .ref q8, .ref q9, .ref q10, .ref q11, .ref q12, .ref q13, .ref q14, .int 0, .ref q15, .ref q16, .int 0])), (q7, k_aO E 4 12 (fun _ => none)), (q8, k_aI E 1 100 (fun _ => 0)), (q9, k_aJ E 2 100 (fun _ => 0)), (q10, k_aJ E 2 100 (fun _ => 0)), (q11, k_aI E 1 100 (fun _ => 0)), (q12, k_aI E 1 200 (fun _ => 0)), (q13, k_aI E 1 200 (fun _ => 0)), (q14, k_aJ E 2 200 (fun _ => 0)), (q15, k_aI E 1 100 (fun _ => 0)), (q16, k_aI E 3 100 (fun _ => 0)), (q17, .inr (4, [.ref q6, .ref q18, .int 0, .long 0, .long 0, .int 0, .long 0, .long 0, .int 0])), (q18, .inr (6, [.null, .int 0, .int 0])), (r0, .inr (8, [.int 0, .int 0, .ref r1, .ref r2, .ref r3, .ref r4, .ref r5, .ref r6, .ref r7, .ref r8, .ref r9, .ref r10, .ref r11, .ref r12, .int 0, .ref r13, .ref r14, .ref r15, .int 0, .ref r16, .ref r17, .ref r18, .ref r19, .ref r20, .ref r21, .int 0, .ref r22, .ref r23, .ref r24, .ref r25, .int 0, .int 0])), (r1, k_aI E 1 12 (fun _ => 0)), (r2, k_aJ E 2 12 (fun _ => 0)), (r3, k_aJ E 2 12 (fun _ => 0)), (r4, k_aJ E 2 12 (fun _ => 0)), (r5, k_aI E 1 12 (fun _ => 0)), (r6, k_aI E 0 3600 (fun _ => 0)), (r7, k_aI E 1 36 (fun _ => 0)), (r8, k_aI E 1 12 (fun _ => 0)), (r9, k_aI E 1 72 (fun _ => 0)), (r10, k_aI E 1 72 (fun _ => 0)), (r11, k_aI E 3 120 (fun _ => 0)), (r12, k_aI E 1 120 (fun _ => 0)), (r13, k_aJ E 2 60 (fun _ => 0)), (r14, k_aI E 1 60 (fun _ => 0)), (r15, k_aI E 1 60 (fun _ => 0)), (r16, k_aI E 1 12 (fun _ => 0)), (r17, k_aI E 1 100 (fun _ => 0)), (r18, k_aJ E 2 100 (fun _ => 0)), (r19, k_aJ E 2 100 (fun _ => 0)), (r20, k_aI E 1 100 (fun _ => 0)), (r21, k_aI E 1 1200 (fun _ => 0)), (r22, k_aI E 1 200 (fun _ => 0)), (r23, k_aI E 1 200 (fun _ => 0)), (r24, k_aJ E 2 200 (fun _ => 0)), (r25, k_aI E 1 100 (fun _ => 0))] _ s H _ := hL
  refine lv_astore_n (lv' := [(2, .ref r0), (1, .ref h0), (0, .ref b)]) hx hb dL_law_15 rfl hl (by decide) rfl (fun ls hl => ?_)
  refine lv_iconst (v := 1) hx hb dL_law_16 (by decide) ?_
  refine l_newJ hx hb hts la_long hL (N := 1) (by decide) rfl (Nat.le_of_ble_eq_true rfl) (Nat.le_of_ble_eq_true rfl) (Nat.le_of_ble_eq_true rfl) dL_law_17 (fun o0 H hL => ?_)
  have hL : k_L E true [(h0, .inr (7, [.ref q1, .int 0, .ref q2, .ref q6, .ref q17])), (q1, k_aO E 4 12 (fun _ => none)), (q2, .inr (2, [.ref q3, .ref q4, .ref q5, .int 0])), (q3, k_aJ E 2 60 (fun _ => 0)), (q4, k_aI E 1 60 (fun _ => 0)), (q5, k_aI E 1 60 (fun _ => 0)), (q6, .inr (3, [.ref q7, .int 0, .ref q8, .ref q9, .ref q10, .ref q11, .ref q12, .ref q13, .ref q14, .int 0, .ref q15, .ref q16, .int 0])), (q7, k_aO E 4 12 (fun _ => none)), (q8, k_aI E 1 100 (fun _ => 0)), (q9, k_aJ E 2 100 (fun _ => 0)), (q10, k_aJ E 2 100 (fun _ => 0)), (q11, k_aI E 1 100 (fun _ => 0)), (q12, k_aI E 1 200 (fun _ => 0)), (q13, k_aI E 1 200 (fun _ => 0)), (q14, k_aJ E 2 200 (fun _ => 0)), (q15, k_aI E 1 100 (fun _ => 0)), (q16, k_aI E 3 100 (fun _ => 0)), (q17, .inr (4, [.ref q6, .ref q18, .int 0, .long 0, .long 0, .int 0, .long 0, .long 0, .int 0])), (q18, .inr (6, [.null, .int 0, .int 0])), (r0, .inr (8, [.int 0, .int 0, .ref r1, .ref r2, .ref r3, .ref r4, .ref r5, .ref r6, .ref r7, .ref r8, .ref r9, .ref r10, .ref r11, .ref r12, .int 0, .ref r13, .ref r14, .ref r15, .int 0, .ref r16, .ref r17, .ref r18, .ref r19, .ref r20, .ref r21, .int 0, .ref r22, .ref r23, .ref r24, .ref r25, .int 0, .int 0])), (r1, k_aI E 1 12 (fun _ => 0)), (r2, k_aJ E 2 12 (fun _ => 0)), (r3, k_aJ E 2 12 (fun _ => 0)), (r4, k_aJ E 2 12 (fun _ => 0)), (r5, k_aI E 1 12 (fun _ => 0)), (r6, k_aI E 0 3600 (fun _ => 0)), (r7, k_aI E 1 36 (fun _ => 0)), (r8, k_aI E 1 12 (fun _ => 0)), (r9, k_aI E 1 72 (fun _ => 0)), (r10, k_aI E 1 72 (fun _ => 0)), (r11, k_aI E 3 120 (fun _ => 0)), (r12, k_aI E 1 120 (fun _ => 0)), (r13, k_aJ E 2 60 (fun _ => 0)), (r14, k_aI E 1 60 (fun _ => 0)), (r15, k_aI E 1 60 (fun _ => 0)), (r16, k_aI E 1 12 (fun _ => 0)), (r17, k_aI E 1 100 (fun _ => 0)), (r18, k_aJ E 2 100 (fun _ => 0)), (r19, k_aJ E 2 100 (fun _ => 0)), (r20, k_aI E 1 100 (fun _ => 0)), (r21, k_aI E 1 1200 (fun _ => 0)), (r22, k_aI E 1 200 (fun _ => 0)), (r23, k_aI E 1 200 (fun _ => 0)), (r24, k_aJ E 2 200 (fun _ => 0)), (r25, k_aI E 1 100 (fun _ => 0)), (o0, k_aJ E 2 1 (fun _ => 0))] _ s H _ := hL
  refine lv_astore_n (lv' := [(3, .ref o0), (2, .ref r0), (1, .ref h0), (0, .ref b)]) hx hb dL_law_19 rfl hl (by decide) rfl (fun ls hl => ?_)
  refine lv_iconst (v := 0) hx hb dL_law_20 (by decide) ?_
  refine lv_istore (lv' := [(4, .int 0), (3, .ref o0), (2, .ref r0), (1, .ref h0), (0, .ref b)]) hx hb dL_law_21 hl (by decide) rfl (fun ls hl => ?_)
  subst hE
  rw [start_wl D ar (fun _ => 0)] at hL
  obtain ⟨hP, hD, hS, hK, hA⟩ := hL
  refine W.widen (k := 100) (n := 10000) (Nat.le_of_ble_eq_true rfl) (Nat.le_of_ble_eq_true rfl) ?_
  exact law_loop hl0 ⟨hx, hb, hml, hown, hts, hX, hbl, hL3⟩ hr hlocks (L + 1) 0 (D, ar, fun r => ([h0, q1, q2, q3, q4, q5, q6, q7, q8, q9, q10, q11, q12, q13, q14, q15, q16, q17, q18, r0, r1, r2, r3, r4, r5, r6, r7, r8, r9, r10, r11, r12, r13, r14, r15, r16, r17, r18, r19, r20, r21, r22, r23, r24, r25, o0] : List Nat).getD r 0) 0 z_0 H _ ls 100 10000 q_0 ⟨hP, hD, hS, hKf _, hA, hZ⟩ hl (by omega) (by omega) (by omega) (by omega)
