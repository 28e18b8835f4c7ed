/-! ===== the law's wrappers: what is thrown is caught ===== -/
def k_HMet (l : Launch) (y : MethodName) (cc : ByteArray) (ml : Nat) (hh : List (Nat × Nat × Nat × Nat)) (rm : Room) (av : List Value) (E : Ev) (n : Nat) (z : Sg) (sz : Nat) (post : Option Value → Sg → Prop) (mc ms : Nat) : Prop :=
  vx_Met l y (Cond.codeWith y cc ml (some .int) hh :: wsL_law) rm (va_Pc av (k_Pre E n z sz)) (k_Q post E n z sz) (k_X (fun _ => False) E n z sz) mc ms (k_A E n z sz)
theorem k_bodyH {l : Launch} {y : MethodName} {cc : ByteArray} {ml : Nat} {hh : List (Nat × Nat × Nat × Nat)} {rm : Room} {av : List Value} {E : Ev} {n : Nat} {z : Sg} {sz : Nat} {Qc : Nat → Array Value → State → Outcome → State → Prop} {mc ms : Nat} (hy : plainName y.cls = true) (hlen : (lg_sl av).length ≤ ml)
    (body : ∀ (p : Program) (e : Env) (s : State) (m : MethodId) (below : List Frame) (meth : Method) (c : Code) (ls : Array Slot), p.tables.exec = Jvm.exec → c.code = cc → meth.sig.returnType = some .int → c.maxLocals = ml → s.vm.findClass y.cls = some m.cls → meth.locks = false → c.exceptionTable.toList = tableOf hh → (∀ w ∈ wsL_law, w.before av.toArray s = true) → k_W E n z (k_A E n z s.heap.size) s s.heap [] → lv_has ls ml (lv_args 0 av) →
      W p l e rm s m av.toArray below meth c s.heap [] 0 0 (vx_MQ below (Qc s.heap.size) (k_X (fun _ => False) E n z s.heap.size) av.toArray s mc ms (k_A E n z s.heap.size)) (F0 m 0 ls [])) : vx_Met l y (Cond.codeWith y cc ml (some .int) hh :: wsL_law) rm (va_Pc av (k_Pre E n z sz)) (Qc sz) (k_X (fun _ => False) E n z sz) mc ms (k_A E n z sz) := by
  refine vx_ofWH (cc := cc) (maxL := ml) (ret := some .int) (hh := hh) hy rfl ?_
  intro p e s m args below meth c s₁ B hml hv
  obtain ⟨rfl, hP⟩ := hv
  have hsz := hP.1
  subst hsz
  have hts := atoms_spec (ws := Cond.codeWith y cc ml (some .int) hh :: wsL_law) B.pre
  have htab := vx_table (x := y) B (hts _ List.mem_cons_self)
  rw [lg_entry_eq]
  exact body p e s m below meth c _ B.exec B.bytes B.returns hml (findClass_of_methodNamed B.named) B.notSynchronized htab (fun w h => hts w (List.mem_cons_of_mem _ h)) (k_start hP) (lv_entry av hlen)
theorem k_cast {E : Ev} {s : State} {args : Array Value} (h : k_K E s) {a b : String} (hm : (a, b) ∈ k_cas) : (Cond.castable a b).before args s = true := va_Nw.use rfl (h.2.2.2.2.1 _ hm)
theorem k_ncs {E : Ev} {s : State} (h : k_K E s) {a b : String} (hm : (a, b) ∈ k_nc) : va_Nc a b s := h.2.2.2.2.2 _ hm
theorem lx_RL_13 : Cond.classLink RL 13 xI ∈ wsL_law := by decide +kernel
theorem lx_RL_15 : Cond.classLink RL 15 xU ∈ wsL_law := by decide +kernel
theorem lx_RL_21 : Cond.classLink RL 21 nx_N ∈ wsL_law := by decide +kernel
theorem lx_RL_27 : Cond.classLink RL 27 xA ∈ wsL_law := by decide +kernel
theorem lx_RL_52 : Cond.classLink RL 52 xB ∈ wsL_law := by decide +kernel
theorem lw_section : Cond.codeWith yL_section cL_section 8 (some .int) [(0, 13, 16, 13), (0, 13, 20, 15)] ∈ wsL_law := by decide +kernel
theorem lw_add : Cond.codeWith yL_add cL_add 5 (some .int) [(0, 10, 13, 21), (0, 10, 17, 15)] ∈ wsL_law := by decide +kernel
theorem lw_octet : Cond.codeWith yL_octet cL_octet 5 (some .int) [(0, 10, 13, 21), (0, 10, 17, 27)] ∈ wsL_law := by decide +kernel
theorem lw_beside : Cond.codeWith yL_beside cL_beside 6 (some .int) [(0, 10, 13, 21), (0, 10, 17, 13)] ∈ wsL_law := by decide +kernel
theorem lw_widths : Cond.codeWith yL_widths cL_widths 7 (some .int) [(0, 14, 17, 21), (0, 14, 21, 13)] ∈ wsL_law := by decide +kernel
theorem lw_run : Cond.codeWith yL_run cL_run 6 (some .int) [(0, 12, 15, 21), (0, 12, 19, 13), (0, 12, 23, 15)] ∈ wsL_law := by decide +kernel
theorem lw_key : Cond.codeWith yL_key cL_key 6 (some .int) [(0, 12, 15, 21), (0, 12, 19, 13)] ∈ wsL_law := by decide +kernel
theorem lw_head : Cond.codeWith yL_head cL_head 7 (some .int) [(0, 13, 16, 13), (0, 13, 20, 15)] ∈ wsL_law := by decide +kernel
theorem lw_kind : Cond.codeWith yL_kind cL_kind 4 (some .int) [(0, 9, 12, 52)] ∈ wsL_law := by decide +kernel
theorem lw_place : Cond.codeWith yL_place cL_place 5 (some .int) [(0, 9, 12, 52)] ∈ wsL_law := by decide +kernel
theorem lw_revision : Cond.codeWith yL_revision cL_revision 5 (some .int) [(0, 10, 13, 52)] ∈ wsL_law := by decide +kernel
theorem lw_told : Cond.codeWith yL_told cL_told 5 (some .int) [(0, 9, 12, 52)] ∈ wsL_law := by decide +kernel
theorem lw_free : Cond.codeWith yL_free cL_free 4 (some .int) [(0, 9, 12, 52)] ∈ wsL_law := by decide +kernel
theorem lw_trailer : Cond.codeWith yL_trailer cL_trailer 4 (some .int) [(0, 9, 12, 13)] ∈ wsL_law := by decide +kernel
theorem lw_value : Cond.codeWith yL_value cL_value 5 (some .int) [(0, 10, 13, 21), (0, 10, 17, 13)] ∈ wsL_law := by decide +kernel
section KWR
variable {p : Program} {l : Launch} {e : Env} {R : Room} {s : State} {m : MethodId} {args : Array Value} {below : List Frame} {meth : Method} {c : Code} {H : Heap} {locs : List Loc} {cells slots : Nat} {Q : State → Prop}
variable {cc : ByteArray} {pc : Nat} {ls : Array Slot} {rest st0 : List Value} {E : Ev} {S : Nat} {z : Sg} {A : Nat → Prop}
theorem k_goS {mc ms : Nat} {a : Array Value} {r : Nat × Int32 × Sg} {xp : String → Prop} (hr : vx_Run p l e R s m args below meth c H locs cells slots mc ms (F0 m pc ls st0) rest (k_SQ r E S z H.size a) (k_X xp E (46 + 6 * S) z H.size) (k_A E (46 + 6 * S) z H.size)) (hW : k_W E (46 + 6 * S) z A s H locs)
    (kx : ∀ (X : String) (ce : Cell) (q9 : Addr) (H1 : Heap) (locs1 : List Loc), xp X → k_W E (46 + 6 * S) z A s H1 locs1 → H1[q9]? = some ce → ce.vm = .none → s.vm.findClass X = some ce.cls → vx_W p l e R s m args below meth c H1 locs1 (cells + mc) (slots + ms) Q (F0 m pc ls rest) q9)
    (kk : ∀ (E' : Ev) (H1 : Heap) (locs1 : List Loc), r.1 = 0 → k_ext E E' (46 + 6 * S) → k_W E' (46 + 6 * (S + 1)) r.2.2 A s H1 locs1 → W p l e R s m args below meth c H1 locs1 (cells + mc) (slots + ms) Q (F0 m (pc + 3) ls (.int r.2.1 :: rest))) : W p l e R s m args below meth c H locs cells slots Q (F0 m pc ls st0) := by
  have hn : ∀ q, k_A E (46 + 6 * S) z H.size q → A q := fun q hq => by
    rcases hq with ⟨k, x, hq⟩ | hq
    · exact hW.2.1.2 k _ hq
    · exact hW.2.2.2.2.1 q (Nat.le_trans hW.2.2.1.1 hq)
  intro T hT X
  rcases hr T hT X with ⟨v, st₀, t, T', L, h0, X', hL, e1, e2, ⟨⟨E', hv, hp, hx, hb⟩, hF⟩, st⟩ | ⟨q, st₀, t, T', L, X9, ce, h0, X', hL, e1, e2, ⟨hp, hb, hF⟩, hce, hcv, hcl, st⟩
  · cases hv
    obtain ⟨k1, k2, k3⟩ := vx_keep h0 e1 hW.2.2.1 (fun q _ h => hn q h) hn hL hF
    have hK : k_K E' s := by
      have h := hW.2.2.2.1
      unfold k_K k_tys at h ⊢
      rw [hx.1, hx.2.1]
      exact h
    obtain ⟨t2, a1, b1⟩ := kk E' T'.heap (locs ++ L) hp hx ⟨by rw [e1]; exact hb.1, hb.2.weaken (fun k q _ h => hn q.1 h), k3, hK, hW.2.2.2.2⟩ T' rfl X'
    exact ⟨t2, st t2 a1, b1⟩
  · obtain ⟨k1, k2, k3⟩ := vx_keep h0 e1 hW.2.2.1 (fun q _ h => hn q h) hn hL hF
    obtain ⟨t2, a1, b1⟩ := kx X9 ce q T'.heap (locs ++ L) hp ⟨by rw [e1]; exact hb.1, hb.2.weaken (fun k q _ h => hn q.1 h), k3, hW.2.2.2⟩ (by rw [e1]; exact hce) hcv hcl T' rfl X'
    exact ⟨t2, st.trans a1, b1⟩
end KWR
theorem x_existing (z : Sg) (p0 : Int32) : (f_X5_existing z p0).1 = 0 ∨ (f_X5_existing z p0).1 = 3 := by
  unfold f_X5_existing
  repeat' (first | exact Or.inl rfl | exact Or.inr rfl | split)
theorem x_add (z : Sg) (p0 : Int32) (p1 : Int32) : (f_X5_add z p0 p1).1 = 0 ∨ (f_X5_add z p0 p1).1 = 3 ∨ (f_X5_add z p0 p1).1 = 2 := by
  rcases x_existing z p0 with h9 | h9
  · unfold f_X5_add
    simp only [h9]
    repeat' (first | exact Or.inl rfl | exact Or.inr (Or.inl rfl) | exact Or.inr (Or.inr (rfl)) | split | dsimp only)
  · unfold f_X5_add
    simp only [h9]
    repeat' (first | exact Or.inl rfl | exact Or.inr (Or.inl rfl) | exact Or.inr (Or.inr (rfl)) | split | dsimp only)

theorem x_octet (z : Sg) (p0 : Int32) (p1 : Int32) : (f_X5_octet z p0 p1).1 = 0 ∨ (f_X5_octet z p0 p1).1 = 3 ∨ (f_X5_octet z p0 p1).1 = 5 := by
  rcases x_existing z p0 with h9 | h9
  · unfold f_X5_octet
    simp only [h9]
    repeat' (first | exact Or.inl rfl | exact Or.inr (Or.inl rfl) | exact Or.inr (Or.inr (rfl)) | split | dsimp only)
  · unfold f_X5_octet
    simp only [h9]
    repeat' (first | exact Or.inl rfl | exact Or.inr (Or.inl rfl) | exact Or.inr (Or.inr (rfl)) | split | dsimp only)

theorem x_beside (z : Sg) (p0 : Int32) (p1 : Int64) : (f_X5_beside z p0 p1).1 = 0 ∨ (f_X5_beside z p0 p1).1 = 3 ∨ (f_X5_beside z p0 p1).1 = 1 := by
  rcases x_existing z p0 with h9 | h9
  · unfold f_X5_beside
    simp only [h9]
    repeat' (first | exact Or.inl rfl | exact Or.inr (Or.inl rfl) | exact Or.inr (Or.inr (rfl)) | split | dsimp only)
  · unfold f_X5_beside
    simp only [h9]
    repeat' (first | exact Or.inl rfl | exact Or.inr (Or.inl rfl) | exact Or.inr (Or.inr (rfl)) | split | dsimp only)

theorem x_widths (z : Sg) (p0 : Int32) (p1 : Int32) (p2 : Int32) (p3 : Int32) : (f_X5_widths z p0 p1 p2 p3).1 = 0 ∨ (f_X5_widths z p0 p1 p2 p3).1 = 3 ∨ (f_X5_widths z p0 p1 p2 p3).1 = 1 := by
  rcases x_existing z p0 with h9 | h9
  · unfold f_X5_widths
    simp only [h9]
    repeat' (first | exact Or.inl rfl | exact Or.inr (Or.inl rfl) | exact Or.inr (Or.inr (rfl)) | split | dsimp only)
  · unfold f_X5_widths
    simp only [h9]
    repeat' (first | exact Or.inl rfl | exact Or.inr (Or.inl rfl) | exact Or.inr (Or.inr (rfl)) | split | dsimp only)

theorem x_run (z : Sg) (p0 : Int32) (p1 : Int32) (p2 : Int32) : (f_X5_run z p0 p1 p2).1 = 0 ∨ (f_X5_run z p0 p1 p2).1 = 3 ∨ (f_X5_run z p0 p1 p2).1 = 1 ∨ (f_X5_run z p0 p1 p2).1 = 2 := by
  rcases x_existing z p0 with h9 | h9
  · unfold f_X5_run
    simp only [h9]
    repeat' (first | exact Or.inl rfl | exact Or.inr (Or.inl rfl) | exact Or.inr (Or.inr (Or.inl rfl)) | exact Or.inr (Or.inr (Or.inr (rfl))) | split | dsimp only)
  · unfold f_X5_run
    simp only [h9]
    repeat' (first | exact Or.inl rfl | exact Or.inr (Or.inl rfl) | exact Or.inr (Or.inr (Or.inl rfl)) | exact Or.inr (Or.inr (Or.inr (rfl))) | split | dsimp only)

theorem x_key (z : Sg) (p0 : Int32) (p1 : Int32) (p2 : Int32) : (f_X5_key z p0 p1 p2).1 = 0 ∨ (f_X5_key z p0 p1 p2).1 = 3 ∨ (f_X5_key z p0 p1 p2).1 = 1 := by
  rcases x_existing z p0 with h9 | h9
  · unfold f_X5_key
    simp only [h9]
    repeat' (first | exact Or.inl rfl | exact Or.inr (Or.inl rfl) | exact Or.inr (Or.inr (rfl)) | split | dsimp only)
  · unfold f_X5_key
    simp only [h9]
    repeat' (first | exact Or.inl rfl | exact Or.inr (Or.inl rfl) | exact Or.inr (Or.inr (rfl)) | split | dsimp only)

theorem x_head (z : Sg) (p0 : Int64) (p1 : Int32) (p2 : Int32) : (f_X5_head z p0 p1 p2).1 = 0 ∨ (f_X5_head z p0 p1 p2).1 = 1 ∨ (f_X5_head z p0 p1 p2).1 = 2 := by
  unfold f_X5_head
  repeat' (first | exact Or.inl rfl | exact Or.inr (Or.inl rfl) | exact Or.inr (Or.inr (rfl)) | split | dsimp only)

theorem x_kind (z : Sg) (p0 : Int32) : (f_X5_kind z p0).1 = 0 ∨ (f_X5_kind z p0).1 = 4 := by
  unfold f_X5_kind
  repeat' (first | exact Or.inl rfl | exact Or.inr (rfl) | split | dsimp only)

theorem x_place (z : Sg) (p0 : Int32) (p1 : Int32) : (f_X5_place z p0 p1).1 = 0 ∨ (f_X5_place z p0 p1).1 = 4 := by
  unfold f_X5_place
  repeat' (first | exact Or.inl rfl | exact Or.inr (rfl) | split | dsimp only)

theorem x_revision (z : Sg) (p0 : Int32) (p1 : Int32) : (f_X5_revision z p0 p1).1 = 0 ∨ (f_X5_revision z p0 p1).1 = 4 := by
  unfold f_X5_revision
  repeat' (first | exact Or.inl rfl | exact Or.inr (rfl) | split | dsimp only)

theorem x_told (z : Sg) (p0 : Int32) (p1 : Int32) : (f_X5_told z p0 p1).1 = 0 ∨ (f_X5_told z p0 p1).1 = 4 := by
  unfold f_X5_told
  repeat' (first | exact Or.inl rfl | exact Or.inr (rfl) | split | dsimp only)

theorem x_free (z : Sg) (p0 : Int32) : (f_X5_free z p0).1 = 0 ∨ (f_X5_free z p0).1 = 4 := by
  unfold f_X5_free
  repeat' (first | exact Or.inl rfl | exact Or.inr (rfl) | split | dsimp only)

theorem x_trailer (z : Sg) (p0 : Int32) : (f_X5_trailer z p0).1 = 0 ∨ (f_X5_trailer z p0).1 = 1 := by
  unfold f_X5_trailer
  repeat' (first | exact Or.inl rfl | exact Or.inr (rfl) | split | dsimp only)

theorem x_value (z : Sg) (p0 : Int32) (p1 : Int32) : (f_X5_value z p0 p1).1 = 0 ∨ (f_X5_value z p0 p1).1 = 3 ∨ (f_X5_value z p0 p1).1 = 1 := by
  rcases x_existing z p0 with h9 | h9
  · unfold f_X5_value
    simp only [h9]
    repeat' (first | exact Or.inl rfl | exact Or.inr (Or.inl rfl) | exact Or.inr (Or.inr (rfl)) | split | dsimp only)
  · unfold f_X5_value
    simp only [h9]
    repeat' (first | exact Or.inl rfl | exact Or.inr (Or.inl rfl) | exact Or.inr (Or.inr (rfl)) | split | dsimp only)

theorem x_section (S : Nat) (z : Sg) (p0 : Int32) (p1 : Int64) (p2 : Int64) : (f_X5_section S z p0 p1 p2).1 = 0 ∨ (f_X5_section S z p0 p1 p2).1 = 1 ∨ (f_X5_section S z p0 p1 p2).1 = 2 := by
  unfold f_X5_section
  repeat' (first | exact Or.inl rfl | exact Or.inr (Or.inl rfl) | exact Or.inr (Or.inr (rfl)) | split | dsimp only)

def f_L_add (z : Sg) (p0 : Int32) (p1 : Int32) : Int32 × Sg :=
  if (f_X5_add z p0 p1).1 = 0 then (0, uJ ((f_X5_add z p0 p1).2.2) 45 0 (((f_X5_add z p0 p1).2.1).toInt64)) else if (f_X5_add z p0 p1).1 = 3 then (1, z) else (2, z)
set_option maxHeartbeats 4000000 in
set_option maxRecDepth 100000 in
theorem c_L_add (l : Launch) (hl0 : l.stackTraces = false) (E : Ev) (S sz : Nat) (z : Sg) (p0 : Int32) (p1 : Int32) (hI : k_I S z) : k_HMet l yL_add cL_add 5 [(0, 10, 13, 21), (0, 10, 17, 15)] ({ frames := 8, cells := 2, slots := 12, locals := 155 }) [.ref (E.2.2 0), .int p0, .int p1, .ref (E.2.2 45)] E (46 + 6 * S) z sz (fun v u => v = some (.int (f_L_add z p0 p1).1) ∧ u = (f_L_add z p0 p1).2) 2 12 := by
  refine k_bodyH (Qc := fun sz => k_Q (fun v u => v = some (.int (f_L_add z p0 p1).1) ∧ u = (f_L_add z p0 p1).2) E (46 + 6 * S) z sz) (by decide +kernel) (Nat.le_of_ble_eq_true rfl) ?_
  intro p e s m below meth cd ls hx hb hr hml hown hlocks htab hts hW hl
  have hl : lv_has ls 5 [(0, .ref (E.2.2 0)), (1, .int p0), (2, .int p1), (3, .ref (E.2.2 45))] := hl
  refine lv_aload_n hx hb dL_add_0 rfl (lv_at hl 3 rfl) ?_
  refine lv_iconst (v := 0) hx hb dL_add_1 (by decide) ?_
  refine lv_aload_n hx hb dL_add_2 rfl (lv_at hl 0 rfl) ?_
  refine lv_iload_n hx hb dL_add_3 rfl (lv_at hl 1 rfl) ?_
  refine lv_iload_n hx hb dL_add_4 rfl (lv_at hl 2 rfl) ?_
  refine k_callVX (As := [.int p0, .int p1]) (rest := [.int 0, .ref (E.2.2 45)]) hx hb hml hown hts (c_X5_add l hl0 E S _ z p0 p1 hI) lm_RL_17 ln_X5_add le_X5_add li_X5 lk_X5_add (show k_nm yX5_add 2 by decide +kernel) ⟨Nat.le_of_ble_eq_true rfl, Nat.le_of_ble_eq_true rfl⟩ rfl rfl ⟨Nat.le_of_ble_eq_true rfl, Nat.le_of_ble_eq_true rfl⟩ hl.1 rfl (Nat.le_of_ble_eq_true rfl) dL_add_5 (by omega) (k_c0 _ _ _) rfl hW (fun X ce q9 H locs hp hW hce hcv hcl => ?_) (fun v z1 H locs hp hW => ?_)
  · obtain ⟨n0, rfl⟩ := hp
    rcases x_add z p0 p1 with h0 | h1 | h2
    · exact absurd h0 n0
    · rw [h1] at hcl n0
      refine vx_catch (own := RL) (E := nx_N) (name := nx_N) hown [] ⟨0, 10, 13, 21⟩ [⟨0, 10, 17, 15⟩] htab (fun x9 hx9 => nomatch hx9) (by decide) (by decide) (hts _ lx_RL_21) (k_cast hW.2.2.2.1 (List.mem_of_getElem? (i := 4) rfl)) hce hcv hcl ?_
      refine lv_astore (lv' := [(4, .ref q9), (0, .ref (E.2.2 0)), (1, .int p0), (2, .int p1), (3, .ref (E.2.2 45))]) hx hb dL_add_13 hl (by decide) rfl (fun ls hl => ?_)
      refine lv_iconst (v := 1) hx hb dL_add_15 (by decide) ?_
      have hR : (f_L_add z p0 p1) = (1, z) := by simp only [f_L_add, if_neg (show ¬ (f_X5_add z p0 p1).1 = 0 by rw [h1]; decide), if_pos h1]
      exact vx_ret (W.widen (k := 2) (n := 12) (by omega) (by omega) (k_iret hx hb hr rfl hlocks hW ⟨by rw [hR], by rw [hR]⟩ dL_add_16))
    · rw [h2] at hcl n0
      refine vx_catch (own := RL) (E := xU) (name := xU) hown [⟨0, 10, 13, 21⟩] ⟨0, 10, 17, 15⟩ [] htab (fun x9 hx9 => by
      simp only [List.mem_cons, List.not_mem_nil, or_false] at hx9
      subst hx9
      · exact Or.inr ⟨by decide, nx_N, hts _ lx_RL_21, k_ncs hW.2.2.2.1 (List.mem_of_getElem? (i := 1) rfl)⟩) (by decide) (by decide) (hts _ lx_RL_15) (k_cast hW.2.2.2.1 (List.mem_of_getElem? (i := 1) rfl)) hce hcv hcl ?_
      refine lv_astore (lv' := [(4, .ref q9), (0, .ref (E.2.2 0)), (1, .int p0), (2, .int p1), (3, .ref (E.2.2 45))]) hx hb dL_add_17 hl (by decide) rfl (fun ls hl => ?_)
      refine lv_iconst (v := 2) hx hb dL_add_19 (by decide) ?_
      have hR : (f_L_add z p0 p1) = (2, z) := by simp only [f_L_add, if_neg (show ¬ (f_X5_add z p0 p1).1 = 0 by rw [h2]; decide), if_neg (show ¬ (f_X5_add z p0 p1).1 = 3 by rw [h2]; decide)]
      exact vx_ret (W.widen (k := 2) (n := 12) (by omega) (by omega) (k_iret hx hb hr rfl hlocks hW ⟨by rw [hR], by rw [hR]⟩ dL_add_20))
  · obtain ⟨h0, rfl, hz1⟩ := hp
    have hR : (f_L_add z p0 p1) = (0, uJ ((f_X5_add z p0 p1).2.2) 45 0 (((f_X5_add z p0 p1).2.1).toInt64)) := by simp only [f_L_add, if_pos h0]
    rw [hz1] at hW
    refine W.eq (g2 := F0 m 8 ls [.int (f_X5_add z p0 p1).2.1, .int 0, .ref (E.2.2 45)]) rfl ?_
    refine lv_i2l (v := ((f_X5_add z p0 p1).2.1).toInt64) hx hb dL_add_8 rfl ?_
    refine k_last hx hb hW 45 1 (by omega) k_c45 (vp_in_iff.mpr (by decide)) dL_add_9 (fun H locs hW => ?_)
    refine lv_goto (tgt := 21) hx hb dL_add_10 (by decide) ?_
    refine lv_iconst (v := 0) hx hb dL_add_21 (by decide) ?_
    exact vx_ret (W.widen (k := 2) (n := 12) (by omega) (by omega) (k_iret hx hb hr rfl hlocks hW ⟨by rw [hR], by rw [hR]; rfl⟩ dL_add_22))

def f_L_octet (z : Sg) (p0 : Int32) (p1 : Int32) : Int32 × Sg :=
  if (f_X5_octet z p0 p1).1 = 0 then (0, uJ z 45 0 (((f_X5_octet z p0 p1).2).toInt64)) else if (f_X5_octet z p0 p1).1 = 3 then (1, z) else (2, z)
set_option maxHeartbeats 4000000 in
set_option maxRecDepth 100000 in
theorem c_L_octet (l : Launch) (hl0 : l.stackTraces = false) (E : Ev) (S sz : Nat) (z : Sg) (p0 : Int32) (p1 : Int32) (hI : k_I S z) : k_HMet l yL_octet cL_octet 5 [(0, 10, 13, 21), (0, 10, 17, 27)] ({ frames := 8, cells := 2, slots := 12, locals := 155 }) [.ref (E.2.2 0), .int p0, .int p1, .ref (E.2.2 45)] E (46 + 6 * S) z sz (fun v u => v = some (.int (f_L_octet z p0 p1).1) ∧ u = (f_L_octet z p0 p1).2) 2 12 := by
  refine k_bodyH (Qc := fun sz => k_Q (fun v u => v = some (.int (f_L_octet z p0 p1).1) ∧ u = (f_L_octet z p0 p1).2) E (46 + 6 * S) z sz) (by decide +kernel) (Nat.le_of_ble_eq_true rfl) ?_
  intro p e s m below meth cd ls hx hb hr hml hown hlocks htab hts hW hl
  have hl : lv_has ls 5 [(0, .ref (E.2.2 0)), (1, .int p0), (2, .int p1), (3, .ref (E.2.2 45))] := hl
  refine lv_aload_n hx hb dL_octet_0 rfl (lv_at hl 3 rfl) ?_
  refine lv_iconst (v := 0) hx hb dL_octet_1 (by decide) ?_
  refine lv_aload_n hx hb dL_octet_2 rfl (lv_at hl 0 rfl) ?_
  refine lv_iload_n hx hb dL_octet_3 rfl (lv_at hl 1 rfl) ?_
  refine lv_iload_n hx hb dL_octet_4 rfl (lv_at hl 2 rfl) ?_
  refine k_callVX (As := [.int p0, .int p1]) (rest := [.int 0, .ref (E.2.2 45)]) hx hb hml hown hts (c_X5_octet l hl0 E S _ z p0 p1 hI) lm_RL_23 ln_X5_octet le_X5_octet li_X5 lk_X5_octet (show k_nm yX5_octet 2 by decide +kernel) ⟨Nat.le_of_ble_eq_true rfl, Nat.le_of_ble_eq_true rfl⟩ rfl rfl ⟨Nat.le_of_ble_eq_true rfl, Nat.le_of_ble_eq_true rfl⟩ hl.1 rfl (Nat.le_of_ble_eq_true rfl) dL_octet_5 (by omega) (k_c0 _ _ _) rfl hW (fun X ce q9 H locs hp hW hce hcv hcl => ?_) (fun v z1 H locs hp hW => ?_)
  · obtain ⟨n0, rfl⟩ := hp
    rcases x_octet z p0 p1 with h0 | h1 | h2
    · exact absurd h0 n0
    · rw [h1] at hcl n0
      refine vx_catch (own := RL) (E := nx_N) (name := nx_N) hown [] ⟨0, 10, 13, 21⟩ [⟨0, 10, 17, 27⟩] htab (fun x9 hx9 => nomatch hx9) (by decide) (by decide) (hts _ lx_RL_21) (k_cast hW.2.2.2.1 (List.mem_of_getElem? (i := 4) rfl)) hce hcv hcl ?_
      refine lv_astore (lv' := [(4, .ref q9), (0, .ref (E.2.2 0)), (1, .int p0), (2, .int p1), (3, .ref (E.2.2 45))]) hx hb dL_octet_13 hl (by decide) rfl (fun ls hl => ?_)
      refine lv_iconst (v := 1) hx hb dL_octet_15 (by decide) ?_
      have hR : (f_L_octet z p0 p1) = (1, z) := by simp only [f_L_octet, if_neg (show ¬ (f_X5_octet z p0 p1).1 = 0 by rw [h1]; decide), if_pos h1]
      exact vx_ret (W.widen (k := 2) (n := 12) (by omega) (by omega) (k_iret hx hb hr rfl hlocks hW ⟨by rw [hR], by rw [hR]⟩ dL_octet_16))
    · rw [h2] at hcl n0
      refine vx_catch (own := RL) (E := xA) (name := xA) hown [⟨0, 10, 13, 21⟩] ⟨0, 10, 17, 27⟩ [] htab (fun x9 hx9 => by
      simp only [List.mem_cons, List.not_mem_nil, or_false] at hx9
      subst hx9
      · exact Or.inr ⟨by decide, nx_N, hts _ lx_RL_21, k_ncs hW.2.2.2.1 (List.mem_of_getElem? (i := 2) rfl)⟩) (by decide) (by decide) (hts _ lx_RL_27) (k_cast hW.2.2.2.1 (List.mem_of_getElem? (i := 3) rfl)) hce hcv hcl ?_
      refine lv_astore (lv' := [(4, .ref q9), (0, .ref (E.2.2 0)), (1, .int p0), (2, .int p1), (3, .ref (E.2.2 45))]) hx hb dL_octet_17 hl (by decide) rfl (fun ls hl => ?_)
      refine lv_iconst (v := 2) hx hb dL_octet_19 (by decide) ?_
      have hR : (f_L_octet z p0 p1) = (2, z) := by simp only [f_L_octet, if_neg (show ¬ (f_X5_octet z p0 p1).1 = 0 by rw [h2]; decide), if_neg (show ¬ (f_X5_octet z p0 p1).1 = 3 by rw [h2]; decide)]
      exact vx_ret (W.widen (k := 2) (n := 12) (by omega) (by omega) (k_iret hx hb hr rfl hlocks hW ⟨by rw [hR], by rw [hR]⟩ dL_octet_20))
  · obtain ⟨h0, rfl, hz1⟩ := hp
    have hR : (f_L_octet z p0 p1) = (0, uJ z 45 0 (((f_X5_octet z p0 p1).2).toInt64)) := by simp only [f_L_octet, if_pos h0]
    rw [hz1] at hW
    refine W.eq (g2 := F0 m 8 ls [.int (f_X5_octet z p0 p1).2, .int 0, .ref (E.2.2 45)]) rfl ?_
    refine lv_i2l (v := ((f_X5_octet z p0 p1).2).toInt64) hx hb dL_octet_8 rfl ?_
    refine k_last hx hb hW 45 1 (by omega) k_c45 (vp_in_iff.mpr (by decide)) dL_octet_9 (fun H locs hW => ?_)
    refine lv_goto (tgt := 21) hx hb dL_octet_10 (by decide) ?_
    refine lv_iconst (v := 0) hx hb dL_octet_21 (by decide) ?_
    exact vx_ret (W.widen (k := 2) (n := 12) (by omega) (by omega) (k_iret hx hb hr rfl hlocks hW ⟨by rw [hR], by rw [hR]; rfl⟩ dL_octet_22))

def f_L_beside (z : Sg) (p0 : Int32) (p1 : Int64) : Int32 × Sg :=
  if (f_X5_beside z p0 p1).1 = 0 then (0, uJ ((f_X5_beside z p0 p1).2.2) 45 0 ((f_X5_beside z p0 p1).2.1)) else if (f_X5_beside z p0 p1).1 = 3 then (1, z) else (2, z)
set_option maxHeartbeats 4000000 in
set_option maxRecDepth 100000 in
theorem c_L_beside (l : Launch) (hl0 : l.stackTraces = false) (E : Ev) (S sz : Nat) (z : Sg) (p0 : Int32) (p1 : Int64) (hI : k_I S z) : k_HMet l yL_beside cL_beside 6 [(0, 10, 13, 21), (0, 10, 17, 13)] ({ frames := 8, cells := 2, slots := 12, locals := 158 }) [.ref (E.2.2 0), .int p0, .long p1, .ref (E.2.2 45)] E (46 + 6 * S) z sz (fun v u => v = some (.int (f_L_beside z p0 p1).1) ∧ u = (f_L_beside z p0 p1).2) 2 12 := by
  refine k_bodyH (Qc := fun sz => k_Q (fun v u => v = some (.int (f_L_beside z p0 p1).1) ∧ u = (f_L_beside z p0 p1).2) E (46 + 6 * S) z sz) (by decide +kernel) (Nat.le_of_ble_eq_true rfl) ?_
  intro p e s m below meth cd ls hx hb hr hml hown hlocks htab hts hW hl
  have hl : lv_has ls 6 [(0, .ref (E.2.2 0)), (1, .int p0), (2, .long p1), (4, .ref (E.2.2 45))] := hl
  refine lv_aload hx hb dL_beside_0 (lv_at hl 3 rfl) ?_
  refine lv_iconst (v := 0) hx hb dL_beside_2 (by decide) ?_
  refine lv_aload_n hx hb dL_beside_3 rfl (lv_at hl 0 rfl) ?_
  refine lv_iload_n hx hb dL_beside_4 rfl (lv_at hl 1 rfl) ?_
  refine lv_lload_n hx hb dL_beside_5 rfl (lv_at hl 2 rfl) ?_
  refine k_callVX (As := [.int p0, .long p1]) (rest := [.int 0, .ref (E.2.2 45)]) hx hb hml hown hts (c_X5_beside l hl0 E S _ z p0 p1 hI) lm_RL_29 ln_X5_beside le_X5_beside li_X5 lk_X5_beside (show k_nm yX5_beside 2 by decide +kernel) ⟨Nat.le_of_ble_eq_true rfl, Nat.le_of_ble_eq_true rfl⟩ rfl rfl ⟨Nat.le_of_ble_eq_true rfl, Nat.le_of_ble_eq_true rfl⟩ hl.1 rfl (Nat.le_of_ble_eq_true rfl) dL_beside_6 (by omega) (k_c0 _ _ _) rfl hW (fun X ce q9 H locs hp hW hce hcv hcl => ?_) (fun v z1 H locs hp hW => ?_)
  · obtain ⟨n0, rfl⟩ := hp
    rcases x_beside z p0 p1 with h0 | h1 | h2
    · exact absurd h0 n0
    · rw [h1] at hcl n0
      refine vx_catch (own := RL) (E := nx_N) (name := nx_N) hown [] ⟨0, 10, 13, 21⟩ [⟨0, 10, 17, 13⟩] htab (fun x9 hx9 => nomatch hx9) (by decide) (by decide) (hts _ lx_RL_21) (k_cast hW.2.2.2.1 (List.mem_of_getElem? (i := 4) rfl)) hce hcv hcl ?_
      refine lv_astore (lv' := [(5, .ref q9), (0, .ref (E.2.2 0)), (1, .int p0), (2, .long p1), (4, .ref (E.2.2 45))]) hx hb dL_beside_13 hl (by decide) rfl (fun ls hl => ?_)
      refine lv_iconst (v := 1) hx hb dL_beside_15 (by decide) ?_
      have hR : (f_L_beside z p0 p1) = (1, z) := by simp only [f_L_beside, if_neg (show ¬ (f_X5_beside z p0 p1).1 = 0 by rw [h1]; decide), if_pos h1]
      exact vx_ret (W.widen (k := 2) (n := 12) (by omega) (by omega) (k_iret hx hb hr rfl hlocks hW ⟨by rw [hR], by rw [hR]⟩ dL_beside_16))
    · rw [h2] at hcl n0
      refine vx_catch (own := RL) (E := xI) (name := xI) hown [⟨0, 10, 13, 21⟩] ⟨0, 10, 17, 13⟩ [] htab (fun x9 hx9 => by
      simp only [List.mem_cons, List.not_mem_nil, or_false] at hx9
      subst hx9
      · exact Or.inr ⟨by decide, nx_N, hts _ lx_RL_21, k_ncs hW.2.2.2.1 (List.mem_of_getElem? (i := 3) rfl)⟩) (by decide) (by decide) (hts _ lx_RL_13) (k_cast hW.2.2.2.1 (List.mem_of_getElem? (i := 0) rfl)) hce hcv hcl ?_
      refine lv_astore (lv' := [(5, .ref q9), (0, .ref (E.2.2 0)), (1, .int p0), (2, .long p1), (4, .ref (E.2.2 45))]) hx hb dL_beside_17 hl (by decide) rfl (fun ls hl => ?_)
      refine lv_iconst (v := 2) hx hb dL_beside_19 (by decide) ?_
      have hR : (f_L_beside z p0 p1) = (2, z) := by simp only [f_L_beside, if_neg (show ¬ (f_X5_beside z p0 p1).1 = 0 by rw [h2]; decide), if_neg (show ¬ (f_X5_beside z p0 p1).1 = 3 by rw [h2]; decide)]
      exact vx_ret (W.widen (k := 2) (n := 12) (by omega) (by omega) (k_iret hx hb hr rfl hlocks hW ⟨by rw [hR], by rw [hR]⟩ dL_beside_20))
  · obtain ⟨h0, rfl, hz1⟩ := hp
    have hR : (f_L_beside z p0 p1) = (0, uJ ((f_X5_beside z p0 p1).2.2) 45 0 ((f_X5_beside z p0 p1).2.1)) := by simp only [f_L_beside, if_pos h0]
    rw [hz1] at hW
    refine W.eq (g2 := F0 m 9 ls [.long (f_X5_beside z p0 p1).2.1, .int 0, .ref (E.2.2 45)]) rfl ?_
    refine k_last hx hb hW 45 1 (by omega) k_c45 (vp_in_iff.mpr (by decide)) dL_beside_9 (fun H locs hW => ?_)
    refine lv_goto (tgt := 21) hx hb dL_beside_10 (by decide) ?_
    refine lv_iconst (v := 0) hx hb dL_beside_21 (by decide) ?_
    exact vx_ret (W.widen (k := 2) (n := 12) (by omega) (by omega) (k_iret hx hb hr rfl hlocks hW ⟨by rw [hR], by rw [hR]; rfl⟩ dL_beside_22))

def f_L_widths (z : Sg) (p0 : Int32) (p1 : Int32) (p2 : Int32) (p3 : Int32) : Int32 × Sg :=
  if (f_X5_widths z p0 p1 p2 p3).1 = 0 then (0, uJ ((f_X5_widths z p0 p1 p2 p3).2.2) 45 0 (((f_X5_widths z p0 p1 p2 p3).2.1).toInt64)) else if (f_X5_widths z p0 p1 p2 p3).1 = 3 then (1, z) else (2, z)
set_option maxHeartbeats 4000000 in
set_option maxRecDepth 100000 in
theorem c_L_widths (l : Launch) (hl0 : l.stackTraces = false) (E : Ev) (S sz : Nat) (z : Sg) (p0 : Int32) (p1 : Int32) (p2 : Int32) (p3 : Int32) (hI : k_I S z) : k_HMet l yL_widths cL_widths 7 [(0, 14, 17, 21), (0, 14, 21, 13)] ({ frames := 8, cells := 2, slots := 12, locals := 157 }) [.ref (E.2.2 0), .int p0, .int p1, .int p2, .int p3, .ref (E.2.2 45)] E (46 + 6 * S) z sz (fun v u => v = some (.int (f_L_widths z p0 p1 p2 p3).1) ∧ u = (f_L_widths z p0 p1 p2 p3).2) 2 12 := by
  refine k_bodyH (Qc := fun sz => k_Q (fun v u => v = some (.int (f_L_widths z p0 p1 p2 p3).1) ∧ u = (f_L_widths z p0 p1 p2 p3).2) E (46 + 6 * S) z sz) (by decide +kernel) (Nat.le_of_ble_eq_true rfl) ?_
  intro p e s m below meth cd ls hx hb hr hml hown hlocks htab hts hW hl
  have hl : lv_has ls 7 [(0, .ref (E.2.2 0)), (1, .int p0), (2, .int p1), (3, .int p2), (4, .int p3), (5, .ref (E.2.2 45))] := hl
  refine lv_aload hx hb dL_widths_0 (lv_at hl 5 rfl) ?_
  refine lv_iconst (v := 0) hx hb dL_widths_2 (by decide) ?_
  refine lv_aload_n hx hb dL_widths_3 rfl (lv_at hl 0 rfl) ?_
  refine lv_iload_n hx hb dL_widths_4 rfl (lv_at hl 1 rfl) ?_
  refine lv_iload_n hx hb dL_widths_5 rfl (lv_at hl 2 rfl) ?_
  refine lv_iload_n hx hb dL_widths_6 rfl (lv_at hl 3 rfl) ?_
  refine lv_iload hx hb dL_widths_7 (lv_at hl 4 rfl) ?_
  refine k_callVX (As := [.int p0, .int p1, .int p2, .int p3]) (rest := [.int 0, .ref (E.2.2 45)]) hx hb hml hown hts (c_X5_widths l hl0 E S _ z p0 p1 p2 p3 hI) lm_RL_33 ln_X5_widths le_X5_widths li_X5 lk_X5_widths (show k_nm yX5_widths 4 by decide +kernel) ⟨Nat.le_of_ble_eq_true rfl, Nat.le_of_ble_eq_true rfl⟩ rfl rfl ⟨Nat.le_of_ble_eq_true rfl, Nat.le_of_ble_eq_true rfl⟩ hl.1 rfl (Nat.le_of_ble_eq_true rfl) dL_widths_9 (by omega) (k_c0 _ _ _) rfl hW (fun X ce q9 H locs hp hW hce hcv hcl => ?_) (fun v z1 H locs hp hW => ?_)
  · obtain ⟨n0, rfl⟩ := hp
    rcases x_widths z p0 p1 p2 p3 with h0 | h1 | h2
    · exact absurd h0 n0
    · rw [h1] at hcl n0
      refine vx_catch (own := RL) (E := nx_N) (name := nx_N) hown [] ⟨0, 14, 17, 21⟩ [⟨0, 14, 21, 13⟩] htab (fun x9 hx9 => nomatch hx9) (by decide) (by decide) (hts _ lx_RL_21) (k_cast hW.2.2.2.1 (List.mem_of_getElem? (i := 4) rfl)) hce hcv hcl ?_
      refine lv_astore (lv' := [(6, .ref q9), (0, .ref (E.2.2 0)), (1, .int p0), (2, .int p1), (3, .int p2), (4, .int p3), (5, .ref (E.2.2 45))]) hx hb dL_widths_17 hl (by decide) rfl (fun ls hl => ?_)
      refine lv_iconst (v := 1) hx hb dL_widths_19 (by decide) ?_
      have hR : (f_L_widths z p0 p1 p2 p3) = (1, z) := by simp only [f_L_widths, if_neg (show ¬ (f_X5_widths z p0 p1 p2 p3).1 = 0 by rw [h1]; decide), if_pos h1]
      exact vx_ret (W.widen (k := 2) (n := 12) (by omega) (by omega) (k_iret hx hb hr rfl hlocks hW ⟨by rw [hR], by rw [hR]⟩ dL_widths_20))
    · rw [h2] at hcl n0
      refine vx_catch (own := RL) (E := xI) (name := xI) hown [⟨0, 14, 17, 21⟩] ⟨0, 14, 21, 13⟩ [] htab (fun x9 hx9 => by
      simp only [List.mem_cons, List.not_mem_nil, or_false] at hx9
      subst hx9
      · exact Or.inr ⟨by decide, nx_N, hts _ lx_RL_21, k_ncs hW.2.2.2.1 (List.mem_of_getElem? (i := 3) rfl)⟩) (by decide) (by decide) (hts _ lx_RL_13) (k_cast hW.2.2.2.1 (List.mem_of_getElem? (i := 0) rfl)) hce hcv hcl ?_
      refine lv_astore (lv' := [(6, .ref q9), (0, .ref (E.2.2 0)), (1, .int p0), (2, .int p1), (3, .int p2), (4, .int p3), (5, .ref (E.2.2 45))]) hx hb dL_widths_21 hl (by decide) rfl (fun ls hl => ?_)
      refine lv_iconst (v := 2) hx hb dL_widths_23 (by decide) ?_
      have hR : (f_L_widths z p0 p1 p2 p3) = (2, z) := by simp only [f_L_widths, if_neg (show ¬ (f_X5_widths z p0 p1 p2 p3).1 = 0 by rw [h2]; decide), if_neg (show ¬ (f_X5_widths z p0 p1 p2 p3).1 = 3 by rw [h2]; decide)]
      exact vx_ret (W.widen (k := 2) (n := 12) (by omega) (by omega) (k_iret hx hb hr rfl hlocks hW ⟨by rw [hR], by rw [hR]⟩ dL_widths_24))
  · obtain ⟨h0, rfl, hz1⟩ := hp
    have hR : (f_L_widths z p0 p1 p2 p3) = (0, uJ ((f_X5_widths z p0 p1 p2 p3).2.2) 45 0 (((f_X5_widths z p0 p1 p2 p3).2.1).toInt64)) := by simp only [f_L_widths, if_pos h0]
    rw [hz1] at hW
    refine W.eq (g2 := F0 m 12 ls [.int (f_X5_widths z p0 p1 p2 p3).2.1, .int 0, .ref (E.2.2 45)]) rfl ?_
    refine lv_i2l (v := ((f_X5_widths z p0 p1 p2 p3).2.1).toInt64) hx hb dL_widths_12 rfl ?_
    refine k_last hx hb hW 45 1 (by omega) k_c45 (vp_in_iff.mpr (by decide)) dL_widths_13 (fun H locs hW => ?_)
    refine lv_goto (tgt := 25) hx hb dL_widths_14 (by decide) ?_
    refine lv_iconst (v := 0) hx hb dL_widths_25 (by decide) ?_
    exact vx_ret (W.widen (k := 2) (n := 12) (by omega) (by omega) (k_iret hx hb hr rfl hlocks hW ⟨by rw [hR], by rw [hR]; rfl⟩ dL_widths_26))

def f_L_run (z : Sg) (p0 : Int32) (p1 : Int32) (p2 : Int32) : Int32 × Sg :=
  if (f_X5_run z p0 p1 p2).1 = 0 then (0, uJ ((f_X5_run z p0 p1 p2).2.2) 45 0 (((f_X5_run z p0 p1 p2).2.1).toInt64)) else if (f_X5_run z p0 p1 p2).1 = 3 then (1, z) else if (f_X5_run z p0 p1 p2).1 = 1 then (2, z) else (3, z)
set_option maxHeartbeats 4000000 in
set_option maxRecDepth 100000 in
theorem c_L_run (l : Launch) (hl0 : l.stackTraces = false) (E : Ev) (S sz : Nat) (z : Sg) (p0 : Int32) (p1 : Int32) (p2 : Int32) (hI : k_I S z) : k_HMet l yL_run cL_run 6 [(0, 12, 15, 21), (0, 12, 19, 13), (0, 12, 23, 15)] ({ frames := 8, cells := 2, slots := 12, locals := 156 }) [.ref (E.2.2 0), .int p0, .int p1, .int p2, .ref (E.2.2 45)] E (46 + 6 * S) z sz (fun v u => v = some (.int (f_L_run z p0 p1 p2).1) ∧ u = (f_L_run z p0 p1 p2).2) 2 12 := by
  refine k_bodyH (Qc := fun sz => k_Q (fun v u => v = some (.int (f_L_run z p0 p1 p2).1) ∧ u = (f_L_run z p0 p1 p2).2) E (46 + 6 * S) z sz) (by decide +kernel) (Nat.le_of_ble_eq_true rfl) ?_
  intro p e s m below meth cd ls hx hb hr hml hown hlocks htab hts hW hl
  have hl : lv_has ls 6 [(0, .ref (E.2.2 0)), (1, .int p0), (2, .int p1), (3, .int p2), (4, .ref (E.2.2 45))] := hl
  refine lv_aload hx hb dL_run_0 (lv_at hl 4 rfl) ?_
  refine lv_iconst (v := 0) hx hb dL_run_2 (by decide) ?_
  refine lv_aload_n hx hb dL_run_3 rfl (lv_at hl 0 rfl) ?_
  refine lv_iload_n hx hb dL_run_4 rfl (lv_at hl 1 rfl) ?_
  refine lv_iload_n hx hb dL_run_5 rfl (lv_at hl 2 rfl) ?_
  refine lv_iload_n hx hb dL_run_6 rfl (lv_at hl 3 rfl) ?_
  refine k_callVX (As := [.int p0, .int p1, .int p2]) (rest := [.int 0, .ref (E.2.2 45)]) hx hb hml hown hts (c_X5_run l hl0 E S _ z p0 p1 p2 hI) lm_RL_37 ln_X5_run le_X5_run li_X5 lk_X5_run (show k_nm yX5_run 3 by decide +kernel) ⟨Nat.le_of_ble_eq_true rfl, Nat.le_of_ble_eq_true rfl⟩ rfl rfl ⟨Nat.le_of_ble_eq_true rfl, Nat.le_of_ble_eq_true rfl⟩ hl.1 rfl (Nat.le_of_ble_eq_true rfl) dL_run_7 (by omega) (k_c0 _ _ _) rfl hW (fun X ce q9 H locs hp hW hce hcv hcl => ?_) (fun v z1 H locs hp hW => ?_)
  · obtain ⟨n0, rfl⟩ := hp
    rcases x_run z p0 p1 p2 with h0 | h1 | h2 | h3
    · exact absurd h0 n0
    · rw [h1] at hcl n0
      refine vx_catch (own := RL) (E := nx_N) (name := nx_N) hown [] ⟨0, 12, 15, 21⟩ [⟨0, 12, 19, 13⟩, ⟨0, 12, 23, 15⟩] htab (fun x9 hx9 => nomatch hx9) (by decide) (by decide) (hts _ lx_RL_21) (k_cast hW.2.2.2.1 (List.mem_of_getElem? (i := 4) rfl)) hce hcv hcl ?_
      refine lv_astore (lv' := [(5, .ref q9), (0, .ref (E.2.2 0)), (1, .int p0), (2, .int p1), (3, .int p2), (4, .ref (E.2.2 45))]) hx hb dL_run_15 hl (by decide) rfl (fun ls hl => ?_)
      refine lv_iconst (v := 1) hx hb dL_run_17 (by decide) ?_
      have hR : (f_L_run z p0 p1 p2) = (1, z) := by simp only [f_L_run, if_neg (show ¬ (f_X5_run z p0 p1 p2).1 = 0 by rw [h1]; decide), if_pos h1]
      exact vx_ret (W.widen (k := 2) (n := 12) (by omega) (by omega) (k_iret hx hb hr rfl hlocks hW ⟨by rw [hR], by rw [hR]⟩ dL_run_18))
    · rw [h2] at hcl n0
      refine vx_catch (own := RL) (E := xI) (name := xI) hown [⟨0, 12, 15, 21⟩] ⟨0, 12, 19, 13⟩ [⟨0, 12, 23, 15⟩] htab (fun x9 hx9 => by
      simp only [List.mem_cons, List.not_mem_nil, or_false] at hx9
      subst hx9
      · exact Or.inr ⟨by decide, nx_N, hts _ lx_RL_21, k_ncs hW.2.2.2.1 (List.mem_of_getElem? (i := 3) rfl)⟩) (by decide) (by decide) (hts _ lx_RL_13) (k_cast hW.2.2.2.1 (List.mem_of_getElem? (i := 0) rfl)) hce hcv hcl ?_
      refine lv_astore (lv' := [(5, .ref q9), (0, .ref (E.2.2 0)), (1, .int p0), (2, .int p1), (3, .int p2), (4, .ref (E.2.2 45))]) hx hb dL_run_19 hl (by decide) rfl (fun ls hl => ?_)
      refine lv_iconst (v := 2) hx hb dL_run_21 (by decide) ?_
      have hR : (f_L_run z p0 p1 p2) = (2, z) := by simp only [f_L_run, if_neg (show ¬ (f_X5_run z p0 p1 p2).1 = 0 by rw [h2]; decide), if_neg (show ¬ (f_X5_run z p0 p1 p2).1 = 3 by rw [h2]; decide), if_pos h2]
      exact vx_ret (W.widen (k := 2) (n := 12) (by omega) (by omega) (k_iret hx hb hr rfl hlocks hW ⟨by rw [hR], by rw [hR]⟩ dL_run_22))
    · rw [h3] at hcl n0
      refine vx_catch (own := RL) (E := xU) (name := xU) hown [⟨0, 12, 15, 21⟩, ⟨0, 12, 19, 13⟩] ⟨0, 12, 23, 15⟩ [] htab (fun x9 hx9 => by
      simp only [List.mem_cons, List.not_mem_nil, or_false] at hx9
      rcases hx9 with rfl | rfl
      · exact Or.inr ⟨by decide, nx_N, hts _ lx_RL_21, k_ncs hW.2.2.2.1 (List.mem_of_getElem? (i := 1) rfl)⟩
      · exact Or.inr ⟨by decide, xI, hts _ lx_RL_13, k_ncs hW.2.2.2.1 (List.mem_of_getElem? (i := 0) rfl)⟩) (by decide) (by decide) (hts _ lx_RL_15) (k_cast hW.2.2.2.1 (List.mem_of_getElem? (i := 1) rfl)) hce hcv hcl ?_
      refine lv_astore (lv' := [(5, .ref q9), (0, .ref (E.2.2 0)), (1, .int p0), (2, .int p1), (3, .int p2), (4, .ref (E.2.2 45))]) hx hb dL_run_23 hl (by decide) rfl (fun ls hl => ?_)
      refine lv_iconst (v := 3) hx hb dL_run_25 (by decide) ?_
      have hR : (f_L_run z p0 p1 p2) = (3, z) := by simp only [f_L_run, if_neg (show ¬ (f_X5_run z p0 p1 p2).1 = 0 by rw [h3]; decide), if_neg (show ¬ (f_X5_run z p0 p1 p2).1 = 3 by rw [h3]; decide), if_neg (show ¬ (f_X5_run z p0 p1 p2).1 = 1 by rw [h3]; decide)]
      exact vx_ret (W.widen (k := 2) (n := 12) (by omega) (by omega) (k_iret hx hb hr rfl hlocks hW ⟨by rw [hR], by rw [hR]⟩ dL_run_26))
  · obtain ⟨h0, rfl, hz1⟩ := hp
    have hR : (f_L_run z p0 p1 p2) = (0, uJ ((f_X5_run z p0 p1 p2).2.2) 45 0 (((f_X5_run z p0 p1 p2).2.1).toInt64)) := by simp only [f_L_run, if_pos h0]
    rw [hz1] at hW
    refine W.eq (g2 := F0 m 10 ls [.int (f_X5_run z p0 p1 p2).2.1, .int 0, .ref (E.2.2 45)]) rfl ?_
    refine lv_i2l (v := ((f_X5_run z p0 p1 p2).2.1).toInt64) hx hb dL_run_10 rfl ?_
    refine k_last hx hb hW 45 1 (by omega) k_c45 (vp_in_iff.mpr (by decide)) dL_run_11 (fun H locs hW => ?_)
    refine lv_goto (tgt := 27) hx hb dL_run_12 (by decide) ?_
    refine lv_iconst (v := 0) hx hb dL_run_27 (by decide) ?_
    exact vx_ret (W.widen (k := 2) (n := 12) (by omega) (by omega) (k_iret hx hb hr rfl hlocks hW ⟨by rw [hR], by rw [hR]; rfl⟩ dL_run_28))

def f_L_key (z : Sg) (p0 : Int32) (p1 : Int32) (p2 : Int32) : Int32 × Sg :=
  if (f_X5_key z p0 p1 p2).1 = 0 then (0, uJ ((f_X5_key z p0 p1 p2).2.2) 45 0 (((f_X5_key z p0 p1 p2).2.1).toInt64)) else if (f_X5_key z p0 p1 p2).1 = 3 then (1, z) else (2, z)
set_option maxHeartbeats 4000000 in
set_option maxRecDepth 100000 in
theorem c_L_key (l : Launch) (hl0 : l.stackTraces = false) (E : Ev) (S sz : Nat) (z : Sg) (p0 : Int32) (p1 : Int32) (p2 : Int32) (hI : k_I S z) : k_HMet l yL_key cL_key 6 [(0, 12, 15, 21), (0, 12, 19, 13)] ({ frames := 8, cells := 2, slots := 12, locals := 157 }) [.ref (E.2.2 0), .int p0, .int p1, .int p2, .ref (E.2.2 45)] E (46 + 6 * S) z sz (fun v u => v = some (.int (f_L_key z p0 p1 p2).1) ∧ u = (f_L_key z p0 p1 p2).2) 2 12 := by
  refine k_bodyH (Qc := fun sz => k_Q (fun v u => v = some (.int (f_L_key z p0 p1 p2).1) ∧ u = (f_L_key z p0 p1 p2).2) E (46 + 6 * S) z sz) (by decide +kernel) (Nat.le_of_ble_eq_true rfl) ?_
  intro p e s m below meth cd ls hx hb hr hml hown hlocks htab hts hW hl
  have hl : lv_has ls 6 [(0, .ref (E.2.2 0)), (1, .int p0), (2, .int p1), (3, .int p2), (4, .ref (E.2.2 45))] := hl
  refine lv_aload hx hb dL_key_0 (lv_at hl 4 rfl) ?_
  refine lv_iconst (v := 0) hx hb dL_key_2 (by decide) ?_
  refine lv_aload_n hx hb dL_key_3 rfl (lv_at hl 0 rfl) ?_
  refine lv_iload_n hx hb dL_key_4 rfl (lv_at hl 1 rfl) ?_
  refine lv_iload_n hx hb dL_key_5 rfl (lv_at hl 2 rfl) ?_
  refine lv_iload_n hx hb dL_key_6 rfl (lv_at hl 3 rfl) ?_
  refine k_callVX (As := [.int p0, .int p1, .int p2]) (rest := [.int 0, .ref (E.2.2 45)]) hx hb hml hown hts (c_X5_key l hl0 E S _ z p0 p1 p2 hI) lm_RL_41 ln_X5_key le_X5_key li_X5 lk_X5_key (show k_nm yX5_key 3 by decide +kernel) ⟨Nat.le_of_ble_eq_true rfl, Nat.le_of_ble_eq_true rfl⟩ rfl rfl ⟨Nat.le_of_ble_eq_true rfl, Nat.le_of_ble_eq_true rfl⟩ hl.1 rfl (Nat.le_of_ble_eq_true rfl) dL_key_7 (by omega) (k_c0 _ _ _) rfl hW (fun X ce q9 H locs hp hW hce hcv hcl => ?_) (fun v z1 H locs hp hW => ?_)
  · obtain ⟨n0, rfl⟩ := hp
    rcases x_key z p0 p1 p2 with h0 | h1 | h2
    · exact absurd h0 n0
    · rw [h1] at hcl n0
      refine vx_catch (own := RL) (E := nx_N) (name := nx_N) hown [] ⟨0, 12, 15, 21⟩ [⟨0, 12, 19, 13⟩] htab (fun x9 hx9 => nomatch hx9) (by decide) (by decide) (hts _ lx_RL_21) (k_cast hW.2.2.2.1 (List.mem_of_getElem? (i := 4) rfl)) hce hcv hcl ?_
      refine lv_astore (lv' := [(5, .ref q9), (0, .ref (E.2.2 0)), (1, .int p0), (2, .int p1), (3, .int p2), (4, .ref (E.2.2 45))]) hx hb dL_key_15 hl (by decide) rfl (fun ls hl => ?_)
      refine lv_iconst (v := 1) hx hb dL_key_17 (by decide) ?_
      have hR : (f_L_key z p0 p1 p2) = (1, z) := by simp only [f_L_key, if_neg (show ¬ (f_X5_key z p0 p1 p2).1 = 0 by rw [h1]; decide), if_pos h1]
      exact vx_ret (W.widen (k := 2) (n := 12) (by omega) (by omega) (k_iret hx hb hr rfl hlocks hW ⟨by rw [hR], by rw [hR]⟩ dL_key_18))
    · rw [h2] at hcl n0
      refine vx_catch (own := RL) (E := xI) (name := xI) hown [⟨0, 12, 15, 21⟩] ⟨0, 12, 19, 13⟩ [] htab (fun x9 hx9 => by
      simp only [List.mem_cons, List.not_mem_nil, or_false] at hx9
      subst hx9
      · exact Or.inr ⟨by decide, nx_N, hts _ lx_RL_21, k_ncs hW.2.2.2.1 (List.mem_of_getElem? (i := 3) rfl)⟩) (by decide) (by decide) (hts _ lx_RL_13) (k_cast hW.2.2.2.1 (List.mem_of_getElem? (i := 0) rfl)) hce hcv hcl ?_
      refine lv_astore (lv' := [(5, .ref q9), (0, .ref (E.2.2 0)), (1, .int p0), (2, .int p1), (3, .int p2), (4, .ref (E.2.2 45))]) hx hb dL_key_19 hl (by decide) rfl (fun ls hl => ?_)
      refine lv_iconst (v := 2) hx hb dL_key_21 (by decide) ?_
      have hR : (f_L_key z p0 p1 p2) = (2, z) := by simp only [f_L_key, if_neg (show ¬ (f_X5_key z p0 p1 p2).1 = 0 by rw [h2]; decide), if_neg (show ¬ (f_X5_key z p0 p1 p2).1 = 3 by rw [h2]; decide)]
      exact vx_ret (W.widen (k := 2) (n := 12) (by omega) (by omega) (k_iret hx hb hr rfl hlocks hW ⟨by rw [hR], by rw [hR]⟩ dL_key_22))
  · obtain ⟨h0, rfl, hz1⟩ := hp
    have hR : (f_L_key z p0 p1 p2) = (0, uJ ((f_X5_key z p0 p1 p2).2.2) 45 0 (((f_X5_key z p0 p1 p2).2.1).toInt64)) := by simp only [f_L_key, if_pos h0]
    rw [hz1] at hW
    refine W.eq (g2 := F0 m 10 ls [.int (f_X5_key z p0 p1 p2).2.1, .int 0, .ref (E.2.2 45)]) rfl ?_
    refine lv_i2l (v := ((f_X5_key z p0 p1 p2).2.1).toInt64) hx hb dL_key_10 rfl ?_
    refine k_last hx hb hW 45 1 (by omega) k_c45 (vp_in_iff.mpr (by decide)) dL_key_11 (fun H locs hW => ?_)
    refine lv_goto (tgt := 23) hx hb dL_key_12 (by decide) ?_
    refine lv_iconst (v := 0) hx hb dL_key_23 (by decide) ?_
    exact vx_ret (W.widen (k := 2) (n := 12) (by omega) (by omega) (k_iret hx hb hr rfl hlocks hW ⟨by rw [hR], by rw [hR]; rfl⟩ dL_key_24))

def f_L_head (z : Sg) (p0 : Int64) (p1 : Int32) (p2 : Int32) : Int32 × Sg :=
  if (f_X5_head z p0 p1 p2).1 = 0 then (0, uJ ((f_X5_head z p0 p1 p2).2.2) 45 0 (((f_X5_head z p0 p1 p2).2.1).toInt64)) else if (f_X5_head z p0 p1 p2).1 = 1 then (1, z) else (2, z)
set_option maxHeartbeats 4000000 in
set_option maxRecDepth 100000 in
theorem c_L_head (l : Launch) (hl0 : l.stackTraces = false) (E : Ev) (S sz : Nat) (z : Sg) (p0 : Int64) (p1 : Int32) (p2 : Int32) (hI : k_I S z) : k_HMet l yL_head cL_head 7 [(0, 13, 16, 13), (0, 13, 20, 15)] ({ frames := 7, cells := 1, slots := 6, locals := 134 }) [.ref (E.2.2 0), .long p0, .int p1, .int p2, .ref (E.2.2 45)] E (46 + 6 * S) z sz (fun v u => v = some (.int (f_L_head z p0 p1 p2).1) ∧ u = (f_L_head z p0 p1 p2).2) 1 6 := by
  refine k_bodyH (Qc := fun sz => k_Q (fun v u => v = some (.int (f_L_head z p0 p1 p2).1) ∧ u = (f_L_head z p0 p1 p2).2) E (46 + 6 * S) z sz) (by decide +kernel) (Nat.le_of_ble_eq_true rfl) ?_
  intro p e s m below meth cd ls hx hb hr hml hown hlocks htab hts hW hl
  have hl : lv_has ls 7 [(0, .ref (E.2.2 0)), (1, .long p0), (3, .int p1), (4, .int p2), (5, .ref (E.2.2 45))] := hl
  refine lv_aload hx hb dL_head_0 (lv_at hl 4 rfl) ?_
  refine lv_iconst (v := 0) hx hb dL_head_2 (by decide) ?_
  refine lv_aload_n hx hb dL_head_3 rfl (lv_at hl 0 rfl) ?_
  refine lv_lload_n hx hb dL_head_4 rfl (lv_at hl 1 rfl) ?_
  refine lv_iload_n hx hb dL_head_5 rfl (lv_at hl 2 rfl) ?_
  refine lv_iload hx hb dL_head_6 (lv_at hl 3 rfl) ?_
  refine k_callVX (As := [.long p0, .int p1, .int p2]) (rest := [.int 0, .ref (E.2.2 45)]) hx hb hml hown hts (c_X5_head l hl0 E S _ z p0 p1 p2 hI) lm_RL_44 ln_X5_head le_X5_head li_X5 lk_X5_head (show k_nm yX5_head 3 by decide +kernel) ⟨Nat.le_of_ble_eq_true rfl, Nat.le_of_ble_eq_true rfl⟩ rfl rfl ⟨Nat.le_of_ble_eq_true rfl, Nat.le_of_ble_eq_true rfl⟩ hl.1 rfl (Nat.le_of_ble_eq_true rfl) dL_head_8 (by omega) (k_c0 _ _ _) rfl hW (fun X ce q9 H locs hp hW hce hcv hcl => ?_) (fun v z1 H locs hp hW => ?_)
  · obtain ⟨n0, rfl⟩ := hp
    rcases x_head z p0 p1 p2 with h0 | h1 | h2
    · exact absurd h0 n0
    · rw [h1] at hcl n0
      refine vx_catch (own := RL) (E := xI) (name := xI) hown [] ⟨0, 13, 16, 13⟩ [⟨0, 13, 20, 15⟩] htab (fun x9 hx9 => nomatch hx9) (by decide) (by decide) (hts _ lx_RL_13) (k_cast hW.2.2.2.1 (List.mem_of_getElem? (i := 0) rfl)) hce hcv hcl ?_
      refine lv_astore (lv' := [(6, .ref q9), (0, .ref (E.2.2 0)), (1, .long p0), (3, .int p1), (4, .int p2), (5, .ref (E.2.2 45))]) hx hb dL_head_16 hl (by decide) rfl (fun ls hl => ?_)
      refine lv_iconst (v := 1) hx hb dL_head_18 (by decide) ?_
      have hR : (f_L_head z p0 p1 p2) = (1, z) := by simp only [f_L_head, if_neg (show ¬ (f_X5_head z p0 p1 p2).1 = 0 by rw [h1]; decide), if_pos h1]
      exact vx_ret (W.widen (k := 1) (n := 6) (by omega) (by omega) (k_iret hx hb hr rfl hlocks hW ⟨by rw [hR], by rw [hR]⟩ dL_head_19))
    · rw [h2] at hcl n0
      refine vx_catch (own := RL) (E := xU) (name := xU) hown [⟨0, 13, 16, 13⟩] ⟨0, 13, 20, 15⟩ [] htab (fun x9 hx9 => by
      simp only [List.mem_cons, List.not_mem_nil, or_false] at hx9
      subst hx9
      · exact Or.inr ⟨by decide, xI, hts _ lx_RL_13, k_ncs hW.2.2.2.1 (List.mem_of_getElem? (i := 0) rfl)⟩) (by decide) (by decide) (hts _ lx_RL_15) (k_cast hW.2.2.2.1 (List.mem_of_getElem? (i := 1) rfl)) hce hcv hcl ?_
      refine lv_astore (lv' := [(6, .ref q9), (0, .ref (E.2.2 0)), (1, .long p0), (3, .int p1), (4, .int p2), (5, .ref (E.2.2 45))]) hx hb dL_head_20 hl (by decide) rfl (fun ls hl => ?_)
      refine lv_iconst (v := 2) hx hb dL_head_22 (by decide) ?_
      have hR : (f_L_head z p0 p1 p2) = (2, z) := by simp only [f_L_head, if_neg (show ¬ (f_X5_head z p0 p1 p2).1 = 0 by rw [h2]; decide), if_neg (show ¬ (f_X5_head z p0 p1 p2).1 = 1 by rw [h2]; decide)]
      exact vx_ret (W.widen (k := 1) (n := 6) (by omega) (by omega) (k_iret hx hb hr rfl hlocks hW ⟨by rw [hR], by rw [hR]⟩ dL_head_23))
  · obtain ⟨h0, rfl, hz1⟩ := hp
    have hR : (f_L_head z p0 p1 p2) = (0, uJ ((f_X5_head z p0 p1 p2).2.2) 45 0 (((f_X5_head z p0 p1 p2).2.1).toInt64)) := by simp only [f_L_head, if_pos h0]
    rw [hz1] at hW
    refine W.eq (g2 := F0 m 11 ls [.int (f_X5_head z p0 p1 p2).2.1, .int 0, .ref (E.2.2 45)]) rfl ?_
    refine lv_i2l (v := ((f_X5_head z p0 p1 p2).2.1).toInt64) hx hb dL_head_11 rfl ?_
    refine k_last hx hb hW 45 1 (by omega) k_c45 (vp_in_iff.mpr (by decide)) dL_head_12 (fun H locs hW => ?_)
    refine lv_goto (tgt := 24) hx hb dL_head_13 (by decide) ?_
    refine lv_iconst (v := 0) hx hb dL_head_24 (by decide) ?_
    exact vx_ret (W.widen (k := 1) (n := 6) (by omega) (by omega) (k_iret hx hb hr rfl hlocks hW ⟨by rw [hR], by rw [hR]; rfl⟩ dL_head_25))

def f_L_kind (z : Sg) (p0 : Int32) : Int32 × Sg :=
  if (f_X5_kind z p0).1 = 0 then (0, uJ z 45 0 (((f_X5_kind z p0).2).toInt64)) else (1, z)
set_option maxHeartbeats 4000000 in
set_option maxRecDepth 100000 in
theorem c_L_kind (l : Launch) (hl0 : l.stackTraces = false) (E : Ev) (S sz : Nat) (z : Sg) (p0 : Int32) (hI : k_I S z) : k_HMet l yL_kind cL_kind 4 [(0, 9, 12, 52)] ({ frames := 7, cells := 1, slots := 6, locals := 131 }) [.ref (E.2.2 0), .int p0, .ref (E.2.2 45)] E (46 + 6 * S) z sz (fun v u => v = some (.int (f_L_kind z p0).1) ∧ u = (f_L_kind z p0).2) 1 6 := by
  refine k_bodyH (Qc := fun sz => k_Q (fun v u => v = some (.int (f_L_kind z p0).1) ∧ u = (f_L_kind z p0).2) E (46 + 6 * S) z sz) (by decide +kernel) (Nat.le_of_ble_eq_true rfl) ?_
  intro p e s m below meth cd ls hx hb hr hml hown hlocks htab hts hW hl
  have hl : lv_has ls 4 [(0, .ref (E.2.2 0)), (1, .int p0), (2, .ref (E.2.2 45))] := hl
  refine lv_aload_n hx hb dL_kind_0 rfl (lv_at hl 2 rfl) ?_
  refine lv_iconst (v := 0) hx hb dL_kind_1 (by decide) ?_
  refine lv_aload_n hx hb dL_kind_2 rfl (lv_at hl 0 rfl) ?_
  refine lv_iload_n hx hb dL_kind_3 rfl (lv_at hl 1 rfl) ?_
  refine k_callVX (As := [.int p0]) (rest := [.int 0, .ref (E.2.2 45)]) hx hb hml hown hts (c_X5_kind l hl0 E S _ z p0 hI) lm_RL_48 ln_X5_kind le_X5_kind li_X5 lk_X5_kind (show k_nm yX5_kind 1 by decide +kernel) ⟨Nat.le_of_ble_eq_true rfl, Nat.le_of_ble_eq_true rfl⟩ rfl rfl ⟨Nat.le_of_ble_eq_true rfl, Nat.le_of_ble_eq_true rfl⟩ hl.1 rfl (Nat.le_of_ble_eq_true rfl) dL_kind_4 (by omega) (k_c0 _ _ _) rfl hW (fun X ce q9 H locs hp hW hce hcv hcl => ?_) (fun v z1 H locs hp hW => ?_)
  · obtain ⟨n0, rfl⟩ := hp
    rcases x_kind z p0 with h0 | h1
    · exact absurd h0 n0
    · rw [h1] at hcl n0
      refine vx_catch (own := RL) (E := xB) (name := xB) hown [] ⟨0, 9, 12, 52⟩ [] htab (fun x9 hx9 => nomatch hx9) (by decide) (by decide) (hts _ lx_RL_52) (k_cast hW.2.2.2.1 (List.mem_of_getElem? (i := 2) rfl)) hce hcv hcl ?_
      refine lv_astore_n (lv' := [(3, .ref q9), (0, .ref (E.2.2 0)), (1, .int p0), (2, .ref (E.2.2 45))]) hx hb dL_kind_12 rfl hl (by decide) rfl (fun ls hl => ?_)
      refine lv_iconst (v := 1) hx hb dL_kind_13 (by decide) ?_
      have hR : (f_L_kind z p0) = (1, z) := by simp only [f_L_kind, if_neg (show ¬ (f_X5_kind z p0).1 = 0 by rw [h1]; decide)]
      exact vx_ret (W.widen (k := 1) (n := 6) (by omega) (by omega) (k_iret hx hb hr rfl hlocks hW ⟨by rw [hR], by rw [hR]⟩ dL_kind_14))
  · obtain ⟨h0, rfl, hz1⟩ := hp
    have hR : (f_L_kind z p0) = (0, uJ z 45 0 (((f_X5_kind z p0).2).toInt64)) := by simp only [f_L_kind, if_pos h0]
    rw [hz1] at hW
    refine W.eq (g2 := F0 m 7 ls [.int (f_X5_kind z p0).2, .int 0, .ref (E.2.2 45)]) rfl ?_
    refine lv_i2l (v := ((f_X5_kind z p0).2).toInt64) hx hb dL_kind_7 rfl ?_
    refine k_last hx hb hW 45 1 (by omega) k_c45 (vp_in_iff.mpr (by decide)) dL_kind_8 (fun H locs hW => ?_)
    refine lv_goto (tgt := 15) hx hb dL_kind_9 (by decide) ?_
    refine lv_iconst (v := 0) hx hb dL_kind_15 (by decide) ?_
    exact vx_ret (W.widen (k := 1) (n := 6) (by omega) (by omega) (k_iret hx hb hr rfl hlocks hW ⟨by rw [hR], by rw [hR]; rfl⟩ dL_kind_16))

def f_L_place (z : Sg) (p0 : Int32) (p1 : Int32) : Int32 × Sg :=
  if (f_X5_place z p0 p1).1 = 0 then (0, uJ z 45 0 ((f_X5_place z p0 p1).2)) else (1, z)
set_option maxHeartbeats 4000000 in
set_option maxRecDepth 100000 in
theorem c_L_place (l : Launch) (hl0 : l.stackTraces = false) (E : Ev) (S sz : Nat) (z : Sg) (p0 : Int32) (p1 : Int32) (hI : k_I S z) : k_HMet l yL_place cL_place 5 [(0, 9, 12, 52)] ({ frames := 7, cells := 1, slots := 6, locals := 132 }) [.ref (E.2.2 0), .int p0, .int p1, .ref (E.2.2 45)] E (46 + 6 * S) z sz (fun v u => v = some (.int (f_L_place z p0 p1).1) ∧ u = (f_L_place z p0 p1).2) 1 6 := by
  refine k_bodyH (Qc := fun sz => k_Q (fun v u => v = some (.int (f_L_place z p0 p1).1) ∧ u = (f_L_place z p0 p1).2) E (46 + 6 * S) z sz) (by decide +kernel) (Nat.le_of_ble_eq_true rfl) ?_
  intro p e s m below meth cd ls hx hb hr hml hown hlocks htab hts hW hl
  have hl : lv_has ls 5 [(0, .ref (E.2.2 0)), (1, .int p0), (2, .int p1), (3, .ref (E.2.2 45))] := hl
  refine lv_aload_n hx hb dL_place_0 rfl (lv_at hl 3 rfl) ?_
  refine lv_iconst (v := 0) hx hb dL_place_1 (by decide) ?_
  refine lv_aload_n hx hb dL_place_2 rfl (lv_at hl 0 rfl) ?_
  refine lv_iload_n hx hb dL_place_3 rfl (lv_at hl 1 rfl) ?_
  refine lv_iload_n hx hb dL_place_4 rfl (lv_at hl 2 rfl) ?_
  refine k_callVX (As := [.int p0, .int p1]) (rest := [.int 0, .ref (E.2.2 45)]) hx hb hml hown hts (c_X5_place l hl0 E S _ z p0 p1 hI) lm_RL_54 ln_X5_place le_X5_place li_X5 lk_X5_place (show k_nm yX5_place 2 by decide +kernel) ⟨Nat.le_of_ble_eq_true rfl, Nat.le_of_ble_eq_true rfl⟩ rfl rfl ⟨Nat.le_of_ble_eq_true rfl, Nat.le_of_ble_eq_true rfl⟩ hl.1 rfl (Nat.le_of_ble_eq_true rfl) dL_place_5 (by omega) (k_c0 _ _ _) rfl hW (fun X ce q9 H locs hp hW hce hcv hcl => ?_) (fun v z1 H locs hp hW => ?_)
  · obtain ⟨n0, rfl⟩ := hp
    rcases x_place z p0 p1 with h0 | h1
    · exact absurd h0 n0
    · rw [h1] at hcl n0
      refine vx_catch (own := RL) (E := xB) (name := xB) hown [] ⟨0, 9, 12, 52⟩ [] htab (fun x9 hx9 => nomatch hx9) (by decide) (by decide) (hts _ lx_RL_52) (k_cast hW.2.2.2.1 (List.mem_of_getElem? (i := 2) rfl)) hce hcv hcl ?_
      refine lv_astore (lv' := [(4, .ref q9), (0, .ref (E.2.2 0)), (1, .int p0), (2, .int p1), (3, .ref (E.2.2 45))]) hx hb dL_place_12 hl (by decide) rfl (fun ls hl => ?_)
      refine lv_iconst (v := 1) hx hb dL_place_14 (by decide) ?_
      have hR : (f_L_place z p0 p1) = (1, z) := by simp only [f_L_place, if_neg (show ¬ (f_X5_place z p0 p1).1 = 0 by rw [h1]; decide)]
      exact vx_ret (W.widen (k := 1) (n := 6) (by omega) (by omega) (k_iret hx hb hr rfl hlocks hW ⟨by rw [hR], by rw [hR]⟩ dL_place_15))
  · obtain ⟨h0, rfl, hz1⟩ := hp
    have hR : (f_L_place z p0 p1) = (0, uJ z 45 0 ((f_X5_place z p0 p1).2)) := by simp only [f_L_place, if_pos h0]
    rw [hz1] at hW
    refine W.eq (g2 := F0 m 8 ls [.long (f_X5_place z p0 p1).2, .int 0, .ref (E.2.2 45)]) rfl ?_
    refine k_last hx hb hW 45 1 (by omega) k_c45 (vp_in_iff.mpr (by decide)) dL_place_8 (fun H locs hW => ?_)
    refine lv_goto (tgt := 16) hx hb dL_place_9 (by decide) ?_
    refine lv_iconst (v := 0) hx hb dL_place_16 (by decide) ?_
    exact vx_ret (W.widen (k := 1) (n := 6) (by omega) (by omega) (k_iret hx hb hr rfl hlocks hW ⟨by rw [hR], by rw [hR]; rfl⟩ dL_place_17))

def f_L_revision (z : Sg) (p0 : Int32) (p1 : Int32) : Int32 × Sg :=
  if (f_X5_revision z p0 p1).1 = 0 then (0, uJ z 45 0 (((f_X5_revision z p0 p1).2).toInt64)) else (1, z)
set_option maxHeartbeats 4000000 in
set_option maxRecDepth 100000 in
theorem c_L_revision (l : Launch) (hl0 : l.stackTraces = false) (E : Ev) (S sz : Nat) (z : Sg) (p0 : Int32) (p1 : Int32) (hI : k_I S z) : k_HMet l yL_revision cL_revision 5 [(0, 10, 13, 52)] ({ frames := 7, cells := 1, slots := 6, locals := 132 }) [.ref (E.2.2 0), .int p0, .int p1, .ref (E.2.2 45)] E (46 + 6 * S) z sz (fun v u => v = some (.int (f_L_revision z p0 p1).1) ∧ u = (f_L_revision z p0 p1).2) 1 6 := by
  refine k_bodyH (Qc := fun sz => k_Q (fun v u => v = some (.int (f_L_revision z p0 p1).1) ∧ u = (f_L_revision z p0 p1).2) E (46 + 6 * S) z sz) (by decide +kernel) (Nat.le_of_ble_eq_true rfl) ?_
  intro p e s m below meth cd ls hx hb hr hml hown hlocks htab hts hW hl
  have hl : lv_has ls 5 [(0, .ref (E.2.2 0)), (1, .int p0), (2, .int p1), (3, .ref (E.2.2 45))] := hl
  refine lv_aload_n hx hb dL_revision_0 rfl (lv_at hl 3 rfl) ?_
  refine lv_iconst (v := 0) hx hb dL_revision_1 (by decide) ?_
  refine lv_aload_n hx hb dL_revision_2 rfl (lv_at hl 0 rfl) ?_
  refine lv_iload_n hx hb dL_revision_3 rfl (lv_at hl 1 rfl) ?_
  refine lv_iload_n hx hb dL_revision_4 rfl (lv_at hl 2 rfl) ?_
  refine k_callVX (As := [.int p0, .int p1]) (rest := [.int 0, .ref (E.2.2 45)]) hx hb hml hown hts (c_X5_revision l hl0 E S _ z p0 p1 hI) lm_RL_58 ln_X5_revision le_X5_revision li_X5 lk_X5_revision (show k_nm yX5_revision 2 by decide +kernel) ⟨Nat.le_of_ble_eq_true rfl, Nat.le_of_ble_eq_true rfl⟩ rfl rfl ⟨Nat.le_of_ble_eq_true rfl, Nat.le_of_ble_eq_true rfl⟩ hl.1 rfl (Nat.le_of_ble_eq_true rfl) dL_revision_5 (by omega) (k_c0 _ _ _) rfl hW (fun X ce q9 H locs hp hW hce hcv hcl => ?_) (fun v z1 H locs hp hW => ?_)
  · obtain ⟨n0, rfl⟩ := hp
    rcases x_revision z p0 p1 with h0 | h1
    · exact absurd h0 n0
    · rw [h1] at hcl n0
      refine vx_catch (own := RL) (E := xB) (name := xB) hown [] ⟨0, 10, 13, 52⟩ [] htab (fun x9 hx9 => nomatch hx9) (by decide) (by decide) (hts _ lx_RL_52) (k_cast hW.2.2.2.1 (List.mem_of_getElem? (i := 2) rfl)) hce hcv hcl ?_
      refine lv_astore (lv' := [(4, .ref q9), (0, .ref (E.2.2 0)), (1, .int p0), (2, .int p1), (3, .ref (E.2.2 45))]) hx hb dL_revision_13 hl (by decide) rfl (fun ls hl => ?_)
      refine lv_iconst (v := 1) hx hb dL_revision_15 (by decide) ?_
      have hR : (f_L_revision z p0 p1) = (1, z) := by simp only [f_L_revision, if_neg (show ¬ (f_X5_revision z p0 p1).1 = 0 by rw [h1]; decide)]
      exact vx_ret (W.widen (k := 1) (n := 6) (by omega) (by omega) (k_iret hx hb hr rfl hlocks hW ⟨by rw [hR], by rw [hR]⟩ dL_revision_16))
  · obtain ⟨h0, rfl, hz1⟩ := hp
    have hR : (f_L_revision z p0 p1) = (0, uJ z 45 0 (((f_X5_revision z p0 p1).2).toInt64)) := by simp only [f_L_revision, if_pos h0]
    rw [hz1] at hW
    refine W.eq (g2 := F0 m 8 ls [.int (f_X5_revision z p0 p1).2, .int 0, .ref (E.2.2 45)]) rfl ?_
    refine lv_i2l (v := ((f_X5_revision z p0 p1).2).toInt64) hx hb dL_revision_8 rfl ?_
    refine k_last hx hb hW 45 1 (by omega) k_c45 (vp_in_iff.mpr (by decide)) dL_revision_9 (fun H locs hW => ?_)
    refine lv_goto (tgt := 17) hx hb dL_revision_10 (by decide) ?_
    refine lv_iconst (v := 0) hx hb dL_revision_17 (by decide) ?_
    exact vx_ret (W.widen (k := 1) (n := 6) (by omega) (by omega) (k_iret hx hb hr rfl hlocks hW ⟨by rw [hR], by rw [hR]; rfl⟩ dL_revision_18))

def f_L_told (z : Sg) (p0 : Int32) (p1 : Int32) : Int32 × Sg :=
  if (f_X5_told z p0 p1).1 = 0 then (0, uJ z 45 0 ((f_X5_told z p0 p1).2)) else (1, z)
set_option maxHeartbeats 4000000 in
set_option maxRecDepth 100000 in
theorem c_L_told (l : Launch) (hl0 : l.stackTraces = false) (E : Ev) (S sz : Nat) (z : Sg) (p0 : Int32) (p1 : Int32) (hI : k_I S z) : k_HMet l yL_told cL_told 5 [(0, 9, 12, 52)] ({ frames := 7, cells := 1, slots := 6, locals := 132 }) [.ref (E.2.2 0), .int p0, .int p1, .ref (E.2.2 45)] E (46 + 6 * S) z sz (fun v u => v = some (.int (f_L_told z p0 p1).1) ∧ u = (f_L_told z p0 p1).2) 1 6 := by
  refine k_bodyH (Qc := fun sz => k_Q (fun v u => v = some (.int (f_L_told z p0 p1).1) ∧ u = (f_L_told z p0 p1).2) E (46 + 6 * S) z sz) (by decide +kernel) (Nat.le_of_ble_eq_true rfl) ?_
  intro p e s m below meth cd ls hx hb hr hml hown hlocks htab hts hW hl
  have hl : lv_has ls 5 [(0, .ref (E.2.2 0)), (1, .int p0), (2, .int p1), (3, .ref (E.2.2 45))] := hl
  refine lv_aload_n hx hb dL_told_0 rfl (lv_at hl 3 rfl) ?_
  refine lv_iconst (v := 0) hx hb dL_told_1 (by decide) ?_
  refine lv_aload_n hx hb dL_told_2 rfl (lv_at hl 0 rfl) ?_
  refine lv_iload_n hx hb dL_told_3 rfl (lv_at hl 1 rfl) ?_
  refine lv_iload_n hx hb dL_told_4 rfl (lv_at hl 2 rfl) ?_
  refine k_callVX (As := [.int p0, .int p1]) (rest := [.int 0, .ref (E.2.2 45)]) hx hb hml hown hts (c_X5_told l hl0 E S _ z p0 p1 hI) lm_RL_62 ln_X5_told le_X5_told li_X5 lk_X5_told (show k_nm yX5_told 2 by decide +kernel) ⟨Nat.le_of_ble_eq_true rfl, Nat.le_of_ble_eq_true rfl⟩ rfl rfl ⟨Nat.le_of_ble_eq_true rfl, Nat.le_of_ble_eq_true rfl⟩ hl.1 rfl (Nat.le_of_ble_eq_true rfl) dL_told_5 (by omega) (k_c0 _ _ _) rfl hW (fun X ce q9 H locs hp hW hce hcv hcl => ?_) (fun v z1 H locs hp hW => ?_)
  · obtain ⟨n0, rfl⟩ := hp
    rcases x_told z p0 p1 with h0 | h1
    · exact absurd h0 n0
    · rw [h1] at hcl n0
      refine vx_catch (own := RL) (E := xB) (name := xB) hown [] ⟨0, 9, 12, 52⟩ [] htab (fun x9 hx9 => nomatch hx9) (by decide) (by decide) (hts _ lx_RL_52) (k_cast hW.2.2.2.1 (List.mem_of_getElem? (i := 2) rfl)) hce hcv hcl ?_
      refine lv_astore (lv' := [(4, .ref q9), (0, .ref (E.2.2 0)), (1, .int p0), (2, .int p1), (3, .ref (E.2.2 45))]) hx hb dL_told_12 hl (by decide) rfl (fun ls hl => ?_)
      refine lv_iconst (v := 1) hx hb dL_told_14 (by decide) ?_
      have hR : (f_L_told z p0 p1) = (1, z) := by simp only [f_L_told, if_neg (show ¬ (f_X5_told z p0 p1).1 = 0 by rw [h1]; decide)]
      exact vx_ret (W.widen (k := 1) (n := 6) (by omega) (by omega) (k_iret hx hb hr rfl hlocks hW ⟨by rw [hR], by rw [hR]⟩ dL_told_15))
  · obtain ⟨h0, rfl, hz1⟩ := hp
    have hR : (f_L_told z p0 p1) = (0, uJ z 45 0 ((f_X5_told z p0 p1).2)) := by simp only [f_L_told, if_pos h0]
    rw [hz1] at hW
    refine W.eq (g2 := F0 m 8 ls [.long (f_X5_told z p0 p1).2, .int 0, .ref (E.2.2 45)]) rfl ?_
    refine k_last hx hb hW 45 1 (by omega) k_c45 (vp_in_iff.mpr (by decide)) dL_told_8 (fun H locs hW => ?_)
    refine lv_goto (tgt := 16) hx hb dL_told_9 (by decide) ?_
    refine lv_iconst (v := 0) hx hb dL_told_16 (by decide) ?_
    exact vx_ret (W.widen (k := 1) (n := 6) (by omega) (by omega) (k_iret hx hb hr rfl hlocks hW ⟨by rw [hR], by rw [hR]; rfl⟩ dL_told_17))

def f_L_free (z : Sg) (p0 : Int32) : Int32 × Sg :=
  if (f_X5_free z p0).1 = 0 then (0, uJ z 45 0 (((f_X5_free z p0).2).toInt64)) else (1, z)
set_option maxHeartbeats 4000000 in
set_option maxRecDepth 100000 in
theorem c_L_free (l : Launch) (hl0 : l.stackTraces = false) (E : Ev) (S sz : Nat) (z : Sg) (p0 : Int32) (hI : k_I S z) : k_HMet l yL_free cL_free 4 [(0, 9, 12, 52)] ({ frames := 7, cells := 1, slots := 6, locals := 131 }) [.ref (E.2.2 0), .int p0, .ref (E.2.2 45)] E (46 + 6 * S) z sz (fun v u => v = some (.int (f_L_free z p0).1) ∧ u = (f_L_free z p0).2) 1 6 := by
  refine k_bodyH (Qc := fun sz => k_Q (fun v u => v = some (.int (f_L_free z p0).1) ∧ u = (f_L_free z p0).2) E (46 + 6 * S) z sz) (by decide +kernel) (Nat.le_of_ble_eq_true rfl) ?_
  intro p e s m below meth cd ls hx hb hr hml hown hlocks htab hts hW hl
  have hl : lv_has ls 4 [(0, .ref (E.2.2 0)), (1, .int p0), (2, .ref (E.2.2 45))] := hl
  refine lv_aload_n hx hb dL_free_0 rfl (lv_at hl 2 rfl) ?_
  refine lv_iconst (v := 0) hx hb dL_free_1 (by decide) ?_
  refine lv_aload_n hx hb dL_free_2 rfl (lv_at hl 0 rfl) ?_
  refine lv_iload_n hx hb dL_free_3 rfl (lv_at hl 1 rfl) ?_
  refine k_callVX (As := [.int p0]) (rest := [.int 0, .ref (E.2.2 45)]) hx hb hml hown hts (c_X5_free l hl0 E S _ z p0 hI) lm_RL_65 ln_X5_free le_X5_free li_X5 lk_X5_free (show k_nm yX5_free 1 by decide +kernel) ⟨Nat.le_of_ble_eq_true rfl, Nat.le_of_ble_eq_true rfl⟩ rfl rfl ⟨Nat.le_of_ble_eq_true rfl, Nat.le_of_ble_eq_true rfl⟩ hl.1 rfl (Nat.le_of_ble_eq_true rfl) dL_free_4 (by omega) (k_c0 _ _ _) rfl hW (fun X ce q9 H locs hp hW hce hcv hcl => ?_) (fun v z1 H locs hp hW => ?_)
  · obtain ⟨n0, rfl⟩ := hp
    rcases x_free z p0 with h0 | h1
    · exact absurd h0 n0
    · rw [h1] at hcl n0
      refine vx_catch (own := RL) (E := xB) (name := xB) hown [] ⟨0, 9, 12, 52⟩ [] htab (fun x9 hx9 => nomatch hx9) (by decide) (by decide) (hts _ lx_RL_52) (k_cast hW.2.2.2.1 (List.mem_of_getElem? (i := 2) rfl)) hce hcv hcl ?_
      refine lv_astore_n (lv' := [(3, .ref q9), (0, .ref (E.2.2 0)), (1, .int p0), (2, .ref (E.2.2 45))]) hx hb dL_free_12 rfl hl (by decide) rfl (fun ls hl => ?_)
      refine lv_iconst (v := 1) hx hb dL_free_13 (by decide) ?_
      have hR : (f_L_free z p0) = (1, z) := by simp only [f_L_free, if_neg (show ¬ (f_X5_free z p0).1 = 0 by rw [h1]; decide)]
      exact vx_ret (W.widen (k := 1) (n := 6) (by omega) (by omega) (k_iret hx hb hr rfl hlocks hW ⟨by rw [hR], by rw [hR]⟩ dL_free_14))
  · obtain ⟨h0, rfl, hz1⟩ := hp
    have hR : (f_L_free z p0) = (0, uJ z 45 0 (((f_X5_free z p0).2).toInt64)) := by simp only [f_L_free, if_pos h0]
    rw [hz1] at hW
    refine W.eq (g2 := F0 m 7 ls [.int (f_X5_free z p0).2, .int 0, .ref (E.2.2 45)]) rfl ?_
    refine lv_i2l (v := ((f_X5_free z p0).2).toInt64) hx hb dL_free_7 rfl ?_
    refine k_last hx hb hW 45 1 (by omega) k_c45 (vp_in_iff.mpr (by decide)) dL_free_8 (fun H locs hW => ?_)
    refine lv_goto (tgt := 15) hx hb dL_free_9 (by decide) ?_
    refine lv_iconst (v := 0) hx hb dL_free_15 (by decide) ?_
    exact vx_ret (W.widen (k := 1) (n := 6) (by omega) (by omega) (k_iret hx hb hr rfl hlocks hW ⟨by rw [hR], by rw [hR]; rfl⟩ dL_free_16))

def f_L_trailer (z : Sg) (p0 : Int32) : Int32 × Sg :=
  if (f_X5_trailer z p0).1 = 0 then (0, uJ z 45 0 (((f_X5_trailer z p0).2).toInt64)) else (1, z)
set_option maxHeartbeats 4000000 in
set_option maxRecDepth 100000 in
theorem c_L_trailer (l : Launch) (hl0 : l.stackTraces = false) (E : Ev) (S sz : Nat) (z : Sg) (p0 : Int32) (hI : k_I S z) : k_HMet l yL_trailer cL_trailer 4 [(0, 9, 12, 13)] ({ frames := 7, cells := 1, slots := 6, locals := 131 }) [.ref (E.2.2 0), .int p0, .ref (E.2.2 45)] E (46 + 6 * S) z sz (fun v u => v = some (.int (f_L_trailer z p0).1) ∧ u = (f_L_trailer z p0).2) 1 6 := by
  refine k_bodyH (Qc := fun sz => k_Q (fun v u => v = some (.int (f_L_trailer z p0).1) ∧ u = (f_L_trailer z p0).2) E (46 + 6 * S) z sz) (by decide +kernel) (Nat.le_of_ble_eq_true rfl) ?_
  intro p e s m below meth cd ls hx hb hr hml hown hlocks htab hts hW hl
  have hl : lv_has ls 4 [(0, .ref (E.2.2 0)), (1, .int p0), (2, .ref (E.2.2 45))] := hl
  refine lv_aload_n hx hb dL_trailer_0 rfl (lv_at hl 2 rfl) ?_
  refine lv_iconst (v := 0) hx hb dL_trailer_1 (by decide) ?_
  refine lv_aload_n hx hb dL_trailer_2 rfl (lv_at hl 0 rfl) ?_
  refine lv_iload_n hx hb dL_trailer_3 rfl (lv_at hl 1 rfl) ?_
  refine k_callVX (As := [.int p0]) (rest := [.int 0, .ref (E.2.2 45)]) hx hb hml hown hts (c_X5_trailer l hl0 E S _ z p0 hI) lm_RL_68 ln_X5_trailer le_X5_trailer li_X5 lk_X5_trailer (show k_nm yX5_trailer 1 by decide +kernel) ⟨Nat.le_of_ble_eq_true rfl, Nat.le_of_ble_eq_true rfl⟩ rfl rfl ⟨Nat.le_of_ble_eq_true rfl, Nat.le_of_ble_eq_true rfl⟩ hl.1 rfl (Nat.le_of_ble_eq_true rfl) dL_trailer_4 (by omega) (k_c0 _ _ _) rfl hW (fun X ce q9 H locs hp hW hce hcv hcl => ?_) (fun v z1 H locs hp hW => ?_)
  · obtain ⟨n0, rfl⟩ := hp
    rcases x_trailer z p0 with h0 | h1
    · exact absurd h0 n0
    · rw [h1] at hcl n0
      refine vx_catch (own := RL) (E := xI) (name := xI) hown [] ⟨0, 9, 12, 13⟩ [] htab (fun x9 hx9 => nomatch hx9) (by decide) (by decide) (hts _ lx_RL_13) (k_cast hW.2.2.2.1 (List.mem_of_getElem? (i := 0) rfl)) hce hcv hcl ?_
      refine lv_astore_n (lv' := [(3, .ref q9), (0, .ref (E.2.2 0)), (1, .int p0), (2, .ref (E.2.2 45))]) hx hb dL_trailer_12 rfl hl (by decide) rfl (fun ls hl => ?_)
      refine lv_iconst (v := 1) hx hb dL_trailer_13 (by decide) ?_
      have hR : (f_L_trailer z p0) = (1, z) := by simp only [f_L_trailer, if_neg (show ¬ (f_X5_trailer z p0).1 = 0 by rw [h1]; decide)]
      exact vx_ret (W.widen (k := 1) (n := 6) (by omega) (by omega) (k_iret hx hb hr rfl hlocks hW ⟨by rw [hR], by rw [hR]⟩ dL_trailer_14))
  · obtain ⟨h0, rfl, hz1⟩ := hp
    have hR : (f_L_trailer z p0) = (0, uJ z 45 0 (((f_X5_trailer z p0).2).toInt64)) := by simp only [f_L_trailer, if_pos h0]
    rw [hz1] at hW
    refine W.eq (g2 := F0 m 7 ls [.int (f_X5_trailer z p0).2, .int 0, .ref (E.2.2 45)]) rfl ?_
    refine lv_i2l (v := ((f_X5_trailer z p0).2).toInt64) hx hb dL_trailer_7 rfl ?_
    refine k_last hx hb hW 45 1 (by omega) k_c45 (vp_in_iff.mpr (by decide)) dL_trailer_8 (fun H locs hW => ?_)
    refine lv_goto (tgt := 15) hx hb dL_trailer_9 (by decide) ?_
    refine lv_iconst (v := 0) hx hb dL_trailer_15 (by decide) ?_
    exact vx_ret (W.widen (k := 1) (n := 6) (by omega) (by omega) (k_iret hx hb hr rfl hlocks hW ⟨by rw [hR], by rw [hR]; rfl⟩ dL_trailer_16))

def f_L_value (z : Sg) (p0 : Int32) (p1 : Int32) : Int32 × Sg :=
  if (f_X5_value z p0 p1).1 = 0 then (0, uJ z 45 0 (((f_X5_value z p0 p1).2).toInt64)) else if (f_X5_value z p0 p1).1 = 3 then (1, z) else (2, z)
set_option maxHeartbeats 4000000 in
set_option maxRecDepth 100000 in
theorem c_L_value (l : Launch) (hl0 : l.stackTraces = false) (E : Ev) (S sz : Nat) (z : Sg) (p0 : Int32) (p1 : Int32) (hI : k_I S z) : k_HMet l yL_value cL_value 5 [(0, 10, 13, 21), (0, 10, 17, 13)] ({ frames := 8, cells := 2, slots := 12, locals := 155 }) [.ref (E.2.2 0), .int p0, .int p1, .ref (E.2.2 45)] E (46 + 6 * S) z sz (fun v u => v = some (.int (f_L_value z p0 p1).1) ∧ u = (f_L_value z p0 p1).2) 2 12 := by
  refine k_bodyH (Qc := fun sz => k_Q (fun v u => v = some (.int (f_L_value z p0 p1).1) ∧ u = (f_L_value z p0 p1).2) E (46 + 6 * S) z sz) (by decide +kernel) (Nat.le_of_ble_eq_true rfl) ?_
  intro p e s m below meth cd ls hx hb hr hml hown hlocks htab hts hW hl
  have hl : lv_has ls 5 [(0, .ref (E.2.2 0)), (1, .int p0), (2, .int p1), (3, .ref (E.2.2 45))] := hl
  refine lv_aload_n hx hb dL_value_0 rfl (lv_at hl 3 rfl) ?_
  refine lv_iconst (v := 0) hx hb dL_value_1 (by decide) ?_
  refine lv_aload_n hx hb dL_value_2 rfl (lv_at hl 0 rfl) ?_
  refine lv_iload_n hx hb dL_value_3 rfl (lv_at hl 1 rfl) ?_
  refine lv_iload_n hx hb dL_value_4 rfl (lv_at hl 2 rfl) ?_
  refine k_callVX (As := [.int p0, .int p1]) (rest := [.int 0, .ref (E.2.2 45)]) hx hb hml hown hts (c_X5_value l hl0 E S _ z p0 p1 hI) lm_RL_71 ln_X5_value le_X5_value li_X5 lk_X5_value (show k_nm yX5_value 2 by decide +kernel) ⟨Nat.le_of_ble_eq_true rfl, Nat.le_of_ble_eq_true rfl⟩ rfl rfl ⟨Nat.le_of_ble_eq_true rfl, Nat.le_of_ble_eq_true rfl⟩ hl.1 rfl (Nat.le_of_ble_eq_true rfl) dL_value_5 (by omega) (k_c0 _ _ _) rfl hW (fun X ce q9 H locs hp hW hce hcv hcl => ?_) (fun v z1 H locs hp hW => ?_)
  · obtain ⟨n0, rfl⟩ := hp
    rcases x_value z p0 p1 with h0 | h1 | h2
    · exact absurd h0 n0
    · rw [h1] at hcl n0
      refine vx_catch (own := RL) (E := nx_N) (name := nx_N) hown [] ⟨0, 10, 13, 21⟩ [⟨0, 10, 17, 13⟩] htab (fun x9 hx9 => nomatch hx9) (by decide) (by decide) (hts _ lx_RL_21) (k_cast hW.2.2.2.1 (List.mem_of_getElem? (i := 4) rfl)) hce hcv hcl ?_
      refine lv_astore (lv' := [(4, .ref q9), (0, .ref (E.2.2 0)), (1, .int p0), (2, .int p1), (3, .ref (E.2.2 45))]) hx hb dL_value_13 hl (by decide) rfl (fun ls hl => ?_)
      refine lv_iconst (v := 1) hx hb dL_value_15 (by decide) ?_
      have hR : (f_L_value z p0 p1) = (1, z) := by simp only [f_L_value, if_neg (show ¬ (f_X5_value z p0 p1).1 = 0 by rw [h1]; decide), if_pos h1]
      exact vx_ret (W.widen (k := 2) (n := 12) (by omega) (by omega) (k_iret hx hb hr rfl hlocks hW ⟨by rw [hR], by rw [hR]⟩ dL_value_16))
    · rw [h2] at hcl n0
      refine vx_catch (own := RL) (E := xI) (name := xI) hown [⟨0, 10, 13, 21⟩] ⟨0, 10, 17, 13⟩ [] htab (fun x9 hx9 => by
      simp only [List.mem_cons, List.not_mem_nil, or_false] at hx9
      subst hx9
      · exact Or.inr ⟨by decide, nx_N, hts _ lx_RL_21, k_ncs hW.2.2.2.1 (List.mem_of_getElem? (i := 3) rfl)⟩) (by decide) (by decide) (hts _ lx_RL_13) (k_cast hW.2.2.2.1 (List.mem_of_getElem? (i := 0) rfl)) hce hcv hcl ?_
      refine lv_astore (lv' := [(4, .ref q9), (0, .ref (E.2.2 0)), (1, .int p0), (2, .int p1), (3, .ref (E.2.2 45))]) hx hb dL_value_17 hl (by decide) rfl (fun ls hl => ?_)
      refine lv_iconst (v := 2) hx hb dL_value_19 (by decide) ?_
      have hR : (f_L_value z p0 p1) = (2, z) := by simp only [f_L_value, if_neg (show ¬ (f_X5_value z p0 p1).1 = 0 by rw [h2]; decide), if_neg (show ¬ (f_X5_value z p0 p1).1 = 3 by rw [h2]; decide)]
      exact vx_ret (W.widen (k := 2) (n := 12) (by omega) (by omega) (k_iret hx hb hr rfl hlocks hW ⟨by rw [hR], by rw [hR]⟩ dL_value_20))
  · obtain ⟨h0, rfl, hz1⟩ := hp
    have hR : (f_L_value z p0 p1) = (0, uJ z 45 0 (((f_X5_value z p0 p1).2).toInt64)) := by simp only [f_L_value, if_pos h0]
    rw [hz1] at hW
    refine W.eq (g2 := F0 m 8 ls [.int (f_X5_value z p0 p1).2, .int 0, .ref (E.2.2 45)]) rfl ?_
    refine lv_i2l (v := ((f_X5_value z p0 p1).2).toInt64) hx hb dL_value_8 rfl ?_
    refine k_last hx hb hW 45 1 (by omega) k_c45 (vp_in_iff.mpr (by decide)) dL_value_9 (fun H locs hW => ?_)
    refine lv_goto (tgt := 21) hx hb dL_value_10 (by decide) ?_
    refine lv_iconst (v := 0) hx hb dL_value_21 (by decide) ?_
    exact vx_ret (W.widen (k := 2) (n := 12) (by omega) (by omega) (k_iret hx hb hr rfl hlocks hW ⟨by rw [hR], by rw [hR]; rfl⟩ dL_value_22))

def f_L_section (S : Nat) (z : Sg) (p0 : Int32) (p1 : Int64) (p2 : Int64) : Int32 × Sg :=
  if (f_X5_section S z p0 p1 p2).1 = 0 then (0, uJ ((f_X5_section S z p0 p1 p2).2.2) 45 0 (((f_X5_section S z p0 p1 p2).2.1).toInt64)) else if (f_X5_section S z p0 p1 p2).1 = 1 then (1, z) else (2, z)
def k_LSQ (r : Int32 × Sg) (E : Ev) (S : Nat) (z : Sg) (sz : Nat) : Array Value → State → Outcome → State → Prop := fun _ st oc t => ((∃ E' : Ev, r.1 = 0 ∧ oc = .returned (some (.int 0)) ∧ k_ext E E' (46 + 6 * S) ∧ va_P E'.1 vwCl (k_wl E' (46 + 6 * (S + 1)) r.2) t.heap ∧ va_D (k_A E (46 + 6 * S) z sz) (k_wl E' (46 + 6 * (S + 1)) r.2)) ∨ (r.1 ≠ 0 ∧ oc = .returned (some (.int r.1)) ∧ r.2 = z ∧ k_B E (46 + 6 * S) z sz z t)) ∧ va_F (k_A E (46 + 6 * S) z sz) st t
set_option maxHeartbeats 4000000 in
set_option maxRecDepth 100000 in
theorem c_L_section (l : Launch) (hl0 : l.stackTraces = false) (E : Ev) (S sz : Nat) (z : Sg) (p0 : Int32) (p1 : Int64) (p2 : Int64) (hI : k_I S z) (hO : k_O S z) : vx_Met l yL_section (Cond.codeWith yL_section cL_section 8 (some .int) [(0, 13, 16, 13), (0, 13, 20, 15)] :: wsL_law) ({ frames := 7, cells := 6, slots := 347, locals := 136 }) (va_Pc [.ref (E.2.2 0), .int p0, .long p1, .long p2, .ref (E.2.2 45)] (k_Pre E (46 + 6 * S) z sz)) (k_LSQ (f_L_section S z p0 p1 p2) E S z sz) (k_X (fun _ => False) E (46 + 6 * S) z sz) 6 347 (k_A E (46 + 6 * S) z sz) := by
  refine k_bodyH (Qc := fun sz => k_LSQ (f_L_section S z p0 p1 p2) E S z sz) (by decide +kernel) (Nat.le_of_ble_eq_true rfl) ?_
  intro p e s m below meth cd ls hx hb hr hml hown hlocks htab hts hW hl
  have hl : lv_has ls 8 [(0, .ref (E.2.2 0)), (1, .int p0), (2, .long p1), (4, .long p2), (6, .ref (E.2.2 45))] := hl
  refine lv_aload hx hb dL_section_0 (lv_at hl 4 rfl) ?_
  refine lv_iconst (v := 0) hx hb dL_section_2 (by decide) ?_
  refine lv_aload_n hx hb dL_section_3 rfl (lv_at hl 0 rfl) ?_
  refine lv_iload_n hx hb dL_section_4 rfl (lv_at hl 1 rfl) ?_
  refine lv_lload_n hx hb dL_section_5 rfl (lv_at hl 2 rfl) ?_
  refine lv_lload hx hb dL_section_6 (lv_at hl 3 rfl) ?_
  refine k_goS (a := (Value.ref (E.2.2 0) :: [.int p0, .long p1, .long p2]).toArray) (rest := [.int 0, .ref (E.2.2 45)]) (vx_runV ⟨hx, hb, hml, hown, hts⟩ (c_X5_section l hl0 E S _ z p0 p1 p2 hI hO) ⟨callB_of 3 hts (k_gl lk_X5_section) rfl rfl rfl (hts _ li_X5) (hts _ lm_RL_7) (show k_nm yX5_section 3 by decide +kernel) ⟨Nat.le_of_ble_eq_true rfl, Nat.le_of_ble_eq_true rfl⟩, hts _ ln_X5_section, hts _ le_X5_section⟩ (k_preV (r := 0) hW (by omega) (k_c0 _ _ _) rfl) rfl rfl hl.1 rfl (lv_room (Nat.le_of_ble_eq_true rfl)) dL_section_8 ⟨Nat.le_of_ble_eq_true rfl, Nat.le_of_ble_eq_true rfl⟩) hW (fun X ce q9 H locs hp hW hce hcv hcl => ?_) (fun E2 H locs h0 hx2 hW => ?_)
  · obtain ⟨n0, rfl⟩ := hp
    rcases x_section S z p0 p1 p2 with h0 | h1 | h2
    · exact absurd h0 n0
    · rw [h1] at hcl n0
      refine vx_catch (own := RL) (E := xI) (name := xI) hown [] ⟨0, 13, 16, 13⟩ [⟨0, 13, 20, 15⟩] htab (fun x9 hx9 => nomatch hx9) (by decide) (by decide) (hts _ lx_RL_13) (k_cast hW.2.2.2.1 (List.mem_of_getElem? (i := 0) rfl)) hce hcv hcl ?_
      refine lv_astore (lv' := [(7, .ref q9), (0, .ref (E.2.2 0)), (1, .int p0), (2, .long p1), (4, .long p2), (6, .ref (E.2.2 45))]) hx hb dL_section_16 hl (by decide) rfl (fun ls hl => ?_)
      refine lv_iconst (v := 1) hx hb dL_section_18 (by decide) ?_
      have hR : (f_L_section S z p0 p1 p2) = (1, z) := by simp only [f_L_section, if_neg (show ¬ (f_X5_section S z p0 p1 p2).1 = 0 by rw [h1]; decide), if_pos h1]
      exact vx_ret (W.widen (k := 6) (n := 347) (by omega) (by omega) (W.zret hx hb hr rfl (fun t ht hWm => ⟨Or.inr ⟨by rw [hR]; exact (by decide : (1 : Int32) ≠ 0), by rw [hR], by rw [hR], by rw [ht]; exact hW.1, hW.2.1⟩, hW.2.2.1.F ht⟩) hW.2.2.1.2.2 dL_section_19 hlocks))
    · rw [h2] at hcl n0
      refine vx_catch (own := RL) (E := xU) (name := xU) hown [⟨0, 13, 16, 13⟩] ⟨0, 13, 20, 15⟩ [] htab (fun x9 hx9 => by
      simp only [List.mem_cons, List.not_mem_nil, or_false] at hx9
      subst hx9
      · exact Or.inr ⟨by decide, xI, hts _ lx_RL_13, k_ncs hW.2.2.2.1 (List.mem_of_getElem? (i := 0) rfl)⟩) (by decide) (by decide) (hts _ lx_RL_15) (k_cast hW.2.2.2.1 (List.mem_of_getElem? (i := 1) rfl)) hce hcv hcl ?_
      refine lv_astore (lv' := [(7, .ref q9), (0, .ref (E.2.2 0)), (1, .int p0), (2, .long p1), (4, .long p2), (6, .ref (E.2.2 45))]) hx hb dL_section_20 hl (by decide) rfl (fun ls hl => ?_)
      refine lv_iconst (v := 2) hx hb dL_section_22 (by decide) ?_
      have hR : (f_L_section S z p0 p1 p2) = (2, z) := by simp only [f_L_section, if_neg (show ¬ (f_X5_section S z p0 p1 p2).1 = 0 by rw [h2]; decide), if_neg (show ¬ (f_X5_section S z p0 p1 p2).1 = 1 by rw [h2]; decide)]
      exact vx_ret (W.widen (k := 6) (n := 347) (by omega) (by omega) (W.zret hx hb hr rfl (fun t ht hWm => ⟨Or.inr ⟨by rw [hR]; exact (by decide : (2 : Int32) ≠ 0), by rw [hR], by rw [hR], by rw [ht]; exact hW.1, hW.2.1⟩, hW.2.2.1.F ht⟩) hW.2.2.1.2.2 dL_section_23 hlocks))
  · have hR : (f_L_section S z p0 p1 p2) = (0, uJ ((f_X5_section S z p0 p1 p2).2.2) 45 0 (((f_X5_section S z p0 p1 p2).2.1).toInt64)) := by simp only [f_L_section, if_pos h0]
    refine W.eq (g2 := F0 m 11 ls [.int (f_X5_section S z p0 p1 p2).2.1, .int 0, .ref (E2.2.2 45)]) (by rw [hx2.2.2 45 (by omega)]) ?_
    refine lv_i2l (v := ((f_X5_section S z p0 p1 p2).2.1).toInt64) hx hb dL_section_11 rfl ?_
    refine k_last hx hb hW 45 1 (by omega) k_c45 (vp_in_iff.mpr (by decide)) dL_section_12 (fun H locs hW => ?_)
    refine lv_goto (tgt := 24) hx hb dL_section_13 (by decide) ?_
    refine lv_iconst (v := 0) hx hb dL_section_24 (by decide) ?_
    exact vx_ret (W.widen (k := 6) (n := 347) (by omega) (by omega) (W.zret hx hb hr rfl (fun t ht hWm => ⟨Or.inl ⟨E2, by rw [hR], rfl, hx2, by rw [hR, ht]; exact hW.1, by rw [hR]; exact hW.2.1⟩, hW.2.2.1.F ht⟩) hW.2.2.1.2.2 dL_section_25 hlocks))
