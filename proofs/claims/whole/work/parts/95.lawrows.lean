/-! ===== rows for the law itself ===== -/
section KLW
variable {p : Program} {l : Launch} {e : Env} {R : Room} {s : State} {m : MethodId} {args : Array Value} {below : List Frame} {meth : Method} {c : Code} {H : Heap} {locs : List Loc} {cells slots : Nat} {Q : State → Prop}
variable {cc : ByteArray} {pc : Nat} {ls : Array Slot} {rest st0 : List Value} {E : Ev} {n : Nat} {z : Sg} {A : Nat → Prop}
theorem k_sld (hexec : p.tables.exec = Jvm.exec) (hb : c.code = cc) {b L : Nat} {xs : Nat → Int32} (hX : va_X b L xs s s.heap) (hbl : b < s.heap.size) (hbA : ¬ A b) (hW : k_W E n z A s H locs) {i v : Int32} (hin : vp_in i L) (hv : xs i.toNatClampNeg = v) (hdg : decode cc pc = .ok (.iaload, 1))
    (kk : W p l e R s m args below meth c H locs cells slots Q (F0 m (pc + 1) ls (.int v :: rest))) : W p l e R s m args below meth c H locs cells slots Q (F0 m pc ls (.int i :: .ref b :: rest)) := by
  subst hv
  exact va_sld hexec hb hX hbl hbA hW.2.2.1 hin hdg kk
variable {y : MethodName} {cy : ByteArray} {ml nL mc ms idx : Nat} {rm : Room} {As : List Value} {post : Option Value → Sg → Prop} {own : String} {hh : List (Nat × Nat × Nat × Nat)}
theorem k_gSW (hlink : Cond.methodLink own idx y ∈ wsL_law) (hst : Cond.static y ∈ wsL_law) (hini : Cond.initialized y.cls ∈ wsL_law) (hcode : Cond.codeWith y cy ml (some .int) hh ∈ wsL_law) : GoodIn wsL_law (va_wsS own idx y (Cond.codeWith y cy ml (some .int) hh :: wsL_law)) := fun w h => by
  unfold va_wsS at h
  rcases List.mem_append.mp h with h | h
  · simp only [List.mem_cons, List.not_mem_nil, or_false] at h
    rcases h with rfl | rfl | rfl
    · exact ⟨hlink, k_good _ hlink⟩
    · exact ⟨hst, k_good _ hst⟩
    · exact ⟨hini, k_good _ hini⟩
  · exact k_gl hcode w h
theorem k_callSH (hexec : p.tables.exec = Jvm.exec) (hb : c.code = cc) (hml : c.maxLocals = nL) (hown : s.vm.findClass own = some m.cls) (hts : ∀ w ∈ wsL_law, w.before args s = true) (hM : k_HMet l y cy ml hh rm As E n z H.size post mc ms)
    (hlink : Cond.methodLink own idx y ∈ wsL_law) (hst : Cond.static y ∈ wsL_law) (hini : Cond.initialized y.cls ∈ wsL_law) (hcode : Cond.codeWith y cy ml (some .int) hh ∈ wsL_law) (hd : k_nm y As.length) (hR : rm.frames + 1 ≤ R.frames ∧ 8 + (ml + 11) + rm.locals ≤ R.locals) (hrc : rm.cells = mc) (hrs : rm.slots = ms) (hf : cells + mc ≤ R.cells ∧ slots + ms ≤ R.slots)
    (hsize : ls.size = nL) (h0 : st0 = As.reverse ++ rest) (hroom : (rest.map fun v => v.category).sum ≤ 8) (hdg : decode cc pc = .ok (.invokestatic idx, 3)) (hW : k_W E n z A s H locs)
    (kk : ∀ (v : Option Value) (z' : Sg) (H1 : Heap) (locs1 : List Loc), post v z' → k_W E n z' A s H1 locs1 → W p l e R s m args below meth c H1 locs1 (cells + mc) (slots + ms) Q (F0 m (pc + 3) ls (v.toList ++ rest))) : W p l e R s m args below meth c H locs cells slots Q (F0 m pc ls st0) := by
  subst h0
  exact k_gox (vx_runSX (hh := hh) ⟨hexec, hb, hml, hown, hts⟩ hM (vx_cwSW As.length hts (k_gSW hlink hst hini hcode) rfl hrc hrs hd hR) (k_preS hW) rfl rfl hsize rfl (lv_room hroom) hdg hf) hW (fun _ _ _ _ _ h => h.elim) kk
theorem k_goLS {a : Array Value} {S : Nat} {r : Int32 × Sg} (hr : vx_Run p l e R s m args below meth c H locs cells slots mc ms (F0 m pc ls st0) rest (k_LSQ r E S z H.size a) (k_X (fun _ => False) E (46 + 6 * S) z H.size) (k_A E (46 + 6 * S) z H.size)) (hW : k_W E (46 + 6 * S) z A s H locs)
    (k0 : ∀ (E' : Ev) (H1 : Heap) (locs1 : List Loc), r.1 = 0 → k_ext E E' (46 + 6 * S) → k_W E' (46 + 6 * (S + 1)) r.2 A s H1 locs1 → W p l e R s m args below meth c H1 locs1 (cells + mc) (slots + ms) Q (F0 m (pc + 3) ls (.int r.1 :: rest)))
    (k1 : ∀ (H1 : Heap) (locs1 : List Loc), ¬ r.1 = 0 → r.2 = z → k_W E (46 + 6 * S) z A s H1 locs1 → W p l e R s m args below meth c H1 locs1 (cells + mc) (slots + ms) Q (F0 m (pc + 3) ls (.int r.1 :: rest))) : W p l e R s m args below meth c H locs cells slots Q (F0 m pc ls st0) := by
  have hn : ∀ q, k_A E (46 + 6 * S) z H.size q → A q := fun q hq => by
    rcases hq with ⟨k, x, hq⟩ | hq
    · exact hW.2.1.2 k _ hq
    · exact hW.2.2.2.2.1 q (Nat.le_trans hW.2.2.1.1 hq)
  intro T hT X
  rcases hr T hT X with ⟨v, st₀, t, T', L, h0, X', hL, e1, e2, ⟨hB, hF⟩, st⟩ | ⟨q, st₀, t, T', L, X9, ce, h0, X', hL, e1, e2, ⟨hp, hb, hF⟩, hce, hcv, hcl, st⟩
  · obtain ⟨j1, j2, j3⟩ := vx_keep h0 e1 hW.2.2.1 (fun q _ h => hn q h) hn hL hF
    rcases hB with ⟨E', hr0, hv, hx, hb⟩ | ⟨hr0, hv, hz, hb⟩
    · cases hv
      have hK : k_K E' s := by
        have h := hW.2.2.2.1
        unfold k_K k_tys at h ⊢
        rw [hx.1, hx.2.1]
        exact h
      have hk := k0 E' T'.heap (locs ++ L) hr0 hx ⟨by rw [e1]; exact hb.1, hb.2.weaken (fun k q _ h => hn q.1 h), j3, hK, hW.2.2.2.2⟩
      rw [hr0] at hk
      obtain ⟨t2, a1, b1⟩ := hk T' rfl X'
      exact ⟨t2, st t2 a1, b1⟩
    · cases hv
      obtain ⟨t2, a1, b1⟩ := k1 T'.heap (locs ++ L) hr0 hz ⟨by rw [e1]; exact hb.1, hb.2.weaken (fun k q _ h => hn q.1 h), j3, hW.2.2.2⟩ T' rfl X'
      exact ⟨t2, st t2 a1, b1⟩
  · exact hp.elim
/-- a call that sees a part of the world alone -/
theorem k_callVF {C : String} {T : u_T} {N ci r n0 : Nat} {fs : List Value} {ret : Option FieldType} (hexec : p.tables.exec = Jvm.exec) (hb : c.code = cc) (hml : c.maxLocals = nL) (hown : s.vm.findClass own = some m.cls) (hts : ∀ w ∈ wsL_law, w.before args s = true) (hM : k_Met l y cy ml ret rm (.ref (E.2.2 r) :: As) E n0 z H.size post mc ms)
    (hlink : Cond.methodLink own idx y ∈ wsL_law) (hin : Cond.instanceMethod y ∈ wsL_law) (hse : Cond.selects C y y ∈ wsL_law) (hini : Cond.initialized y.cls ∈ wsL_law) (hcode : Cond.code y cy ml ret ∈ wsL_law) (hd : k_nm y As.length) (hR : rm.frames + 1 ≤ R.frames ∧ 8 + (ml + 11) + rm.locals ≤ R.locals) (hrc : rm.cells = mc) (hrs : rm.slots = ms) (hf : cells + mc ≤ R.cells ∧ slots + ms ≤ R.slots)
    (hsize : ls.size = nL) (h0 : st0 = As.reverse ++ .ref (E.2.2 r) :: rest) (hroom : (rest.map fun v => v.category).sum ≤ 8) (hdg : decode cc pc = .ok (.invokevirtual idx, 3)) (hn0 : n0 ≤ n) (hr : r < n0) (he : k_at E z r = .inr (ci, fs)) (hc : vwCl[ci]? = some (C, T, N)) (hag : ∀ v z', post v z' → ∀ q, n0 ≤ q → z'.1 q = z.1 q ∧ z'.2.1 q = z.2.1 q ∧ z'.2.2 q = z.2.2 q) (hW : k_W E n z A s H locs)
    (kk : ∀ (v : Option Value) (z' : Sg) (H1 : Heap) (locs1 : List Loc), post v z' → k_W E n z' A s H1 locs1 → W p l e R s m args below meth c H1 locs1 (cells + mc) (slots + ms) Q (F0 m (pc + 3) ls (v.toList ++ rest))) : W p l e R s m args below meth c H locs cells slots Q (F0 m pc ls st0) := by
  subst h0
  have hsub : ∀ (k : Nat) (x : Nat × va_E), (k_wl E n0 z)[k]? = some x → (k_wl E n z)[k]? = some x := fun k x hk => by
    have hlt : k < n0 := by simpa [k_wl] using (List.getElem?_eq_some_iff.mp hk).1
    rw [k_wl_at hlt rfl] at hk
    rw [k_wl_at (Nat.lt_of_lt_of_le hlt hn0) rfl]
    exact hk
  have hW0 : k_W E n0 z A s H locs := ⟨fun k x hk => hW.1 k x (hsub k x hk), ⟨fun i j a b ha hb' e => hW.2.1.1 i j a b (hsub i a ha) (hsub j b hb') e, fun k q hk => hW.2.1.2 k q (hsub k q hk)⟩, hW.2.2⟩
  have hrun := va_runV (l := l) (e := e) (below := below) (meth := meth) (locs := locs) ⟨hexec, hb, hml, hown, hts⟩ hM ⟨callB_of As.length hts (k_gl hcode) rfl hrc hrs (hts _ hini) (hts _ hlink) hd hR, hts _ hin, hts _ hse⟩ (k_preV hW0 hr he hc) (g := F0 m pc ls (As.reverse ++ .ref (E.2.2 r) :: rest)) rfl rfl hsize rfl (lv_room hroom) hdg hf
  have hn : ∀ q, k_A E n0 z H.size q → A q := fun q hq => by
    rcases hq with ⟨k, x, hq⟩ | hq
    · exact hW0.2.1.2 k _ hq
    · exact hW.2.2.2.2.1 q (Nat.le_trans hW.2.2.1.1 hq)
  intro T0 hT X
  obtain ⟨v, st₀, t, T', L, g0, X', hL, e1, e2, ⟨⟨v', u, hv, hp, hb9⟩, hF⟩, st⟩ := hrun T0 hT X
  cases hv
  obtain ⟨k1, k2, k3⟩ := vx_keep g0 e1 hW.2.2.1 (fun q _ h => hn q h) hn hL hF
  have hP : va_P E.1 vwCl (k_wl E n u) t.heap := fun k x hk => by
    have hlt : k < n := by simpa [k_wl] using (List.getElem?_eq_some_iff.mp hk).1
    by_cases hk0 : k < n0
    · refine hb9.1 k x ?_
      rw [k_wl_at hlt rfl] at hk
      rw [k_wl_at hk0 rfl]
      exact hk
    · rw [k_wl_at hlt rfl] at hk
      have hu := hag v u hp k (by omega)
      have hat : k_at E u k = k_at E z k := by
        unfold k_at
        rw [hu.1, hu.2.1, hu.2.2]
      rw [hat] at hk
      have hz := hW.1 k x (by rw [k_wl_at hlt rfl]; exact hk)
      refine hz.kept ?_
      have hx1 : x.1 = E.2.2 k := by cases hk; rfl
      have hlt2 : x.1 < H.size := hz.lt
      rw [← g0]
      refine hF.2 x.1 (by rw [g0]; exact hlt2) (fun hq => ?_)
      rcases hq with ⟨k', x', hq⟩ | hq
      · have hk' : k' < n0 := by simpa [k_wl] using (List.getElem?_eq_some_iff.mp hq).1
        have he1 := hW.2.1.1 k' k _ x (hsub k' _ hq) (by rw [k_wl_at hlt rfl]; exact hk) rfl
        omega
      · omega
  have hD : va_D A (k_wl E n u) := by
    have hadr : ∀ (k : Nat) (x : Nat × va_E), (k_wl E n u)[k]? = some x → (k_wl E n z)[k]? = some (x.1, k_at E z k) := fun k x hk => by
      have hlt : k < n := by simpa [k_wl] using (List.getElem?_eq_some_iff.mp hk).1
      rw [k_wl_at hlt rfl] at hk
      cases hk
      exact k_wl_at hlt rfl
    exact ⟨fun i j a b ha hb' e => hW.2.1.1 i j _ _ (hadr i a ha) (hadr j b hb') e, fun k q hk => hW.2.1.2 k (q.1, k_at E z k) (hadr k q hk)⟩
  obtain ⟨t2, a1, b1⟩ := kk v u T'.heap (locs ++ L) hp ⟨by rw [e1]; exact hP, hD, k3, hW.2.2.2⟩ T' rfl X'
  exact ⟨t2, st t2 a1, b1⟩
end KLW
theorem ix_L {n L : Nat} (j : Nat) (hj : j < 6) (h : 6 * n + 6 ≤ L) (hL : L ≤ 3072) : vp_in (nI (6 * n) + nI j) L := by
  rw [nI_add, vp_in_iff, nI_toInt (by omega)]
  omega
/-- what stands for the whole walk of the law -/
def lk_A (p : Program) (s : State) (m : MethodId) (meth : Method) (c : Code) (b L : Nat) (xs : Nat → Int32) : Prop :=
  p.tables.exec = Jvm.exec ∧ c.code = cL_law ∧ c.maxLocals = 8 ∧ s.vm.findClass RL = some m.cls ∧ (∀ w ∈ wsL_law, w.before #[Value.ref b] s = true) ∧ va_X b L xs s s.heap ∧ b < s.heap.size ∧ L ≤ 3072
def lk_lv (E : Ev) (b n : Nat) : List (Nat × Value) := [(4, .int (nI (6 * n))), (3, .ref (E.2.2 45)), (2, .ref (E.2.2 19)), (1, .ref (E.2.2 0)), (0, .ref b)]
/-- behind a call, at the loop's step -/
def lk_C (p : Program) (l : Launch) (e : Env) (s : State) (m : MethodId) (b : Nat) (below : List Frame) (meth : Method) (c : Code) (n : Nat) (Q : State → Prop) : Prop :=
  ∀ (E : Ev) (S : Nat) (z : Sg) (H : Heap) (locs : List Loc) (ls : Array Slot) (cells slots : Nat), q_I S z z → k_W E (46 + 6 * S) z (fun q => s.heap.size ≤ q) s H locs → lv_has ls 8 (lk_lv E b n) → cells ≤ 100 + 6 * (n + 1) → slots ≤ 10000 + 347 * (n + 1) → W p l e room_1 s m #[Value.ref b] below meth c H locs cells slots Q (F0 m 1360 ls [])
