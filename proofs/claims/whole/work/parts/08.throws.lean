def k_Bl : List Cond := k_dec.map (fun x => Cond.declares x) ++ k_cas.map (fun q => Cond.castable q.1 q.2)
theorem k_Bw {E : Ev} {s : State} {args : Array Value} (h : k_K E s) : ∀ w ∈ k_Bl, w.before args s = true := by
  intro w hw
  rcases List.mem_append.mp hw with hw | hw
  · obtain ⟨x, hx, rfl⟩ := List.mem_map.mp hw
    exact va_Nw.use rfl (h.2.2.2.1 x hx)
  · obtain ⟨q, hq, rfl⟩ := List.mem_map.mp hw
    exact va_Nw.use rfl (h.2.2.2.2.1 q hq)
section KT
variable {p : Program} {l : Launch} {e : Env} {R : Room} {s : State} {m : MethodId} {args : Array Value} {below : List Frame} {meth : Method} {c : Code} {H : Heap} {locs : List Loc} {cells slots : Nat}
variable {cc : ByteArray} {pc : Nat} {ls : Array Slot} {rest : List Value} {E : Ev} {n : Nat} {z : Sg} {post : Option Value → Sg → Prop} {xp : String → Prop} {mc ms : Nat}
theorem k_thX {cls : String} {t : State} (hW : k_W E n z (k_A E n z s.heap.size) s H locs) (hx : xp cls) (h1 : H.size ≤ t.heap.size) (h2 : ∀ q : Nat, q < H.size → t.heap[q]? = H[q]?) : k_X xp E n z s.heap.size cls s t :=
  ⟨hx, ⟨hW.1.kept (fun k q hk => h2 q.1 ((hW.1 k q hk).lt)), hW.2.1⟩, Nat.le_trans hW.2.2.1.1 h1, fun q hq hA => (h2 q (Nat.lt_of_lt_of_le hq hW.2.2.1.1)).trans (hW.2.2.1.2.1 q hq hA)⟩
theorem k_th {cls : String} {names : List String} {ik is ic : Nat} {text : String} (hexec : p.tables.exec = Jvm.exec) (hb : c.code = cc) (hl0 : l.stackTraces = false) (hown : s.vm.findClass RX5 = some m.cls) (hts : ∀ w ∈ wsL_law, w.before args s = true)
    (hcls : Bundle.fit cls = true) (hnames : ∀ n ∈ names, Bundle.fit n = true) (hk : Cond.classLink RX5 ik cls ∈ wsL_law) (hini : Cond.initialized cls ∈ wsL_law) (h1 : ∀ w ∈ (vx_atS RX5 ic cls names).filter goodWord, w ∈ wsL_law) (h2 : ∀ w ∈ (vx_atS RX5 ic cls names).filter (fun w => !goodWord w), w ∈ k_Bl)
    (hgood : ∀ w ∈ Cond.classLink RX5 ik cls :: Cond.initialized cls :: vx_atS RX5 ic cls names, vx_ot w = true) (hst : (is, text) ∈ k_st) (htab : ∀ x ∈ c.exceptionTable.toList, False) (hlocks : meth.locks = false) (hsize : ls.size = c.maxLocals) (hW : k_W E n z (k_A E n z s.heap.size) s H locs) (hx : xp cls)
    (hRf : names.length + 3 < R.frames) (hRl : (rest.map fun v => v.category).sum + (13 * (names.length + 1) + 43) ≤ R.locals) (hRc : cells + 1 ≤ R.cells ∧ slots + 6 ≤ R.slots) (hc : cells + 1 ≤ mc ∧ slots + 6 ≤ ms)
    (d0 : decode cc pc = .ok (.new ik, 3)) (d3 : decode cc (pc + 3) = .ok (.dup, 1)) (d4 : decode cc (pc + 4) = .ok (.ldc is, 2)) (d6 : decode cc (pc + 6) = .ok (.invokespecial ic, 3)) (d9 : decode cc (pc + 9) = .ok (.athrow, 1)) :
    W p l e R s m args below meth c H locs cells slots (vx_MQ below (k_Q post E n z s.heap.size) (k_X xp E n z s.heap.size) args s mc ms (k_A E n z s.heap.size)) (F0 m pc ls rest) := by
  obtain ⟨a, ha⟩ := hW.2.2.2.1.2.2.1 _ hst
  exact vx_throwS hexec hb hl0 hown hcls hnames (hts _ hk) (hts _ hini) ha (vx_hat (fun w h => hts w (h1 w h)) h2 (k_Bw hW.2.2.2.1)) hgood hW.2.2.2.2.2.1 hW.2.2.2.2.2.2 hW.2.2.1 hsize d0 d3 d4 d6 d9 (fun x hx => (htab x hx).elim) hRf hRl hRc.1 hRc.2 hlocks (fun t _ q1 q2 => k_thX hW hx q1 q2) (fun y hy => hW.2.2.1.2.2 y hy) hc.1 hc.2
theorem k_thN {ik is : Nat} {text : String} (hexec : p.tables.exec = Jvm.exec) (hb : c.code = cc) (hl0 : l.stackTraces = false) (hown : s.vm.findClass RX5 = some m.cls) (hts : ∀ w ∈ wsL_law, w.before args s = true)
    (hk : Cond.classLink RX5 ik nx_N ∈ wsL_law) (hini : Cond.initialized nx_N ∈ wsL_law) (h1 : ∀ w ∈ vx_atN.filter goodWord, w ∈ wsL_law) (h2 : ∀ w ∈ vx_atN.filter (fun w => !goodWord w), w ∈ k_Bl)
    (hgood : ∀ w ∈ Cond.classLink RX5 ik nx_N :: Cond.initialized nx_N :: vx_atN, vx_ot w = true) (hst : (is, text) ∈ k_st) (htab : ∀ x ∈ c.exceptionTable.toList, False) (hlocks : meth.locks = false) (hsize : ls.size = c.maxLocals) (hW : k_W E n z (k_A E n z s.heap.size) s H locs) (hx : xp nx_N)
    (hRf : 5 < R.frames) (hRl : (rest.map fun v => v.category).sum + 82 ≤ R.locals) (hRc : cells + 1 ≤ R.cells ∧ slots + 6 ≤ R.slots) (hc : cells + 1 ≤ mc ∧ slots + 6 ≤ ms)
    (d0 : decode cc pc = .ok (.new ik, 3)) (d3 : decode cc (pc + 3) = .ok (.dup, 1)) (d4 : decode cc (pc + 4) = .ok (.ldc is, 2)) (d6 : decode cc (pc + 6) = .ok (.invokespecial 246, 3)) (d9 : decode cc (pc + 9) = .ok (.athrow, 1)) :
    W p l e R s m args below meth c H locs cells slots (vx_MQ below (k_Q post E n z s.heap.size) (k_X xp E n z s.heap.size) args s mc ms (k_A E n z s.heap.size)) (F0 m pc ls rest) := by
  obtain ⟨a, ha⟩ := hW.2.2.2.1.2.2.1 _ hst
  exact nx_throwS hexec hb hl0 hown (hts _ hk) (hts _ hini) ha (vx_hat (fun w h => hts w (h1 w h)) h2 (k_Bw hW.2.2.2.1)) hgood hW.2.2.2.2.2.1 hW.2.2.2.2.2.2 hW.2.2.1 hsize d0 d3 d4 d6 d9 (fun x hx => (htab x hx).elim) hRf hRl hRc.1 hRc.2 hlocks (fun t _ q1 q2 => k_thX hW hx q1 q2) (fun y hy => hW.2.2.1.2.2 y hy) hc.1 hc.2
/-- a callee's throw goes on -/
theorem k_out {z' : Sg} {X : String} {ce : Cell} {q : Addr} (htab : ∀ x ∈ c.exceptionTable.toList, False) (hlocks : meth.locks = false) (hW : k_W E n z (k_A E n z s.heap.size) s H locs) (hce : H[q]? = some ce) (hcv : ce.vm = .none) (hcl : s.vm.findClass X = some ce.cls) (hx : xp X) (hc : cells ≤ mc ∧ slots ≤ ms) :
    vx_W p l e R s m args below meth c H locs cells slots (vx_MQ below (k_Q post E n z s.heap.size) (k_X xp E n z s.heap.size) args s mc ms (k_A E n z s.heap.size)) (F0 m pc ls rest) q :=
  vx_out (fun x hx => (htab x hx).elim) hlocks hce hcv hcl (fun t ht hal => k_thX hW hx (by rw [ht]; exact Nat.le_refl _) (fun q hq => by rw [ht])) (fun y hy => hW.2.2.1.2.2 y hy) hc.1 hc.2
variable {y : MethodName} {cy : ByteArray} {ml nL idx : Nat} {ret : Option FieldType} {rm : Room} {As st0 : List Value} {own : String} {A : Nat → Prop} {Q : State → Prop}
theorem k_callVX {C : String} {T : u_T} {N ci r : Nat} {fs : List Value} (hexec : p.tables.exec = Jvm.exec) (hb : c.code = cc) (hml : c.maxLocals = nL) (hown : s.vm.findClass own = some m.cls) (hts : ∀ w ∈ wsL_law, w.before args s = true) (hM : k_XMet l y cy ml ret rm (.ref (E.2.2 r) :: As) E n z H.size post xp mc ms)
    (hlink : Cond.methodLink own idx y ∈ wsL_law) (hin : Cond.instanceMethod y ∈ wsL_law) (hse : Cond.selects C y y ∈ wsL_law) (hini : Cond.initialized y.cls ∈ wsL_law) (hcode : Cond.code y cy ml ret ∈ wsL_law) (hd : k_nm y As.length) (hR : rm.frames + 1 ≤ R.frames ∧ 8 + (ml + 11) + rm.locals ≤ R.locals) (hrc : rm.cells = mc) (hrs : rm.slots = ms) (hf : cells + mc ≤ R.cells ∧ slots + ms ≤ R.slots)
    (hsize : ls.size = nL) (h0 : st0 = As.reverse ++ .ref (E.2.2 r) :: rest) (hroom : (rest.map fun v => v.category).sum ≤ 8) (hdg : decode cc pc = .ok (.invokevirtual idx, 3)) (hr : r < n) (he : k_at E z r = .inr (ci, fs)) (hc : vwCl[ci]? = some (C, T, N)) (hW : k_W E n z A s H locs)
    (kx : ∀ (X : String) (ce : Cell) (q9 : Addr) (H1 : Heap) (locs1 : List Loc), xp X → k_W E n z A s H1 locs1 → H1[q9]? = some ce → ce.vm = .none → s.vm.findClass X = some ce.cls → vx_W p l e R s m args below meth c H1 locs1 (cells + mc) (slots + ms) Q (F0 m pc ls rest) q9)
    (kk : ∀ (v : Option Value) (z' : Sg) (H1 : Heap) (locs1 : List Loc), post v z' → k_W E n z' A s H1 locs1 → W p l e R s m args below meth c H1 locs1 (cells + mc) (slots + ms) Q (F0 m (pc + 3) ls (v.toList ++ rest))) : W p l e R s m args below meth c H locs cells slots Q (F0 m pc ls st0) := by
  subst h0
  exact k_gox (vx_runV ⟨hexec, hb, hml, hown, hts⟩ hM ⟨callB_of As.length hts (k_gl hcode) rfl hrc hrs (hts _ hini) (hts _ hlink) hd hR, hts _ hin, hts _ hse⟩ (k_preV hW hr he hc) rfl rfl hsize rfl (lv_room hroom) hdg hf) hW kx kk
end KT
theorem tk_I : Cond.classLink RX5 42 xI ∈ wsL_law := by decide +kernel
theorem tk_U : Cond.classLink RX5 64 xU ∈ wsL_law := by decide +kernel
theorem tk_N : Cond.classLink RX5 242 nx_N ∈ wsL_law := by decide +kernel
theorem tk_B : Cond.classLink RX5 186 xB ∈ wsL_law := by decide +kernel
theorem tk_A : Cond.classLink RX5 85 xA ∈ wsL_law := by decide +kernel
theorem ti_I : Cond.initialized xI ∈ wsL_law := by decide +kernel
theorem ti_U : Cond.initialized xU ∈ wsL_law := by decide +kernel
theorem ti_N : Cond.initialized nx_N ∈ wsL_law := by decide +kernel
theorem ti_B : Cond.initialized xB ∈ wsL_law := by decide +kernel
theorem ti_A : Cond.initialized xA ∈ wsL_law := by decide +kernel
abbrev nm_2 : List String := ["java/lang/RuntimeException", "java/lang/Exception"]
abbrev nm_3 : List String := ["java/lang/IndexOutOfBoundsException", "java/lang/RuntimeException", "java/lang/Exception"]
theorem t1_I : ∀ w ∈ (vx_atS RX5 46 xI nm_2).filter goodWord, w ∈ wsL_law := by decide +kernel
theorem t1_U : ∀ w ∈ (vx_atS RX5 68 xU nm_2).filter goodWord, w ∈ wsL_law := by decide +kernel
theorem t1_N : ∀ w ∈ vx_atN.filter goodWord, w ∈ wsL_law := by decide +kernel
theorem t1_B : ∀ w ∈ (vx_atS RX5 188 xB nm_2).filter goodWord, w ∈ wsL_law := by decide +kernel
theorem t1_A : ∀ w ∈ (vx_atS RX5 89 xA nm_3).filter goodWord, w ∈ wsL_law := by decide +kernel
theorem t2_I : ∀ w ∈ (vx_atS RX5 46 xI nm_2).filter (fun w => !goodWord w), w ∈ k_Bl := by decide +kernel
theorem t2_U : ∀ w ∈ (vx_atS RX5 68 xU nm_2).filter (fun w => !goodWord w), w ∈ k_Bl := by decide +kernel
theorem t2_N : ∀ w ∈ vx_atN.filter (fun w => !goodWord w), w ∈ k_Bl := by decide +kernel
theorem t2_B : ∀ w ∈ (vx_atS RX5 188 xB nm_2).filter (fun w => !goodWord w), w ∈ k_Bl := by decide +kernel
theorem t2_A : ∀ w ∈ (vx_atS RX5 89 xA nm_3).filter (fun w => !goodWord w), w ∈ k_Bl := by decide +kernel
theorem t3_I : ∀ w ∈ Cond.classLink RX5 42 xI :: Cond.initialized xI :: vx_atS RX5 46 xI nm_2, vx_ot w = true := by decide +kernel
theorem t3_U : ∀ w ∈ Cond.classLink RX5 64 xU :: Cond.initialized xU :: vx_atS RX5 68 xU nm_2, vx_ot w = true := by decide +kernel
theorem t3_N : ∀ w ∈ Cond.classLink RX5 242 nx_N :: Cond.initialized nx_N :: vx_atN, vx_ot w = true := by decide +kernel
theorem t3_B : ∀ w ∈ Cond.classLink RX5 186 xB :: Cond.initialized xB :: vx_atS RX5 188 xB nm_2, vx_ot w = true := by decide +kernel
theorem t3_A : ∀ w ∈ Cond.classLink RX5 85 xA :: Cond.initialized xA :: vx_atS RX5 89 xA nm_3, vx_ot w = true := by decide +kernel
