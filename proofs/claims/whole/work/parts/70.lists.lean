/-! ===== worlds as lists of cells: for constructors ===== -/
def k_LP (E : Ev) (ao : Bool) (ws : va_W) (sz : Nat) (U : State) : Prop := U.heap.size = sz ∧ va_P E.1 vwCl ws U.heap ∧ va_D (fun _ => True) ws ∧ k_K E U ∧ (ao = true → va_AO RX3 U)
def k_LB (E : Ev) (ws : va_W) (sz : Nat) (w : va_W) (t : State) : Prop := va_P E.1 vwCl w t.heap ∧ va_D (va_A ws sz) w
def k_LQ (E : Ev) (ws : va_W) (sz : Nat) (post : va_W → Prop) : Array Value → State → Outcome → State → Prop := va_Qv post (k_LB E ws sz) (va_A ws sz)
def k_L (E : Ev) (ao : Bool) (ws : va_W) (A : Nat → Prop) (s : State) (H : Heap) (locs : List Loc) : Prop := va_P E.1 vwCl ws H ∧ va_D A ws ∧ va_S A s.heap H locs ∧ (k_K E s ∧ (ao = true → va_AO RX3 s)) ∧ ∀ q, s.heap.size ≤ q → A q
def k_LMet (l : Launch) (y : MethodName) (cc : ByteArray) (ml : Nat) (rm : Room) (av : List Value) (E : Ev) (ao : Bool) (ws : va_W) (sz : Nat) (post : va_W → Prop) (mc ms : Nat) : Prop :=
  Met l y (Cond.code y cc ml none :: wsL_law) rm (va_Pc av (k_LP E ao ws sz)) (k_LQ E ws sz post) mc ms (va_A ws sz)
theorem l_blind {E : Ev} {ao : Bool} {ws : va_W} {sz : Nat} {av : List Value} : FrameBlind (va_Pc av (k_LP E ao ws sz)) := by
  intro a U g mk h
  obtain ⟨h1, h2, h3, h4, h5, h6⟩ := h
  exact ⟨h1, h2, h3, h4, h5.warm (State.WarmedH.refl U), fun h => va_AO.moved (Vm.Alike.refl U.vm) (h6 h)⟩
theorem nd_of : ∀ (l : List Nat), l.Nodup → va_nd l = true
  | [], _ => rfl
  | a :: l, h => by
    have h2 := List.nodup_cons.mp h
    simp only [va_nd, Bool.and_eq_true, decide_eq_true_eq]
    exact ⟨h2.1, nd_of l h2.2⟩
theorem l_at {wr : va_W} {x : Nat × va_E} : (wr ++ [x])[wr.length]? = some x := by simp
theorem l_join {E : Ev} {A : Nat → Prop} {wr w : va_W} {x : Nat × va_E} {H H1 : Heap} (hP : va_P E.1 vwCl (wr ++ [x]) H) (hD : va_D A (wr ++ [x])) (hk : ∀ q : Nat, q < H.size → ¬ va_A [x] H.size q → H1[q]? = H[q]?) (hF : ∀ q, va_A [x] H.size q → A q) (hP1 : va_P E.1 vwCl w H1) (hD1 : va_D (va_A [x] H.size) w) : va_P E.1 vwCl (wr ++ w) H1 ∧ va_D A (wr ++ w) := by
  refine va_join (wc := [x]) hP hD [wr.length] (List.range wr.length) ?_ ?_ (nd_of _ List.nodup_range) ?_ hk hF hP1 hD1
  · simp
  · apply List.ext_getElem?
    intro i
    rw [List.getElem?_map, List.getElem?_map]
    by_cases h : i < wr.length
    · rw [List.getElem?_range h]
      show some ((wr ++ [x])[i]?) = _
      rw [List.getElem?_append_left h, List.getElem?_eq_getElem h]
      rfl
    · rw [List.getElem?_eq_none (by simp; omega), List.getElem?_eq_none (by omega)]
      rfl
  · intro i hi
    have := List.mem_range.mp hi
    simp
    omega
theorem l_body {l : Launch} {y : MethodName} {cc : ByteArray} {ml : Nat} {rm : Room} {av : List Value} {E : Ev} {ao : Bool} {ws : va_W} {sz : Nat} {post : va_W → Prop} {mc ms : Nat} (hy : plainName y.cls = true) (hy1 : y.name = "<init>") (hlen : (lg_sl av).length ≤ ml)
    (body : ∀ (p : Program) (e : Env) (s : State) (m : MethodId) (below : List Frame) (meth : Method) (c : Code) (ls : Array Slot), p.tables.exec = Jvm.exec → c.code = cc → meth.sig.returnType = none → c.maxLocals = ml → s.vm.findClass y.cls = some m.cls → meth.locks = false → meth.name = "<init>" → (∀ w ∈ wsL_law, w.before av.toArray s = true) → k_L E ao ws (va_A ws s.heap.size) s s.heap [] → lv_has ls ml (lv_args 0 av) →
      W p l e rm s m av.toArray below meth c s.heap [] 0 0 (MQ below (k_LQ E ws s.heap.size post) av.toArray s mc ms (va_A ws s.heap.size)) (F0 m 0 ls [])) : k_LMet l y cc ml rm av E ao ws sz post mc ms := by
  refine Met.ofW (cc := cc) (maxL := ml) (ret := none) hy rfl ?_
  intro p e s m args below meth c s₁ B hml hv
  obtain ⟨rfl, hsz, hP, hD, hK, hO⟩ := hv
  subst hsz
  have hts := atoms_spec (ws := Cond.code y cc ml none :: wsL_law) B.pre
  rw [lg_entry_eq]
  exact body p e s m below meth c _ B.exec B.bytes B.returns hml (findClass_of_methodNamed B.named) B.notSynchronized ((name_of_methodNamed B.named B.method).1.trans hy1) (fun w h => hts w (List.mem_cons_of_mem _ h)) ⟨hP, hD.self, va_S.rf, ⟨hK, hO⟩, fun q h => Or.inr h⟩ (lv_entry av hlen)
section KL
variable {p : Program} {l : Launch} {e : Env} {R : Room} {s : State} {m : MethodId} {args : Array Value} {below : List Frame} {meth : Method} {c : Code} {H : Heap} {locs : List Loc} {cells slots : Nat} {Q : State → Prop}
variable {cc : ByteArray} {pc : Nat} {ls : Array Slot} {rest st0 : List Value} {E : Ev} {ao : Bool} {ws wr : va_W} {A : Nat → Prop}
theorem l_newI (hexec : p.tables.exec = Jvm.exec) (hb : c.code = cc) (hts : ∀ w ∈ wsL_law, w.before args s = true) (harr : Cond.arrayClass .int ∈ wsL_law) (hL : k_L E ao ws A s H locs) {n : Int32} {N : Nat} (hn : ¬ n < 0) (hN : n.toNatClampNeg = N) (hbytes : N * 4 ≤ 536870912) (hcells : cells + 1 ≤ R.cells) (hslots : slots + N ≤ R.slots) (hdg : decode cc pc = .ok (.newarray .int, 2))
    (kk : ∀ (q : Nat) (H1 : Heap), k_L E ao (ws ++ [(q, k_aI E 1 N (fun _ => 0))]) A s H1 locs → W p l e R s m args below meth c H1 locs (cells + 1) (slots + N) Q (F0 m (pc + 2) ls (.ref q :: rest))) : W p l e R s m args below meth c H locs cells slots Q (F0 m pc ls (.int n :: rest)) := by
  obtain ⟨hP, hD, hS, hK, hA⟩ := hL
  refine va_newa (a0 := (N, .inl (fun _ => 0))) (ty := .int) (atype := .int) hexec hb (hts _ harr) rfl hK.1.1 hP hD hS hA (fun cA => rfl) hn hN hbytes hcells hslots hdg (fun q cA H1 hK1 hP hD hS => ?_)
  have e1 := va_nm_int (hK1.2 5 (cA, .int) rfl).2
  have e2 := va_nm_int (hK.1.1.2 1 (E.2.1 1, .int) rfl).2
  have e3 : cA = E.2.1 1 := Option.some.inj (e1.symm.trans e2)
  subst e3
  exact kk q H1 ⟨hP, hD, hS, hK, hA⟩
theorem l_newJ (hexec : p.tables.exec = Jvm.exec) (hb : c.code = cc) (hts : ∀ w ∈ wsL_law, w.before args s = true) (harr : Cond.arrayClass .long ∈ wsL_law) (hL : k_L E ao ws A s H locs) {n : Int32} {N : Nat} (hn : ¬ n < 0) (hN : n.toNatClampNeg = N) (hbytes : N * 8 ≤ 536870912) (hcells : cells + 1 ≤ R.cells) (hslots : slots + N ≤ R.slots) (hdg : decode cc pc = .ok (.newarray .long, 2))
    (kk : ∀ (q : Nat) (H1 : Heap), k_L E ao (ws ++ [(q, k_aJ E 2 N (fun _ => 0))]) A s H1 locs → W p l e R s m args below meth c H1 locs (cells + 1) (slots + N) Q (F0 m (pc + 2) ls (.ref q :: rest))) : W p l e R s m args below meth c H locs cells slots Q (F0 m pc ls (.int n :: rest)) := by
  obtain ⟨hP, hD, hS, hK, hA⟩ := hL
  refine va_newa (a0 := (N, .inr (.inl (fun _ => 0)))) (ty := .long) (atype := .long) hexec hb (hts _ harr) rfl hK.1.1 hP hD hS hA (fun cA => rfl) hn hN hbytes hcells hslots hdg (fun q cA H1 hK1 hP hD hS => ?_)
  have e1 := va_nm_long (hK1.2 5 (cA, .long) rfl).2
  have e2 := va_nm_long (hK.1.1.2 2 (E.2.1 2, .long) rfl).2
  have e3 : cA = E.2.1 2 := Option.some.inj (e1.symm.trans e2)
  subst e3
  exact kk q H1 ⟨hP, hD, hS, hK, hA⟩
theorem l_newB (hexec : p.tables.exec = Jvm.exec) (hb : c.code = cc) (hts : ∀ w ∈ wsL_law, w.before args s = true) (harr : Cond.arrayClass .byte ∈ wsL_law) (hL : k_L E ao ws A s H locs) {n : Int32} {N : Nat} (hn : ¬ n < 0) (hN : n.toNatClampNeg = N) (hbytes : N * 1 ≤ 536870912) (hcells : cells + 1 ≤ R.cells) (hslots : slots + N ≤ R.slots) (hdg : decode cc pc = .ok (.newarray .byte, 2))
    (kk : ∀ (q : Nat) (H1 : Heap), k_L E ao (ws ++ [(q, k_aI E 0 N (fun _ => 0))]) A s H1 locs → W p l e R s m args below meth c H1 locs (cells + 1) (slots + N) Q (F0 m (pc + 2) ls (.ref q :: rest))) : W p l e R s m args below meth c H locs cells slots Q (F0 m pc ls (.int n :: rest)) := by
  obtain ⟨hP, hD, hS, hK, hA⟩ := hL
  refine va_newa (a0 := (N, .inl (fun _ => 0))) (ty := .byte) (atype := .byte) hexec hb (hts _ harr) rfl hK.1.1 hP hD hS hA (fun cA => rfl) hn hN hbytes hcells hslots hdg (fun q cA H1 hK1 hP hD hS => ?_)
  have e1 := va_nm_byte (hK1.2 5 (cA, .byte) rfl).2
  have e2 := va_nm_byte (hK.1.1.2 0 (E.2.1 0, .byte) rfl).2
  have e3 : cA = E.2.1 0 := Option.some.inj (e1.symm.trans e2)
  subst e3
  exact kk q H1 ⟨hP, hD, hS, hK, hA⟩
theorem l_newZ (hexec : p.tables.exec = Jvm.exec) (hb : c.code = cc) (hts : ∀ w ∈ wsL_law, w.before args s = true) (harr : Cond.arrayClass .boolean ∈ wsL_law) (hL : k_L E ao ws A s H locs) {n : Int32} {N : Nat} (hn : ¬ n < 0) (hN : n.toNatClampNeg = N) (hbytes : N * 1 ≤ 536870912) (hcells : cells + 1 ≤ R.cells) (hslots : slots + N ≤ R.slots) (hdg : decode cc pc = .ok (.newarray .boolean, 2))
    (kk : ∀ (q : Nat) (H1 : Heap), k_L E ao (ws ++ [(q, k_aI E 3 N (fun _ => 0))]) A s H1 locs → W p l e R s m args below meth c H1 locs (cells + 1) (slots + N) Q (F0 m (pc + 2) ls (.ref q :: rest))) : W p l e R s m args below meth c H locs cells slots Q (F0 m pc ls (.int n :: rest)) := by
  obtain ⟨hP, hD, hS, hK, hA⟩ := hL
  refine va_newa (a0 := (N, .inl (fun _ => 0))) (ty := .boolean) (atype := .boolean) hexec hb (hts _ harr) rfl hK.1.1 hP hD hS hA (fun cA => rfl) hn hN hbytes hcells hslots hdg (fun q cA H1 hK1 hP hD hS => ?_)
  have e1 := va_nm_boolean (hK1.2 5 (cA, .boolean) rfl).2
  have e2 := va_nm_boolean (hK.1.1.2 3 (E.2.1 3, .boolean) rfl).2
  have e3 : cA = E.2.1 3 := Option.some.inj (e1.symm.trans e2)
  subst e3
  exact kk q H1 ⟨hP, hD, hS, hK, hA⟩
theorem l_newO (hexec : p.tables.exec = Jvm.exec) (hb : c.code = cc) (hts : ∀ w ∈ wsL_law, w.before args s = true) {own : String} {index : Nat} (hown : s.vm.findClass own = some m.cls) (hcl : Cond.classLink own index RX3 ∈ wsL_law) (hL : k_L E true ws A s H locs) {n : Int32} {N : Nat} (hn : ¬ n < 0) (hN : n.toNatClampNeg = N) (hbytes : N * 4 ≤ 536870912) (hcells : cells + 1 ≤ R.cells) (hslots : slots + N ≤ R.slots) (hdg : decode cc pc = .ok (.anewarray index, 3))
    (kk : ∀ (q : Nat) (H1 : Heap), k_L E true (ws ++ [(q, k_aO E 4 N (fun _ => none))]) A s H1 locs → W p l e R s m args below meth c H1 locs (cells + 1) (slots + N) Q (F0 m (pc + 3) ls (.ref q :: rest))) : W p l e R s m args below meth c H locs cells slots Q (F0 m pc ls (.int n :: rest)) := by
  obtain ⟨hP, hD, hS, hK, hA⟩ := hL
  refine va_newq hexec hb hown (hts _ hcl) (hK.2 rfl) hK.1.1 hP hD hS hA hn hN hbytes hcells hslots hdg (fun q cA H1 hK1 hP hD hS => ?_)
  have e1 := va_nmO (nm := "[LCrossTables$Section;") (hK1.2 5 (cA, .object RX3) rfl).2 (by decide +kernel)
  have e2 := va_nmO (nm := "[LCrossTables$Section;") (hK.1.1.2 4 (E.2.1 4, .object "CrossTables$Section") rfl).2 (by decide +kernel)
  have e3 : cA = E.2.1 4 := Option.some.inj (e1.symm.trans e2)
  subst e3
  exact kk q H1 ⟨hP, hD, hS, hK, hA⟩
theorem l_new (hexec : p.tables.exec = Jvm.exec) (hb : c.code = cc) (hts : ∀ w ∈ wsL_law, w.before args s = true) {own C : String} {T : u_T} {N ci index : Nat} (hin : ∀ w ∈ u_ws C T N, w ∈ wsL_law) {ty0 : Nat → FieldType} (hty : ∀ k, k < N → parseFieldDescriptor (T k).2.2.1 = some (ty0 k)) (hown : s.vm.findClass own = some m.cls) (hcl : Cond.classLink own index C ∈ wsL_law) (hinst : Cond.instantiable C N ∈ wsL_law) (hini : Cond.initialized C ∈ wsL_law) (hL : k_L E ao ws A s H locs) (hc : vwCl[ci]? = some (C, T, N)) {fs : List Value} (hfs : ∀ j, j < N → defaultValue (ty0 j) = vp_V fs j) (hcells : cells + 1 ≤ R.cells) (hslots : slots + N ≤ R.slots) (hdg : decode cc pc = .ok (.new index, 3))
    (kk : ∀ (q : Nat) (H1 : Heap), k_L E ao (ws ++ [(q, .inr (ci, fs))]) A s H1 locs → W p l e R s m args below meth c H1 locs (cells + 1) (slots + N) Q (F0 m (pc + 3) ls (.ref q :: rest))) : W p l e R s m args below meth c H locs cells slots Q (F0 m pc ls rest) := by
  obtain ⟨hP, hD, hS, hK, hA⟩ := hL
  exact va_new hexec hb hts hin ty0 hty hown (hts _ hcl) (hts _ hinst) (hts _ hini) hK.1.1 hP hD hS hA hc hfs hcells hslots hdg (fun q H1 hP hD hS => kk q H1 ⟨hP, hD, hS, hK, hA⟩)
theorem l_put (hexec : p.tables.exec = Jvm.exec) (hb : c.code = cc) (hts : ∀ w ∈ wsL_law, w.before args s = true) {own ref C : String} {T : u_T} {N ci index a : Nat} (hin : ∀ w ∈ u_ws C T N, w ∈ wsL_law) {ty0 : Nat → FieldType} (hty : ∀ k, k < N → parseFieldDescriptor (T k).2.2.1 = some (ty0 k)) (hnm : ∀ a, a < N → ∀ b, b < N → a ≠ b → (T a).2.1 ≠ (T b).2.1) (hown : s.vm.findClass own = some m.cls) (hL : k_L E ao ws A s H locs) (q0 : Nat) {fs : List Value} (he : ws[q0]? = some (a, .inr (ci, fs))) (hc : vwCl[ci]? = some (C, T, N)) (k : Nat) (hk : k < N) (hlink : Cond.fieldLink own index ref (T k).2.1 (T k).2.2.1 ∈ wsL_law) (hsame : (T k).1 = ref) (hfin : (T k).2.2.2 = false) {ty : FieldType} {v : Value} (hd : parseFieldDescriptor (T k).2.2.1 = some ty) (hn : narrow ty v = v) (hfit : fits ty v = true) (hl : k < fs.length) (hdg : decode cc pc = .ok (.putfield index, 3))
    (kk : ∀ (H1 : Heap) (locs1 : List Loc), k_L E ao (ws.set q0 (a, .inr (ci, fs.set k v))) A s H1 locs1 → W p l e R s m args below meth c H1 locs1 cells slots Q (F0 m (pc + 3) ls rest)) : W p l e R s m args below meth c H locs cells slots Q (F0 m pc ls (v :: .ref a :: rest)) := by
  obtain ⟨hP, hD, hS, hK, hA⟩ := hL
  exact va_put hexec hb hts hin ty0 hty hnm hown hK.1.1 hP hD hS q0 he hc k hk (hts _ hlink) (fun x h => by rw [← hsame]; exact h) hfin hd hn hfit hl hdg (fun H1 locs1 hP hD hS => kk H1 locs1 ⟨hP, hD, hS, hK, hA⟩)
theorem l_putF (hexec : p.tables.exec = Jvm.exec) (hb : c.code = cc) (hts : ∀ w ∈ wsL_law, w.before args s = true) {own ref C : String} {T : u_T} {N ci index a : Nat} (hin : ∀ w ∈ u_ws C T N, w ∈ wsL_law) {ty0 : Nat → FieldType} (hty : ∀ k, k < N → parseFieldDescriptor (T k).2.2.1 = some (ty0 k)) (hnm : ∀ a, a < N → ∀ b, b < N → a ≠ b → (T a).2.1 ≠ (T b).2.1) (hown : s.vm.findClass own = some m.cls) (hL : k_L E ao ws A s H locs) (q0 : Nat) {fs : List Value} (he : ws[q0]? = some (a, .inr (ci, fs))) (hc : vwCl[ci]? = some (C, T, N)) (k : Nat) (hk : k < N) (hlink : Cond.fieldLink own index ref (T k).2.1 (T k).2.2.1 ∈ wsL_law) (hsame : (T k).1 = ref) (hfin : (T k).2.2.2 = true) (hin2 : meth.name = "<init>") (hdecl : (T k).1 = own) {ty : FieldType} {v : Value} (hd : parseFieldDescriptor (T k).2.2.1 = some ty) (hn : narrow ty v = v) (hfit : fits ty v = true) (hl : k < fs.length) (hdg : decode cc pc = .ok (.putfield index, 3))
    (kk : ∀ (H1 : Heap) (locs1 : List Loc), k_L E ao (ws.set q0 (a, .inr (ci, fs.set k v))) A s H1 locs1 → W p l e R s m args below meth c H1 locs1 cells slots Q (F0 m (pc + 3) ls rest)) : W p l e R s m args below meth c H locs cells slots Q (F0 m pc ls (v :: .ref a :: rest)) := by
  obtain ⟨hP, hD, hS, hK, hA⟩ := hL
  exact va_putF hexec hb hts hin ty0 hty hnm hown hK.1.1 hP hD hS q0 he hc k hk (hts _ hlink) (fun x h => by rw [← hsame]; exact h) hfin hin2 hdecl hd hn hfit hl hdg (fun H1 locs1 hP hD hS => kk H1 locs1 ⟨hP, hD, hS, hK, hA⟩)
theorem l_get (hexec : p.tables.exec = Jvm.exec) (hb : c.code = cc) (hts : ∀ w ∈ wsL_law, w.before args s = true) {own ref C : String} {T : u_T} {N ci index a : Nat} (hin : ∀ w ∈ u_ws C T N, w ∈ wsL_law) (hown : s.vm.findClass own = some m.cls) (hL : k_L E ao ws A s H locs) (q0 : Nat) {fs : List Value} (he : ws[q0]? = some (a, .inr (ci, fs))) (hc : vwCl[ci]? = some (C, T, N)) (k : Nat) (hk : k < N) (hlink : Cond.fieldLink own index ref (T k).2.1 (T k).2.2.1 ∈ wsL_law) (hsame : (T k).1 = ref) {v : Value} (hv : fs[k]? = some v) (hdg : decode cc pc = .ok (.getfield index, 3))
    (kk : W p l e R s m args below meth c H locs cells slots Q (F0 m (pc + 3) ls (v :: rest))) : W p l e R s m args below meth c H locs cells slots Q (F0 m pc ls (.ref a :: rest)) :=
  va_get hexec hb hts hin hown hL.2.2.2.1.1.1 hL.1 q0 he hc k hk (hts _ hlink) (fun x h => by rw [← hsame]; exact h) hv hdg kk
theorem l_free {x : Nat × va_E} (hL : k_L E ao (wr ++ [x]) A s H locs) : ∀ q, va_A [x] H.size q → A q := by
  intro q hq
  rcases hq with ⟨k, y, hq⟩ | hq
  · have hk : k < 1 := (List.getElem?_eq_some_iff.mp hq).1
    have hk : k = 0 := by omega
    subst hk
    cases hq
    exact hL.2.1.2 wr.length _ l_at
  · exact hL.2.2.2.2 q (Nat.le_trans hL.2.2.1.1 hq)
theorem l_preS {x : Nat × va_E} {As : List Value} (hL : k_L E ao (wr ++ [x]) A s H locs) : PreS s H (va_Pc As (k_LP E ao [x] H.size)) As :=
  ⟨l_blind, fun U hU hWm => ⟨rfl, by rw [hU], by
    rw [hU]
    intro k y hk
    have hk1 : k < 1 := (List.getElem?_eq_some_iff.mp hk).1
    have hk1 : k = 0 := by omega
    subst hk1
    cases hk
    exact hL.1 wr.length _ l_at, ⟨fun i j a b hi hj _ => by
      have h1 : i < 1 := (List.getElem?_eq_some_iff.mp hi).1
      have h2 : j < 1 := (List.getElem?_eq_some_iff.mp hj).1
      omega, fun _ _ _ => trivial⟩, hL.2.2.2.1.1.warm hWm, fun h => va_AO.moved hWm.alike (hL.2.2.2.1.2 h)⟩⟩
variable {y : MethodName} {cy : ByteArray} {ml nL mc ms idx : Nat} {rm : Room} {As : List Value} {post : va_W → Prop} {own : String} {q : Nat} {x : va_E}
theorem l_go {a : Array Value} (hr : va_Run p l e R s m args below meth c H locs cells slots mc ms (F0 m pc ls st0) rest (k_LQ E [(q, x)] H.size post a) (va_A [(q, x)] H.size)) (hL : k_L E ao (wr ++ [(q, x)]) A s H locs)
    (kk : ∀ (w : va_W) (H1 : Heap) (locs1 : List Loc), post w → k_L E ao (wr ++ w) A s H1 locs1 → W p l e R s m args below meth c H1 locs1 (cells + mc) (slots + ms) Q (F0 m (pc + 3) ls rest)) : W p l e R s m args below meth c H locs cells slots Q (F0 m pc ls st0) := by
  have hn := l_free hL
  refine va_callv hr hL.2.2.1 (fun q _ h => hn q h) hn (fun w t H1 locs1 ht hvm hp hB hz hk hS => ?_)
  have hj := l_join hL.1 hL.2.1 hk hn (by rw [← ht]; exact hB.1) hB.2
  exact kk w H1 locs1 hp ⟨hj.1, hj.2, hS, hL.2.2.2⟩
theorem l_callI (hexec : p.tables.exec = Jvm.exec) (hb : c.code = cc) (hml : c.maxLocals = nL) (hown : s.vm.findClass own = some m.cls) (hts : ∀ w ∈ wsL_law, w.before args s = true) (hM : k_LMet l y cy ml rm (.ref q :: As) E ao [(q, x)] H.size post mc ms)
    (hlink : Cond.methodLink own idx y ∈ wsL_law) (hin : Cond.instanceMethod y ∈ wsL_law) (hini : Cond.initialized y.cls ∈ wsL_law) (hcode : Cond.code y cy ml none ∈ wsL_law) (hy1 : y.name = "<init>") (hd : k_nm y As.length) (hR : rm.frames + 1 ≤ R.frames ∧ 8 + (ml + 11) + rm.locals ≤ R.locals) (hrc : rm.cells = mc) (hrs : rm.slots = ms) (hf : cells + mc ≤ R.cells ∧ slots + ms ≤ R.slots)
    (hsize : ls.size = nL) (h0 : st0 = As.reverse ++ .ref q :: rest) (hroom : (rest.map fun v => v.category).sum ≤ 8) (hdg : decode cc pc = .ok (.invokespecial idx, 3)) (hL : k_L E ao (wr ++ [(q, x)]) A s H locs)
    (kk : ∀ (w : va_W) (H1 : Heap) (locs1 : List Loc), post w → k_L E ao (wr ++ w) A s H1 locs1 → W p l e R s m args below meth c H1 locs1 (cells + mc) (slots + ms) Q (F0 m (pc + 3) ls rest)) : W p l e R s m args below meth c H locs cells slots Q (F0 m pc ls st0) := by
  subst h0
  exact l_go (va_runI ⟨hexec, hb, hml, hown, hts⟩ hM (cwI As.length hts (k_gl hcode) rfl hrc hrs (hts _ hini) (hts _ hlink) (hts _ hin) hy1 hd hR) (l_preS hL) rfl rfl hsize rfl (lv_room hroom) hdg hf) hL kk
theorem l_callIN {host : String} (hexec : p.tables.exec = Jvm.exec) (hb : c.code = cc) (hml : c.maxLocals = nL) (hown : s.vm.findClass own = some m.cls) (hts : ∀ w ∈ wsL_law, w.before args s = true) (hM : k_LMet l y cy ml rm (.ref q :: As) E ao [(q, x)] H.size post mc ms)
    (hlink : va_Nw (.methodLinkNest own idx y host) s) (hin : Cond.instanceMethod y ∈ wsL_law) (hini : Cond.initialized y.cls ∈ wsL_law) (hcode : Cond.code y cy ml none ∈ wsL_law) (hy1 : y.name = "<init>") (hd : k_nm y As.length) (hR : rm.frames + 1 ≤ R.frames ∧ 8 + (ml + 11) + rm.locals ≤ R.locals) (hrc : rm.cells = mc) (hrs : rm.slots = ms) (hf : cells + mc ≤ R.cells ∧ slots + ms ≤ R.slots)
    (hsize : ls.size = nL) (h0 : st0 = As.reverse ++ .ref q :: rest) (hroom : (rest.map fun v => v.category).sum ≤ 8) (hdg : decode cc pc = .ok (.invokespecial idx, 3)) (hL : k_L E ao (wr ++ [(q, x)]) A s H locs)
    (kk : ∀ (w : va_W) (H1 : Heap) (locs1 : List Loc), post w → k_L E ao (wr ++ w) A s H1 locs1 → W p l e R s m args below meth c H1 locs1 (cells + mc) (slots + ms) Q (F0 m (pc + 3) ls rest)) : W p l e R s m args below meth c H locs cells slots Q (F0 m pc ls st0) := by
  subst h0
  exact l_go (va_runIN (host := host) ⟨hexec, hb, hml, hown, hts⟩ hM ⟨va_cnB As.length hts (k_gl hcode) rfl hrc hrs hlink (hts _ hini) hd hR, hy1, hts _ hin⟩ (l_preS hL) rfl rfl hsize rfl (lv_room hroom) hdg hf) hL kk
theorem l_vret {ws0 : va_W} (hexec : p.tables.exec = Jvm.exec) (hb : c.code = cc) (hr : meth.sig.returnType = none) (hlocks : meth.locks = false) (hL : k_L E ao ws (va_A ws0 s.heap.size) s H locs) (hp : post ws) (hdg : decode cc pc = .ok (.return_, 1)) : W p l e R s m args below meth c H locs cells slots (MQ below (k_LQ E ws0 s.heap.size post) args s cells slots (va_A ws0 s.heap.size)) (F0 m pc ls []) :=
  W.vret hexec hb hr (fun t ht hW => ⟨⟨ws, rfl, hp, by rw [ht]; exact hL.1, hL.2.1⟩, hL.2.2.1.F ht⟩) hL.2.2.1.2.2 hdg hlocks
end KL
