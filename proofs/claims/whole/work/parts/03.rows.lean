section KR
variable {p : Program} {l : Launch} {e : Env} {R : Room} {s : State} {m : MethodId} {args : Array Value} {below : List Frame} {meth : Method} {c : Code} {H : Heap} {locs : List Loc} {cells slots : Nat} {Q : State → Prop}
variable {cc : ByteArray} {pc : Nat} {ls : Array Slot} {rest st0 : List Value} {E : Ev} {n : Nat} {z z0 : Sg} {A : Nat → Prop}
/-- a field of an object, by its role -/
theorem k_get (hexec : p.tables.exec = Jvm.exec) (hb : c.code = cc) (hts : ∀ w ∈ wsL_law, w.before args s = true) {own ref C : String} {T : u_T} {N ci index : Nat} (hin : ∀ w ∈ u_ws C T N, w ∈ wsL_law) (hown : s.vm.findClass own = some m.cls) (hW : k_W E n z A s H locs) (r : Nat) (hr : r < n) {fs : (Nat → Int32) → (Nat → Int64) → (Nat → Option Nat) → List Value} (he : ∀ i j o, k_cell E r i j o = .inr (ci, fs i j o)) (hc : vwCl[ci]? = some (C, T, N)) (k : Nat) (hk : k < N) (hlink : Cond.fieldLink own index ref (T k).2.1 (T k).2.2.1 ∈ wsL_law) (hsame : (T k).1 = ref) {v : Value} (hv : (fs (z.1 r) (z.2.1 r) (z.2.2 r))[k]? = some v) (hdg : decode cc pc = .ok (.getfield index, 3))
    (kk : W p l e R s m args below meth c H locs cells slots Q (F0 m (pc + 3) ls (v :: rest))) : W p l e R s m args below meth c H locs cells slots Q (F0 m pc ls (.ref (E.2.2 r) :: rest)) :=
  va_get hexec hb hts hin hown hW.2.2.2.1.1 hW.1 r (k_wl_at hr (he _ _ _)) hc k hk (hts _ hlink) (fun x h => by rw [← hsame]; exact h) hv hdg kk
theorem k_putI (hexec : p.tables.exec = Jvm.exec) (hb : c.code = cc) (hts : ∀ w ∈ wsL_law, w.before args s = true) {own ref C : String} {T : u_T} {N ci index : Nat} (hin : ∀ w ∈ u_ws C T N, w ∈ wsL_law) {ty0 : Nat → FieldType} (hty : ∀ k, k < N → parseFieldDescriptor (T k).2.2.1 = some (ty0 k)) (hnm : ∀ a, a < N → ∀ b, b < N → a ≠ b → (T a).2.1 ≠ (T b).2.1) (hown : s.vm.findClass own = some m.cls) (hW : k_W E n z A s H locs) (r : Nat) (hr : r < n) {fs : (Nat → Int32) → (Nat → Int64) → (Nat → Option Nat) → List Value} (he : ∀ i j o, k_cell E r i j o = .inr (ci, fs i j o)) (hc : vwCl[ci]? = some (C, T, N)) (k : Nat) (hk : k < N) (hlink : Cond.fieldLink own index ref (T k).2.1 (T k).2.2.1 ∈ wsL_law) (hsame : (T k).1 = ref) (hfin : (T k).2.2.2 = false) (hd : parseFieldDescriptor (T k).2.2.1 = some .int) {x : Int32} (hl : k < (fs (z.1 r) (z.2.1 r) (z.2.2 r)).length) (hs : fs (upd (z.1 r) k x) (z.2.1 r) (z.2.2 r) = (fs (z.1 r) (z.2.1 r) (z.2.2 r)).set k (.int x)) (hdg : decode cc pc = .ok (.putfield index, 3))
    (kk : ∀ (H1 : Heap) (locs1 : List Loc), k_W E n (uI z r k x) A s H1 locs1 → W p l e R s m args below meth c H1 locs1 cells slots Q (F0 m (pc + 3) ls rest)) : W p l e R s m args below meth c H locs cells slots Q (F0 m pc ls (.int x :: .ref (E.2.2 r) :: rest)) := by
  refine va_put hexec hb hts hin ty0 hty hnm hown hW.2.2.2.1.1 hW.1 hW.2.1 hW.2.2.1 r (k_wl_at hr (he _ _ _)) hc k hk (hts _ hlink) (fun x h => by rw [← hsame]; exact h) hfin hd rfl rfl hl hdg (fun H1 locs1 hP hD hS => ?_)
  have e1 : (k_wl E n z).set r (E.2.2 r, .inr (ci, (fs (z.1 r) (z.2.1 r) (z.2.2 r)).set k (.int x))) = k_wl E n (uI z r k x) := k_wl_set k_at_uI (by rw [k_at_uIs, he, hs])
  rw [e1] at hP hD
  exact kk H1 locs1 ⟨hP, hD, hS, hW.2.2.2⟩
theorem k_putJ (hexec : p.tables.exec = Jvm.exec) (hb : c.code = cc) (hts : ∀ w ∈ wsL_law, w.before args s = true) {own ref C : String} {T : u_T} {N ci index : Nat} (hin : ∀ w ∈ u_ws C T N, w ∈ wsL_law) {ty0 : Nat → FieldType} (hty : ∀ k, k < N → parseFieldDescriptor (T k).2.2.1 = some (ty0 k)) (hnm : ∀ a, a < N → ∀ b, b < N → a ≠ b → (T a).2.1 ≠ (T b).2.1) (hown : s.vm.findClass own = some m.cls) (hW : k_W E n z A s H locs) (r : Nat) (hr : r < n) {fs : (Nat → Int32) → (Nat → Int64) → (Nat → Option Nat) → List Value} (he : ∀ i j o, k_cell E r i j o = .inr (ci, fs i j o)) (hc : vwCl[ci]? = some (C, T, N)) (k : Nat) (hk : k < N) (hlink : Cond.fieldLink own index ref (T k).2.1 (T k).2.2.1 ∈ wsL_law) (hsame : (T k).1 = ref) (hfin : (T k).2.2.2 = false) (hd : parseFieldDescriptor (T k).2.2.1 = some .long) {x : Int64} (hl : k < (fs (z.1 r) (z.2.1 r) (z.2.2 r)).length) (hs : fs (z.1 r) (vp_updL (z.2.1 r) k x) (z.2.2 r) = (fs (z.1 r) (z.2.1 r) (z.2.2 r)).set k (.long x)) (hdg : decode cc pc = .ok (.putfield index, 3))
    (kk : ∀ (H1 : Heap) (locs1 : List Loc), k_W E n (uJ z r k x) A s H1 locs1 → W p l e R s m args below meth c H1 locs1 cells slots Q (F0 m (pc + 3) ls rest)) : W p l e R s m args below meth c H locs cells slots Q (F0 m pc ls (.long x :: .ref (E.2.2 r) :: rest)) := by
  refine va_put hexec hb hts hin ty0 hty hnm hown hW.2.2.2.1.1 hW.1 hW.2.1 hW.2.2.1 r (k_wl_at hr (he _ _ _)) hc k hk (hts _ hlink) (fun x h => by rw [← hsame]; exact h) hfin hd rfl rfl hl hdg (fun H1 locs1 hP hD hS => ?_)
  have e1 : (k_wl E n z).set r (E.2.2 r, .inr (ci, (fs (z.1 r) (z.2.1 r) (z.2.2 r)).set k (.long x))) = k_wl E n (uJ z r k x) := k_wl_set k_at_uJ (by rw [k_at_uJs, he, hs])
  rw [e1] at hP hD
  exact kk H1 locs1 ⟨hP, hD, hS, hW.2.2.2⟩
/-- a reference field; its value is a role's address -/
theorem k_putO (hexec : p.tables.exec = Jvm.exec) (hb : c.code = cc) (hts : ∀ w ∈ wsL_law, w.before args s = true) {own ref C : String} {T : u_T} {N ci index : Nat} (hin : ∀ w ∈ u_ws C T N, w ∈ wsL_law) {ty0 : Nat → FieldType} (hty : ∀ k, k < N → parseFieldDescriptor (T k).2.2.1 = some (ty0 k)) (hnm : ∀ a, a < N → ∀ b, b < N → a ≠ b → (T a).2.1 ≠ (T b).2.1) (hown : s.vm.findClass own = some m.cls) (hW : k_W E n z A s H locs) (r : Nat) (hr : r < n) {fs : (Nat → Int32) → (Nat → Int64) → (Nat → Option Nat) → List Value} (he : ∀ i j o, k_cell E r i j o = .inr (ci, fs i j o)) (hc : vwCl[ci]? = some (C, T, N)) (k : Nat) (hk : k < N) (hlink : Cond.fieldLink own index ref (T k).2.1 (T k).2.2.1 ∈ wsL_law) (hsame : (T k).1 = ref) (hfin : (T k).2.2.2 = false) {nm : String} (hd : parseFieldDescriptor (T k).2.2.1 = some (.object nm)) {x : Nat} (hl : k < (fs (z.1 r) (z.2.1 r) (z.2.2 r)).length) (hs : fs (z.1 r) (z.2.1 r) (va_up (z.2.2 r) k (some x)) = (fs (z.1 r) (z.2.1 r) (z.2.2 r)).set k (.ref (E.2.2 (46 + 6 * x)))) (hdg : decode cc pc = .ok (.putfield index, 3))
    (kk : ∀ (H1 : Heap) (locs1 : List Loc), k_W E n (uO z r k (some x)) A s H1 locs1 → W p l e R s m args below meth c H1 locs1 cells slots Q (F0 m (pc + 3) ls rest)) : W p l e R s m args below meth c H locs cells slots Q (F0 m pc ls (.ref (E.2.2 (46 + 6 * x)) :: .ref (E.2.2 r) :: rest)) := by
  refine va_put hexec hb hts hin ty0 hty hnm hown hW.2.2.2.1.1 hW.1 hW.2.1 hW.2.2.1 r (k_wl_at hr (he _ _ _)) hc k hk (hts _ hlink) (fun x h => by rw [← hsame]; exact h) hfin hd rfl rfl hl hdg (fun H1 locs1 hP hD hS => ?_)
  have e1 : (k_wl E n z).set r (E.2.2 r, .inr (ci, (fs (z.1 r) (z.2.1 r) (z.2.2 r)).set k (.ref (E.2.2 (46 + 6 * x))))) = k_wl E n (uO z r k (some x)) := k_wl_set k_at_uO (by rw [k_at_uOs, he, hs])
  rw [e1] at hP hD
  exact kk H1 locs1 ⟨hP, hD, hS, hW.2.2.2⟩
theorem k_iald (hexec : p.tables.exec = Jvm.exec) (hb : c.code = cc) (hW : k_W E n z A s H locs) (r len : Nat) (hr : r < n) (he : ∀ i j o, k_cell E r i j o = k_aI E 1 len i) {i : Int32} {v : Int32} (hin : vp_in i len) (hv : z.1 r i.toNatClampNeg = v) (hdg : decode cc pc = .ok (.iaload, 1))
    (kk : W p l e R s m args below meth c H locs cells slots Q (F0 m (pc + 1) ls (.int v :: rest))) : W p l e R s m args below meth c H locs cells slots Q (F0 m pc ls (.int i :: .ref (E.2.2 r) :: rest)) := by
  subst hv
  exact va_iald hexec hb hW.2.2.2.1.1 hW.1 r 1 (k_wl_at hr (he _ _ _)) rfl hin hdg kk
theorem k_bald (hexec : p.tables.exec = Jvm.exec) (hb : c.code = cc) (hW : k_W E n z A s H locs) (r len : Nat) (hr : r < n) (he : ∀ i j o, k_cell E r i j o = k_aI E 0 len i) {i : Int32} {v : Int32} (hin : vp_in i len) (hv : z.1 r i.toNatClampNeg = v) (hdg : decode cc pc = .ok (.baload, 1))
    (kk : W p l e R s m args below meth c H locs cells slots Q (F0 m (pc + 1) ls (.int v :: rest))) : W p l e R s m args below meth c H locs cells slots Q (F0 m pc ls (.int i :: .ref (E.2.2 r) :: rest)) := by
  subst hv
  exact va_bald hexec hb hW.2.2.2.1.1 hW.1 r 0 (k_wl_at hr (he _ _ _)) rfl hin hdg kk
theorem k_zald (hexec : p.tables.exec = Jvm.exec) (hb : c.code = cc) (hW : k_W E n z A s H locs) (r len : Nat) (hr : r < n) (he : ∀ i j o, k_cell E r i j o = k_aI E 3 len i) {i : Int32} {v : Int32} (hin : vp_in i len) (hv : z.1 r i.toNatClampNeg = v) (hdg : decode cc pc = .ok (.baload, 1))
    (kk : W p l e R s m args below meth c H locs cells slots Q (F0 m (pc + 1) ls (.int v :: rest))) : W p l e R s m args below meth c H locs cells slots Q (F0 m pc ls (.int i :: .ref (E.2.2 r) :: rest)) := by
  subst hv
  exact va_zald hexec hb hW.2.2.2.1.1 hW.1 r 3 (k_wl_at hr (he _ _ _)) rfl hin hdg kk
theorem k_lald (hexec : p.tables.exec = Jvm.exec) (hb : c.code = cc) (hW : k_W E n z A s H locs) (r len : Nat) (hr : r < n) (he : ∀ i j o, k_cell E r i j o = k_aJ E 2 len j) {i : Int32} {v : Int64} (hin : vp_in i len) (hv : z.2.1 r i.toNatClampNeg = v) (hdg : decode cc pc = .ok (.laload, 1))
    (kk : W p l e R s m args below meth c H locs cells slots Q (F0 m (pc + 1) ls (.long v :: rest))) : W p l e R s m args below meth c H locs cells slots Q (F0 m pc ls (.int i :: .ref (E.2.2 r) :: rest)) := by
  subst hv
  exact va_lald hexec hb hW.2.2.2.1.1 hW.1 r 2 (k_wl_at hr (he _ _ _)) rfl hin hdg kk
theorem k_aald (hexec : p.tables.exec = Jvm.exec) (hb : c.code = cc) (hW : k_W E n z A s H locs) (r len : Nat) (hr : r < n) (he : ∀ i j o, k_cell E r i j o = k_aO E 4 len o) {i : Int32} {v : Option Nat} (hin : vp_in i len) (hv : z.2.2 r i.toNatClampNeg = v) (hdg : decode cc pc = .ok (.aaload, 1))
    (kk : W p l e R s m args below meth c H locs cells slots Q (F0 m (pc + 1) ls (k_o E v :: rest))) : W p l e R s m args below meth c H locs cells slots Q (F0 m pc ls (.int i :: .ref (E.2.2 r) :: rest)) := by
  subst hv
  exact va_aldq hexec hb hW.2.2.2.1.1 hW.1 r 4 (k_wl_at hr (he _ _ _)) rfl hin hdg kk
theorem k_iast (hexec : p.tables.exec = Jvm.exec) (hb : c.code = cc) (hW : k_W E n z A s H locs) (r len : Nat) (hr : r < n) (he : ∀ i j o, k_cell E r i j o = k_aI E 1 len i) {i x : Int32} (hin : vp_in i len) (hdg : decode cc pc = .ok (.iastore, 1))
    (kk : ∀ (H1 : Heap) (locs1 : List Loc), k_W E n (uI z r i.toNatClampNeg x) A s H1 locs1 → W p l e R s m args below meth c H1 locs1 cells slots Q (F0 m (pc + 1) ls rest)) : W p l e R s m args below meth c H locs cells slots Q (F0 m pc ls (.int x :: .int i :: .ref (E.2.2 r) :: rest)) := by
  refine va_iast hexec hb hW.2.2.2.1.1 hW.1 hW.2.1 hW.2.2.1 r 1 (k_wl_at hr (he _ _ _)) rfl hin hdg (fun H1 locs1 hP hD hS => ?_)
  have e1 : (k_wl E n z).set r (E.2.2 r, .inl (E.2.1 1, len, .inl (upd (z.1 r) i.toNatClampNeg x))) = k_wl E n (uI z r i.toNatClampNeg x) := k_wl_set k_at_uI (by rw [k_at_uIs, he, k_aI])
  rw [e1] at hP hD
  exact kk H1 locs1 ⟨hP, hD, hS, hW.2.2.2⟩
theorem k_bast (hexec : p.tables.exec = Jvm.exec) (hb : c.code = cc) (hW : k_W E n z A s H locs) (r len : Nat) (hr : r < n) (he : ∀ i j o, k_cell E r i j o = k_aI E 0 len i) {i x : Int32} (hin : vp_in i len) (hdg : decode cc pc = .ok (.bastore, 1))
    (kk : ∀ (H1 : Heap) (locs1 : List Loc), k_W E n (uI z r i.toNatClampNeg (vp_nar .byte x)) A s H1 locs1 → W p l e R s m args below meth c H1 locs1 cells slots Q (F0 m (pc + 1) ls rest)) : W p l e R s m args below meth c H locs cells slots Q (F0 m pc ls (.int x :: .int i :: .ref (E.2.2 r) :: rest)) := by
  refine va_bast hexec hb hW.2.2.2.1.1 hW.1 hW.2.1 hW.2.2.1 r 0 (k_wl_at hr (he _ _ _)) rfl hin hdg (fun H1 locs1 hP hD hS => ?_)
  have e1 : (k_wl E n z).set r (E.2.2 r, .inl (E.2.1 0, len, .inl (upd (z.1 r) i.toNatClampNeg (vp_nar .byte x)))) = k_wl E n (uI z r i.toNatClampNeg (vp_nar .byte x)) := k_wl_set k_at_uI (by rw [k_at_uIs, he, k_aI])
  rw [e1] at hP hD
  exact kk H1 locs1 ⟨hP, hD, hS, hW.2.2.2⟩
theorem k_zast (hexec : p.tables.exec = Jvm.exec) (hb : c.code = cc) (hW : k_W E n z A s H locs) (r len : Nat) (hr : r < n) (he : ∀ i j o, k_cell E r i j o = k_aI E 3 len i) {i x : Int32} (hin : vp_in i len) (hdg : decode cc pc = .ok (.bastore, 1))
    (kk : ∀ (H1 : Heap) (locs1 : List Loc), k_W E n (uI z r i.toNatClampNeg (vp_nar .boolean x)) A s H1 locs1 → W p l e R s m args below meth c H1 locs1 cells slots Q (F0 m (pc + 1) ls rest)) : W p l e R s m args below meth c H locs cells slots Q (F0 m pc ls (.int x :: .int i :: .ref (E.2.2 r) :: rest)) := by
  refine va_zast hexec hb hW.2.2.2.1.1 hW.1 hW.2.1 hW.2.2.1 r 3 (k_wl_at hr (he _ _ _)) rfl hin hdg (fun H1 locs1 hP hD hS => ?_)
  have e1 : (k_wl E n z).set r (E.2.2 r, .inl (E.2.1 3, len, .inl (upd (z.1 r) i.toNatClampNeg (vp_nar .boolean x)))) = k_wl E n (uI z r i.toNatClampNeg (vp_nar .boolean x)) := k_wl_set k_at_uI (by rw [k_at_uIs, he, k_aI])
  rw [e1] at hP hD
  exact kk H1 locs1 ⟨hP, hD, hS, hW.2.2.2⟩
theorem k_last (hexec : p.tables.exec = Jvm.exec) (hb : c.code = cc) (hW : k_W E n z A s H locs) (r len : Nat) (hr : r < n) (he : ∀ i j o, k_cell E r i j o = k_aJ E 2 len j) {i : Int32} {x : Int64} (hin : vp_in i len) (hdg : decode cc pc = .ok (.lastore, 1))
    (kk : ∀ (H1 : Heap) (locs1 : List Loc), k_W E n (uJ z r i.toNatClampNeg x) A s H1 locs1 → W p l e R s m args below meth c H1 locs1 cells slots Q (F0 m (pc + 1) ls rest)) : W p l e R s m args below meth c H locs cells slots Q (F0 m pc ls (.long x :: .int i :: .ref (E.2.2 r) :: rest)) := by
  refine va_last hexec hb hW.2.2.2.1.1 hW.1 hW.2.1 hW.2.2.1 r 2 (k_wl_at hr (he _ _ _)) rfl hin hdg (fun H1 locs1 hP hD hS => ?_)
  have e1 : (k_wl E n z).set r (E.2.2 r, .inl (E.2.1 2, len, .inr (.inl (vp_updL (z.2.1 r) i.toNatClampNeg x)))) = k_wl E n (uJ z r i.toNatClampNeg x) := k_wl_set k_at_uJ (by rw [k_at_uJs, he, k_aJ])
  rw [e1] at hP hD
  exact kk H1 locs1 ⟨hP, hD, hS, hW.2.2.2⟩
/-- a section into an array of sections -/
theorem k_aast (hexec : p.tables.exec = Jvm.exec) (hb : c.code = cc) (hW : k_W E n z A s H locs) (r len : Nat) (hr : r < n) (he : ∀ i j o, k_cell E r i j o = k_aO E 4 len o) (x : Nat) (hx : 46 + 6 * x < n) {i : Int32} (hin : vp_in i len) (hdg : decode cc pc = .ok (.aastore, 1))
    (kk : ∀ (H1 : Heap) (locs1 : List Loc), k_W E n (uO z r i.toNatClampNeg (some x)) A s H1 locs1 → W p l e R s m args below meth c H1 locs1 cells slots Q (F0 m (pc + 1) ls rest)) : W p l e R s m args below meth c H locs cells slots Q (F0 m pc ls (.ref (E.2.2 (46 + 6 * x)) :: .int i :: .ref (E.2.2 r) :: rest)) := by
  refine va_astq (r := (RX3, TX3, 15)) hexec hb hW.2.2.2.1.1 hW.1 hW.2.1 hW.2.2.1 r 4 (46 + 6 * x) 5 (k_wl_at hr (he _ _ _)) rfl (k_wl_at hx (k_cell_sec x _ _ _)) rfl hin hdg (fun H1 locs1 hP hD hS => ?_)
  have e1 : (k_wl E n z).set r (E.2.2 r, .inl (E.2.1 4, len, .inr (.inr (.inr (.inr (va_up (fun k => (z.2.2 r k).map (fun c => E.2.2 (46 + 6 * c))) i.toNatClampNeg (some (E.2.2 (46 + 6 * x))))))))) = k_wl E n (uO z r i.toNatClampNeg (some x)) := k_wl_set k_at_uO (by
    rw [k_at_uOs, he, k_aO]
    congr 7
    funext k
    by_cases hk : k = i.toNatClampNeg
    · subst hk; simp [va_up]
    · simp [va_up, hk])
  rw [e1] at hP hD
  exact kk H1 locs1 ⟨hP, hD, hS, hW.2.2.2⟩
/-- a branch on a reference that may be null -/
theorem k_ifnull (hexec : p.tables.exec = Jvm.exec) (hb : c.code = cc) {o : Option Nat} {off : Int} {tgt : Nat} (hdg : decode cc pc = .ok (.ifnull off, 3)) (ht : (pc : Int) + off = (tgt : Int)) (kt : o = none → W p l e R s m args below meth c H locs cells slots Q (F0 m tgt ls rest)) (kf : ∀ r, o = some r → W p l e R s m args below meth c H locs cells slots Q (F0 m (pc + 3) ls rest)) : W p l e R s m args below meth c H locs cells slots Q (F0 m pc ls (k_o E o :: rest)) := by
  cases o with
  | none => exact lv_ifnullN hexec hb hdg ht (kt rfl)
  | some r => exact lv_ifnull hexec hb hdg (kf r rfl)
theorem k_ifnonnull (hexec : p.tables.exec = Jvm.exec) (hb : c.code = cc) {o : Option Nat} {off : Int} {tgt : Nat} (hdg : decode cc pc = .ok (.ifnonnull off, 3)) (ht : (pc : Int) + off = (tgt : Int)) (kt : ∀ r, o = some r → W p l e R s m args below meth c H locs cells slots Q (F0 m tgt ls rest)) (kf : o = none → W p l e R s m args below meth c H locs cells slots Q (F0 m (pc + 3) ls rest)) : W p l e R s m args below meth c H locs cells slots Q (F0 m pc ls (k_o E o :: rest)) := by
  cases o with
  | none => exact lv_ifnonnullN hexec hb hdg (kf rfl)
  | some r => exact lv_ifnonnull hexec hb hdg ht (kt r rfl)
/-- behind a call -/
theorem k_go {mc ms : Nat} {a : Array Value} {post : Option Value → Sg → Prop} (hr : va_Run p l e R s m args below meth c H locs cells slots mc ms (F0 m pc ls st0) rest (k_Q post E n z H.size a) (k_A E n z H.size)) (hW : k_W E n z A s H locs)
    (kk : ∀ (v : Option Value) (z' : Sg) (H1 : Heap) (locs1 : List Loc), post v z' → k_W E n z' A s H1 locs1 → W p l e R s m args below meth c H1 locs1 (cells + mc) (slots + ms) Q (F0 m (pc + 3) ls (v.toList ++ rest))) : W p l e R s m args below meth c H locs cells slots Q (F0 m pc ls st0) := by
  have hn : ∀ q, k_A E n z H.size q → A q := fun q hq => by
    rcases hq with ⟨k, x, hq⟩ | hq
    · exact hW.2.1.2 k _ hq
    · exact hW.2.2.2.2.1 q (Nat.le_trans hW.2.2.1.1 hq)
  intro T hT X
  obtain ⟨v, st₀, t, T', L, h0, X', hL, e1, e2, ⟨⟨v', u, hv, hp, hb⟩, hF⟩, st⟩ := hr T hT X
  cases hv
  obtain ⟨k1, k2, k3⟩ := vx_keep h0 e1 hW.2.2.1 (fun q _ h => hn q h) hn hL hF
  obtain ⟨t2, a1, b1⟩ := kk v u T'.heap (locs ++ L) hp ⟨by rw [e1]; exact hb.1, hb.2.weaken (fun k q _ h => hn q.1 h), k3, hW.2.2.2⟩ T' rfl X'
  exact ⟨t2, st t2 a1, b1⟩
/-- behind a call that may throw -/
theorem k_gox {mc ms : Nat} {a : Array Value} {post : Option Value → Sg → Prop} {xp : String → Prop} (hr : vx_Run p l e R s m args below meth c H locs cells slots mc ms (F0 m pc ls st0) rest (k_Q post E n z H.size a) (k_X xp E n z H.size) (k_A E n z H.size)) (hW : k_W E n z A s H locs)
    (kx : ∀ (X : String) (ce : Cell) (q9 : Addr) (H1 : Heap) (locs1 : List Loc), xp X → k_W E n z A s H1 locs1 → H1[q9]? = some ce → ce.vm = .none → s.vm.findClass X = some ce.cls → vx_W p l e R s m args below meth c H1 locs1 (cells + mc) (slots + ms) Q (F0 m pc ls rest) q9)
    (kk : ∀ (v : Option Value) (z' : Sg) (H1 : Heap) (locs1 : List Loc), post v z' → k_W E n z' A s H1 locs1 → W p l e R s m args below meth c H1 locs1 (cells + mc) (slots + ms) Q (F0 m (pc + 3) ls (v.toList ++ rest))) : W p l e R s m args below meth c H locs cells slots Q (F0 m pc ls st0) := by
  have hn : ∀ q, k_A E n z H.size q → A q := fun q hq => by
    rcases hq with ⟨k, x, hq⟩ | hq
    · exact hW.2.1.2 k _ hq
    · exact hW.2.2.2.2.1 q (Nat.le_trans hW.2.2.1.1 hq)
  intro T hT X
  rcases hr T hT X with ⟨v, st₀, t, T', L, h0, X', hL, e1, e2, ⟨⟨v', u, hv, hp, hb⟩, hF⟩, st⟩ | ⟨q, st₀, t, T', L, X9, ce, h0, X', hL, e1, e2, ⟨hp, hb, hF⟩, hce, hcv, hcl, st⟩
  · cases hv
    obtain ⟨k1, k2, k3⟩ := vx_keep h0 e1 hW.2.2.1 (fun q _ h => hn q h) hn hL hF
    obtain ⟨t2, a1, b1⟩ := kk v u T'.heap (locs ++ L) hp ⟨by rw [e1]; exact hb.1, hb.2.weaken (fun k q _ h => hn q.1 h), k3, hW.2.2.2⟩ T' rfl X'
    exact ⟨t2, st t2 a1, b1⟩
  · obtain ⟨k1, k2, k3⟩ := vx_keep h0 e1 hW.2.2.1 (fun q _ h => hn q h) hn hL hF
    obtain ⟨t2, a1, b1⟩ := kx X9 ce q T'.heap (locs ++ L) hp ⟨by rw [e1]; exact hb.1, hb.2.weaken (fun k q _ h => hn q.1 h), k3, hW.2.2.2⟩ (by rw [e1]; exact hce) hcv hcl T' rfl X'
    exact ⟨t2, st.trans a1, b1⟩
theorem k_preV {C : String} {T : u_T} {N ci r : Nat} {As : List Value} {fs : List Value} (hW : k_W E n z A s H locs) (hr : r < n) (he : k_at E z r = .inr (ci, fs)) (hc : vwCl[ci]? = some (C, T, N)) : PreV s H C (E.2.2 r) (va_Pc (.ref (E.2.2 r) :: As) (k_Pre E n z H.size)) As :=
  ⟨k_blind, va_recv hW.2.2.2.1.1 hW.1 hc (k_wl_at hr he), fun U hU hWm => ⟨rfl, k_pre hW hU hWm⟩⟩
theorem k_preS {As : List Value} (hW : k_W E n z A s H locs) : PreS s H (va_Pc As (k_Pre E n z H.size)) As := ⟨k_blind, fun U hU hWm => ⟨rfl, k_pre hW hU hWm⟩⟩
/-- ends -/
theorem k_ret {post : Option Value → Sg → Prop} {v : Option Value} (hW : k_W E n z (k_A E n z0 s.heap.size) s H locs) (hp : post v z) : ∀ t : State, t.heap = H → s.WarmedH t.vm → k_Q post E n z0 s.heap.size args s (.returned v) t :=
  fun t ht hWm => ⟨⟨v, z, rfl, hp, by rw [ht]; exact hW.1, hW.2.1⟩, hW.2.2.1.F ht⟩
theorem k_iret {post : Option Value → Sg → Prop} {v : Int32} {ty : FieldType} (hexec : p.tables.exec = Jvm.exec) (hb : c.code = cc) (hr : meth.sig.returnType = some ty) (hn : narrow ty (.int v) = .int v) (hlocks : meth.locks = false) (hW : k_W E n z (k_A E n z0 s.heap.size) s H locs) (hp : post (some (.int v)) z) (hdg : decode cc pc = .ok (.ireturn, 1)) : W p l e R s m args below meth c H locs cells slots (MQ below (k_Q post E n z0 s.heap.size) args s cells slots (k_A E n z0 s.heap.size)) (F0 m pc ls [.int v]) :=
  W.zret hexec hb hr hn (k_ret hW hp) hW.2.2.1.2.2 hdg hlocks
theorem k_lret {post : Option Value → Sg → Prop} {v : Int64} (hexec : p.tables.exec = Jvm.exec) (hb : c.code = cc) (hr : meth.sig.returnType = some .long) (hlocks : meth.locks = false) (hW : k_W E n z (k_A E n z0 s.heap.size) s H locs) (hp : post (some (.long v)) z) (hdg : decode cc pc = .ok (.lreturn, 1)) : W p l e R s m args below meth c H locs cells slots (MQ below (k_Q post E n z0 s.heap.size) args s cells slots (k_A E n z0 s.heap.size)) (F0 m pc ls [.long v]) :=
  W.lret hexec hb hr (k_ret hW hp) hW.2.2.1.2.2 hdg hlocks
theorem k_vret {post : Option Value → Sg → Prop} (hexec : p.tables.exec = Jvm.exec) (hb : c.code = cc) (hr : meth.sig.returnType = none) (hlocks : meth.locks = false) (hW : k_W E n z (k_A E n z0 s.heap.size) s H locs) (hp : post none z) (hdg : decode cc pc = .ok (.return_, 1)) : W p l e R s m args below meth c H locs cells slots (MQ below (k_Q post E n z0 s.heap.size) args s cells slots (k_A E n z0 s.heap.size)) (F0 m pc ls []) :=
  W.vret hexec hb hr (k_ret hW hp) hW.2.2.1.2.2 hdg hlocks
theorem k_aret {post : Option Value → Sg → Prop} {o : Option Nat} {nm : String} (hexec : p.tables.exec = Jvm.exec) (hb : c.code = cc) (hr : meth.sig.returnType = some (.object nm)) (hlocks : meth.locks = false) (hW : k_W E n z (k_A E n z0 s.heap.size) s H locs) (hp : post (some (k_o E o)) z) (hdg : decode cc pc = .ok (.areturn, 1)) : W p l e R s m args below meth c H locs cells slots (MQ below (k_Q post E n z0 s.heap.size) args s cells slots (k_A E n z0 s.heap.size)) (F0 m pc ls [k_o E o]) :=
  W.aret hexec hb hr (Or.inl ⟨nm, rfl⟩) (by cases o with | none => exact Or.inl rfl | some r => exact Or.inr ⟨_, rfl⟩) (k_ret hW hp) hW.2.2.1.2.2 hdg hlocks
end KR
/-- a method's contract: it returns -/
def k_Met (l : Launch) (y : MethodName) (cc : ByteArray) (ml : Nat) (ret : Option FieldType) (rm : Room) (av : List Value) (E : Ev) (n : Nat) (z : Sg) (sz : Nat) (post : Option Value → Sg → Prop) (mc ms : Nat) : Prop :=
  Met l y (Cond.code y cc ml ret :: wsL_law) rm (va_Pc av (k_Pre E n z sz)) (k_Q post E n z sz) mc ms (k_A E n z sz)
/-- a method's contract: it returns, or throws and has changed nothing -/
def k_XMet (l : Launch) (y : MethodName) (cc : ByteArray) (ml : Nat) (ret : Option FieldType) (rm : Room) (av : List Value) (E : Ev) (n : Nat) (z : Sg) (sz : Nat) (post : Option Value → Sg → Prop) (xp : String → Prop) (mc ms : Nat) : Prop :=
  vx_Met l y (Cond.code y cc ml ret :: wsL_law) rm (va_Pc av (k_Pre E n z sz)) (k_Q post E n z sz) (k_X xp E n z sz) mc ms (k_A E n z sz)
theorem k_body {l : Launch} {y : MethodName} {cc : ByteArray} {ml : Nat} {ret : Option FieldType} {rm : Room} {av : List Value} {E : Ev} {n : Nat} {z : Sg} {sz : Nat} {post : Option Value → Sg → Prop} {mc ms : Nat} (hy : plainName y.cls = true) (hlen : (lg_sl av).length ≤ ml)
    (body : ∀ (p : Program) (e : Env) (s : State) (m : MethodId) (below : List Frame) (meth : Method) (c : Code) (ls : Array Slot), p.tables.exec = Jvm.exec → c.code = cc → meth.sig.returnType = ret → c.maxLocals = ml → s.vm.findClass y.cls = some m.cls → meth.locks = false → (∀ w ∈ wsL_law, w.before av.toArray s = true) → k_W E n z (k_A E n z s.heap.size) s s.heap [] → lv_has ls ml (lv_args 0 av) →
      W p l e rm s m av.toArray below meth c s.heap [] 0 0 (MQ below (k_Q post E n z s.heap.size) av.toArray s mc ms (k_A E n z s.heap.size)) (F0 m 0 ls [])) : k_Met l y cc ml ret rm av E n z sz post mc ms := by
  refine Met.ofW (cc := cc) (maxL := ml) (ret := ret) hy rfl ?_
  intro p e s m args below meth c s₁ B hml hv
  obtain ⟨rfl, hP⟩ := hv
  have hsz := hP.1
  subst hsz
  have hts := atoms_spec (ws := Cond.code y cc ml ret :: wsL_law) B.pre
  rw [lg_entry_eq]
  exact body p e s m below meth c _ B.exec B.bytes B.returns hml (findClass_of_methodNamed B.named) B.notSynchronized (fun w h => hts w (List.mem_cons_of_mem _ h)) (k_start hP) (lv_entry av hlen)
theorem k_bodyX {l : Launch} {y : MethodName} {cc : ByteArray} {ml : Nat} {ret : Option FieldType} {rm : Room} {av : List Value} {E : Ev} {n : Nat} {z : Sg} {sz : Nat} {post : Option Value → Sg → Prop} {xp : String → Prop} {mc ms : Nat} (hy : plainName y.cls = true) (hlen : (lg_sl av).length ≤ ml)
    (body : ∀ (p : Program) (e : Env) (s : State) (m : MethodId) (below : List Frame) (meth : Method) (c : Code) (ls : Array Slot), p.tables.exec = Jvm.exec → c.code = cc → meth.sig.returnType = ret → c.maxLocals = ml → s.vm.findClass y.cls = some m.cls → meth.locks = false → (∀ x ∈ c.exceptionTable.toList, False) → (∀ w ∈ wsL_law, w.before av.toArray s = true) → k_W E n z (k_A E n z s.heap.size) s s.heap [] → lv_has ls ml (lv_args 0 av) →
      W p l e rm s m av.toArray below meth c s.heap [] 0 0 (vx_MQ below (k_Q post E n z s.heap.size) (k_X xp E n z s.heap.size) av.toArray s mc ms (k_A E n z s.heap.size)) (F0 m 0 ls [])) : k_XMet l y cc ml ret rm av E n z sz post xp mc ms := by
  refine vx_ofW (cc := cc) (maxL := ml) (ret := ret) hy rfl ?_
  intro p e s m args below meth c s₁ B hml htab hv
  obtain ⟨rfl, hP⟩ := hv
  have hsz := hP.1
  subst hsz
  have hts := atoms_spec (ws := Cond.code y cc ml ret :: wsL_law) B.pre
  rw [lg_entry_eq]
  exact body p e s m below meth c _ B.exec B.bytes B.returns hml (findClass_of_methodNamed B.named) B.notSynchronized htab (fun w h => hts w (List.mem_cons_of_mem _ h)) (k_start hP) (lv_entry av hlen)

section KC
variable {p : Program} {l : Launch} {e : Env} {R : Room} {s : State} {m : MethodId} {args : Array Value} {below : List Frame} {meth : Method} {c : Code} {H : Heap} {locs : List Loc} {cells slots : Nat} {Q : State → Prop}
variable {cc : ByteArray} {pc : Nat} {ls : Array Slot} {rest st0 : List Value} {E : Ev} {n : Nat} {z z0 : Sg} {A : Nat → Prop}
theorem k_lif_eq (hexec : p.tables.exec = Jvm.exec) (hb : c.code = cc) {x y : Int64} {off : Int} {tgt : Nat} (h0 : decode cc pc = .ok (.lcmp, 1)) (hdg : decode cc (pc + 1) = .ok (.ifCond .eq off, 3)) (ht : ((pc + 1 : Nat) : Int) + off = (tgt : Int)) (kt : x = y → W p l e R s m args below meth c H locs cells slots Q (F0 m tgt ls rest)) (kf : ¬ x = y → W p l e R s m args below meth c H locs cells slots Q (F0 m (pc + 1 + 3) ls rest)) : W p l e R s m args below meth c H locs cells slots Q (F0 m pc ls (.long y :: .long x :: rest)) :=
  W.lcmp hexec hb h0 (lv_if_eq hexec hb hdg ht (fun h => kt ((lg_cmp_eq x y).mp h)) (fun h => kf (fun g => h ((lg_cmp_eq x y).mpr g))))
theorem k_lif_lt (hexec : p.tables.exec = Jvm.exec) (hb : c.code = cc) {x y : Int64} {off : Int} {tgt : Nat} (h0 : decode cc pc = .ok (.lcmp, 1)) (hdg : decode cc (pc + 1) = .ok (.ifCond .lt off, 3)) (ht : ((pc + 1 : Nat) : Int) + off = (tgt : Int)) (kt : x < y → W p l e R s m args below meth c H locs cells slots Q (F0 m tgt ls rest)) (kf : ¬ x < y → W p l e R s m args below meth c H locs cells slots Q (F0 m (pc + 1 + 3) ls rest)) : W p l e R s m args below meth c H locs cells slots Q (F0 m pc ls (.long y :: .long x :: rest)) :=
  W.lcmp hexec hb h0 (lv_if_lt hexec hb hdg ht (fun h => kt ((lg_cmp_lt x y).mp h)) (fun h => kf (fun g => h ((lg_cmp_lt x y).mpr g))))
theorem k_lif_ge (hexec : p.tables.exec = Jvm.exec) (hb : c.code = cc) {x y : Int64} {off : Int} {tgt : Nat} (h0 : decode cc pc = .ok (.lcmp, 1)) (hdg : decode cc (pc + 1) = .ok (.ifCond .ge off, 3)) (ht : ((pc + 1 : Nat) : Int) + off = (tgt : Int)) (kt : y ≤ x → W p l e R s m args below meth c H locs cells slots Q (F0 m tgt ls rest)) (kf : ¬ y ≤ x → W p l e R s m args below meth c H locs cells slots Q (F0 m (pc + 1 + 3) ls rest)) : W p l e R s m args below meth c H locs cells slots Q (F0 m pc ls (.long y :: .long x :: rest)) :=
  W.lcmp hexec hb h0 (lv_if_ge hexec hb hdg ht (fun h => kt ((lg_cmp_ge x y).mp h)) (fun h => kf (fun g => h ((lg_cmp_ge x y).mpr g))))
theorem k_lif_gt (hexec : p.tables.exec = Jvm.exec) (hb : c.code = cc) {x y : Int64} {off : Int} {tgt : Nat} (h0 : decode cc pc = .ok (.lcmp, 1)) (hdg : decode cc (pc + 1) = .ok (.ifCond .gt off, 3)) (ht : ((pc + 1 : Nat) : Int) + off = (tgt : Int)) (kt : y < x → W p l e R s m args below meth c H locs cells slots Q (F0 m tgt ls rest)) (kf : ¬ y < x → W p l e R s m args below meth c H locs cells slots Q (F0 m (pc + 1 + 3) ls rest)) : W p l e R s m args below meth c H locs cells slots Q (F0 m pc ls (.long y :: .long x :: rest)) :=
  W.lcmp hexec hb h0 (lv_if_gt hexec hb hdg ht (fun h => kt ((lg_cmp_gt x y).mp h)) (fun h => kf (fun g => h ((lg_cmp_gt x y).mpr g))))
theorem k_lif_le (hexec : p.tables.exec = Jvm.exec) (hb : c.code = cc) {x y : Int64} {off : Int} {tgt : Nat} (h0 : decode cc pc = .ok (.lcmp, 1)) (hdg : decode cc (pc + 1) = .ok (.ifCond .le off, 3)) (ht : ((pc + 1 : Nat) : Int) + off = (tgt : Int)) (kt : x ≤ y → W p l e R s m args below meth c H locs cells slots Q (F0 m tgt ls rest)) (kf : ¬ x ≤ y → W p l e R s m args below meth c H locs cells slots Q (F0 m (pc + 1 + 3) ls rest)) : W p l e R s m args below meth c H locs cells slots Q (F0 m pc ls (.long y :: .long x :: rest)) :=
  W.lcmp hexec hb h0 (lv_if_le hexec hb hdg ht (fun h => kt ((lg_cmp_le x y).mp h)) (fun h => kf (fun g => h ((lg_cmp_le x y).mpr g))))
theorem k_lif_ne (hexec : p.tables.exec = Jvm.exec) (hb : c.code = cc) {x y : Int64} {off : Int} {tgt : Nat} (h0 : decode cc pc = .ok (.lcmp, 1)) (hdg : decode cc (pc + 1) = .ok (.ifCond .ne off, 3)) (ht : ((pc + 1 : Nat) : Int) + off = (tgt : Int)) (kt : ¬ x = y → W p l e R s m args below meth c H locs cells slots Q (F0 m tgt ls rest)) (kf : x = y → W p l e R s m args below meth c H locs cells slots Q (F0 m (pc + 1 + 3) ls rest)) : W p l e R s m args below meth c H locs cells slots Q (F0 m pc ls (.long y :: .long x :: rest)) :=
  W.lcmp hexec hb h0 (lv_if_ne hexec hb hdg ht (fun h => kt (fun g => h ((lg_cmp_eq x y).mpr g))) (fun h => kf ((lg_cmp_eq x y).mp h)))
variable {y : MethodName} {cy : ByteArray} {ml nL mc ms idx : Nat} {ret : Option FieldType} {rm : Room} {As : List Value} {post : Option Value → Sg → Prop} {own : String}
abbrev k_nm (y : MethodName) (n : Nat) : Prop := y.cls ≠ "java/lang/invoke/MethodHandle" ∧ y.cls ≠ "java/lang/invoke/VarHandle" ∧ (parseMethodDescriptor y.desc).map (fun d => d.parameters.length) = some n
theorem k_callS (hexec : p.tables.exec = Jvm.exec) (hb : c.code = cc) (hml : c.maxLocals = nL) (hown : s.vm.findClass own = some m.cls) (hts : ∀ w ∈ wsL_law, w.before args s = true) (hM : k_Met l y cy ml ret rm As E n z H.size post mc ms)
    (hlink : Cond.methodLink own idx y ∈ wsL_law) (hst : Cond.static y ∈ wsL_law) (hini : Cond.initialized y.cls ∈ wsL_law) (hcode : Cond.code y cy ml ret ∈ wsL_law) (hd : k_nm y As.length) (hR : rm.frames + 1 ≤ R.frames ∧ 8 + (ml + 11) + rm.locals ≤ R.locals) (hrc : rm.cells = mc) (hrs : rm.slots = ms) (hf : cells + mc ≤ R.cells ∧ slots + ms ≤ R.slots)
    (hsize : ls.size = nL) (h0 : st0 = As.reverse ++ rest) (hroom : (rest.map fun v => v.category).sum ≤ 8) (hdg : decode cc pc = .ok (.invokestatic idx, 3)) (hW : k_W E n z A s H locs)
    (kk : ∀ (v : Option Value) (z' : Sg) (H1 : Heap) (locs1 : List Loc), post v z' → k_W E n z' A s H1 locs1 → W p l e R s m args below meth c H1 locs1 (cells + mc) (slots + ms) Q (F0 m (pc + 3) ls (v.toList ++ rest))) : W p l e R s m args below meth c H locs cells slots Q (F0 m pc ls st0) := by
  subst h0
  exact k_go (va_runS ⟨hexec, hb, hml, hown, hts⟩ hM ⟨callB_of As.length hts (k_gl hcode) rfl hrc hrs (hts _ hini) (hts _ hlink) hd hR, hts _ hst⟩ (k_preS hW) rfl rfl hsize rfl (lv_room hroom) hdg hf) hW kk
theorem k_callV {C : String} {T : u_T} {N ci r : Nat} {fs : List Value} (hexec : p.tables.exec = Jvm.exec) (hb : c.code = cc) (hml : c.maxLocals = nL) (hown : s.vm.findClass own = some m.cls) (hts : ∀ w ∈ wsL_law, w.before args s = true) (hM : k_Met l y cy ml ret rm (.ref (E.2.2 r) :: As) E n z H.size post mc ms)
    (hlink : Cond.methodLink own idx y ∈ wsL_law) (hin : Cond.instanceMethod y ∈ wsL_law) (hse : Cond.selects C y y ∈ wsL_law) (hini : Cond.initialized y.cls ∈ wsL_law) (hcode : Cond.code y cy ml ret ∈ wsL_law) (hd : k_nm y As.length) (hR : rm.frames + 1 ≤ R.frames ∧ 8 + (ml + 11) + rm.locals ≤ R.locals) (hrc : rm.cells = mc) (hrs : rm.slots = ms) (hf : cells + mc ≤ R.cells ∧ slots + ms ≤ R.slots)
    (hsize : ls.size = nL) (h0 : st0 = As.reverse ++ .ref (E.2.2 r) :: rest) (hroom : (rest.map fun v => v.category).sum ≤ 8) (hdg : decode cc pc = .ok (.invokevirtual idx, 3)) (hr : r < n) (he : k_at E z r = .inr (ci, fs)) (hc : vwCl[ci]? = some (C, T, N)) (hW : k_W E n z A s H locs)
    (kk : ∀ (v : Option Value) (z' : Sg) (H1 : Heap) (locs1 : List Loc), post v z' → k_W E n z' A s H1 locs1 → W p l e R s m args below meth c H1 locs1 (cells + mc) (slots + ms) Q (F0 m (pc + 3) ls (v.toList ++ rest))) : W p l e R s m args below meth c H locs cells slots Q (F0 m pc ls st0) := by
  subst h0
  exact k_go (va_runV ⟨hexec, hb, hml, hown, hts⟩ hM ⟨callB_of As.length hts (k_gl hcode) rfl hrc hrs (hts _ hini) (hts _ hlink) hd hR, hts _ hin, hts _ hse⟩ (k_preV hW hr he hc) rfl rfl hsize rfl (lv_room hroom) hdg hf) hW kk
theorem k_callSN {host : String} (hexec : p.tables.exec = Jvm.exec) (hb : c.code = cc) (hml : c.maxLocals = nL) (hown : s.vm.findClass own = some m.cls) (hts : ∀ w ∈ wsL_law, w.before args s = true) (hM : k_Met l y cy ml ret rm As E n z H.size post mc ms)
    (hlink : va_Nw (.methodLinkNest own idx y host) s) (hst : Cond.static y ∈ wsL_law) (hini : Cond.initialized y.cls ∈ wsL_law) (hcode : Cond.code y cy ml ret ∈ wsL_law) (hd : k_nm y As.length) (hR : rm.frames + 1 ≤ R.frames ∧ 8 + (ml + 11) + rm.locals ≤ R.locals) (hrc : rm.cells = mc) (hrs : rm.slots = ms) (hf : cells + mc ≤ R.cells ∧ slots + ms ≤ R.slots)
    (hsize : ls.size = nL) (h0 : st0 = As.reverse ++ rest) (hroom : (rest.map fun v => v.category).sum ≤ 8) (hdg : decode cc pc = .ok (.invokestatic idx, 3)) (hW : k_W E n z A s H locs)
    (kk : ∀ (v : Option Value) (z' : Sg) (H1 : Heap) (locs1 : List Loc), post v z' → k_W E n z' A s H1 locs1 → W p l e R s m args below meth c H1 locs1 (cells + mc) (slots + ms) Q (F0 m (pc + 3) ls (v.toList ++ rest))) : W p l e R s m args below meth c H locs cells slots Q (F0 m pc ls st0) := by
  subst h0
  exact k_go (va_runSN (host := host) ⟨hexec, hb, hml, hown, hts⟩ hM ⟨va_cnB As.length hts (k_gl hcode) rfl hrc hrs hlink (hts _ hini) hd hR, hts _ hst, trivial⟩ (k_preS hW) rfl rfl hsize rfl (lv_room hroom) hdg hf) hW kk
end KC
