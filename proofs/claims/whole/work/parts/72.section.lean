/-! ===== section: a new one comes into the world ===== -/
def k_O (S : Nat) (z : Sg) : Prop := ∀ r i c, z.2.2 r i = some c → c < S
def k_ext (E E' : Ev) (n : Nat) : Prop := E'.1 = E.1 ∧ E'.2.1 = E.2.1 ∧ ∀ r, r < n → E'.2.2 r = E.2.2 r
def k_nsI (a b : Int32) : Nat → Int32 := fun k => match k with
  | 0 => a
  | 1 => b
  | 7 => 1
  | 8 => 2
  | 9 => 1
  | _ => 0
def k_nsJ (d f : Int64) : Nat → Int64 := fun k => match k with
  | 2 => d
  | 3 => f
  | 4 => -1
  | _ => 0
def k_ns (z : Sg) (S : Nat) (a b : Int32) (d f : Int64) : Sg := (fun r => if r < 46 + 6 * S then z.1 r else if r = 46 + 6 * S then k_nsI a b else fun _ => 0, fun r => if r < 46 + 6 * S then z.2.1 r else if r = 46 + 6 * S then k_nsJ d f else fun _ => 0, fun r => if r < 46 + 6 * S then z.2.2 r else fun _ => none)
def k_nE (E : Ev) (n : Nat) (qs : List Nat) : Ev := (E.1, E.2.1, fun r => if r < n then E.2.2 r else qs.getD (r - n) 0)
theorem k_aO_ext {E E' : Ev} {S t n : Nat} {o : Nat → Option Nat} (h1 : E'.2.1 = E.2.1) (h2 : ∀ r, r < 46 + 6 * S → E'.2.2 r = E.2.2 r) (ho : ∀ i c, o i = some c → c < S) : k_aO E' t n o = k_aO E t n o := by
  unfold k_aO
  rw [h1]
  congr 7
  funext k
  cases h : o k with
  | none => rfl
  | some c =>
    have := ho k c h
    simp only [Option.map_some]
    rw [h2 _ (by omega)]
theorem k_o_ext {E E' : Ev} {S : Nat} {o : Option Nat} (h2 : ∀ r, r < 46 + 6 * S → E'.2.2 r = E.2.2 r) (ho : ∀ c, o = some c → c < S) : k_o E' o = k_o E o := by
  unfold k_o
  cases h : o with
  | none => rfl
  | some c =>
    have := ho c h
    simp only [Option.map_some]
    rw [h2 _ (by omega)]
theorem k_fix_ext {E E' : Ev} {S : Nat} {i : Nat → Int32} {j : Nat → Int64} {o : Nat → Option Nat} (h1 : E'.2.1 = E.2.1) (h2 : ∀ r, r < 46 + 6 * S → E'.2.2 r = E.2.2 r) (ho : ∀ i c, o i = some c → c < S) : k_fix E' i j o = k_fix E i j o := by
  have hb : ∀ r, r < 46 → E'.2.2 r = E.2.2 r := fun r h => h2 r (by omega)
  have ea : ∀ t n, k_aO E' t n o = k_aO E t n o := fun t n => k_aO_ext h1 h2 ho
  have ei : ∀ t n, k_aI E' t n i = k_aI E t n i := fun t n => by unfold k_aI; rw [h1]
  have ej : ∀ t n, k_aJ E' t n j = k_aJ E t n j := fun t n => by unfold k_aJ; rw [h1]
  have e5 : k_oX5 E' i j o = k_oX5 E i j o := by
    unfold k_oX5
    rw [hb 1 (by decide), hb 2 (by decide), hb 6 (by decide), hb 17 (by decide)]
  have e0 : k_oX0 E' i j o = k_oX0 E i j o := by
    unfold k_oX0
    rw [hb 3 (by decide), hb 4 (by decide), hb 5 (by decide)]
  have e1 : k_oX1 E' i j o = k_oX1 E i j o := by
    unfold k_oX1
    rw [hb 7 (by decide), hb 8 (by decide), hb 9 (by decide), hb 10 (by decide), hb 11 (by decide), hb 12 (by decide), hb 13 (by decide), hb 14 (by decide), hb 15 (by decide), hb 16 (by decide)]
  have e2 : k_oX2 E' i j o = k_oX2 E i j o := by
    unfold k_oX2
    rw [hb 6 (by decide), hb 18 (by decide)]
  have e4 : k_oX4 E' i j o = k_oX4 E i j o := by
    unfold k_oX4
    rw [k_o_ext h2 (ho 0)]
  have e6 : k_oX6 E' i j o = k_oX6 E i j o := by
    unfold k_oX6
    simp only [hb 20 (by decide), hb 21 (by decide), hb 22 (by decide), hb 23 (by decide), hb 24 (by decide), hb 25 (by decide), hb 26 (by decide), hb 27 (by decide), hb 28 (by decide), hb 29 (by decide), hb 30 (by decide), hb 31 (by decide), hb 32 (by decide), hb 33 (by decide), hb 34 (by decide), hb 35 (by decide), hb 36 (by decide), hb 37 (by decide), hb 38 (by decide), hb 39 (by decide), hb 40 (by decide), hb 41 (by decide), hb 42 (by decide), hb 43 (by decide), hb 44 (by decide)]
  unfold k_fix
  simp only [ea, ei, ej, e5, e0, e1, e2, e4, e6]
theorem k_sec_ext {E E' : Ev} {S r : Nat} {i : Nat → Int32} {j : Nat → Int64} {o : Nat → Option Nat} (h1 : E'.2.1 = E.2.1) (h2 : ∀ r, r < 46 + 6 * S → E'.2.2 r = E.2.2 r) (hr : ¬ r < 46) (hn : r < 46 + 6 * S) : k_sec E' r i j o = k_sec E r i j o := by
  unfold k_sec
  have ei : ∀ t n, k_aI E' t n i = k_aI E t n i := fun t n => by unfold k_aI; rw [h1]
  have ht : (r - 46) % 6 = 0 ∨ (r - 46) % 6 = 1 ∨ (r - 46) % 6 = 2 ∨ (r - 46) % 6 = 3 ∨ (r - 46) % 6 = 4 ∨ (r - 46) % 6 = 5 := by omega
  rcases ht with e | e | e | e | e | e
  · rw [e]
    show (Sum.inr (5, k_oX3 r E' i j o) : va_E) = Sum.inr (5, k_oX3 r E i j o)
    unfold k_oX3
    rw [h2 (r + 1) (by omega), h2 (r + 2) (by omega), h2 (r + 3) (by omega), h2 (r + 4) (by omega), h2 (r + 5) (by omega)]
  · rw [e]; exact ei _ _
  · rw [e]; exact ei _ _
  · rw [e]; exact ei _ _
  · rw [e]; exact ei _ _
  · rw [e]; exact ei _ _
theorem k_cell_ext {E E' : Ev} {S r : Nat} {i : Nat → Int32} {j : Nat → Int64} {o : Nat → Option Nat} (h1 : E'.2.1 = E.2.1) (h2 : ∀ r, r < 46 + 6 * S → E'.2.2 r = E.2.2 r) (ho : ∀ i c, o i = some c → c < S) (hn : r < 46 + 6 * S) : k_cell E' r i j o = k_cell E r i j o := by
  unfold k_cell
  by_cases h : r < 46
  · rw [if_pos h, if_pos h, k_fix_ext h1 h2 ho]
  · rw [if_neg h, if_neg h, k_sec_ext h1 h2 h hn]
theorem k_grow {E : Ev} {S : Nat} {z : Sg} (hO : k_O S z) (a b : Int32) (d f : Int64) (q q1 q2 q3 q4 q5 : Nat) : k_wl E (46 + 6 * S) z ++ [(q, .inr (5, [.int a, .int b, .long d, .long f, .long (-1), .ref q1, .int 0, .int 1, .int 2, .int 1, .ref q2, .ref q3, .int 0, .ref q4, .ref q5])), (q1, k_aI E 0 300 (fun _ => 0)), (q2, k_aI E 1 6 (fun _ => 0)), (q3, k_aI E 1 6 (fun _ => 0)), (q4, k_aI E 1 10 (fun _ => 0)), (q5, k_aI E 3 10 (fun _ => 0))] = k_wl (k_nE E (46 + 6 * S) [q, q1, q2, q3, q4, q5]) (46 + 6 * (S + 1)) (k_ns z S a b d f) := by
  have hx : ∀ r, r < 46 + 6 * S → (k_nE E (46 + 6 * S) [q, q1, q2, q3, q4, q5]).2.2 r = E.2.2 r := fun r h => if_pos h
  have hy : ∀ k, k < 6 → (k_nE E (46 + 6 * S) [q, q1, q2, q3, q4, q5]).2.2 (46 + 6 * S + k) = [q, q1, q2, q3, q4, q5].getD k 0 := fun k hk => by
    show (if 46 + 6 * S + k < 46 + 6 * S then E.2.2 (46 + 6 * S + k) else [q, q1, q2, q3, q4, q5].getD (46 + 6 * S + k - (46 + 6 * S)) 0) = _
    rw [if_neg (by omega), show 46 + 6 * S + k - (46 + 6 * S) = k by omega]
  unfold k_wl
  have hr6 : List.range (46 + 6 * S + 6) = List.range (46 + 6 * S) ++ (List.range 6).map (46 + 6 * S + ·) := List.range_add
  rw [show 46 + 6 * (S + 1) = 46 + 6 * S + 6 by omega, hr6, List.map_append]
  congr 1
  · apply List.map_congr_left
    intro r hr
    have hr := List.mem_range.mp hr
    rw [hx r hr]
    congr 1
    unfold k_at
    have e1 : (k_ns z S a b d f).1 r = z.1 r := if_pos hr
    have e2 : (k_ns z S a b d f).2.1 r = z.2.1 r := if_pos hr
    have e3 : (k_ns z S a b d f).2.2 r = z.2.2 r := if_pos hr
    rw [e1, e2, e3]
    exact (k_cell_ext (E := E) (E' := k_nE E (46 + 6 * S) [q, q1, q2, q3, q4, q5]) rfl hx (hO r) hr).symm
  · have ci : ∀ k, 0 < k → (k_ns z S a b d f).1 (46 + 6 * S + k) = fun _ => 0 := fun k hk => by
      show (if 46 + 6 * S + k < 46 + 6 * S then z.1 (46 + 6 * S + k) else if 46 + 6 * S + k = 46 + 6 * S then k_nsI a b else fun _ => 0) = _
      rw [if_neg (by omega), if_neg (by omega)]
    have c0 : (k_ns z S a b d f).1 (46 + 6 * S) = k_nsI a b := by
      show (if 46 + 6 * S < 46 + 6 * S then z.1 (46 + 6 * S) else if 46 + 6 * S = 46 + 6 * S then k_nsI a b else fun _ => 0) = _
      rw [if_neg (by omega), if_pos rfl]
    have c1 : (k_ns z S a b d f).2.1 (46 + 6 * S) = k_nsJ d f := by
      show (if 46 + 6 * S < 46 + 6 * S then z.2.1 (46 + 6 * S) else if 46 + 6 * S = 46 + 6 * S then k_nsJ d f else fun _ => 0) = _
      rw [if_neg (by omega), if_pos rfl]
    show _ = (List.map (46 + 6 * S + ·) [0, 1, 2, 3, 4, 5]).map _
    simp only [List.map_cons, List.map_nil]
    unfold k_at
    rw [show 46 + 6 * S + 0 = 46 + 6 * S from rfl, k_cell_sec, k_cell_sb, k_cell_sf, k_cell_sm, k_cell_sv, k_cell_sh, c0, c1, ci 1 (by decide), ci 2 (by decide), ci 3 (by decide), ci 4 (by decide), ci 5 (by decide), hy 1 (by decide), hy 2 (by decide), hy 3 (by decide), hy 4 (by decide), hy 5 (by decide)]
    have h0 := hy 0 (by decide)
    rw [show 46 + 6 * S + 0 = 46 + 6 * S from rfl] at h0
    rw [h0]
    unfold k_oX3
    rw [hy 1 (by decide), hy 2 (by decide), hy 3 (by decide), hy 4 (by decide), hy 5 (by decide)]
    rfl
def k_SQ (R : Nat × Int32 × Sg) (E : Ev) (S : Nat) (z : Sg) (sz : Nat) : Array Value → State → Outcome → State → Prop := fun _ st oc t => (∃ E' : Ev, oc = .returned (some (.int R.2.1)) ∧ R.1 = 0 ∧ k_ext E E' (46 + 6 * S) ∧ va_P E'.1 vwCl (k_wl E' (46 + 6 * (S + 1)) R.2.2) t.heap ∧ va_D (k_A E (46 + 6 * S) z sz) (k_wl E' (46 + 6 * (S + 1)) R.2.2)) ∧ va_F (k_A E (46 + 6 * S) z sz) st t
section KTG
variable {p : Program} {l : Launch} {e : Env} {R : Room} {s : State} {m : MethodId} {args : Array Value} {below : List Frame} {meth : Method} {c : Code} {H : Heap} {locs : List Loc} {cells slots : Nat}
variable {cc : ByteArray} {pc : Nat} {ls : Array Slot} {rest : List Value} {E : Ev} {n : Nat} {z : Sg} {Qc : Array Value → State → Outcome → State → Prop} {xp : String → Prop} {mc ms : Nat}
theorem k_thG {cls : String} {names : List String} {ik is ic : Nat} {text : String} (hexec : p.tables.exec = Jvm.exec) (hb : c.code = cc) (hl0 : l.stackTraces = false) (hown : s.vm.findClass RX5 = some m.cls) (hts : ∀ w ∈ wsL_law, w.before args s = true)
    (hcls : Bundle.fit cls = true) (hnames : ∀ n ∈ names, Bundle.fit n = true) (hk : Cond.classLink RX5 ik cls ∈ wsL_law) (hini : Cond.initialized cls ∈ wsL_law) (h1 : ∀ w ∈ (vx_atS RX5 ic cls names).filter goodWord, w ∈ wsL_law) (h2 : ∀ w ∈ (vx_atS RX5 ic cls names).filter (fun w => !goodWord w), w ∈ k_Bl)
    (hgood : ∀ w ∈ Cond.classLink RX5 ik cls :: Cond.initialized cls :: vx_atS RX5 ic cls names, vx_ot w = true) (hst : (is, text) ∈ k_st) (htab : ∀ x ∈ c.exceptionTable.toList, False) (hlocks : meth.locks = false) (hsize : ls.size = c.maxLocals) (hW : k_W E n z (k_A E n z s.heap.size) s H locs) (hx : xp cls)
    (hRf : names.length + 3 < R.frames) (hRl : (rest.map fun v => v.category).sum + (13 * (names.length + 1) + 43) ≤ R.locals) (hRc : cells + 1 ≤ R.cells ∧ slots + 6 ≤ R.slots) (hc : cells + 1 ≤ mc ∧ slots + 6 ≤ ms)
    (d0 : decode cc pc = .ok (.new ik, 3)) (d3 : decode cc (pc + 3) = .ok (.dup, 1)) (d4 : decode cc (pc + 4) = .ok (.ldc is, 2)) (d6 : decode cc (pc + 6) = .ok (.invokespecial ic, 3)) (d9 : decode cc (pc + 9) = .ok (.athrow, 1)) :
    W p l e R s m args below meth c H locs cells slots (vx_MQ below Qc (k_X xp E n z s.heap.size) args s mc ms (k_A E n z s.heap.size)) (F0 m pc ls rest) := by
  obtain ⟨a, ha⟩ := hW.2.2.2.1.2.2.1 _ hst
  exact vx_throwS hexec hb hl0 hown hcls hnames (hts _ hk) (hts _ hini) ha (vx_hat (fun w h => hts w (h1 w h)) h2 (k_Bw hW.2.2.2.1)) hgood hW.2.2.2.2.2.1 hW.2.2.2.2.2.2 hW.2.2.1 hsize d0 d3 d4 d6 d9 (fun x hx => (htab x hx).elim) hRf hRl hRc.1 hRc.2 hlocks (fun t _ q1 q2 => k_thX hW hx q1 q2) (fun y hy => hW.2.2.1.2.2 y hy) hc.1 hc.2
end KTG

def f_X5_section (S : Nat) (z : Sg) (p0 : Int32) (p1 p2 : Int64) : Nat × Int32 × Sg :=
  if p0 = 0 then
    if (f_X5_isPlace z p1) = 0 then
      (1, 0, z)
    else
      match (f_X5_sectionAt z p1) with
      | none =>
        if (f_X5_isPlaceOrNone z p2) = 0 then
          (1, 0, z)
        else
          if (z.1 0 1) < 12 then
            (0, (z.1 0 1), (uI (uO (k_ns z S (z.1 0 1) p0 p1 p2) 1 (z.1 0 1).toNatClampNeg (some S)) 0 1 ((z.1 0 1) + 1)))
          else
            (2, 0, z)
      | some c4 =>
        (1, 0, z)
  else
    if p0 = 1 then
      if (f_X5_isPlace z p1) = 0 then
        (1, 0, z)
      else
        match (f_X5_sectionAt z p1) with
        | none =>
          if (f_X5_isPlaceOrNone z p2) = 0 then
            (1, 0, z)
          else
            if (z.1 0 1) < 12 then
              (0, (z.1 0 1), (uI (uO (k_ns z S (z.1 0 1) p0 p1 p2) 1 (z.1 0 1).toNatClampNeg (some S)) 0 1 ((z.1 0 1) + 1)))
            else
              (2, 0, z)
        | some c10 =>
          (1, 0, z)
    else
      (1, 0, z)
set_option maxHeartbeats 4000000 in
set_option maxRecDepth 100000 in
theorem c_X5_section (l : Launch) (hl0 : l.stackTraces = false) (E : Ev) (S sz : Nat) (z : Sg) (p0 : Int32) (p1 p2 : Int64) (hI : k_I S z) (hO : k_O S z) : vx_Met l yX5_section (Cond.code yX5_section cX5_section 7 (some .int) :: wsL_law) ({ frames := 6, cells := 6, slots := 347, locals := 110 }) (va_Pc [.ref (E.2.2 0), .int p0, .long p1, .long p2] (k_Pre E (46 + 6 * S) z sz)) (k_SQ (f_X5_section S z p0 p1 p2) E S z sz) (k_X (fun X => (f_X5_section S z p0 p1 p2).1 ≠ 0 ∧ X = k_ex (f_X5_section S z p0 p1 p2).1) E (46 + 6 * S) z sz) 6 347 (k_A E (46 + 6 * S) z sz) := by
  refine vx_ofW (cc := cX5_section) (maxL := 7) (ret := some .int) (by decide +kernel) rfl ?_
  intro p e s m args below meth cd s₁ B hml htab hv
  obtain ⟨rfl, hP⟩ := hv
  have hsz := hP.1
  subst hsz
  have hts := atoms_spec (ws := Cond.code yX5_section cX5_section 7 (some .int) :: wsL_law) B.pre
  have hts : ∀ w ∈ wsL_law, w.before _ s = true := fun w h => hts w (List.mem_cons_of_mem _ h)
  have hx := B.exec
  have hb := B.bytes
  have hr := B.returns
  have hown : s.vm.findClass RX5 = some m.cls := findClass_of_methodNamed B.named
  have hlocks := B.notSynchronized
  have hW := k_start hP
  have hl := lv_entry ([.ref (E.2.2 0), .int p0, .long p1, .long p2]) (n := 7) (Nat.le_of_ble_eq_true rfl)
  rw [lg_entry_eq]
  generalize (lg_sl ([.ref (E.2.2 0), .int p0, .long p1, .long p2]) ++ List.replicate (7 - (lg_sl ([.ref (E.2.2 0), .int p0, .long p1, .long p2])).length) Slot.unset).toArray = ls at hl ⊢
  have hl : lv_has ls 7 [(0, .ref (E.2.2 0)), (1, .int p0), (2, .long p1), (4, .long p2)] := hl
  refine lv_iload_n hx hb dX5_section_0 rfl (lv_at hl 1 rfl) ?_
  refine lv_if_eq (tgt := 19) hx hb dX5_section_1 (by decide) (fun h1 => ?_) (fun h1 => ?_)
  · refine lv_lload_n hx hb dX5_section_19 rfl (lv_at hl 2 rfl) ?_
    refine k_callS (rest := []) hx hb hml hown hts (c_X5_isPlace l E S _ z p1) lm_RX5_49 ls_X5_isPlace li_X5 lk_X5_isPlace (show k_nm yX5_isPlace 1 by decide +kernel) ⟨Nat.le_of_ble_eq_true rfl, Nat.le_of_ble_eq_true rfl⟩ rfl rfl ⟨Nat.le_of_ble_eq_true rfl, Nat.le_of_ble_eq_true rfl⟩ hl.1 rfl (Nat.le_of_ble_eq_true rfl) dX5_section_20 hW (fun v z1 H locs hp hW => ?_)
    obtain ⟨rfl, hz1⟩ := hp
    rw [hz1] at hW
    refine W.eq (g2 := F0 m 23 ls [.int (f_X5_isPlace z p1)]) rfl ?_
    refine lv_if_eq (tgt := 34) hx hb dX5_section_23 (by decide) (fun h2 => ?_) (fun h2 => ?_)
    · have hR : (f_X5_section S z p0 p1 p2) = (1, 0, z) := (by simp only [f_X5_section, if_pos h1, if_pos h2])
      exact k_thG (names := nm_2) hx hb hl0 hown hts (by decide) (by decide) tk_I ti_I t1_I t2_I t3_I (List.mem_of_getElem? (i := 15) rfl) htab hlocks (hl.1.trans hml.symm) hW (by rw [hR]; exact ⟨(show (1 : Nat) ≠ 0 by decide), rfl⟩) (Nat.le_of_ble_eq_true rfl) (Nat.le_of_ble_eq_true rfl) ⟨Nat.le_of_ble_eq_true rfl, Nat.le_of_ble_eq_true rfl⟩ ⟨Nat.le_of_ble_eq_true rfl, Nat.le_of_ble_eq_true rfl⟩ dX5_section_34 dX5_section_37 dX5_section_38 dX5_section_40 dX5_section_43
    · refine lv_aload_n hx hb dX5_section_26 rfl (lv_at hl 0 rfl) ?_
      refine lv_lload_n hx hb dX5_section_27 rfl (lv_at hl 2 rfl) ?_
      refine k_callV (As := [.long p1]) (rest := []) hx hb hml hown hts (c_X5_sectionAt l E S _ z p1 hI) lm_RX5_53 ln_X5_sectionAt le_X5_sectionAt li_X5 lk_X5_sectionAt (show k_nm yX5_sectionAt 1 by decide +kernel) ⟨Nat.le_of_ble_eq_true rfl, Nat.le_of_ble_eq_true rfl⟩ rfl rfl ⟨Nat.le_of_ble_eq_true rfl, Nat.le_of_ble_eq_true rfl⟩ hl.1 rfl (Nat.le_of_ble_eq_true rfl) dX5_section_28 (by omega) (k_c0 _ _ _) rfl hW (fun v z1 H locs hp hW => ?_)
      obtain ⟨rfl, hz1⟩ := hp
      rw [hz1] at hW
      refine W.eq (g2 := F0 m 31 ls [k_o E (f_X5_sectionAt z p1)]) rfl ?_
      rcases h3 : (f_X5_sectionAt z p1) with _ | c4
      · refine W.eq (g2 := F0 m 31 ls [.null]) rfl ?_
        refine lv_ifnullN (tgt := 44) hx hb dX5_section_31 (by decide) ?_
        refine lv_lload hx hb dX5_section_44 (lv_at hl 3 rfl) ?_
        refine k_callS (rest := []) hx hb hml hown hts (c_X5_isPlaceOrNone l E S _ z p2) lm_RX5_59 ls_X5_isPlaceOrNone li_X5 lk_X5_isPlaceOrNone (show k_nm yX5_isPlaceOrNone 1 by decide +kernel) ⟨Nat.le_of_ble_eq_true rfl, Nat.le_of_ble_eq_true rfl⟩ rfl rfl ⟨Nat.le_of_ble_eq_true rfl, Nat.le_of_ble_eq_true rfl⟩ hl.1 rfl (Nat.le_of_ble_eq_true rfl) dX5_section_46 hW (fun v z1 H locs hp hW => ?_)
        obtain ⟨rfl, hz1⟩ := hp
        rw [hz1] at hW
        refine W.eq (g2 := F0 m 49 ls [.int (f_X5_isPlaceOrNone z p2)]) rfl ?_
        refine lv_if_ne (tgt := 62) hx hb dX5_section_49 (by decide) (fun h5 => ?_) (fun h5 => ?_)
        · refine lv_aload_n hx hb dX5_section_62 rfl (lv_at hl 0 rfl) ?_
          refine k_get hx hb hts inlX5 hown hW 0 (by omega) k_c0 rfl 1 (by decide) lf_RX5_15 rfl (v := .int (z.1 0 1)) rfl dX5_section_63 ?_
          refine lv_bipush (v := 12) hx hb dX5_section_66 (by decide) ?_
          refine lv_icmp_lt (tgt := 81) hx hb dX5_section_68 (by decide) (fun h6 => ?_) (fun h6 => ?_)
          · refine lv_aload_n hx hb dX5_section_81 rfl (lv_at hl 0 rfl) ?_
            refine k_get hx hb hts inlX5 hown hW 0 (by omega) k_c0 rfl 1 (by decide) lf_RX5_15 rfl (v := .int (z.1 0 1)) rfl dX5_section_82 ?_
            refine lv_istore (lv' := [(6, .int (z.1 0 1)), (0, .ref (E.2.2 0)), (1, .int p0), (2, .long p1), (4, .long p2)]) hx hb dX5_section_85 hl (by decide) rfl (fun ls hl => ?_)
            refine lv_aload_n hx hb dX5_section_87 rfl (lv_at hl 1 rfl) ?_
            refine k_get hx hb hts inlX5 hown hW 0 (by omega) k_c0 rfl 0 (by decide) lf_RX5_11 rfl (v := .ref (E.2.2 1)) rfl dX5_section_88 ?_
            refine lv_iload hx hb dX5_section_91 (lv_at hl 0 rfl) ?_
            have hR : (f_X5_section S z p0 p1 p2) = (0, (z.1 0 1), (uI (uO (k_ns z S (z.1 0 1) p0 p1 p2) 1 (z.1 0 1).toNatClampNeg (some S)) 0 1 ((z.1 0 1) + 1))) := (by simp only [f_X5_section, if_pos h1, if_neg h2, h3, if_neg h5, if_pos h6])
            have hL : k_L E false (k_wl E (46 + 6 * S) z) _ s H _ := ⟨hW.1, hW.2.1, hW.2.2.1, ⟨hW.2.2.2.1, fun h => nomatch h⟩, hW.2.2.2.2.1⟩
            refine l_new (ci := 5) (fs := [.int 0, .int 0, .long 0, .long 0, .long 0, .null, .int 0, .int 0, .int 0, .int 0, .null, .null, .int 0, .null, .null]) hx hb hts inlX3 tyX3_ok hown lx_RX5_9 ly_X3 li_X3 hL rfl lz_X3 (Nat.le_of_ble_eq_true rfl) (Nat.le_of_ble_eq_true rfl) dX5_section_93 (fun q H hL => ?_)
            refine lv_dup hx hb dX5_section_96 rfl ?_
            refine lv_iload hx hb dX5_section_97 (lv_at hl 0 rfl) ?_
            refine lv_iload_n hx hb dX5_section_99 rfl (lv_at hl 2 rfl) ?_
            refine lv_lload_n hx hb dX5_section_100 rfl (lv_at hl 3 rfl) ?_
            refine lv_lload hx hb dX5_section_101 (lv_at hl 4 rfl) ?_
            refine l_callI (wr := k_wl E (46 + 6 * S) z) (q := q) (x := .inr (5, [.int 0, .int 0, .long 0, .long 0, .long 0, .null, .int 0, .int 0, .int 0, .int 0, .null, .null, .int 0, .null, .null])) (As := [.int (z.1 0 1), .int p0, .long p1, .long p2]) (rest := [.ref q, .int (z.1 0 1), .ref (E.2.2 1)]) hx hb hml hown hts (c_X3_init l E _ q (z.1 0 1) p0 p1 p2) lm_RX5_69 ln_X3_init li_X3 lk_X3_init rfl (show k_nm yX3_init 4 by decide +kernel) ⟨Nat.le_of_ble_eq_true rfl, Nat.le_of_ble_eq_true rfl⟩ rfl rfl ⟨Nat.le_of_ble_eq_true rfl, Nat.le_of_ble_eq_true rfl⟩ hl.1 rfl (Nat.le_of_ble_eq_true rfl) dX5_section_103 hL (fun w H locs hp hL => ?_)
            obtain ⟨q1, q2, q3, q4, q5, rfl⟩ := hp
            have hg := k_grow (E := E) hO (z.1 0 1) p0 p1 p2 q q1 q2 q3 q4 q5
            obtain ⟨E2, hE2⟩ : ∃ y9 : Ev, y9 = k_nE E (46 + 6 * S) [q, q1, q2, q3, q4, q5] := ⟨_, rfl⟩
            have hx2 : ∀ r, r < 46 + 6 * S → E2.2.2 r = E.2.2 r := fun r h => by rw [hE2]; exact if_pos h
            have hq2 : E2.2.2 (46 + 6 * S) = q := by rw [hE2]; show (if 46 + 6 * S < 46 + 6 * S then E.2.2 (46 + 6 * S) else [q, q1, q2, q3, q4, q5].getD (46 + 6 * S - (46 + 6 * S)) 0) = q; rw [if_neg (by omega), Nat.sub_self]; rfl
            rw [← hE2] at hg
            have hK2 : k_K E2 s := by rw [hE2]; exact hW.2.2.2.1
            have hE1 : E2.1 = E.1 := by rw [hE2]; rfl
            have hE21 : E2.2.1 = E.2.1 := by rw [hE2]; rfl
            have hA2 := hW.2.2.2.2
            have hW : k_W E2 (46 + 6 * (S + 1)) (k_ns z S (z.1 0 1) p0 p1 p2) _ s H _ := ⟨by rw [← hg, hE1]; exact hL.1, by rw [← hg]; exact hL.2.1, hL.2.2.1, hK2, hA2⟩
            refine W.eq (g2 := F0 m 106 ls [.ref (E2.2.2 (46 + 6 * S)), .int (z.1 0 1), .ref (E2.2.2 1)]) (by rw [hq2, hx2 1 (by omega)]) ?_
            refine k_aast hx hb hW 1 12 (by omega) k_c1 S (by omega) (by exact in_ltp (by rw [hI.1.2]; omega) h6 rfl) dX5_section_106 (fun H locs hW => ?_)
            refine lv_aload_n hx hb dX5_section_107 rfl (lv_at hl 1 rfl) ?_
            refine lv_iload hx hb dX5_section_108 (lv_at hl 0 rfl) ?_
            refine lv_iconst (v := 1) hx hb dX5_section_110 (by decide) ?_
            refine lv_iadd hx hb dX5_section_111 ?_
            refine W.eq (g2 := F0 m 112 ls [.int ((z.1 0 1) + 1), .ref (E2.2.2 0)]) (by rw [hx2 0 (by omega)]) ?_
            refine k_putI hx hb hts inlX5 tyX5_ok nmX5 hown hW 0 (by omega) k_c0 rfl 1 (by decide) lf_RX5_15 rfl rfl (tyX5_ok 1 (by decide)) (Nat.le_of_ble_eq_true rfl) ks_X5_1 dX5_section_112 (fun H locs hW => ?_)
            refine lv_iload hx hb dX5_section_115 (lv_at hl 0 rfl) ?_
            refine vx_ret (W.widen (k := 6) (n := 347) (by omega) (by omega) ?_)
            exact W.zret hx hb hr rfl (fun t ht hWm => ⟨⟨E2, by rw [hR], by rw [hR], ⟨hE1, hE21, hx2⟩, by rw [hR, ht]; exact hW.1, by rw [hR]; exact hW.2.1⟩, hW.2.2.1.F ht⟩) hW.2.2.1.2.2 dX5_section_117 hlocks
          · have hR : (f_X5_section S z p0 p1 p2) = (2, 0, z) := (by simp only [f_X5_section, if_pos h1, if_neg h2, h3, if_neg h5, if_neg h6])
            exact k_thG (names := nm_2) hx hb hl0 hown hts (by decide) (by decide) tk_U ti_U t1_U t2_U t3_U (List.mem_of_getElem? (i := 17) rfl) htab hlocks (hl.1.trans hml.symm) hW (by rw [hR]; exact ⟨(show (2 : Nat) ≠ 0 by decide), rfl⟩) (Nat.le_of_ble_eq_true rfl) (Nat.le_of_ble_eq_true rfl) ⟨Nat.le_of_ble_eq_true rfl, Nat.le_of_ble_eq_true rfl⟩ ⟨Nat.le_of_ble_eq_true rfl, Nat.le_of_ble_eq_true rfl⟩ dX5_section_71 dX5_section_74 dX5_section_75 dX5_section_77 dX5_section_80
        · have hR : (f_X5_section S z p0 p1 p2) = (1, 0, z) := (by simp only [f_X5_section, if_pos h1, if_neg h2, h3, if_pos h5])
          exact k_thG (names := nm_2) hx hb hl0 hown hts (by decide) (by decide) tk_I ti_I t1_I t2_I t3_I (List.mem_of_getElem? (i := 16) rfl) htab hlocks (hl.1.trans hml.symm) hW (by rw [hR]; exact ⟨(show (1 : Nat) ≠ 0 by decide), rfl⟩) (Nat.le_of_ble_eq_true rfl) (Nat.le_of_ble_eq_true rfl) ⟨Nat.le_of_ble_eq_true rfl, Nat.le_of_ble_eq_true rfl⟩ ⟨Nat.le_of_ble_eq_true rfl, Nat.le_of_ble_eq_true rfl⟩ dX5_section_52 dX5_section_55 dX5_section_56 dX5_section_58 dX5_section_61
      · have lc4 : c4 < S := lt_sectionAt hI h3
        refine W.eq (g2 := F0 m 31 ls [.ref (E.2.2 (46 + 6 * c4))]) rfl ?_
        refine lv_ifnull hx hb dX5_section_31 ?_
        have hR : (f_X5_section S z p0 p1 p2) = (1, 0, z) := (by simp only [f_X5_section, if_pos h1, if_neg h2, h3])
        exact k_thG (names := nm_2) hx hb hl0 hown hts (by decide) (by decide) tk_I ti_I t1_I t2_I t3_I (List.mem_of_getElem? (i := 15) rfl) htab hlocks (hl.1.trans hml.symm) hW (by rw [hR]; exact ⟨(show (1 : Nat) ≠ 0 by decide), rfl⟩) (Nat.le_of_ble_eq_true rfl) (Nat.le_of_ble_eq_true rfl) ⟨Nat.le_of_ble_eq_true rfl, Nat.le_of_ble_eq_true rfl⟩ ⟨Nat.le_of_ble_eq_true rfl, Nat.le_of_ble_eq_true rfl⟩ dX5_section_34 dX5_section_37 dX5_section_38 dX5_section_40 dX5_section_43
  · refine lv_iload_n hx hb dX5_section_4 rfl (lv_at hl 1 rfl) ?_
    refine lv_iconst (v := 1) hx hb dX5_section_5 (by decide) ?_
    refine lv_icmp_eq (tgt := 19) hx hb dX5_section_6 (by decide) (fun h7 => ?_) (fun h7 => ?_)
    · refine lv_lload_n hx hb dX5_section_19 rfl (lv_at hl 2 rfl) ?_
      refine k_callS (rest := []) hx hb hml hown hts (c_X5_isPlace l E S _ z p1) lm_RX5_49 ls_X5_isPlace li_X5 lk_X5_isPlace (show k_nm yX5_isPlace 1 by decide +kernel) ⟨Nat.le_of_ble_eq_true rfl, Nat.le_of_ble_eq_true rfl⟩ rfl rfl ⟨Nat.le_of_ble_eq_true rfl, Nat.le_of_ble_eq_true rfl⟩ hl.1 rfl (Nat.le_of_ble_eq_true rfl) dX5_section_20 hW (fun v z1 H locs hp hW => ?_)
      obtain ⟨rfl, hz1⟩ := hp
      rw [hz1] at hW
      refine W.eq (g2 := F0 m 23 ls [.int (f_X5_isPlace z p1)]) rfl ?_
      refine lv_if_eq (tgt := 34) hx hb dX5_section_23 (by decide) (fun h8 => ?_) (fun h8 => ?_)
      · have hR : (f_X5_section S z p0 p1 p2) = (1, 0, z) := (by simp only [f_X5_section, if_neg h1, if_pos h7, if_pos h8])
        exact k_thG (names := nm_2) hx hb hl0 hown hts (by decide) (by decide) tk_I ti_I t1_I t2_I t3_I (List.mem_of_getElem? (i := 15) rfl) htab hlocks (hl.1.trans hml.symm) hW (by rw [hR]; exact ⟨(show (1 : Nat) ≠ 0 by decide), rfl⟩) (Nat.le_of_ble_eq_true rfl) (Nat.le_of_ble_eq_true rfl) ⟨Nat.le_of_ble_eq_true rfl, Nat.le_of_ble_eq_true rfl⟩ ⟨Nat.le_of_ble_eq_true rfl, Nat.le_of_ble_eq_true rfl⟩ dX5_section_34 dX5_section_37 dX5_section_38 dX5_section_40 dX5_section_43
      · refine lv_aload_n hx hb dX5_section_26 rfl (lv_at hl 0 rfl) ?_
        refine lv_lload_n hx hb dX5_section_27 rfl (lv_at hl 2 rfl) ?_
        refine k_callV (As := [.long p1]) (rest := []) hx hb hml hown hts (c_X5_sectionAt l E S _ z p1 hI) lm_RX5_53 ln_X5_sectionAt le_X5_sectionAt li_X5 lk_X5_sectionAt (show k_nm yX5_sectionAt 1 by decide +kernel) ⟨Nat.le_of_ble_eq_true rfl, Nat.le_of_ble_eq_true rfl⟩ rfl rfl ⟨Nat.le_of_ble_eq_true rfl, Nat.le_of_ble_eq_true rfl⟩ hl.1 rfl (Nat.le_of_ble_eq_true rfl) dX5_section_28 (by omega) (k_c0 _ _ _) rfl hW (fun v z1 H locs hp hW => ?_)
        obtain ⟨rfl, hz1⟩ := hp
        rw [hz1] at hW
        refine W.eq (g2 := F0 m 31 ls [k_o E (f_X5_sectionAt z p1)]) rfl ?_
        rcases h9 : (f_X5_sectionAt z p1) with _ | c10
        · refine W.eq (g2 := F0 m 31 ls [.null]) rfl ?_
          refine lv_ifnullN (tgt := 44) hx hb dX5_section_31 (by decide) ?_
          refine lv_lload hx hb dX5_section_44 (lv_at hl 3 rfl) ?_
          refine k_callS (rest := []) hx hb hml hown hts (c_X5_isPlaceOrNone l E S _ z p2) lm_RX5_59 ls_X5_isPlaceOrNone li_X5 lk_X5_isPlaceOrNone (show k_nm yX5_isPlaceOrNone 1 by decide +kernel) ⟨Nat.le_of_ble_eq_true rfl, Nat.le_of_ble_eq_true rfl⟩ rfl rfl ⟨Nat.le_of_ble_eq_true rfl, Nat.le_of_ble_eq_true rfl⟩ hl.1 rfl (Nat.le_of_ble_eq_true rfl) dX5_section_46 hW (fun v z1 H locs hp hW => ?_)
          obtain ⟨rfl, hz1⟩ := hp
          rw [hz1] at hW
          refine W.eq (g2 := F0 m 49 ls [.int (f_X5_isPlaceOrNone z p2)]) rfl ?_
          refine lv_if_ne (tgt := 62) hx hb dX5_section_49 (by decide) (fun h11 => ?_) (fun h11 => ?_)
          · refine lv_aload_n hx hb dX5_section_62 rfl (lv_at hl 0 rfl) ?_
            refine k_get hx hb hts inlX5 hown hW 0 (by omega) k_c0 rfl 1 (by decide) lf_RX5_15 rfl (v := .int (z.1 0 1)) rfl dX5_section_63 ?_
            refine lv_bipush (v := 12) hx hb dX5_section_66 (by decide) ?_
            refine lv_icmp_lt (tgt := 81) hx hb dX5_section_68 (by decide) (fun h12 => ?_) (fun h12 => ?_)
            · refine lv_aload_n hx hb dX5_section_81 rfl (lv_at hl 0 rfl) ?_
              refine k_get hx hb hts inlX5 hown hW 0 (by omega) k_c0 rfl 1 (by decide) lf_RX5_15 rfl (v := .int (z.1 0 1)) rfl dX5_section_82 ?_
              refine lv_istore (lv' := [(6, .int (z.1 0 1)), (0, .ref (E.2.2 0)), (1, .int p0), (2, .long p1), (4, .long p2)]) hx hb dX5_section_85 hl (by decide) rfl (fun ls hl => ?_)
              refine lv_aload_n hx hb dX5_section_87 rfl (lv_at hl 1 rfl) ?_
              refine k_get hx hb hts inlX5 hown hW 0 (by omega) k_c0 rfl 0 (by decide) lf_RX5_11 rfl (v := .ref (E.2.2 1)) rfl dX5_section_88 ?_
              refine lv_iload hx hb dX5_section_91 (lv_at hl 0 rfl) ?_
              have hR : (f_X5_section S z p0 p1 p2) = (0, (z.1 0 1), (uI (uO (k_ns z S (z.1 0 1) p0 p1 p2) 1 (z.1 0 1).toNatClampNeg (some S)) 0 1 ((z.1 0 1) + 1))) := (by simp only [f_X5_section, if_neg h1, if_pos h7, if_neg h8, h9, if_neg h11, if_pos h12])
              have hL : k_L E false (k_wl E (46 + 6 * S) z) _ s H _ := ⟨hW.1, hW.2.1, hW.2.2.1, ⟨hW.2.2.2.1, fun h => nomatch h⟩, hW.2.2.2.2.1⟩
              refine l_new (ci := 5) (fs := [.int 0, .int 0, .long 0, .long 0, .long 0, .null, .int 0, .int 0, .int 0, .int 0, .null, .null, .int 0, .null, .null]) hx hb hts inlX3 tyX3_ok hown lx_RX5_9 ly_X3 li_X3 hL rfl lz_X3 (Nat.le_of_ble_eq_true rfl) (Nat.le_of_ble_eq_true rfl) dX5_section_93 (fun q H hL => ?_)
              refine lv_dup hx hb dX5_section_96 rfl ?_
              refine lv_iload hx hb dX5_section_97 (lv_at hl 0 rfl) ?_
              refine lv_iload_n hx hb dX5_section_99 rfl (lv_at hl 2 rfl) ?_
              refine lv_lload_n hx hb dX5_section_100 rfl (lv_at hl 3 rfl) ?_
              refine lv_lload hx hb dX5_section_101 (lv_at hl 4 rfl) ?_
              refine l_callI (wr := k_wl E (46 + 6 * S) z) (q := q) (x := .inr (5, [.int 0, .int 0, .long 0, .long 0, .long 0, .null, .int 0, .int 0, .int 0, .int 0, .null, .null, .int 0, .null, .null])) (As := [.int (z.1 0 1), .int p0, .long p1, .long p2]) (rest := [.ref q, .int (z.1 0 1), .ref (E.2.2 1)]) hx hb hml hown hts (c_X3_init l E _ q (z.1 0 1) p0 p1 p2) lm_RX5_69 ln_X3_init li_X3 lk_X3_init rfl (show k_nm yX3_init 4 by decide +kernel) ⟨Nat.le_of_ble_eq_true rfl, Nat.le_of_ble_eq_true rfl⟩ rfl rfl ⟨Nat.le_of_ble_eq_true rfl, Nat.le_of_ble_eq_true rfl⟩ hl.1 rfl (Nat.le_of_ble_eq_true rfl) dX5_section_103 hL (fun w H locs hp hL => ?_)
              obtain ⟨q1, q2, q3, q4, q5, rfl⟩ := hp
              have hg := k_grow (E := E) hO (z.1 0 1) p0 p1 p2 q q1 q2 q3 q4 q5
              obtain ⟨E2, hE2⟩ : ∃ y9 : Ev, y9 = k_nE E (46 + 6 * S) [q, q1, q2, q3, q4, q5] := ⟨_, rfl⟩
              have hx2 : ∀ r, r < 46 + 6 * S → E2.2.2 r = E.2.2 r := fun r h => by rw [hE2]; exact if_pos h
              have hq2 : E2.2.2 (46 + 6 * S) = q := by rw [hE2]; show (if 46 + 6 * S < 46 + 6 * S then E.2.2 (46 + 6 * S) else [q, q1, q2, q3, q4, q5].getD (46 + 6 * S - (46 + 6 * S)) 0) = q; rw [if_neg (by omega), Nat.sub_self]; rfl
              rw [← hE2] at hg
              have hK2 : k_K E2 s := by rw [hE2]; exact hW.2.2.2.1
              have hE1 : E2.1 = E.1 := by rw [hE2]; rfl
              have hE21 : E2.2.1 = E.2.1 := by rw [hE2]; rfl
              have hA2 := hW.2.2.2.2
              have hW : k_W E2 (46 + 6 * (S + 1)) (k_ns z S (z.1 0 1) p0 p1 p2) _ s H _ := ⟨by rw [← hg, hE1]; exact hL.1, by rw [← hg]; exact hL.2.1, hL.2.2.1, hK2, hA2⟩
              refine W.eq (g2 := F0 m 106 ls [.ref (E2.2.2 (46 + 6 * S)), .int (z.1 0 1), .ref (E2.2.2 1)]) (by rw [hq2, hx2 1 (by omega)]) ?_
              refine k_aast hx hb hW 1 12 (by omega) k_c1 S (by omega) (by exact in_ltp (by rw [hI.1.2]; omega) h12 rfl) dX5_section_106 (fun H locs hW => ?_)
              refine lv_aload_n hx hb dX5_section_107 rfl (lv_at hl 1 rfl) ?_
              refine lv_iload hx hb dX5_section_108 (lv_at hl 0 rfl) ?_
              refine lv_iconst (v := 1) hx hb dX5_section_110 (by decide) ?_
              refine lv_iadd hx hb dX5_section_111 ?_
              refine W.eq (g2 := F0 m 112 ls [.int ((z.1 0 1) + 1), .ref (E2.2.2 0)]) (by rw [hx2 0 (by omega)]) ?_
              refine k_putI hx hb hts inlX5 tyX5_ok nmX5 hown hW 0 (by omega) k_c0 rfl 1 (by decide) lf_RX5_15 rfl rfl (tyX5_ok 1 (by decide)) (Nat.le_of_ble_eq_true rfl) ks_X5_1 dX5_section_112 (fun H locs hW => ?_)
              refine lv_iload hx hb dX5_section_115 (lv_at hl 0 rfl) ?_
              refine vx_ret (W.widen (k := 6) (n := 347) (by omega) (by omega) ?_)
              exact W.zret hx hb hr rfl (fun t ht hWm => ⟨⟨E2, by rw [hR], by rw [hR], ⟨hE1, hE21, hx2⟩, by rw [hR, ht]; exact hW.1, by rw [hR]; exact hW.2.1⟩, hW.2.2.1.F ht⟩) hW.2.2.1.2.2 dX5_section_117 hlocks
            · have hR : (f_X5_section S z p0 p1 p2) = (2, 0, z) := (by simp only [f_X5_section, if_neg h1, if_pos h7, if_neg h8, h9, if_neg h11, if_neg h12])
              exact k_thG (names := nm_2) hx hb hl0 hown hts (by decide) (by decide) tk_U ti_U t1_U t2_U t3_U (List.mem_of_getElem? (i := 17) rfl) htab hlocks (hl.1.trans hml.symm) hW (by rw [hR]; exact ⟨(show (2 : Nat) ≠ 0 by decide), rfl⟩) (Nat.le_of_ble_eq_true rfl) (Nat.le_of_ble_eq_true rfl) ⟨Nat.le_of_ble_eq_true rfl, Nat.le_of_ble_eq_true rfl⟩ ⟨Nat.le_of_ble_eq_true rfl, Nat.le_of_ble_eq_true rfl⟩ dX5_section_71 dX5_section_74 dX5_section_75 dX5_section_77 dX5_section_80
          · have hR : (f_X5_section S z p0 p1 p2) = (1, 0, z) := (by simp only [f_X5_section, if_neg h1, if_pos h7, if_neg h8, h9, if_pos h11])
            exact k_thG (names := nm_2) hx hb hl0 hown hts (by decide) (by decide) tk_I ti_I t1_I t2_I t3_I (List.mem_of_getElem? (i := 16) rfl) htab hlocks (hl.1.trans hml.symm) hW (by rw [hR]; exact ⟨(show (1 : Nat) ≠ 0 by decide), rfl⟩) (Nat.le_of_ble_eq_true rfl) (Nat.le_of_ble_eq_true rfl) ⟨Nat.le_of_ble_eq_true rfl, Nat.le_of_ble_eq_true rfl⟩ ⟨Nat.le_of_ble_eq_true rfl, Nat.le_of_ble_eq_true rfl⟩ dX5_section_52 dX5_section_55 dX5_section_56 dX5_section_58 dX5_section_61
        · have lc10 : c10 < S := lt_sectionAt hI h9
          refine W.eq (g2 := F0 m 31 ls [.ref (E.2.2 (46 + 6 * c10))]) rfl ?_
          refine lv_ifnull hx hb dX5_section_31 ?_
          have hR : (f_X5_section S z p0 p1 p2) = (1, 0, z) := (by simp only [f_X5_section, if_neg h1, if_pos h7, if_neg h8, h9])
          exact k_thG (names := nm_2) hx hb hl0 hown hts (by decide) (by decide) tk_I ti_I t1_I t2_I t3_I (List.mem_of_getElem? (i := 15) rfl) htab hlocks (hl.1.trans hml.symm) hW (by rw [hR]; exact ⟨(show (1 : Nat) ≠ 0 by decide), rfl⟩) (Nat.le_of_ble_eq_true rfl) (Nat.le_of_ble_eq_true rfl) ⟨Nat.le_of_ble_eq_true rfl, Nat.le_of_ble_eq_true rfl⟩ ⟨Nat.le_of_ble_eq_true rfl, Nat.le_of_ble_eq_true rfl⟩ dX5_section_34 dX5_section_37 dX5_section_38 dX5_section_40 dX5_section_43
    · have hR : (f_X5_section S z p0 p1 p2) = (1, 0, z) := (by simp only [f_X5_section, if_neg h1, if_neg h7])
      exact k_thG (names := nm_2) hx hb hl0 hown hts (by decide) (by decide) tk_I ti_I t1_I t2_I t3_I (List.mem_of_getElem? (i := 14) rfl) htab hlocks (hl.1.trans hml.symm) hW (by rw [hR]; exact ⟨(show (1 : Nat) ≠ 0 by decide), rfl⟩) (Nat.le_of_ble_eq_true rfl) (Nat.le_of_ble_eq_true rfl) ⟨Nat.le_of_ble_eq_true rfl, Nat.le_of_ble_eq_true rfl⟩ ⟨Nat.le_of_ble_eq_true rfl, Nat.le_of_ble_eq_true rfl⟩ dX5_section_9 dX5_section_12 dX5_section_13 dX5_section_15 dX5_section_18
