/-! ===== the law's loop ===== -/
def R_law : String := "CrossTablesLaw"
def lw_P (b : Addr) (xs : List Int32) (args : Array Value) (s : State) : Prop := args = #[.ref b] ∧ s.IntsAt b xs ∧ xs.length ≤ 3072 ∧ (Jvm.Cond.and given_1 narrow_1).before args s = true
def lw_Q (_ : Array Value) (s : State) (o : Outcome) (t : State) : Prop := o = .returned (some (.int 1)) ∧ Framed s o t [] 603072 7202922
def lw_Z (below : List Frame) (a : Array Value) (s : State) : State → Prop := fun t => ∃ o, t.status = .running ∧ Ended t below o ∧ lw_Q a s o t
/-- the law's own end, with 1 on the stack, nothing written that was there before, its room as the claim has it -/
theorem lw_ret {p : Program} {l : Launch} {e : Env} {s : State} {m : MethodId} {below : List Frame} {meth : Method} {c : Code} {b : Nat} (hx : p.tables.exec = Jvm.exec) (hb : c.code = code) (hr : meth.sig.returnType = ret) (hlocks : meth.locks = false) {pc : Nat} {H : Heap} {ls : Array Slot} (hdg : decode code pc = .ok (.ireturn, 1)) : W p l e room_1 s m #[Value.ref b] below meth c H [] 603072 7202922 (lw_Z below #[Value.ref b] s) (F0 m pc ls [.int 1]) := by
  intro T hT X
  obtain ⟨fs, hret, hrun, hended, hW, hframe⟩ := X.leave (v := some (.int 1)) (hlocks := hlocks) (fun h => by rw [hr] at h; cases h)
  have hmeth' : T.vm.method? m = some meth := X.method'
  refine ⟨T.setFrames fs, ?_, .returned (some (.int 1)), hrun, hended, rfl, ⟨_, rfl⟩, hW, hframe⟩
  jvm_step X.here [X.here.top, hx, hb, hdg, hmeth', hr, ret, narrow_b1]
  (try refine ⟨rfl, ?_⟩); (try refine ⟨rfl, ?_⟩)
  first | (intro acts; rw [hret _ acts rfl rfl rfl]) | rw [hret _ _ rfl rfl rfl]
  exact Steps.refl _
theorem and15 (x : Int32) : ∃ j : Nat, j < 16 ∧ x &&& 15 = nI j := by
  have h : (x &&& 15).toBitVec.toNat ≤ 15 := by
    show (x.toBitVec &&& 15#32).toNat ≤ 15
    rw [BitVec.toNat_and]
    exact Nat.and_le_right
  have e : (x &&& 15).toInt = ((x &&& 15).toBitVec.toNat : Int) := by
    rw [← Int32.toInt_toBitVec]
    exact BitVec.toInt_eq_toNat_of_lt (by omega)
  refine ⟨(x &&& 15).toInt.toNat, by omega, ?_⟩
  exact nI_tn (by omega)
theorem six_lt {n L : Nat} (hL : L ≤ 3072) (h6 : 6 * n ≤ L) : (nI L - 6 < nI (6 * n)) ↔ L < 6 * n + 6 := by
  have e6 : (6 : Int32).toInt = 6 := rfl
  have e1 : (nI L - 6).toInt = (L : Int) - 6 := by
    rw [Int32.toInt_sub, nI_toInt (by omega), e6]
    exact Int.bmod_eq_of_le_mul_two (by simp; omega) (by simp; omega)
  rw [Int32.lt_iff_toInt_lt, e1, nI_toInt (by omega)]
  omega
set_option maxHeartbeats 4000000 in
set_option maxRecDepth 100000 in
theorem law_loop {p : Program} {l : Launch} {e : Env} {s : State} {m : MethodId} {below : List Frame} {meth : Method} {c : Code} {b L : Nat} {xs : Nat → Int32} (hl0 : l.stackTraces = false) (C0 : lk_A p s m meth c b L xs) (hr : meth.sig.returnType = ret) (hlocks : meth.locks = false) :
    ∀ (k n : Nat) (E : Ev) (S : Nat) (z : Sg) (H : Heap) (locs : List Loc) (ls : Array Slot) (cells slots : Nat), q_I S z z → k_W E (46 + 6 * S) z (fun q => s.heap.size ≤ q) s H locs → lv_has ls 8 (lk_lv E b n) → cells ≤ 100 + 6 * n → slots ≤ 10000 + 347 * n → 6 * n ≤ L → L - 6 * n < k → W p l e room_1 s m #[Value.ref b] below meth c H locs cells slots (lw_Z below #[Value.ref b] s) (F0 m 23 ls []) := by
  intro k
  induction k with
  | zero => intro n E S z H locs ls cells slots _ _ _ _ _ _ g; omega
  | succ k ih =>
    intro n E S z H locs ls cells slots hq hW hl hce hsl h6 hk
    have C1 := C0
    obtain ⟨hx, hb, hml, hown, hts, hX, hbl, hL⟩ := C1
    have hbA : ¬ (fun q : Nat => s.heap.size ≤ q) b := Nat.not_le.mpr hbl
    have hl2 : lv_has ls 8 [(4, .int (nI (6 * n))), (3, .ref (E.2.2 45)), (2, .ref (E.2.2 19)), (1, .ref (E.2.2 0)), (0, .ref b)] := hl
    refine lv_iload hx hb dL_law_23 (lv_at hl2 0 rfl) ?_
    refine lv_aload_n hx hb dL_law_25 rfl (lv_at hl2 4 rfl) ?_
    refine va_slen hx hb hX hbl hbA hW.2.2.1 dL_law_26 ?_
    refine lv_bipush (v := 6) hx hb dL_law_27 (by decide) ?_
    refine lv_isub hx hb dL_law_29 ?_
    refine lv_icmp_gt (tgt := 1366) hx hb dL_law_30 (by decide) (fun c1 => ?_) (fun c1 => ?_)
    · refine lv_iconst (v := 1) hx hb dL_law_1366 (by decide) ?_
      refine va_forget (fun q hq => hW.2.2.1.2.2 q hq) ?_
      refine W.widen (k := 603072) (n := 7202922) (by omega) (by omega) ?_
      exact lw_ret hx hb hr hlocks dL_law_1367
    · have c2 : ¬ (nI L - 6 < nI (6 * n)) := c1
      have hn : 6 * n + 6 ≤ L := by
        rw [six_lt hL h6] at c2
        omega
      obtain ⟨y0, hy0⟩ : ∃ y : Int32, xs ((nI (6 * n)).toNatClampNeg) = y := ⟨_, rfl⟩
      refine lv_aload_n hx hb dL_law_33 rfl (lv_at hl2 4 rfl) ?_
      refine lv_iload hx hb dL_law_34 (lv_at hl2 0 rfl) ?_
      refine k_sld (i := nI (6 * n)) (v := y0) hx hb hX hbl hbA hW (vp_in_iff.mpr (by rw [nI_toInt (by omega)]; omega)) hy0 dL_law_36 ?_
      refine lv_bipush (v := 15) hx hb dL_law_37 (by decide) ?_
      refine lv_iand hx hb dL_law_39 ?_
      have K : lk_C p l e s m b below meth c n (lw_Z below #[Value.ref b] s) := by
        intro E S z H locs ls cells slots hq hW hl hce hsl
        refine lv_iinc (v := nI (6 * (n + 1))) (lv' := lk_lv E b (n + 1)) hx hb dL_law_1360 hl (k := 0) rfl ?_ (by decide) rfl (fun ls hl => ?_)
        · show nI (6 * n) + nI 6 = nI (6 * (n + 1))
          rw [nI_add]; congr 1
        · refine lv_goto (tgt := 23) hx hb dL_law_1363 (by decide) ?_
          exact ih (n + 1) E S z H locs ls cells slots hq hW hl hce hsl (by omega) (by omega)
      obtain ⟨j, hj, ej⟩ := and15 y0
      rw [ej]
      have h16 : j = 0 ∨ j = 1 ∨ j = 2 ∨ j = 3 ∨ j = 4 ∨ j = 5 ∨ j = 6 ∨ j = 7 ∨ j = 8 ∨ j = 9 ∨ j = 10 ∨ j = 11 ∨ j = 12 ∨ j = 13 ∨ j = 14 ∨ j = 15 := by omega
      rcases h16 with h | h | h | h | h | h | h | h | h | h | h | h | h | h | h | h
      · rw [h]
        refine lv_tableIn (off := 80) (tgt := 120) hx hb dL_law_40 (by decide) (by decide) rfl (by decide) ?_
        exact lc_section hl0 C0 hn hq hW hl hce hsl K
      · rw [h]
        refine lv_tableIn (off := 224) (tgt := 264) hx hb dL_law_40 (by decide) (by decide) rfl (by decide) ?_
        exact lc_add hl0 C0 hn hq hW hl hce hsl K
      · rw [h]
        refine lv_tableIn (off := 294) (tgt := 334) hx hb dL_law_40 (by decide) (by decide) rfl (by decide) ?_
        exact lc_octet hl0 C0 hn hq hW hl hce hsl K
      · rw [h]
        refine lv_tableIn (off := 362) (tgt := 402) hx hb dL_law_40 (by decide) (by decide) rfl (by decide) ?_
        exact lc_beside hl0 C0 hn hq hW hl hce hsl K
      · rw [h]
        refine lv_tableIn (off := 461) (tgt := 501) hx hb dL_law_40 (by decide) (by decide) rfl (by decide) ?_
        exact lc_widths hl0 C0 hn hq hW hl hce hsl K
      · rw [h]
        refine lv_tableIn (off := 553) (tgt := 593) hx hb dL_law_40 (by decide) (by decide) rfl (by decide) ?_
        exact lc_run hl0 C0 hn hq hW hl hce hsl K
      · rw [h]
        refine lv_tableIn (off := 633) (tgt := 673) hx hb dL_law_40 (by decide) (by decide) rfl (by decide) ?_
        exact lc_key hl0 C0 hn hq hW hl hce hsl K
      · rw [h]
        refine lv_tableIn (off := 713) (tgt := 753) hx hb dL_law_40 (by decide) (by decide) rfl (by decide) ?_
        exact lc_head hl0 C0 hn hq hW hl hce hsl K
      · rw [h]
        refine lv_tableIn (off := 825) (tgt := 865) hx hb dL_law_40 (by decide) (by decide) rfl (by decide) ?_
        exact lc_read hl0 C0 hn hq hW hl hce hsl K
      · rw [h]
        refine lv_tableIn (off := 882) (tgt := 922) hx hb dL_law_40 (by decide) (by decide) rfl (by decide) ?_
        exact lc_kind hl0 C0 hn hq hW hl hce hsl K
      · rw [h]
        refine lv_tableIn (off := 938) (tgt := 978) hx hb dL_law_40 (by decide) (by decide) rfl (by decide) ?_
        exact lc_place hl0 C0 hn hq hW hl hce hsl K
      · rw [h]
        refine lv_tableIn (off := 1005) (tgt := 1045) hx hb dL_law_40 (by decide) (by decide) rfl (by decide) ?_
        exact lc_revision hl0 C0 hn hq hW hl hce hsl K
      · rw [h]
        refine lv_tableIn (off := 1073) (tgt := 1113) hx hb dL_law_40 (by decide) (by decide) rfl (by decide) ?_
        exact lc_told hl0 C0 hn hq hW hl hce hsl K
      · rw [h]
        refine lv_tableIn (off := 1140) (tgt := 1180) hx hb dL_law_40 (by decide) (by decide) rfl (by decide) ?_
        exact lc_free hl0 C0 hn hq hW hl hce hsl K
      · rw [h]
        refine lv_tableIn (off := 1196) (tgt := 1236) hx hb dL_law_40 (by decide) (by decide) rfl (by decide) ?_
        exact lc_trailer hl0 C0 hn hq hW hl hce hsl K
      · rw [h]
        refine lv_tableIn (off := 1252) (tgt := 1292) hx hb dL_law_40 (by decide) (by decide) rfl (by decide) ?_
        exact lc_value hl0 C0 hn hq hW hl hce hsl K
