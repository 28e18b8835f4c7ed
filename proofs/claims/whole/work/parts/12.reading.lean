def f_X1_clear_L17 : Nat → Sg → Int32 → Sg
  | 0, w, _ => w
  | k + 1, w, i =>
    if (100 : Int32) ≤ i then
      w
    else
      f_X1_clear_L17 k (uI (uI (uI w 8 i.toNatClampNeg 0) 11 i.toNatClampNeg 0) 16 i.toNatClampNeg (vp_nar .boolean 0)) (i + 1)
termination_by k9 => k9
def f_X1_clear (z : Sg) : Sg :=
  f_X1_clear_L17 101 (uI (uI (uI z 6 1 0) 6 9 0) 6 12 0) 0
set_option maxHeartbeats 4000000 in
set_option maxRecDepth 100000 in
theorem c_X1_clear (l : Launch) (E : Ev) (S sz : Nat) (z : Sg) : k_Met l yX1_clear cX1_clear 2 none ({ frames := 0, cells := 0, slots := 0, locals := 0 }) [.ref (E.2.2 6)] E (46 + 6 * S) z sz (fun v u => v = none ∧ u = (f_X1_clear z)) 0 0 := by
  refine k_body (by decide +kernel) (Nat.le_of_ble_eq_true rfl) ?_
  intro p e s m below meth cd ls hx hb hr hml hown hlocks hts hW hl
  have L17 : ∀ (k : Nat) (w : Sg) (i : Int32) (H : Heap) (locs : List Loc) (ls : Array Slot), (0 ≤ i.toInt) → 100 - i.toInt.toNat < k → k_W E (46 + 6 * S) w (k_A E (46 + 6 * S) z s.heap.size) s H locs → lv_has ls 2 [(0, .ref (E.2.2 6)), (1, .int i)] → f_X1_clear_L17 k w i = (f_X1_clear z) → W p l e ({ frames := 0, cells := 0, slots := 0, locals := 0 }) s m ([.ref (E.2.2 6)] : List Value).toArray below meth cd H locs 0 0 (MQ below (k_Q (fun v u => v = none ∧ u = (f_X1_clear z)) E (46 + 6 * S) z s.heap.size) ([.ref (E.2.2 6)] : List Value).toArray s 0 0 (k_A E (46 + 6 * S) z s.heap.size)) (F0 m 17 ls []) := by
    intro k
    induction k with
    | zero =>
      intro w i H locs ls hi0 hm
      exact absurd hm (Nat.not_lt_zero _)
    | succ k ih =>
      intro w i H locs ls hi0 hm hW hl hG
      refine lv_iload_n hx hb dX1_clear_17 rfl (lv_at hl 1 rfl) ?_
      refine lv_bipush (v := 100) hx hb dX1_clear_18 (by decide) ?_
      refine lv_icmp_ge (tgt := 50) hx hb dX1_clear_20 (by decide) (fun h1 => ?_) (fun h1 => ?_)
      · have hR : (f_X1_clear z) = w := (hG.symm.trans (by simp only [f_X1_clear_L17, if_pos h1]))
        exact k_vret hx hb hr hlocks hW ⟨rfl, by rw [hR]⟩ dX1_clear_50
      · refine lv_aload_n hx hb dX1_clear_23 rfl (lv_at hl 0 rfl) ?_
        refine k_get hx hb hts inlX1 hown hW 6 (by omega) k_c6 rfl 2 (by decide) lf_RX1_21 rfl (v := .ref (E.2.2 8)) rfl dX1_clear_24 ?_
        refine lv_iload_n hx hb dX1_clear_27 rfl (lv_at hl 1 rfl) ?_
        refine lv_iconst (v := 0) hx hb dX1_clear_28 (by decide) ?_
        refine k_iast hx hb hW 8 100 (by omega) k_c8 (by exact in_lt hi0 h1 rfl) dX1_clear_29 (fun H locs hW => ?_)
        refine lv_aload_n hx hb dX1_clear_30 rfl (lv_at hl 0 rfl) ?_
        refine k_get hx hb hts inlX1 hown hW 6 (by omega) k_c6 rfl 5 (by decide) lf_RX1_32 rfl (v := .ref (E.2.2 11)) rfl dX1_clear_31 ?_
        refine lv_iload_n hx hb dX1_clear_34 rfl (lv_at hl 1 rfl) ?_
        refine lv_iconst (v := 0) hx hb dX1_clear_35 (by decide) ?_
        refine k_iast hx hb hW 11 100 (by omega) k_c11 (by exact in_lt hi0 h1 rfl) dX1_clear_36 (fun H locs hW => ?_)
        refine lv_aload_n hx hb dX1_clear_37 rfl (lv_at hl 0 rfl) ?_
        refine k_get hx hb hts inlX1 hown hW 6 (by omega) k_c6 rfl 11 (by decide) lf_RX1_50 rfl (v := .ref (E.2.2 16)) rfl dX1_clear_38 ?_
        refine lv_iload_n hx hb dX1_clear_41 rfl (lv_at hl 1 rfl) ?_
        refine lv_iconst (v := 0) hx hb dX1_clear_42 (by decide) ?_
        refine k_zast hx hb hW 16 100 (by omega) k_c16 (by exact in_lt hi0 h1 rfl) dX1_clear_43 (fun H locs hW => ?_)
        refine lv_iinc (v := i + 1) (lv' := [(1, .int (i + 1)), (0, .ref (E.2.2 6))]) hx hb dX1_clear_44 hl (k := 1) rfl rfl (by decide) rfl (fun ls hl => ?_)
        refine lv_goto (tgt := 17) hx hb dX1_clear_47 (by decide) ?_
        exact ih (uI (uI (uI w 8 i.toNatClampNeg 0) 11 i.toNatClampNeg 0) 16 i.toNatClampNeg (vp_nar .boolean 0)) (i + 1) _ _ _ (in_s0 (m := 100) (n := 100) hi0 h1 (by decide)) (in_sm (m := 100) hi0 h1 (by decide) hm) hW (lv_sub hl [1, 0] rfl) (Eq.symm (hG.symm.trans (by simp only [f_X1_clear_L17, if_neg h1])))
  have hl : lv_has ls 2 [(0, .ref (E.2.2 6))] := hl
  refine lv_aload_n hx hb dX1_clear_0 rfl (lv_at hl 0 rfl) ?_
  refine lv_iconst (v := 0) hx hb dX1_clear_1 (by decide) ?_
  refine k_putI hx hb hts inlX1 tyX1_ok nmX1 hown hW 6 (by omega) k_c6 rfl 1 (by decide) lf_RX1_17 rfl rfl (tyX1_ok 1 (by decide)) (Nat.le_of_ble_eq_true rfl) ks_X1_1 dX1_clear_2 (fun H locs hW => ?_)
  refine lv_aload_n hx hb dX1_clear_5 rfl (lv_at hl 0 rfl) ?_
  refine lv_iconst (v := 0) hx hb dX1_clear_6 (by decide) ?_
  refine k_putI hx hb hts inlX1 tyX1_ok nmX1 hown hW 6 (by omega) k_c6 rfl 9 (by decide) lf_RX1_44 rfl rfl (tyX1_ok 9 (by decide)) (Nat.le_of_ble_eq_true rfl) ks_X1_9 dX1_clear_7 (fun H locs hW => ?_)
  refine lv_aload_n hx hb dX1_clear_10 rfl (lv_at hl 0 rfl) ?_
  refine lv_iconst (v := 0) hx hb dX1_clear_11 (by decide) ?_
  refine k_putI hx hb hts inlX1 tyX1_ok nmX1 hown hW 6 (by omega) k_c6 rfl 12 (by decide) lf_RX1_54 rfl rfl (tyX1_ok 12 (by decide)) (Nat.le_of_ble_eq_true rfl) ks_X1_12 dX1_clear_12 (fun H locs hW => ?_)
  refine lv_iconst (v := 0) hx hb dX1_clear_15 (by decide) ?_
  refine lv_istore_n (lv' := [(1, .int 0), (0, .ref (E.2.2 6))]) hx hb dX1_clear_16 rfl hl (by decide) rfl (fun ls hl => ?_)
  exact L17 101 (uI (uI (uI z 6 1 0) 6 9 0) 6 12 0) 0 _ _ _ (by decide) (by decide) hW (lv_sub hl [1, 0] rfl) (Eq.symm (by simp only [f_X1_clear]))

def f_X1_enter (z : Sg) (c : Nat) : Sg :=
  if (12 : Int32) ≤ (z.1 6 1) then
    z
  else
    (uI (uO z 7 ((z.1 6 1).toNatClampNeg) (some c)) 6 1 ((z.1 6 1) + 1))
set_option maxHeartbeats 4000000 in
set_option maxRecDepth 100000 in
theorem c_X1_enter (l : Launch) (E : Ev) (S sz : Nat) (z : Sg) (c : Nat) (lc : c < S) (hI : k_I S z) : k_Met l yX1_enter cX1_enter 2 none ({ frames := 0, cells := 0, slots := 0, locals := 0 }) [.ref (E.2.2 6), .ref (E.2.2 (46 + 6 * c))] E (46 + 6 * S) z sz (fun v u => v = none ∧ u = (f_X1_enter z c)) 0 0 := by
  refine k_body (by decide +kernel) (Nat.le_of_ble_eq_true rfl) ?_
  intro p e s m below meth cd ls hx hb hr hml hown hlocks hts hW hl
  have hl : lv_has ls 2 [(0, .ref (E.2.2 6)), (1, .ref (E.2.2 (46 + 6 * c)))] := hl
  refine lv_aload_n hx hb dX1_enter_0 rfl (lv_at hl 0 rfl) ?_
  refine k_get hx hb hts inlX1 hown hW 6 (by omega) k_c6 rfl 1 (by decide) lf_RX1_17 rfl (v := .int (z.1 6 1)) rfl dX1_enter_1 ?_
  refine lv_bipush (v := 12) hx hb dX1_enter_4 (by decide) ?_
  refine lv_icmp_ge (tgt := 29) hx hb dX1_enter_6 (by decide) (fun h1 => ?_) (fun h1 => ?_)
  · have hR : (f_X1_enter z c) = z := (by simp only [f_X1_enter, if_pos h1])
    exact k_vret hx hb hr hlocks hW ⟨rfl, by rw [hR]⟩ dX1_enter_29
  · refine lv_aload_n hx hb dX1_enter_9 rfl (lv_at hl 0 rfl) ?_
    refine k_get hx hb hts inlX1 hown hW 6 (by omega) k_c6 rfl 0 (by decide) lf_RX1_11 rfl (v := .ref (E.2.2 7)) rfl dX1_enter_10 ?_
    refine lv_aload_n hx hb dX1_enter_13 rfl (lv_at hl 0 rfl) ?_
    refine k_get hx hb hts inlX1 hown hW 6 (by omega) k_c6 rfl 1 (by decide) lf_RX1_17 rfl (v := .int (z.1 6 1)) rfl dX1_enter_14 ?_
    refine lv_aload_n hx hb dX1_enter_17 rfl (lv_at hl 1 rfl) ?_
    refine k_aast hx hb hW 7 12 (by omega) k_c7 c (by omega) (by exact in_lt hI.2.2.1.1 h1 rfl) dX1_enter_18 (fun H locs hW => ?_)
    refine lv_aload_n hx hb dX1_enter_19 rfl (lv_at hl 0 rfl) ?_
    refine lv_dup hx hb dX1_enter_20 rfl ?_
    refine k_get hx hb hts inlX1 hown hW 6 (by omega) k_c6 rfl 1 (by decide) lf_RX1_17 rfl (v := .int (z.1 6 1)) rfl dX1_enter_21 ?_
    refine lv_iconst (v := 1) hx hb dX1_enter_24 (by decide) ?_
    refine lv_iadd hx hb dX1_enter_25 ?_
    refine k_putI hx hb hts inlX1 tyX1_ok nmX1 hown hW 6 (by omega) k_c6 rfl 1 (by decide) lf_RX1_17 rfl rfl (tyX1_ok 1 (by decide)) (Nat.le_of_ble_eq_true rfl) ks_X1_1 dX1_enter_26 (fun H locs hW => ?_)
    have hR : (f_X1_enter z c) = (uI (uO z 7 ((z.1 6 1).toNatClampNeg) (some c)) 6 1 ((z.1 6 1) + 1)) := (by simp only [f_X1_enter, if_neg h1])
    exact k_vret hx hb hr hlocks hW ⟨rfl, by rw [hR]⟩ dX1_enter_29

def f_X1_holds_L2 (z : Sg) (c : Nat) : Nat → Int32 → Int32
  | 0, _ => 0
  | k + 1, i =>
    if (z.1 6 1) ≤ i then
      0
    else
      match (z.2.2 7 i.toNatClampNeg) with
      | none =>
        f_X1_holds_L2 z c k (i + 1)
      | some c3 =>
        if c3 = c then
          1
        else
          f_X1_holds_L2 z c k (i + 1)
termination_by k9 => k9
def f_X1_holds (z : Sg) (c : Nat) : Int32 :=
  f_X1_holds_L2 z c 13 0
set_option maxHeartbeats 4000000 in
set_option maxRecDepth 100000 in
theorem c_X1_holds (l : Launch) (E : Ev) (S sz : Nat) (z : Sg) (c : Nat) (lc : c < S) (hI : k_I S z) : k_Met l yX1_holds cX1_holds 3 (some .boolean) ({ frames := 0, cells := 0, slots := 0, locals := 0 }) [.ref (E.2.2 6), .ref (E.2.2 (46 + 6 * c))] E (46 + 6 * S) z sz (fun v u => v = some (.int (f_X1_holds z c)) ∧ u = z) 0 0 := by
  refine k_body (by decide +kernel) (Nat.le_of_ble_eq_true rfl) ?_
  intro p e s m below meth cd ls hx hb hr hml hown hlocks hts hW hl
  have L2 : ∀ (k : Nat) (i : Int32) (H : Heap) (locs : List Loc) (ls : Array Slot), (0 ≤ i.toInt) → 12 - i.toInt.toNat < k → k_W E (46 + 6 * S) z (k_A E (46 + 6 * S) z s.heap.size) s H locs → lv_has ls 3 [(0, .ref (E.2.2 6)), (1, .ref (E.2.2 (46 + 6 * c))), (2, .int i)] → f_X1_holds_L2 z c k i = (f_X1_holds z c) → W p l e ({ frames := 0, cells := 0, slots := 0, locals := 0 }) s m ([.ref (E.2.2 6), .ref (E.2.2 (46 + 6 * c))] : List Value).toArray below meth cd H locs 0 0 (MQ below (k_Q (fun v u => v = some (.int (f_X1_holds z c)) ∧ u = z) E (46 + 6 * S) z s.heap.size) ([.ref (E.2.2 6), .ref (E.2.2 (46 + 6 * c))] : List Value).toArray s 0 0 (k_A E (46 + 6 * S) z s.heap.size)) (F0 m 2 ls []) := by
    intro k
    induction k with
    | zero =>
      intro i H locs ls hi0 hm
      exact absurd hm (Nat.not_lt_zero _)
    | succ k ih =>
      intro i H locs ls hi0 hm hW hl hG
      refine lv_iload_n hx hb dX1_holds_2 rfl (lv_at hl 2 rfl) ?_
      refine lv_aload_n hx hb dX1_holds_3 rfl (lv_at hl 0 rfl) ?_
      refine k_get hx hb hts inlX1 hown hW 6 (by omega) k_c6 rfl 1 (by decide) lf_RX1_17 rfl (v := .int (z.1 6 1)) rfl dX1_holds_4 ?_
      refine lv_icmp_ge (tgt := 28) hx hb dX1_holds_7 (by decide) (fun h1 => ?_) (fun h1 => ?_)
      · refine lv_iconst (v := 0) hx hb dX1_holds_28 (by decide) ?_
        have hR : (f_X1_holds z c) = 0 := (hG.symm.trans (by simp only [f_X1_holds_L2, if_pos h1]))
        exact k_iret hx hb hr rfl hlocks hW ⟨by rw [hR], rfl⟩ dX1_holds_29
      · refine lv_aload_n hx hb dX1_holds_10 rfl (lv_at hl 0 rfl) ?_
        refine k_get hx hb hts inlX1 hown hW 6 (by omega) k_c6 rfl 0 (by decide) lf_RX1_11 rfl (v := .ref (E.2.2 7)) rfl dX1_holds_11 ?_
        refine lv_iload_n hx hb dX1_holds_14 rfl (lv_at hl 2 rfl) ?_
        refine k_aald hx hb hW 7 12 (by omega) k_c7 (v := (z.2.2 7 i.toNatClampNeg)) (by exact in_lt3 hi0 h1 hI.2.2.1.2) rfl dX1_holds_15 ?_
        rcases h2 : (z.2.2 7 i.toNatClampNeg) with _ | c3
        · refine W.eq (g2 := F0 m 16 ls [.null]) rfl ?_
          refine lv_aload_n hx hb dX1_holds_16 rfl (lv_at hl 1 rfl) ?_
          refine lv_acmp_ne (rx := none) (ry := some _) (tgt := 22) hx hb dX1_holds_17 (by decide) (fun _ => ?_) (fun h9 => nomatch h9)
          refine lv_iinc (v := i + 1) (lv' := [(2, .int (i + 1)), (0, .ref (E.2.2 6)), (1, .ref (E.2.2 (46 + 6 * c)))]) hx hb dX1_holds_22 hl (k := 2) rfl rfl (by decide) rfl (fun ls hl => ?_)
          refine lv_goto (tgt := 2) hx hb dX1_holds_25 (by decide) ?_
          exact ih (i + 1) _ _ _ (in_s0 hi0 h1 hI.2.2.1.2) (in_sm hi0 h1 hI.2.2.1.2 hm) hW (lv_sub hl [1, 2, 0] rfl) (Eq.symm (hG.symm.trans (by simp only [f_X1_holds_L2, if_neg h1, h2])))
        · have lc3 : c3 < S := hI.2.2.2.2.2.2.1 _ _ h2
          refine W.eq (g2 := F0 m 16 ls [.ref (E.2.2 (46 + 6 * c3))]) rfl ?_
          refine lv_aload_n hx hb dX1_holds_16 rfl (lv_at hl 1 rfl) ?_
          refine k_acmp_ne (c1 := c3) (c2 := c) (tgt := 22) hx hb (by omega) (by omega) hW dX1_holds_17 (by decide) (fun h4 => ?_) (fun h4 => ?_)
          · refine lv_iinc (v := i + 1) (lv' := [(2, .int (i + 1)), (0, .ref (E.2.2 6)), (1, .ref (E.2.2 (46 + 6 * c)))]) hx hb dX1_holds_22 hl (k := 2) rfl rfl (by decide) rfl (fun ls hl => ?_)
            refine lv_goto (tgt := 2) hx hb dX1_holds_25 (by decide) ?_
            exact ih (i + 1) _ _ _ (in_s0 hi0 h1 hI.2.2.1.2) (in_sm hi0 h1 hI.2.2.1.2 hm) hW (lv_sub hl [1, 2, 0] rfl) (Eq.symm (hG.symm.trans (by simp only [f_X1_holds_L2, if_neg h1, h2, if_neg h4])))
          · refine lv_iconst (v := 1) hx hb dX1_holds_20 (by decide) ?_
            have hR : (f_X1_holds z c) = 1 := (hG.symm.trans (by simp only [f_X1_holds_L2, if_neg h1, h2, if_pos h4]))
            exact k_iret hx hb hr rfl hlocks hW ⟨by rw [hR], rfl⟩ dX1_holds_21
  have hl : lv_has ls 3 [(0, .ref (E.2.2 6)), (1, .ref (E.2.2 (46 + 6 * c)))] := hl
  refine lv_iconst (v := 0) hx hb dX1_holds_0 (by decide) ?_
  refine lv_istore_n (lv' := [(2, .int 0), (0, .ref (E.2.2 6)), (1, .ref (E.2.2 (46 + 6 * c)))]) hx hb dX1_holds_1 rfl hl (by decide) rfl (fun ls hl => ?_)
  exact L2 13 0 _ _ _ (by decide) (by decide) hW (lv_sub hl [1, 2, 0] rfl) (Eq.symm (by simp only [f_X1_holds]))

def f_X1_tell (z : Sg) (p0 : Int32) (p1 : Int32) (p2 : Int64) : Sg :=
  if (200 : Int32) ≤ (z.1 6 9) then
    z
  else
    (uI (uJ (uI (uI z 12 ((z.1 6 9).toNatClampNeg) p0) 13 ((z.1 6 9).toNatClampNeg) p1) 14 ((z.1 6 9).toNatClampNeg) p2) 6 9 ((z.1 6 9) + 1))
set_option maxHeartbeats 4000000 in
set_option maxRecDepth 100000 in
theorem c_X1_tell (l : Launch) (E : Ev) (S sz : Nat) (z : Sg) (p0 : Int32) (p1 : Int32) (p2 : Int64) (hI : k_I S z) : k_Met l yX1_tell cX1_tell 5 none ({ frames := 0, cells := 0, slots := 0, locals := 0 }) [.ref (E.2.2 6), .int p0, .int p1, .long p2] E (46 + 6 * S) z sz (fun v u => v = none ∧ u = (f_X1_tell z p0 p1 p2)) 0 0 := by
  refine k_body (by decide +kernel) (Nat.le_of_ble_eq_true rfl) ?_
  intro p e s m below meth cd ls hx hb hr hml hown hlocks hts hW hl
  have hl : lv_has ls 5 [(0, .ref (E.2.2 6)), (1, .int p0), (2, .int p1), (3, .long p2)] := hl
  refine lv_aload_n hx hb dX1_tell_0 rfl (lv_at hl 0 rfl) ?_
  refine k_get hx hb hts inlX1 hown hW 6 (by omega) k_c6 rfl 9 (by decide) lf_RX1_44 rfl (v := .int (z.1 6 9)) rfl dX1_tell_1 ?_
  refine lv_sipush (v := 200) hx hb dX1_tell_4 (by decide) ?_
  refine lv_icmp_ge (tgt := 50) hx hb dX1_tell_7 (by decide) (fun h1 => ?_) (fun h1 => ?_)
  · have hR : (f_X1_tell z p0 p1 p2) = z := (by simp only [f_X1_tell, if_pos h1])
    exact k_vret hx hb hr hlocks hW ⟨rfl, by rw [hR]⟩ dX1_tell_50
  · refine lv_aload_n hx hb dX1_tell_10 rfl (lv_at hl 0 rfl) ?_
    refine k_get hx hb hts inlX1 hown hW 6 (by omega) k_c6 rfl 6 (by decide) lf_RX1_35 rfl (v := .ref (E.2.2 12)) rfl dX1_tell_11 ?_
    refine lv_aload_n hx hb dX1_tell_14 rfl (lv_at hl 0 rfl) ?_
    refine k_get hx hb hts inlX1 hown hW 6 (by omega) k_c6 rfl 9 (by decide) lf_RX1_44 rfl (v := .int (z.1 6 9)) rfl dX1_tell_15 ?_
    refine lv_iload_n hx hb dX1_tell_18 rfl (lv_at hl 1 rfl) ?_
    refine k_iast hx hb hW 12 200 (by omega) k_c12 (by exact in_lt hI.2.2.2.1.1 h1 rfl) dX1_tell_19 (fun H locs hW => ?_)
    refine lv_aload_n hx hb dX1_tell_20 rfl (lv_at hl 0 rfl) ?_
    refine k_get hx hb hts inlX1 hown hW 6 (by omega) k_c6 rfl 7 (by decide) lf_RX1_38 rfl (v := .ref (E.2.2 13)) rfl dX1_tell_21 ?_
    refine lv_aload_n hx hb dX1_tell_24 rfl (lv_at hl 0 rfl) ?_
    refine k_get hx hb hts inlX1 hown hW 6 (by omega) k_c6 rfl 9 (by decide) lf_RX1_44 rfl (v := .int (z.1 6 9)) rfl dX1_tell_25 ?_
    refine lv_iload_n hx hb dX1_tell_28 rfl (lv_at hl 2 rfl) ?_
    refine k_iast hx hb hW 13 200 (by omega) k_c13 (by exact in_lt hI.2.2.2.1.1 h1 rfl) dX1_tell_29 (fun H locs hW => ?_)
    refine lv_aload_n hx hb dX1_tell_30 rfl (lv_at hl 0 rfl) ?_
    refine k_get hx hb hts inlX1 hown hW 6 (by omega) k_c6 rfl 8 (by decide) lf_RX1_41 rfl (v := .ref (E.2.2 14)) rfl dX1_tell_31 ?_
    refine lv_aload_n hx hb dX1_tell_34 rfl (lv_at hl 0 rfl) ?_
    refine k_get hx hb hts inlX1 hown hW 6 (by omega) k_c6 rfl 9 (by decide) lf_RX1_44 rfl (v := .int (z.1 6 9)) rfl dX1_tell_35 ?_
    refine lv_lload_n hx hb dX1_tell_38 rfl (lv_at hl 3 rfl) ?_
    refine k_last hx hb hW 14 200 (by omega) k_c14 (by exact in_lt hI.2.2.2.1.1 h1 rfl) dX1_tell_39 (fun H locs hW => ?_)
    refine lv_aload_n hx hb dX1_tell_40 rfl (lv_at hl 0 rfl) ?_
    refine lv_dup hx hb dX1_tell_41 rfl ?_
    refine k_get hx hb hts inlX1 hown hW 6 (by omega) k_c6 rfl 9 (by decide) lf_RX1_44 rfl (v := .int (z.1 6 9)) rfl dX1_tell_42 ?_
    refine lv_iconst (v := 1) hx hb dX1_tell_45 (by decide) ?_
    refine lv_iadd hx hb dX1_tell_46 ?_
    refine k_putI hx hb hts inlX1 tyX1_ok nmX1 hown hW 6 (by omega) k_c6 rfl 9 (by decide) lf_RX1_44 rfl rfl (tyX1_ok 9 (by decide)) (Nat.le_of_ble_eq_true rfl) ks_X1_9 dX1_tell_47 (fun H locs hW => ?_)
    have hR : (f_X1_tell z p0 p1 p2) = (uI (uJ (uI (uI z 12 ((z.1 6 9).toNatClampNeg) p0) 13 ((z.1 6 9).toNatClampNeg) p1) 14 ((z.1 6 9).toNatClampNeg) p2) 6 9 ((z.1 6 9) + 1)) := (by simp only [f_X1_tell, if_neg h1])
    exact k_vret hx hb hr hlocks hW ⟨rfl, by rw [hR]⟩ dX1_tell_50

def f_X1_takeRow (z : Sg) (p0 : Int64) (p1 : Int32) (p2 : Int64) (p3 : Int64) : Sg :=
  if p1 = 0 then
    z
  else
    if (f_X5_isObject z p0) = 0 then
      z
    else
      if (z.1 8 (((p0 : Int64).toInt32).toNatClampNeg)) = 0 then
        (uJ (uJ (uI (uI z 11 (((p0 : Int64).toInt32).toNatClampNeg) ((z.1 11 (((p0 : Int64).toInt32).toNatClampNeg)) ||| (1 <<< (((z.1 6 1) - 1) &&& 31)))) 8 (((p0 : Int64).toInt32).toNatClampNeg) p1) 9 (((p0 : Int64).toInt32).toNatClampNeg) p2) 10 (((p0 : Int64).toInt32).toNatClampNeg) p3)
      else
        (uI z 11 (((p0 : Int64).toInt32).toNatClampNeg) ((z.1 11 (((p0 : Int64).toInt32).toNatClampNeg)) ||| (1 <<< (((z.1 6 1) - 1) &&& 31))))
set_option maxHeartbeats 4000000 in
set_option maxRecDepth 100000 in
theorem c_X1_takeRow (l : Launch) (E : Ev) (S sz : Nat) (z : Sg) (p0 : Int64) (p1 : Int32) (p2 : Int64) (p3 : Int64) (hI : k_I S z) : k_Met l yX1_takeRow cX1_takeRow 9 none ({ frames := 1, cells := 0, slots := 0, locals := 21 }) [.ref (E.2.2 6), .long p0, .int p1, .long p2, .long p3] E (46 + 6 * S) z sz (fun v u => v = none ∧ u = (f_X1_takeRow z p0 p1 p2 p3)) 0 0 := by
  refine k_body (by decide +kernel) (Nat.le_of_ble_eq_true rfl) ?_
  intro p e s m below meth cd ls hx hb hr hml hown hlocks hts hW hl
  have hl : lv_has ls 9 [(0, .ref (E.2.2 6)), (1, .long p0), (3, .int p1), (4, .long p2), (6, .long p3)] := hl
  refine lv_iload_n hx hb dX1_takeRow_0 rfl (lv_at hl 2 rfl) ?_
  refine lv_if_eq (tgt := 11) hx hb dX1_takeRow_1 (by decide) (fun h1 => ?_) (fun h1 => ?_)
  · have hR : (f_X1_takeRow z p0 p1 p2 p3) = z := (by simp only [f_X1_takeRow, if_pos h1])
    exact k_vret hx hb hr hlocks hW ⟨rfl, by rw [hR]⟩ dX1_takeRow_11
  · refine lv_lload_n hx hb dX1_takeRow_4 rfl (lv_at hl 1 rfl) ?_
    refine k_callSN (rest := []) hx hb hml hown hts (c_X5_isObject l E S _ z p0) hW.2.2.2.1.2.1.2.1 ls_X5_isObject li_X5 lk_X5_isObject (show k_nm yX5_isObject 1 by decide +kernel) ⟨Nat.le_of_ble_eq_true rfl, Nat.le_of_ble_eq_true rfl⟩ rfl rfl ⟨Nat.le_of_ble_eq_true rfl, Nat.le_of_ble_eq_true rfl⟩ hl.1 rfl (Nat.le_of_ble_eq_true rfl) dX1_takeRow_5 hW (fun v z1 H locs hp hW => ?_)
    obtain ⟨rfl, hz1⟩ := hp
    rw [hz1] at hW
    refine W.eq (g2 := F0 m 8 ls [.int (f_X5_isObject z p0)]) rfl ?_
    refine lv_if_ne (tgt := 12) hx hb dX1_takeRow_8 (by decide) (fun h2 => ?_) (fun h2 => ?_)
    · refine lv_lload_n hx hb dX1_takeRow_12 rfl (lv_at hl 1 rfl) ?_
      refine lv_l2i (v := (p0 : Int64).toInt32) hx hb dX1_takeRow_13 rfl ?_
      refine lv_istore (lv' := [(8, .int ((p0 : Int64).toInt32)), (0, .ref (E.2.2 6)), (1, .long p0), (3, .int p1), (4, .long p2), (6, .long p3)]) hx hb dX1_takeRow_14 hl (by decide) rfl (fun ls hl => ?_)
      refine lv_aload_n hx hb dX1_takeRow_16 rfl (lv_at hl 1 rfl) ?_
      refine k_get hx hb hts inlX1 hown hW 6 (by omega) k_c6 rfl 5 (by decide) lf_RX1_32 rfl (v := .ref (E.2.2 11)) rfl dX1_takeRow_17 ?_
      refine lv_iload hx hb dX1_takeRow_20 (lv_at hl 0 rfl) ?_
      refine lv_dup2_11 hx hb dX1_takeRow_22 rfl rfl ?_
      refine k_iald hx hb hW 11 100 (by omega) k_c11 (v := (z.1 11 (((p0 : Int64).toInt32).toNatClampNeg))) (by exact obj_in h2) rfl dX1_takeRow_23 ?_
      refine lv_iconst (v := 1) hx hb dX1_takeRow_24 (by decide) ?_
      refine lv_aload_n hx hb dX1_takeRow_25 rfl (lv_at hl 1 rfl) ?_
      refine k_get hx hb hts inlX1 hown hW 6 (by omega) k_c6 rfl 1 (by decide) lf_RX1_17 rfl (v := .int (z.1 6 1)) rfl dX1_takeRow_26 ?_
      refine lv_iconst (v := 1) hx hb dX1_takeRow_29 (by decide) ?_
      refine lv_isub hx hb dX1_takeRow_30 ?_
      refine lv_ishl hx hb dX1_takeRow_31 ?_
      refine lv_ior hx hb dX1_takeRow_32 ?_
      refine k_iast hx hb hW 11 100 (by omega) k_c11 (by exact obj_in h2) dX1_takeRow_33 (fun H locs hW => ?_)
      refine lv_aload_n hx hb dX1_takeRow_34 rfl (lv_at hl 1 rfl) ?_
      refine k_get hx hb hts inlX1 hown hW 6 (by omega) k_c6 rfl 2 (by decide) lf_RX1_21 rfl (v := .ref (E.2.2 8)) rfl dX1_takeRow_35 ?_
      refine lv_iload hx hb dX1_takeRow_38 (lv_at hl 0 rfl) ?_
      refine k_iald hx hb hW 8 100 (by omega) k_c8 (v := (z.1 8 (((p0 : Int64).toInt32).toNatClampNeg))) (by exact obj_in h2) rfl dX1_takeRow_40 ?_
      refine lv_if_ne (tgt := 70) hx hb dX1_takeRow_41 (by decide) (fun h3 => ?_) (fun h3 => ?_)
      · have hR : (f_X1_takeRow z p0 p1 p2 p3) = (uI z 11 (((p0 : Int64).toInt32).toNatClampNeg) ((z.1 11 (((p0 : Int64).toInt32).toNatClampNeg)) ||| (1 <<< (((z.1 6 1) - 1) &&& 31)))) := (by simp only [f_X1_takeRow, if_neg h1, if_neg h2, if_neg h3])
        exact k_vret hx hb hr hlocks hW ⟨rfl, by rw [hR]⟩ dX1_takeRow_70
      · refine lv_aload_n hx hb dX1_takeRow_44 rfl (lv_at hl 1 rfl) ?_
        refine k_get hx hb hts inlX1 hown hW 6 (by omega) k_c6 rfl 2 (by decide) lf_RX1_21 rfl (v := .ref (E.2.2 8)) rfl dX1_takeRow_45 ?_
        refine lv_iload hx hb dX1_takeRow_48 (lv_at hl 0 rfl) ?_
        refine lv_iload_n hx hb dX1_takeRow_50 rfl (lv_at hl 3 rfl) ?_
        refine k_iast hx hb hW 8 100 (by omega) k_c8 (by exact obj_in h2) dX1_takeRow_51 (fun H locs hW => ?_)
        refine lv_aload_n hx hb dX1_takeRow_52 rfl (lv_at hl 1 rfl) ?_
        refine k_get hx hb hts inlX1 hown hW 6 (by omega) k_c6 rfl 3 (by decide) lf_RX1_25 rfl (v := .ref (E.2.2 9)) rfl dX1_takeRow_53 ?_
        refine lv_iload hx hb dX1_takeRow_56 (lv_at hl 0 rfl) ?_
        refine lv_lload hx hb dX1_takeRow_58 (lv_at hl 4 rfl) ?_
        refine k_last hx hb hW 9 100 (by omega) k_c9 (by exact obj_in h2) dX1_takeRow_60 (fun H locs hW => ?_)
        refine lv_aload_n hx hb dX1_takeRow_61 rfl (lv_at hl 1 rfl) ?_
        refine k_get hx hb hts inlX1 hown hW 6 (by omega) k_c6 rfl 4 (by decide) lf_RX1_29 rfl (v := .ref (E.2.2 10)) rfl dX1_takeRow_62 ?_
        refine lv_iload hx hb dX1_takeRow_65 (lv_at hl 0 rfl) ?_
        refine lv_lload hx hb dX1_takeRow_67 (lv_at hl 5 rfl) ?_
        refine k_last hx hb hW 10 100 (by omega) k_c10 (by exact obj_in h2) dX1_takeRow_69 (fun H locs hW => ?_)
        have hR : (f_X1_takeRow z p0 p1 p2 p3) = (uJ (uJ (uI (uI z 11 (((p0 : Int64).toInt32).toNatClampNeg) ((z.1 11 (((p0 : Int64).toInt32).toNatClampNeg)) ||| (1 <<< (((z.1 6 1) - 1) &&& 31)))) 8 (((p0 : Int64).toInt32).toNatClampNeg) p1) 9 (((p0 : Int64).toInt32).toNatClampNeg) p2) 10 (((p0 : Int64).toInt32).toNatClampNeg) p3) := (by simp only [f_X1_takeRow, if_neg h1, if_neg h2, if_pos h3])
        exact k_vret hx hb hr hlocks hW ⟨rfl, by rw [hR]⟩ dX1_takeRow_70
    · have hR : (f_X1_takeRow z p0 p1 p2 p3) = z := (by simp only [f_X1_takeRow, if_neg h1, if_pos h2])
      exact k_vret hx hb hr hlocks hW ⟨rfl, by rw [hR]⟩ dX1_takeRow_11

def f_X1_goesOnWith (z : Sg) (p0 : Int64) : Int32 :=
  if p0 = 0 then
    0
  else
    if (f_X5_isObject z p0) = 0 then
      0
    else
      if (z.1 8 (((p0 : Int64).toInt32).toNatClampNeg)) = 1 then
        if (z.1 16 (((p0 : Int64).toInt32).toNatClampNeg)) = 0 then
          1
        else
          0
      else
        0
set_option maxHeartbeats 4000000 in
set_option maxRecDepth 100000 in
theorem c_X1_goesOnWith (l : Launch) (E : Ev) (S sz : Nat) (z : Sg) (p0 : Int64) : k_Met l yX1_goesOnWith cX1_goesOnWith 3 (some .boolean) ({ frames := 1, cells := 0, slots := 0, locals := 21 }) [.ref (E.2.2 6), .long p0] E (46 + 6 * S) z sz (fun v u => v = some (.int (f_X1_goesOnWith z p0)) ∧ u = z) 0 0 := by
  refine k_body (by decide +kernel) (Nat.le_of_ble_eq_true rfl) ?_
  intro p e s m below meth cd ls hx hb hr hml hown hlocks hts hW hl
  have hl : lv_has ls 3 [(0, .ref (E.2.2 6)), (1, .long p0)] := hl
  refine lv_lload_n hx hb dX1_goesOnWith_0 rfl (lv_at hl 1 rfl) ?_
  refine lv_lconst (v := 0) hx hb dX1_goesOnWith_1 (by decide) ?_
  refine k_lif_eq (tgt := 13) hx hb dX1_goesOnWith_2 dX1_goesOnWith_3 (by decide) (fun h1 => ?_) (fun h1 => ?_)
  · refine lv_iconst (v := 0) hx hb dX1_goesOnWith_13 (by decide) ?_
    have hR : (f_X1_goesOnWith z p0) = 0 := (by simp only [f_X1_goesOnWith, if_pos h1])
    exact k_iret hx hb hr rfl hlocks hW ⟨by rw [hR], rfl⟩ dX1_goesOnWith_14
  · refine lv_lload_n hx hb dX1_goesOnWith_6 rfl (lv_at hl 1 rfl) ?_
    refine k_callSN (rest := []) hx hb hml hown hts (c_X5_isObject l E S _ z p0) hW.2.2.2.1.2.1.2.1 ls_X5_isObject li_X5 lk_X5_isObject (show k_nm yX5_isObject 1 by decide +kernel) ⟨Nat.le_of_ble_eq_true rfl, Nat.le_of_ble_eq_true rfl⟩ rfl rfl ⟨Nat.le_of_ble_eq_true rfl, Nat.le_of_ble_eq_true rfl⟩ hl.1 rfl (Nat.le_of_ble_eq_true rfl) dX1_goesOnWith_7 hW (fun v z1 H locs hp hW => ?_)
    obtain ⟨rfl, hz1⟩ := hp
    rw [hz1] at hW
    refine W.eq (g2 := F0 m 10 ls [.int (f_X5_isObject z p0)]) rfl ?_
    refine lv_if_ne (tgt := 15) hx hb dX1_goesOnWith_10 (by decide) (fun h2 => ?_) (fun h2 => ?_)
    · refine lv_aload_n hx hb dX1_goesOnWith_15 rfl (lv_at hl 0 rfl) ?_
      refine k_get hx hb hts inlX1 hown hW 6 (by omega) k_c6 rfl 2 (by decide) lf_RX1_21 rfl (v := .ref (E.2.2 8)) rfl dX1_goesOnWith_16 ?_
      refine lv_lload_n hx hb dX1_goesOnWith_19 rfl (lv_at hl 1 rfl) ?_
      refine lv_l2i (v := (p0 : Int64).toInt32) hx hb dX1_goesOnWith_20 rfl ?_
      refine k_iald hx hb hW 8 100 (by omega) k_c8 (v := (z.1 8 (((p0 : Int64).toInt32).toNatClampNeg))) (by exact obj_in h2) rfl dX1_goesOnWith_21 ?_
      refine lv_iconst (v := 1) hx hb dX1_goesOnWith_22 (by decide) ?_
      refine lv_icmp_ne (tgt := 40) hx hb dX1_goesOnWith_23 (by decide) (fun h3 => ?_) (fun h3 => ?_)
      · refine lv_iconst (v := 0) hx hb dX1_goesOnWith_40 (by decide) ?_
        have hR : (f_X1_goesOnWith z p0) = 0 := (by simp only [f_X1_goesOnWith, if_neg h1, if_neg h2, if_neg h3])
        exact k_iret hx hb hr rfl hlocks hW ⟨by rw [hR], rfl⟩ dX1_goesOnWith_41
      · refine lv_aload_n hx hb dX1_goesOnWith_26 rfl (lv_at hl 0 rfl) ?_
        refine k_get hx hb hts inlX1 hown hW 6 (by omega) k_c6 rfl 11 (by decide) lf_RX1_50 rfl (v := .ref (E.2.2 16)) rfl dX1_goesOnWith_27 ?_
        refine lv_lload_n hx hb dX1_goesOnWith_30 rfl (lv_at hl 1 rfl) ?_
        refine lv_l2i (v := (p0 : Int64).toInt32) hx hb dX1_goesOnWith_31 rfl ?_
        refine k_zald hx hb hW 16 100 (by omega) k_c16 (v := (z.1 16 (((p0 : Int64).toInt32).toNatClampNeg))) (by exact obj_in h2) rfl dX1_goesOnWith_32 ?_
        refine lv_if_ne (tgt := 40) hx hb dX1_goesOnWith_33 (by decide) (fun h4 => ?_) (fun h4 => ?_)
        · refine lv_iconst (v := 0) hx hb dX1_goesOnWith_40 (by decide) ?_
          have hR : (f_X1_goesOnWith z p0) = 0 := (by simp only [f_X1_goesOnWith, if_neg h1, if_neg h2, if_pos h3, if_neg h4])
          exact k_iret hx hb hr rfl hlocks hW ⟨by rw [hR], rfl⟩ dX1_goesOnWith_41
        · refine lv_iconst (v := 1) hx hb dX1_goesOnWith_36 (by decide) ?_
          refine lv_goto (tgt := 41) hx hb dX1_goesOnWith_37 (by decide) ?_
          have hR : (f_X1_goesOnWith z p0) = 1 := (by simp only [f_X1_goesOnWith, if_neg h1, if_neg h2, if_pos h3, if_pos h4])
          exact k_iret hx hb hr rfl hlocks hW ⟨by rw [hR], rfl⟩ dX1_goesOnWith_41
    · refine lv_iconst (v := 0) hx hb dX1_goesOnWith_13 (by decide) ?_
      have hR : (f_X1_goesOnWith z p0) = 0 := (by simp only [f_X1_goesOnWith, if_neg h1, if_pos h2])
      exact k_iret hx hb hr rfl hlocks hW ⟨by rw [hR], rfl⟩ dX1_goesOnWith_14

def f_X1_countObjects_L4 (z : Sg) : Nat → Int32 → Int32 → Int32
  | 0, _, _ => 0
  | k + 1, a, i =>
    if (100 : Int32) ≤ i then
      a
    else
      if (z.1 8 i.toNatClampNeg) = 0 then
        f_X1_countObjects_L4 z k a (i + 1)
      else
        f_X1_countObjects_L4 z k (a + 1) (i + 1)
termination_by k9 => k9
def f_X1_countObjects (z : Sg) : Int32 :=
  f_X1_countObjects_L4 z 101 0 0
set_option maxHeartbeats 4000000 in
set_option maxRecDepth 100000 in
theorem c_X1_countObjects (l : Launch) (E : Ev) (S sz : Nat) (z : Sg) : k_Met l yX1_countObjects cX1_countObjects 3 (some .int) ({ frames := 0, cells := 0, slots := 0, locals := 0 }) [.ref (E.2.2 6)] E (46 + 6 * S) z sz (fun v u => v = some (.int (f_X1_countObjects z)) ∧ u = z) 0 0 := by
  refine k_body (by decide +kernel) (Nat.le_of_ble_eq_true rfl) ?_
  intro p e s m below meth cd ls hx hb hr hml hown hlocks hts hW hl
  have L4 : ∀ (k : Nat) (a : Int32) (i : Int32) (H : Heap) (locs : List Loc) (ls : Array Slot), (0 ≤ i.toInt) → 100 - i.toInt.toNat < k → k_W E (46 + 6 * S) z (k_A E (46 + 6 * S) z s.heap.size) s H locs → lv_has ls 3 [(0, .ref (E.2.2 6)), (1, .int a), (2, .int i)] → f_X1_countObjects_L4 z k a i = (f_X1_countObjects z) → W p l e ({ frames := 0, cells := 0, slots := 0, locals := 0 }) s m ([.ref (E.2.2 6)] : List Value).toArray below meth cd H locs 0 0 (MQ below (k_Q (fun v u => v = some (.int (f_X1_countObjects z)) ∧ u = z) E (46 + 6 * S) z s.heap.size) ([.ref (E.2.2 6)] : List Value).toArray s 0 0 (k_A E (46 + 6 * S) z s.heap.size)) (F0 m 4 ls []) := by
    intro k
    induction k with
    | zero =>
      intro a i H locs ls hi0 hm
      exact absurd hm (Nat.not_lt_zero _)
    | succ k ih =>
      intro a i H locs ls hi0 hm hW hl hG
      refine lv_iload_n hx hb dX1_countObjects_4 rfl (lv_at hl 2 rfl) ?_
      refine lv_bipush (v := 100) hx hb dX1_countObjects_5 (by decide) ?_
      refine lv_icmp_ge (tgt := 28) hx hb dX1_countObjects_7 (by decide) (fun h1 => ?_) (fun h1 => ?_)
      · refine lv_iload_n hx hb dX1_countObjects_28 rfl (lv_at hl 1 rfl) ?_
        have hR : (f_X1_countObjects z) = a := (hG.symm.trans (by simp only [f_X1_countObjects_L4, if_pos h1]))
        exact k_iret hx hb hr rfl hlocks hW ⟨by rw [hR], rfl⟩ dX1_countObjects_29
      · refine lv_aload_n hx hb dX1_countObjects_10 rfl (lv_at hl 0 rfl) ?_
        refine k_get hx hb hts inlX1 hown hW 6 (by omega) k_c6 rfl 2 (by decide) lf_RX1_21 rfl (v := .ref (E.2.2 8)) rfl dX1_countObjects_11 ?_
        refine lv_iload_n hx hb dX1_countObjects_14 rfl (lv_at hl 2 rfl) ?_
        refine k_iald hx hb hW 8 100 (by omega) k_c8 (v := (z.1 8 i.toNatClampNeg)) (by exact in_lt hi0 h1 rfl) rfl dX1_countObjects_15 ?_
        refine lv_if_eq (tgt := 22) hx hb dX1_countObjects_16 (by decide) (fun h2 => ?_) (fun h2 => ?_)
        · refine lv_iinc (v := i + 1) (lv' := [(2, .int (i + 1)), (0, .ref (E.2.2 6)), (1, .int a)]) hx hb dX1_countObjects_22 hl (k := 2) rfl rfl (by decide) rfl (fun ls hl => ?_)
          refine lv_goto (tgt := 4) hx hb dX1_countObjects_25 (by decide) ?_
          exact ih a (i + 1) _ _ _ (in_s0 (m := 100) (n := 100) hi0 h1 (by decide)) (in_sm (m := 100) hi0 h1 (by decide) hm) hW (lv_sub hl [1, 2, 0] rfl) (Eq.symm (hG.symm.trans (by simp only [f_X1_countObjects_L4, if_neg h1, if_pos h2])))
        · refine lv_iinc (v := a + 1) (lv' := [(1, .int (a + 1)), (0, .ref (E.2.2 6)), (2, .int i)]) hx hb dX1_countObjects_19 hl (k := 1) rfl rfl (by decide) rfl (fun ls hl => ?_)
          refine lv_iinc (v := i + 1) (lv' := [(2, .int (i + 1)), (1, .int (a + 1)), (0, .ref (E.2.2 6))]) hx hb dX1_countObjects_22 hl (k := 2) rfl rfl (by decide) rfl (fun ls hl => ?_)
          refine lv_goto (tgt := 4) hx hb dX1_countObjects_25 (by decide) ?_
          exact ih (a + 1) (i + 1) _ _ _ (in_s0 (m := 100) (n := 100) hi0 h1 (by decide)) (in_sm (m := 100) hi0 h1 (by decide) hm) hW (lv_sub hl [2, 1, 0] rfl) (Eq.symm (hG.symm.trans (by simp only [f_X1_countObjects_L4, if_neg h1, if_neg h2])))
  have hl : lv_has ls 3 [(0, .ref (E.2.2 6))] := hl
  refine lv_iconst (v := 0) hx hb dX1_countObjects_0 (by decide) ?_
  refine lv_istore_n (lv' := [(1, .int 0), (0, .ref (E.2.2 6))]) hx hb dX1_countObjects_1 rfl hl (by decide) rfl (fun ls hl => ?_)
  refine lv_iconst (v := 0) hx hb dX1_countObjects_2 (by decide) ?_
  refine lv_istore_n (lv' := [(2, .int 0), (1, .int 0), (0, .ref (E.2.2 6))]) hx hb dX1_countObjects_3 rfl hl (by decide) rfl (fun ls hl => ?_)
  exact L4 101 0 0 _ _ _ (by decide) (by decide) hW (lv_sub hl [2, 1, 0] rfl) (Eq.symm (by simp only [f_X1_countObjects]))

def f_X1_tellerOf_L15 (z : Sg) (p0 : Int32) (p1 : Int32) : Nat → Int32 → Int32 → Int32
  | 0, _, _ => 0
  | k + 1, a, i =>
    if (z.1 6 1) ≤ i then
      (-1)
    else
      match (z.2.2 7 i.toNatClampNeg) with
      | none =>
        f_X1_tellerOf_L15 z p0 p1 k a (i + 1)
      | some c3 =>
        if ((z.1 11 p0.toNatClampNeg) >>> (i &&& 31)) &&& 1 = 1 then
          if a = p1 then
            (z.1 (46 + 6 * c3) 0)
          else
            f_X1_tellerOf_L15 z p0 p1 k (a + 1) (i + 1)
        else
          f_X1_tellerOf_L15 z p0 p1 k a (i + 1)
termination_by k9 => k9
def f_X1_tellerOf (z : Sg) (p0 : Int32) (p1 : Int32) : Int32 :=
  if (f_X5_isObject z ((p0 : Int32).toInt64)) = 0 then
    (-1)
  else
    f_X1_tellerOf_L15 z p0 p1 13 0 0
set_option maxHeartbeats 4000000 in
set_option maxRecDepth 100000 in
theorem c_X1_tellerOf (l : Launch) (E : Ev) (S sz : Nat) (z : Sg) (p0 : Int32) (p1 : Int32) (hI : k_I S z) : k_Met l yX1_tellerOf cX1_tellerOf 6 (some .int) ({ frames := 1, cells := 0, slots := 0, locals := 21 }) [.ref (E.2.2 6), .int p0, .int p1] E (46 + 6 * S) z sz (fun v u => v = some (.int (f_X1_tellerOf z p0 p1)) ∧ u = z) 0 0 := by
  refine k_body (by decide +kernel) (Nat.le_of_ble_eq_true rfl) ?_
  intro p e s m below meth cd ls hx hb hr hml hown hlocks hts hW hl
  have L15 : ∀ (k : Nat) (a : Int32) (i : Int32) (H : Heap) (locs : List Loc) (ls : Array Slot), (0 ≤ i.toInt) → (vp_in p0 100) → 12 - i.toInt.toNat < k → k_W E (46 + 6 * S) z (k_A E (46 + 6 * S) z s.heap.size) s H locs → lv_has ls 6 [(0, .ref (E.2.2 6)), (1, .int p0), (2, .int p1), (3, .int a), (4, .int i)] → f_X1_tellerOf_L15 z p0 p1 k a i = (f_X1_tellerOf z p0 p1) → W p l e ({ frames := 1, cells := 0, slots := 0, locals := 21 }) s m ([.ref (E.2.2 6), .int p0, .int p1] : List Value).toArray below meth cd H locs 0 0 (MQ below (k_Q (fun v u => v = some (.int (f_X1_tellerOf z p0 p1)) ∧ u = z) E (46 + 6 * S) z s.heap.size) ([.ref (E.2.2 6), .int p0, .int p1] : List Value).toArray s 0 0 (k_A E (46 + 6 * S) z s.heap.size)) (F0 m 15 ls []) := by
    intro k
    induction k with
    | zero =>
      intro a i H locs ls hi0 hi1 hm
      exact absurd hm (Nat.not_lt_zero _)
    | succ k ih =>
      intro a i H locs ls hi0 hi1 hm hW hl hG
      refine lv_iload hx hb dX1_tellerOf_15 (lv_at hl 4 rfl) ?_
      refine lv_aload_n hx hb dX1_tellerOf_17 rfl (lv_at hl 0 rfl) ?_
      refine k_get hx hb hts inlX1 hown hW 6 (by omega) k_c6 rfl 1 (by decide) lf_RX1_17 rfl (v := .int (z.1 6 1)) rfl dX1_tellerOf_18 ?_
      refine lv_icmp_ge (tgt := 73) hx hb dX1_tellerOf_21 (by decide) (fun h1 => ?_) (fun h1 => ?_)
      · refine lv_iconst (v := (-1)) hx hb dX1_tellerOf_73 (by decide) ?_
        have hR : (f_X1_tellerOf z p0 p1) = (-1) := (hG.symm.trans (by simp only [f_X1_tellerOf_L15, if_pos h1]))
        exact k_iret hx hb hr rfl hlocks hW ⟨by rw [hR], rfl⟩ dX1_tellerOf_74
      · refine lv_aload_n hx hb dX1_tellerOf_24 rfl (lv_at hl 0 rfl) ?_
        refine k_get hx hb hts inlX1 hown hW 6 (by omega) k_c6 rfl 0 (by decide) lf_RX1_11 rfl (v := .ref (E.2.2 7)) rfl dX1_tellerOf_25 ?_
        refine lv_iload hx hb dX1_tellerOf_28 (lv_at hl 4 rfl) ?_
        refine k_aald hx hb hW 7 12 (by omega) k_c7 (v := (z.2.2 7 i.toNatClampNeg)) (by exact in_lt3 hi0 h1 hI.2.2.1.2) rfl dX1_tellerOf_30 ?_
        rcases h2 : (z.2.2 7 i.toNatClampNeg) with _ | c3
        · refine W.eq (g2 := F0 m 31 ls [.null]) rfl ?_
          refine lv_astoreN (lv' := [(5, .null), (0, .ref (E.2.2 6)), (1, .int p0), (2, .int p1), (3, .int a), (4, .int i)]) hx hb dX1_tellerOf_31 hl (by decide) rfl (fun ls hl => ?_)
          refine lv_aloadN hx hb dX1_tellerOf_33 (lv_at hl 0 rfl) ?_
          refine lv_ifnullN (tgt := 67) hx hb dX1_tellerOf_35 (by decide) ?_
          refine lv_iinc (v := i + 1) (lv' := [(4, .int (i + 1)), (5, .null), (0, .ref (E.2.2 6)), (1, .int p0), (2, .int p1), (3, .int a)]) hx hb dX1_tellerOf_67 hl (k := 5) rfl rfl (by decide) rfl (fun ls hl => ?_)
          refine lv_goto (tgt := 15) hx hb dX1_tellerOf_70 (by decide) ?_
          exact ih a (i + 1) _ _ _ (in_s0 hi0 h1 hI.2.2.1.2) (hi1) (in_sm hi0 h1 hI.2.2.1.2 hm) hW (lv_sub hl [2, 3, 4, 5, 0] rfl) (Eq.symm (hG.symm.trans (by simp only [f_X1_tellerOf_L15, if_neg h1, h2])))
        · have lc3 : c3 < S := hI.2.2.2.2.2.2.1 _ _ h2
          refine W.eq (g2 := F0 m 31 ls [.ref (E.2.2 (46 + 6 * c3))]) rfl ?_
          refine lv_astore (lv' := [(5, .ref (E.2.2 (46 + 6 * c3))), (0, .ref (E.2.2 6)), (1, .int p0), (2, .int p1), (3, .int a), (4, .int i)]) hx hb dX1_tellerOf_31 hl (by decide) rfl (fun ls hl => ?_)
          refine lv_aload hx hb dX1_tellerOf_33 (lv_at hl 0 rfl) ?_
          refine lv_ifnull hx hb dX1_tellerOf_35 ?_
          refine lv_aload_n hx hb dX1_tellerOf_38 rfl (lv_at hl 1 rfl) ?_
          refine k_get hx hb hts inlX1 hown hW 6 (by omega) k_c6 rfl 5 (by decide) lf_RX1_32 rfl (v := .ref (E.2.2 11)) rfl dX1_tellerOf_39 ?_
          refine lv_iload_n hx hb dX1_tellerOf_42 rfl (lv_at hl 2 rfl) ?_
          refine k_iald hx hb hW 11 100 (by omega) k_c11 (v := (z.1 11 p0.toNatClampNeg)) (by exact hi1) rfl dX1_tellerOf_43 ?_
          refine lv_iload hx hb dX1_tellerOf_44 (lv_at hl 5 rfl) ?_
          refine lv_ishr hx hb dX1_tellerOf_46 ?_
          refine lv_iconst (v := 1) hx hb dX1_tellerOf_47 (by decide) ?_
          refine lv_iand hx hb dX1_tellerOf_48 ?_
          refine lv_iconst (v := 1) hx hb dX1_tellerOf_49 (by decide) ?_
          refine lv_icmp_ne (tgt := 67) hx hb dX1_tellerOf_50 (by decide) (fun h4 => ?_) (fun h4 => ?_)
          · refine lv_iinc (v := i + 1) (lv' := [(4, .int (i + 1)), (5, .ref (E.2.2 (46 + 6 * c3))), (0, .ref (E.2.2 6)), (1, .int p0), (2, .int p1), (3, .int a)]) hx hb dX1_tellerOf_67 hl (k := 5) rfl rfl (by decide) rfl (fun ls hl => ?_)
            refine lv_goto (tgt := 15) hx hb dX1_tellerOf_70 (by decide) ?_
            exact ih a (i + 1) _ _ _ (in_s0 hi0 h1 hI.2.2.1.2) (hi1) (in_sm hi0 h1 hI.2.2.1.2 hm) hW (lv_sub hl [2, 3, 4, 5, 0] rfl) (Eq.symm (hG.symm.trans (by simp only [f_X1_tellerOf_L15, if_neg h1, h2, if_neg h4])))
          · refine lv_iload_n hx hb dX1_tellerOf_53 rfl (lv_at hl 4 rfl) ?_
            refine lv_iload_n hx hb dX1_tellerOf_54 rfl (lv_at hl 3 rfl) ?_
            refine lv_icmp_ne (tgt := 64) hx hb dX1_tellerOf_55 (by decide) (fun h5 => ?_) (fun h5 => ?_)
            · refine lv_iinc (v := a + 1) (lv' := [(3, .int (a + 1)), (5, .ref (E.2.2 (46 + 6 * c3))), (0, .ref (E.2.2 6)), (1, .int p0), (2, .int p1), (4, .int i)]) hx hb dX1_tellerOf_64 hl (k := 4) rfl rfl (by decide) rfl (fun ls hl => ?_)
              refine lv_iinc (v := i + 1) (lv' := [(4, .int (i + 1)), (3, .int (a + 1)), (5, .ref (E.2.2 (46 + 6 * c3))), (0, .ref (E.2.2 6)), (1, .int p0), (2, .int p1)]) hx hb dX1_tellerOf_67 hl (k := 5) rfl rfl (by decide) rfl (fun ls hl => ?_)
              refine lv_goto (tgt := 15) hx hb dX1_tellerOf_70 (by decide) ?_
              exact ih (a + 1) (i + 1) _ _ _ (in_s0 hi0 h1 hI.2.2.1.2) (hi1) (in_sm hi0 h1 hI.2.2.1.2 hm) hW (lv_sub hl [3, 4, 5, 1, 0] rfl) (Eq.symm (hG.symm.trans (by simp only [f_X1_tellerOf_L15, if_neg h1, h2, if_pos h4, if_neg h5])))
            · refine lv_aload hx hb dX1_tellerOf_58 (lv_at hl 0 rfl) ?_
              refine k_get hx hb hts inlX3 hown hW (46 + 6 * c3) (by omega) (k_cell_sec c3) rfl 0 (by decide) lf_RX1_70 rfl (v := .int (z.1 (46 + 6 * c3) 0)) rfl dX1_tellerOf_60 ?_
              have hR : (f_X1_tellerOf z p0 p1) = (z.1 (46 + 6 * c3) 0) := (hG.symm.trans (by simp only [f_X1_tellerOf_L15, if_neg h1, h2, if_pos h4, if_pos h5]))
              exact k_iret hx hb hr rfl hlocks hW ⟨by rw [hR], rfl⟩ dX1_tellerOf_63
  have hl : lv_has ls 6 [(0, .ref (E.2.2 6)), (1, .int p0), (2, .int p1)] := hl
  refine lv_iload_n hx hb dX1_tellerOf_0 rfl (lv_at hl 1 rfl) ?_
  refine lv_i2l (v := (p0 : Int32).toInt64) hx hb dX1_tellerOf_1 rfl ?_
  refine k_callSN (rest := []) hx hb hml hown hts (c_X5_isObject l E S _ z ((p0 : Int32).toInt64)) hW.2.2.2.1.2.1.2.1 ls_X5_isObject li_X5 lk_X5_isObject (show k_nm yX5_isObject 1 by decide +kernel) ⟨Nat.le_of_ble_eq_true rfl, Nat.le_of_ble_eq_true rfl⟩ rfl rfl ⟨Nat.le_of_ble_eq_true rfl, Nat.le_of_ble_eq_true rfl⟩ hl.1 rfl (Nat.le_of_ble_eq_true rfl) dX1_tellerOf_2 hW (fun v z1 H locs hp hW => ?_)
  obtain ⟨rfl, hz1⟩ := hp
  rw [hz1] at hW
  refine W.eq (g2 := F0 m 5 ls [.int (f_X5_isObject z ((p0 : Int32).toInt64))]) rfl ?_
  refine lv_if_ne (tgt := 10) hx hb dX1_tellerOf_5 (by decide) (fun h6 => ?_) (fun h6 => ?_)
  · refine lv_iconst (v := 0) hx hb dX1_tellerOf_10 (by decide) ?_
    refine lv_istore_n (lv' := [(3, .int 0), (0, .ref (E.2.2 6)), (1, .int p0), (2, .int p1)]) hx hb dX1_tellerOf_11 rfl hl (by decide) rfl (fun ls hl => ?_)
    refine lv_iconst (v := 0) hx hb dX1_tellerOf_12 (by decide) ?_
    refine lv_istore (lv' := [(4, .int 0), (3, .int 0), (0, .ref (E.2.2 6)), (1, .int p0), (2, .int p1)]) hx hb dX1_tellerOf_13 hl (by decide) rfl (fun ls hl => ?_)
    exact L15 13 0 0 _ _ _ (by decide) (obj_inI h6) (by decide) hW (lv_sub hl [2, 3, 4, 1, 0] rfl) (Eq.symm (by simp only [f_X1_tellerOf, if_neg h6]))
  · refine lv_iconst (v := (-1)) hx hb dX1_tellerOf_8 (by decide) ?_
    have hR : (f_X1_tellerOf z p0 p1) = (-1) := (by simp only [f_X1_tellerOf, if_pos h6])
    exact k_iret hx hb hr rfl hlocks hW ⟨by rw [hR], rfl⟩ dX1_tellerOf_9

def f_X1_firstWithKey_L2 (z : Sg) (p0 : Int32) : Nat → Int32 → Int32
  | 0, _ => 0
  | k + 1, i =>
    if (z.1 6 1) ≤ i then
      (-1)
    else
      match (z.2.2 7 i.toNatClampNeg) with
      | none =>
        f_X1_firstWithKey_L2 z p0 k (i + 1)
      | some c3 =>
        if (f_X5_isKey z p0) = 0 then
          f_X1_firstWithKey_L2 z p0 k (i + 1)
        else
          if (z.1 (46 + 6 * c3 + 5) p0.toNatClampNeg) = 0 then
            f_X1_firstWithKey_L2 z p0 k (i + 1)
          else
            (z.1 (46 + 6 * c3) 0)
termination_by k9 => k9
def f_X1_firstWithKey (z : Sg) (p0 : Int32) : Int32 :=
  f_X1_firstWithKey_L2 z p0 13 0
set_option maxHeartbeats 4000000 in
set_option maxRecDepth 100000 in
theorem c_X1_firstWithKey (l : Launch) (E : Ev) (S sz : Nat) (z : Sg) (p0 : Int32) (hI : k_I S z) : k_Met l yX1_firstWithKey cX1_firstWithKey 4 (some .int) ({ frames := 1, cells := 0, slots := 0, locals := 20 }) [.ref (E.2.2 6), .int p0] E (46 + 6 * S) z sz (fun v u => v = some (.int (f_X1_firstWithKey z p0)) ∧ u = z) 0 0 := by
  refine k_body (by decide +kernel) (Nat.le_of_ble_eq_true rfl) ?_
  intro p e s m below meth cd ls hx hb hr hml hown hlocks hts hW hl
  have L2 : ∀ (k : Nat) (i : Int32) (H : Heap) (locs : List Loc) (ls : Array Slot), (0 ≤ i.toInt) → 12 - i.toInt.toNat < k → k_W E (46 + 6 * S) z (k_A E (46 + 6 * S) z s.heap.size) s H locs → lv_has ls 4 [(0, .ref (E.2.2 6)), (1, .int p0), (2, .int i)] → f_X1_firstWithKey_L2 z p0 k i = (f_X1_firstWithKey z p0) → W p l e ({ frames := 1, cells := 0, slots := 0, locals := 20 }) s m ([.ref (E.2.2 6), .int p0] : List Value).toArray below meth cd H locs 0 0 (MQ below (k_Q (fun v u => v = some (.int (f_X1_firstWithKey z p0)) ∧ u = z) E (46 + 6 * S) z s.heap.size) ([.ref (E.2.2 6), .int p0] : List Value).toArray s 0 0 (k_A E (46 + 6 * S) z s.heap.size)) (F0 m 2 ls []) := by
    intro k
    induction k with
    | zero =>
      intro i H locs ls hi0 hm
      exact absurd hm (Nat.not_lt_zero _)
    | succ k ih =>
      intro i H locs ls hi0 hm hW hl hG
      refine lv_iload_n hx hb dX1_firstWithKey_2 rfl (lv_at hl 2 rfl) ?_
      refine lv_aload_n hx hb dX1_firstWithKey_3 rfl (lv_at hl 0 rfl) ?_
      refine k_get hx hb hts inlX1 hown hW 6 (by omega) k_c6 rfl 1 (by decide) lf_RX1_17 rfl (v := .int (z.1 6 1)) rfl dX1_firstWithKey_4 ?_
      refine lv_icmp_ge (tgt := 48) hx hb dX1_firstWithKey_7 (by decide) (fun h1 => ?_) (fun h1 => ?_)
      · refine lv_iconst (v := (-1)) hx hb dX1_firstWithKey_48 (by decide) ?_
        have hR : (f_X1_firstWithKey z p0) = (-1) := (hG.symm.trans (by simp only [f_X1_firstWithKey_L2, if_pos h1]))
        exact k_iret hx hb hr rfl hlocks hW ⟨by rw [hR], rfl⟩ dX1_firstWithKey_49
      · refine lv_aload_n hx hb dX1_firstWithKey_10 rfl (lv_at hl 0 rfl) ?_
        refine k_get hx hb hts inlX1 hown hW 6 (by omega) k_c6 rfl 0 (by decide) lf_RX1_11 rfl (v := .ref (E.2.2 7)) rfl dX1_firstWithKey_11 ?_
        refine lv_iload_n hx hb dX1_firstWithKey_14 rfl (lv_at hl 2 rfl) ?_
        refine k_aald hx hb hW 7 12 (by omega) k_c7 (v := (z.2.2 7 i.toNatClampNeg)) (by exact in_lt3 hi0 h1 hI.2.2.1.2) rfl dX1_firstWithKey_15 ?_
        rcases h2 : (z.2.2 7 i.toNatClampNeg) with _ | c3
        · refine W.eq (g2 := F0 m 16 ls [.null]) rfl ?_
          refine lv_astore_nN (lv' := [(3, .null), (0, .ref (E.2.2 6)), (1, .int p0), (2, .int i)]) hx hb dX1_firstWithKey_16 rfl hl (by decide) rfl (fun ls hl => ?_)
          refine lv_aload_nN hx hb dX1_firstWithKey_17 rfl (lv_at hl 0 rfl) ?_
          refine lv_ifnullN (tgt := 42) hx hb dX1_firstWithKey_18 (by decide) ?_
          refine lv_iinc (v := i + 1) (lv' := [(2, .int (i + 1)), (3, .null), (0, .ref (E.2.2 6)), (1, .int p0)]) hx hb dX1_firstWithKey_42 hl (k := 3) rfl rfl (by decide) rfl (fun ls hl => ?_)
          refine lv_goto (tgt := 2) hx hb dX1_firstWithKey_45 (by decide) ?_
          exact ih (i + 1) _ _ _ (in_s0 hi0 h1 hI.2.2.1.2) (in_sm hi0 h1 hI.2.2.1.2 hm) hW (lv_sub hl [2, 3, 0] rfl) (Eq.symm (hG.symm.trans (by simp only [f_X1_firstWithKey_L2, if_neg h1, h2])))
        · have lc3 : c3 < S := hI.2.2.2.2.2.2.1 _ _ h2
          refine W.eq (g2 := F0 m 16 ls [.ref (E.2.2 (46 + 6 * c3))]) rfl ?_
          refine lv_astore_n (lv' := [(3, .ref (E.2.2 (46 + 6 * c3))), (0, .ref (E.2.2 6)), (1, .int p0), (2, .int i)]) hx hb dX1_firstWithKey_16 rfl hl (by decide) rfl (fun ls hl => ?_)
          refine lv_aload_n hx hb dX1_firstWithKey_17 rfl (lv_at hl 0 rfl) ?_
          refine lv_ifnull hx hb dX1_firstWithKey_18 ?_
          refine lv_iload_n hx hb dX1_firstWithKey_21 rfl (lv_at hl 2 rfl) ?_
          refine k_callSN (rest := []) hx hb hml hown hts (c_X5_isKey l E S _ z p0) hW.2.2.2.1.2.1.2.2 ls_X5_isKey li_X5 lk_X5_isKey (show k_nm yX5_isKey 1 by decide +kernel) ⟨Nat.le_of_ble_eq_true rfl, Nat.le_of_ble_eq_true rfl⟩ rfl rfl ⟨Nat.le_of_ble_eq_true rfl, Nat.le_of_ble_eq_true rfl⟩ hl.1 rfl (Nat.le_of_ble_eq_true rfl) dX1_firstWithKey_22 hW (fun v z1 H locs hp hW => ?_)
          obtain ⟨rfl, hz1⟩ := hp
          rw [hz1] at hW
          refine W.eq (g2 := F0 m 25 ls [.int (f_X5_isKey z p0)]) rfl ?_
          refine lv_if_eq (tgt := 42) hx hb dX1_firstWithKey_25 (by decide) (fun h4 => ?_) (fun h4 => ?_)
          · refine lv_iinc (v := i + 1) (lv' := [(2, .int (i + 1)), (3, .ref (E.2.2 (46 + 6 * c3))), (0, .ref (E.2.2 6)), (1, .int p0)]) hx hb dX1_firstWithKey_42 hl (k := 3) rfl rfl (by decide) rfl (fun ls hl => ?_)
            refine lv_goto (tgt := 2) hx hb dX1_firstWithKey_45 (by decide) ?_
            exact ih (i + 1) _ _ _ (in_s0 hi0 h1 hI.2.2.1.2) (in_sm hi0 h1 hI.2.2.1.2 hm) hW (lv_sub hl [2, 3, 0] rfl) (Eq.symm (hG.symm.trans (by simp only [f_X1_firstWithKey_L2, if_neg h1, h2, if_pos h4])))
          · refine lv_aload_n hx hb dX1_firstWithKey_28 rfl (lv_at hl 0 rfl) ?_
            refine k_get hx hb hts inlX3 hown hW (46 + 6 * c3) (by omega) (k_cell_sec c3) rfl 14 (by decide) lf_RX1_77 rfl (v := .ref (E.2.2 (46 + 6 * c3 + 5))) rfl dX1_firstWithKey_29 ?_
            refine lv_iload_n hx hb dX1_firstWithKey_32 rfl (lv_at hl 2 rfl) ?_
            refine k_zald hx hb hW (46 + 6 * c3 + 5) 10 (by omega) (k_cell_sh c3) (v := (z.1 (46 + 6 * c3 + 5) p0.toNatClampNeg)) (by exact key_in h4) rfl dX1_firstWithKey_33 ?_
            refine lv_if_eq (tgt := 42) hx hb dX1_firstWithKey_34 (by decide) (fun h5 => ?_) (fun h5 => ?_)
            · refine lv_iinc (v := i + 1) (lv' := [(2, .int (i + 1)), (3, .ref (E.2.2 (46 + 6 * c3))), (0, .ref (E.2.2 6)), (1, .int p0)]) hx hb dX1_firstWithKey_42 hl (k := 3) rfl rfl (by decide) rfl (fun ls hl => ?_)
              refine lv_goto (tgt := 2) hx hb dX1_firstWithKey_45 (by decide) ?_
              exact ih (i + 1) _ _ _ (in_s0 hi0 h1 hI.2.2.1.2) (in_sm hi0 h1 hI.2.2.1.2 hm) hW (lv_sub hl [2, 3, 0] rfl) (Eq.symm (hG.symm.trans (by simp only [f_X1_firstWithKey_L2, if_neg h1, h2, if_neg h4, if_pos h5])))
            · refine lv_aload_n hx hb dX1_firstWithKey_37 rfl (lv_at hl 0 rfl) ?_
              refine k_get hx hb hts inlX3 hown hW (46 + 6 * c3) (by omega) (k_cell_sec c3) rfl 0 (by decide) lf_RX1_70 rfl (v := .int (z.1 (46 + 6 * c3) 0)) rfl dX1_firstWithKey_38 ?_
              have hR : (f_X1_firstWithKey z p0) = (z.1 (46 + 6 * c3) 0) := (hG.symm.trans (by simp only [f_X1_firstWithKey_L2, if_neg h1, h2, if_neg h4, if_neg h5]))
              exact k_iret hx hb hr rfl hlocks hW ⟨by rw [hR], rfl⟩ dX1_firstWithKey_41
  have hl : lv_has ls 4 [(0, .ref (E.2.2 6)), (1, .int p0)] := hl
  refine lv_iconst (v := 0) hx hb dX1_firstWithKey_0 (by decide) ?_
  refine lv_istore_n (lv' := [(2, .int 0), (0, .ref (E.2.2 6)), (1, .int p0)]) hx hb dX1_firstWithKey_1 rfl hl (by decide) rfl (fun ls hl => ?_)
  exact L2 13 0 _ _ _ (by decide) (by decide) hW (lv_sub hl [1, 2, 0] rfl) (Eq.symm (by simp only [f_X1_firstWithKey]))
