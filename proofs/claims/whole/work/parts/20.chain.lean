def f_X2_readRowsOf (z : Sg) (c : Nat) : Sg :=
  if (z.1 (46 + 6 * c) 1) = 0 then
    let z5 := (f_X2_readTable (uI z 17 2 (z.1 (46 + 6 * c) 0)) c)
    z5
  else
    let z3 := (f_X2_readStream (uI z 17 2 (z.1 (46 + 6 * c) 0)) c)
    z3
set_option maxHeartbeats 4000000 in
set_option maxRecDepth 100000 in
theorem c_X2_readRowsOf (l : Launch) (E : Ev) (S sz : Nat) (z : Sg) (c : Nat) (lc : c < S) (hI : k_I S z) : k_Met l yX2_readRowsOf cX2_readRowsOf 2 none ({ frames := 5, cells := 0, slots := 0, locals := 106 }) [.ref (E.2.2 17), .ref (E.2.2 (46 + 6 * c))] E (46 + 6 * S) z sz (fun v u => v = none ∧ u = (f_X2_readRowsOf z c)) 0 0 := by
  refine k_body (by decide +kernel) (Nat.le_of_ble_eq_true rfl) ?_
  intro p e s m below meth cd ls hx hb hr hml hown hlocks hts hW hl
  have hl : lv_has ls 2 [(0, .ref (E.2.2 17)), (1, .ref (E.2.2 (46 + 6 * c)))] := hl
  refine lv_aload_n hx hb dX2_readRowsOf_0 rfl (lv_at hl 0 rfl) ?_
  refine lv_aload_n hx hb dX2_readRowsOf_1 rfl (lv_at hl 1 rfl) ?_
  refine k_get hx hb hts inlX3 hown hW (46 + 6 * c) (by omega) (k_cell_sec c) rfl 0 (by decide) lf_RX2_22 rfl (v := .int (z.1 (46 + 6 * c) 0)) rfl dX2_readRowsOf_2 ?_
  refine k_putI hx hb hts inlX2 tyX2_ok nmX2 hown hW 17 (by omega) k_c17 rfl 2 (by decide) lf_RX2_28 rfl rfl (tyX2_ok 2 (by decide)) (Nat.le_of_ble_eq_true rfl) ks_X2_2 dX2_readRowsOf_5 (fun H locs hW => ?_)
  refine lv_aload_n hx hb dX2_readRowsOf_8 rfl (lv_at hl 1 rfl) ?_
  refine k_get hx hb hts inlX3 hown hW (46 + 6 * c) (by omega) (k_cell_sec c) rfl 1 (by decide) lf_RX2_31 rfl (v := .int (z.1 (46 + 6 * c) 1)) (by rw [uI_r (show (46 + 6 * c) ≠ 17 by omega)]; rfl) dX2_readRowsOf_9 ?_
  refine lv_if_ne (tgt := 23) hx hb dX2_readRowsOf_12 (by decide) (fun h1 => ?_) (fun h1 => ?_)
  · refine lv_aload_n hx hb dX2_readRowsOf_23 rfl (lv_at hl 0 rfl) ?_
    refine lv_aload_n hx hb dX2_readRowsOf_24 rfl (lv_at hl 1 rfl) ?_
    refine k_callV (As := [.ref (E.2.2 (46 + 6 * c))]) (rest := []) hx hb hml hown hts (c_X2_readStream l E S _ (uI z 17 2 (z.1 (46 + 6 * c) 0)) c lc (k_I_u (by decide) hI)) lm_RX2_38 ln_X2_readStream le_X2_readStream li_X2 lk_X2_readStream (show k_nm yX2_readStream 1 by decide +kernel) ⟨Nat.le_of_ble_eq_true rfl, Nat.le_of_ble_eq_true rfl⟩ rfl rfl ⟨Nat.le_of_ble_eq_true rfl, Nat.le_of_ble_eq_true rfl⟩ hl.1 rfl (Nat.le_of_ble_eq_true rfl) dX2_readRowsOf_25 (by omega) (k_c17 _ _ _) rfl hW (fun v z1 H locs hp hW => ?_)
    obtain ⟨rfl, hz1⟩ := hp
    rw [hz1] at hW
    obtain ⟨z3, ez3⟩ : ∃ y9 : Sg, y9 = (f_X2_readStream (uI z 17 2 (z.1 (46 + 6 * c) 0)) c) := ⟨_, rfl⟩
    rw [← ez3] at hW
    have Jz3 : k_I S z3 := by rw [ez3]; exact I_readStream (k_I_u (by decide) hI)
    refine W.eq (g2 := F0 m 28 ls []) rfl ?_
    have hR : (f_X2_readRowsOf z c) = z3 := (by subst ez3; simp only [f_X2_readRowsOf, if_neg h1])
    exact k_vret hx hb hr hlocks hW ⟨rfl, by rw [hR]⟩ dX2_readRowsOf_28
  · refine lv_aload_n hx hb dX2_readRowsOf_15 rfl (lv_at hl 0 rfl) ?_
    refine lv_aload_n hx hb dX2_readRowsOf_16 rfl (lv_at hl 1 rfl) ?_
    refine k_callV (As := [.ref (E.2.2 (46 + 6 * c))]) (rest := []) hx hb hml hown hts (c_X2_readTable l E S _ (uI z 17 2 (z.1 (46 + 6 * c) 0)) c lc (k_I_u (by decide) hI)) lm_RX2_34 ln_X2_readTable le_X2_readTable li_X2 lk_X2_readTable (show k_nm yX2_readTable 1 by decide +kernel) ⟨Nat.le_of_ble_eq_true rfl, Nat.le_of_ble_eq_true rfl⟩ rfl rfl ⟨Nat.le_of_ble_eq_true rfl, Nat.le_of_ble_eq_true rfl⟩ hl.1 rfl (Nat.le_of_ble_eq_true rfl) dX2_readRowsOf_17 (by omega) (k_c17 _ _ _) rfl hW (fun v z1 H locs hp hW => ?_)
    obtain ⟨rfl, hz1⟩ := hp
    rw [hz1] at hW
    obtain ⟨z5, ez5⟩ : ∃ y9 : Sg, y9 = (f_X2_readTable (uI z 17 2 (z.1 (46 + 6 * c) 0)) c) := ⟨_, rfl⟩
    rw [← ez5] at hW
    have Jz5 : k_I S z5 := by rw [ez5]; exact I_readTable lc (k_I_u (by decide) hI)
    refine W.eq (g2 := F0 m 20 ls []) rfl ?_
    refine lv_goto (tgt := 28) hx hb dX2_readRowsOf_20 (by decide) ?_
    have hR : (f_X2_readRowsOf z c) = z5 := (by subst ez5; simp only [f_X2_readRowsOf, if_pos h1])
    exact k_vret hx hb hr hlocks hW ⟨rfl, by rw [hR]⟩ dX2_readRowsOf_28

theorem I_readRowsOf {S c : Nat} {z : Sg} (lc : c < S) (hI : k_I S z) : k_I S (f_X2_readRowsOf z c) := by
  unfold f_X2_readRowsOf
  split
  · exact I_readTable lc (k_I_u (by decide) hI)
  · exact I_readStream (k_I_u (by decide) hI)
theorem I_enter {S c : Nat} {z : Sg} (lc : c < S) (hI : k_I S z) : k_I S (f_X1_enter z c) := by
  unfold f_X1_enter
  by_cases h : (12 : Int32) ≤ (z.1 6 1)
  · rw [if_pos h]; exact hI
  · rw [if_neg h]
    refine k_I_of hI (fun q hq => uI_r (by omega)) ?_ hI.2.2.2.1 hI.2.2.2.2.1 rfl (fun i c' g => ?_) hI.2.2.2.2.2.2.2.1 (show k_T z from k_IT hI)
    · show 0 ≤ (z.1 6 1 + 1).toInt ∧ (z.1 6 1 + 1).toInt ≤ 12
      exact ⟨in_s0 (m := 12) (n := 12) hI.2.2.1.1 h (by decide), in_le1 (m := 12) (n := 12) h (by decide)⟩
    · have g : va_up (z.2.2 7) (z.1 6 1).toNatClampNeg (some c) i = some c' := g
      unfold va_up at g
      split at g
      · cases g; exact lc
      · exact hI.2.2.2.2.2.2.1 _ _ g

def f_X5_sectionAt_L2 (z : Sg) (p0 : Int64) : Nat → Int32 → Option Nat
  | 0, _ => none
  | k + 1, i =>
    if (z.1 0 1) ≤ i then
      none
    else
      if (z.2.1 (46 + 6 * i.toNatClampNeg) 2) = p0 then
        some i.toNatClampNeg
      else
        f_X5_sectionAt_L2 z p0 k (i + 1)
termination_by k9 => k9
def f_X5_sectionAt (z : Sg) (p0 : Int64) : Option Nat :=
  f_X5_sectionAt_L2 z p0 13 0
set_option maxHeartbeats 4000000 in
set_option maxRecDepth 100000 in
theorem c_X5_sectionAt (l : Launch) (E : Ev) (S sz : Nat) (z : Sg) (p0 : Int64) (hI : k_I S z) : k_Met l yX5_sectionAt cX5_sectionAt 5 (some (.object "CrossTables$Section")) ({ frames := 0, cells := 0, slots := 0, locals := 0 }) [.ref (E.2.2 0), .long p0] E (46 + 6 * S) z sz (fun v u => v = some (k_o E (f_X5_sectionAt z p0)) ∧ u = z) 0 0 := by
  refine k_body (by decide +kernel) (Nat.le_of_ble_eq_true rfl) ?_
  intro p e s m below meth cd ls hx hb hr hml hown hlocks hts hW hl
  have L2 : ∀ (k : Nat) (i : Int32) (H : Heap) (locs : List Loc) (ls : Array Slot), (0 ≤ i.toInt) → 12 - i.toInt.toNat < k → k_W E (46 + 6 * S) z (k_A E (46 + 6 * S) z s.heap.size) s H locs → lv_has ls 5 [(0, .ref (E.2.2 0)), (1, .long p0), (3, .int i)] → f_X5_sectionAt_L2 z p0 k i = (f_X5_sectionAt z p0) → W p l e ({ frames := 0, cells := 0, slots := 0, locals := 0 }) s m ([.ref (E.2.2 0), .long p0] : List Value).toArray below meth cd H locs 0 0 (MQ below (k_Q (fun v u => v = some (k_o E (f_X5_sectionAt z p0)) ∧ u = z) E (46 + 6 * S) z s.heap.size) ([.ref (E.2.2 0), .long p0] : List Value).toArray s 0 0 (k_A E (46 + 6 * S) z s.heap.size)) (F0 m 2 ls []) := by
    intro k
    induction k with
    | zero =>
      intro i H locs ls hi0 hm
      exact absurd hm (Nat.not_lt_zero _)
    | succ k ih =>
      intro i H locs ls hi0 hm hW hl hG
      have hS2 : (z.1 0 1).toInt ≤ (12 : Nat) := by rw [hI.1.2]; have := hI.1.1; omega
      refine lv_iload_n hx hb dX5_sectionAt_2 rfl (lv_at hl 2 rfl) ?_
      refine lv_aload_n hx hb dX5_sectionAt_3 rfl (lv_at hl 0 rfl) ?_
      refine k_get hx hb hts inlX5 hown hW 0 (by omega) k_c0 rfl 1 (by decide) lf_RX5_15 rfl (v := .int (z.1 0 1)) rfl dX5_sectionAt_4 ?_
      refine lv_icmp_ge (tgt := 42) hx hb dX5_sectionAt_7 (by decide) (fun h1 => ?_) (fun h1 => ?_)
      · refine lv_null hx hb dX5_sectionAt_42 ?_
        have hR : (f_X5_sectionAt z p0) = none := (hG.symm.trans (by simp only [f_X5_sectionAt_L2, if_pos h1]))
        exact k_aret (o := none) hx hb hr hlocks hW ⟨by rw [hR], rfl⟩ dX5_sectionAt_43
      · refine lv_aload_n hx hb dX5_sectionAt_10 rfl (lv_at hl 0 rfl) ?_
        refine k_get hx hb hts inlX5 hown hW 0 (by omega) k_c0 rfl 0 (by decide) lf_RX5_11 rfl (v := .ref (E.2.2 1)) rfl dX5_sectionAt_11 ?_
        refine lv_iload_n hx hb dX5_sectionAt_14 rfl (lv_at hl 2 rfl) ?_
        refine k_aald hx hb hW 1 12 (by omega) k_c1 (v := (z.2.2 1 i.toNatClampNeg)) (by exact in_lt3 hi0 h1 (by rw [hI.1.2]; have := hI.1.1; omega)) rfl dX5_sectionAt_15 ?_
        have lk4 : i.toNatClampNeg < S := in_clS hi0 h1 hI.1.2
        rw [show (z.2.2 1 i.toNatClampNeg) = some i.toNatClampNeg from hI.2.2.2.2.2.1 _ (in_clS hi0 h1 hI.1.2)]
        refine W.eq (g2 := F0 m 16 ls [.ref (E.2.2 (46 + 6 * i.toNatClampNeg))]) rfl ?_
        refine lv_astore (lv' := [(4, .ref (E.2.2 (46 + 6 * i.toNatClampNeg))), (0, .ref (E.2.2 0)), (1, .long p0), (3, .int i)]) hx hb dX5_sectionAt_16 hl (by decide) rfl (fun ls hl => ?_)
        refine lv_aload hx hb dX5_sectionAt_18 (lv_at hl 0 rfl) ?_
        refine lv_ifnull hx hb dX5_sectionAt_20 ?_
        refine lv_aload hx hb dX5_sectionAt_23 (lv_at hl 0 rfl) ?_
        refine k_get hx hb hts inlX3 hown hW (46 + 6 * i.toNatClampNeg) (by omega) (k_cell_sec i.toNatClampNeg) rfl 2 (by decide) lf_RX5_247 rfl (v := .long (z.2.1 (46 + 6 * i.toNatClampNeg) 2)) rfl dX5_sectionAt_25 ?_
        refine lv_lload_n hx hb dX5_sectionAt_28 rfl (lv_at hl 2 rfl) ?_
        refine k_lif_ne (tgt := 36) hx hb dX5_sectionAt_29 dX5_sectionAt_30 (by decide) (fun h5 => ?_) (fun h5 => ?_)
        · refine lv_iinc (v := i + 1) (lv' := [(3, .int (i + 1)), (4, .ref (E.2.2 (46 + 6 * i.toNatClampNeg))), (0, .ref (E.2.2 0)), (1, .long p0)]) hx hb dX5_sectionAt_36 hl (k := 3) rfl rfl (by decide) rfl (fun ls hl => ?_)
          refine lv_goto (tgt := 2) hx hb dX5_sectionAt_39 (by decide) ?_
          exact ih (i + 1) _ _ _ (in_s0 hi0 h1 hS2) (in_sm hi0 h1 hS2 hm) hW (lv_sub hl [2, 3, 0] rfl) (Eq.symm (hG.symm.trans (by simp only [f_X5_sectionAt_L2, if_neg h1, if_neg h5])))
        · refine lv_aload hx hb dX5_sectionAt_33 (lv_at hl 0 rfl) ?_
          have hR : (f_X5_sectionAt z p0) = some i.toNatClampNeg := (hG.symm.trans (by simp only [f_X5_sectionAt_L2, if_neg h1, if_pos h5]))
          exact k_aret (o := some i.toNatClampNeg) hx hb hr hlocks hW ⟨by rw [hR], rfl⟩ dX5_sectionAt_35
  have hl : lv_has ls 5 [(0, .ref (E.2.2 0)), (1, .long p0)] := hl
  refine lv_iconst (v := 0) hx hb dX5_sectionAt_0 (by decide) ?_
  refine lv_istore_n (lv' := [(3, .int 0), (0, .ref (E.2.2 0)), (1, .long p0)]) hx hb dX5_sectionAt_1 rfl hl (by decide) rfl (fun ls hl => ?_)
  exact L2 13 0 _ _ _ (by decide) (by decide) hW (lv_sub hl [1, 2, 0] rfl) (Eq.symm (by simp only [f_X5_sectionAt]))

theorem lt_sectionAt_L2 {S : Nat} {z : Sg} {p : Int64} (hI : k_I S z) : ∀ (k : Nat) (i : Int32) (c : Nat), 0 ≤ i.toInt → f_X5_sectionAt_L2 z p k i = some c → c < S := by
  intro k
  induction k with
  | zero => intro i c _ h; rw [f_X5_sectionAt_L2] at h; cases h
  | succ k ih =>
    intro i c h0 h
    rw [f_X5_sectionAt_L2] at h
    by_cases g : (z.1 0 1) ≤ i
    · rw [if_pos g] at h; cases h
    · rw [if_neg g] at h
      split at h
      · cases h; exact in_clS h0 g hI.1.2
      · exact ih _ c (in_s0 h0 g (n := 12) (by rw [hI.1.2]; have := hI.1.1; omega)) h
theorem lt_sectionAt {S : Nat} {z : Sg} {p : Int64} {c : Nat} (hI : k_I S z) (h : f_X5_sectionAt z p = some c) : c < S := lt_sectionAt_L2 hI _ _ _ (by decide) h

def f_X5_goOrTell_n (z : Sg) (c : Nat) (p0 : Int64) : Option Nat × Sg :=
  if p0 = (-1) then
    (none, z)
  else
    let z3 := (f_X1_tell z 2 (z.1 (46 + 6 * c) 0) p0)
    (none, z3)
set_option maxHeartbeats 4000000 in
set_option maxRecDepth 100000 in
theorem c_X5_goOrTell_n (l : Launch) (E : Ev) (S sz : Nat) (z : Sg) (c : Nat) (p0 : Int64) (lc : c < S) (hI : k_I S z) : k_Met l yX5_goOrTell cX5_goOrTell 5 (some (.object "CrossTables$Section")) ({ frames := 1, cells := 0, slots := 0, locals := 24 }) [.ref (E.2.2 0), .ref (E.2.2 (46 + 6 * c)), .long p0, .null] E (46 + 6 * S) z sz (fun v u => v = some (k_o E ((f_X5_goOrTell_n z c p0).1)) ∧ u = (f_X5_goOrTell_n z c p0).2) 0 0 := by
  refine k_body (by decide +kernel) (Nat.le_of_ble_eq_true rfl) ?_
  intro p e s m below meth cd ls hx hb hr hml hown hlocks hts hW hl
  have hl : lv_has ls 5 [(0, .ref (E.2.2 0)), (1, .ref (E.2.2 (46 + 6 * c))), (2, .long p0), (4, .null)] := hl
  refine lv_lload_n hx hb dX5_goOrTell_0 rfl (lv_at hl 2 rfl) ?_
  refine lv_ldc2 (v := (-1)) hx hb hown (hts _ lc_RX5_194) dX5_goOrTell_1 ?_
  refine k_lif_ne (tgt := 10) hx hb dX5_goOrTell_4 dX5_goOrTell_5 (by decide) (fun h1 => ?_) (fun h1 => ?_)
  · refine lv_aloadN hx hb dX5_goOrTell_10 (lv_at hl 3 rfl) ?_
    refine lv_ifnonnullN hx hb dX5_goOrTell_12 ?_
    refine lv_aload_n hx hb dX5_goOrTell_15 rfl (lv_at hl 0 rfl) ?_
    refine k_get hx hb hts inlX5 hown hW 0 (by omega) k_c0 rfl 3 (by decide) lf_RX5_29 rfl (v := .ref (E.2.2 6)) rfl dX5_goOrTell_16 ?_
    refine lv_iconst (v := 2) hx hb dX5_goOrTell_19 (by decide) ?_
    refine lv_aload_n hx hb dX5_goOrTell_20 rfl (lv_at hl 1 rfl) ?_
    refine k_get hx hb hts inlX3 hown hW (46 + 6 * c) (by omega) (k_cell_sec c) rfl 0 (by decide) lf_RX5_270 rfl (v := .int (z.1 (46 + 6 * c) 0)) rfl dX5_goOrTell_21 ?_
    refine lv_lload_n hx hb dX5_goOrTell_24 rfl (lv_at hl 2 rfl) ?_
    refine k_callV (As := [.int 2, .int (z.1 (46 + 6 * c) 0), .long p0]) (rest := []) hx hb hml hown hts (c_X1_tell l E S _ z 2 (z.1 (46 + 6 * c) 0) p0 hI) lm_RX5_273 ln_X1_tell le_X1_tell li_X1 lk_X1_tell (show k_nm yX1_tell 3 by decide +kernel) ⟨Nat.le_of_ble_eq_true rfl, Nat.le_of_ble_eq_true rfl⟩ rfl rfl ⟨Nat.le_of_ble_eq_true rfl, Nat.le_of_ble_eq_true rfl⟩ hl.1 rfl (Nat.le_of_ble_eq_true rfl) dX5_goOrTell_25 (by omega) (k_c6 _ _ _) rfl hW (fun v z1 H locs hp hW => ?_)
    obtain ⟨rfl, hz1⟩ := hp
    rw [hz1] at hW
    obtain ⟨z3, ez3⟩ : ∃ y9 : Sg, y9 = (f_X1_tell z 2 (z.1 (46 + 6 * c) 0) p0) := ⟨_, rfl⟩
    rw [← ez3] at hW
    have Jz3 : k_I S z3 := by rw [ez3]; exact I_tell hI
    refine W.eq (g2 := F0 m 28 ls []) rfl ?_
    refine lv_null hx hb dX5_goOrTell_28 ?_
    have hR : (f_X5_goOrTell_n z c p0) = (none, z3) := (by subst ez3; simp only [f_X5_goOrTell_n, if_neg h1])
    exact k_aret (o := none) hx hb hr hlocks hW ⟨by rw [hR], by rw [hR]⟩ dX5_goOrTell_29
  · refine lv_null hx hb dX5_goOrTell_8 ?_
    have hR : (f_X5_goOrTell_n z c p0) = (none, z) := (by simp only [f_X5_goOrTell_n, if_pos h1])
    exact k_aret (o := none) hx hb hr hlocks hW ⟨by rw [hR], by rw [hR]⟩ dX5_goOrTell_9

def f_X5_goOrTell_s (z : Sg) (c : Nat) (p0 : Int64) (d : Nat) : Option Nat × Sg :=
  if p0 = (-1) then
    (none, z)
  else
    if (f_X1_holds z d) = 0 then
      (some d, z)
    else
      let z4 := (f_X1_tell z 1 (z.1 (46 + 6 * c) 0) p0)
      (none, z4)
set_option maxHeartbeats 4000000 in
set_option maxRecDepth 100000 in
theorem c_X5_goOrTell_s (l : Launch) (E : Ev) (S sz : Nat) (z : Sg) (c : Nat) (p0 : Int64) (d : Nat) (lc : c < S) (ld : d < S) (hI : k_I S z) : k_Met l yX5_goOrTell cX5_goOrTell 5 (some (.object "CrossTables$Section")) ({ frames := 1, cells := 0, slots := 0, locals := 24 }) [.ref (E.2.2 0), .ref (E.2.2 (46 + 6 * c)), .long p0, .ref (E.2.2 (46 + 6 * d))] E (46 + 6 * S) z sz (fun v u => v = some (k_o E ((f_X5_goOrTell_s z c p0 d).1)) ∧ u = (f_X5_goOrTell_s z c p0 d).2) 0 0 := by
  refine k_body (by decide +kernel) (Nat.le_of_ble_eq_true rfl) ?_
  intro p e s m below meth cd ls hx hb hr hml hown hlocks hts hW hl
  have hl : lv_has ls 5 [(0, .ref (E.2.2 0)), (1, .ref (E.2.2 (46 + 6 * c))), (2, .long p0), (4, .ref (E.2.2 (46 + 6 * d)))] := hl
  refine lv_lload_n hx hb dX5_goOrTell_0 rfl (lv_at hl 2 rfl) ?_
  refine lv_ldc2 (v := (-1)) hx hb hown (hts _ lc_RX5_194) dX5_goOrTell_1 ?_
  refine k_lif_ne (tgt := 10) hx hb dX5_goOrTell_4 dX5_goOrTell_5 (by decide) (fun h1 => ?_) (fun h1 => ?_)
  · refine lv_aload hx hb dX5_goOrTell_10 (lv_at hl 3 rfl) ?_
    refine lv_ifnonnull (tgt := 30) hx hb dX5_goOrTell_12 (by decide) ?_
    refine lv_aload_n hx hb dX5_goOrTell_30 rfl (lv_at hl 0 rfl) ?_
    refine k_get hx hb hts inlX5 hown hW 0 (by omega) k_c0 rfl 3 (by decide) lf_RX5_29 rfl (v := .ref (E.2.2 6)) rfl dX5_goOrTell_31 ?_
    refine lv_aload hx hb dX5_goOrTell_34 (lv_at hl 3 rfl) ?_
    refine k_callV (As := [.ref (E.2.2 (46 + 6 * d))]) (rest := []) hx hb hml hown hts (c_X1_holds l E S _ z d ld hI) lm_RX5_277 ln_X1_holds le_X1_holds li_X1 lk_X1_holds (show k_nm yX1_holds 1 by decide +kernel) ⟨Nat.le_of_ble_eq_true rfl, Nat.le_of_ble_eq_true rfl⟩ rfl rfl ⟨Nat.le_of_ble_eq_true rfl, Nat.le_of_ble_eq_true rfl⟩ hl.1 rfl (Nat.le_of_ble_eq_true rfl) dX5_goOrTell_36 (by omega) (k_c6 _ _ _) rfl hW (fun v z1 H locs hp hW => ?_)
    obtain ⟨rfl, hz1⟩ := hp
    rw [hz1] at hW
    refine W.eq (g2 := F0 m 39 ls [.int (f_X1_holds z d)]) rfl ?_
    refine lv_if_eq (tgt := 57) hx hb dX5_goOrTell_39 (by decide) (fun h2 => ?_) (fun h2 => ?_)
    · refine lv_aload hx hb dX5_goOrTell_57 (lv_at hl 3 rfl) ?_
      have hR : (f_X5_goOrTell_s z c p0 d) = (some d, z) := (by simp only [f_X5_goOrTell_s, if_neg h1, if_pos h2])
      exact k_aret (o := some d) hx hb hr hlocks hW ⟨by rw [hR], by rw [hR]⟩ dX5_goOrTell_59
    · refine lv_aload_n hx hb dX5_goOrTell_42 rfl (lv_at hl 0 rfl) ?_
      refine k_get hx hb hts inlX5 hown hW 0 (by omega) k_c0 rfl 3 (by decide) lf_RX5_29 rfl (v := .ref (E.2.2 6)) rfl dX5_goOrTell_43 ?_
      refine lv_iconst (v := 1) hx hb dX5_goOrTell_46 (by decide) ?_
      refine lv_aload_n hx hb dX5_goOrTell_47 rfl (lv_at hl 1 rfl) ?_
      refine k_get hx hb hts inlX3 hown hW (46 + 6 * c) (by omega) (k_cell_sec c) rfl 0 (by decide) lf_RX5_270 rfl (v := .int (z.1 (46 + 6 * c) 0)) rfl dX5_goOrTell_48 ?_
      refine lv_lload_n hx hb dX5_goOrTell_51 rfl (lv_at hl 2 rfl) ?_
      refine k_callV (As := [.int 1, .int (z.1 (46 + 6 * c) 0), .long p0]) (rest := []) hx hb hml hown hts (c_X1_tell l E S _ z 1 (z.1 (46 + 6 * c) 0) p0 hI) lm_RX5_273 ln_X1_tell le_X1_tell li_X1 lk_X1_tell (show k_nm yX1_tell 3 by decide +kernel) ⟨Nat.le_of_ble_eq_true rfl, Nat.le_of_ble_eq_true rfl⟩ rfl rfl ⟨Nat.le_of_ble_eq_true rfl, Nat.le_of_ble_eq_true rfl⟩ hl.1 rfl (Nat.le_of_ble_eq_true rfl) dX5_goOrTell_52 (by omega) (k_c6 _ _ _) rfl hW (fun v z1 H locs hp hW => ?_)
      obtain ⟨rfl, hz1⟩ := hp
      rw [hz1] at hW
      obtain ⟨z4, ez4⟩ : ∃ y9 : Sg, y9 = (f_X1_tell z 1 (z.1 (46 + 6 * c) 0) p0) := ⟨_, rfl⟩
      rw [← ez4] at hW
      have Jz4 : k_I S z4 := by rw [ez4]; exact I_tell hI
      refine W.eq (g2 := F0 m 55 ls []) rfl ?_
      refine lv_null hx hb dX5_goOrTell_55 ?_
      have hR : (f_X5_goOrTell_s z c p0 d) = (none, z4) := (by subst ez4; simp only [f_X5_goOrTell_s, if_neg h1, if_neg h2])
      exact k_aret (o := none) hx hb hr hlocks hW ⟨by rw [hR], by rw [hR]⟩ dX5_goOrTell_56
  · refine lv_null hx hb dX5_goOrTell_8 ?_
    have hR : (f_X5_goOrTell_s z c p0 d) = (none, z) := (by simp only [f_X5_goOrTell_s, if_pos h1])
    exact k_aret (o := none) hx hb hr hlocks hW ⟨by rw [hR], by rw [hR]⟩ dX5_goOrTell_9

theorem I_goOrTell_n {S c : Nat} {z : Sg} {p : Int64} (hI : k_I S z) : k_I S (f_X5_goOrTell_n z c p).2 ∧ ∀ d, (f_X5_goOrTell_n z c p).1 = some d → d < S := by
  unfold f_X5_goOrTell_n
  split
  · exact ⟨hI, fun d h => by cases h⟩
  · exact ⟨I_tell hI, fun d h => by cases h⟩
theorem I_goOrTell_s {S c d : Nat} {z : Sg} {p : Int64} (ld : d < S) (hI : k_I S z) : k_I S (f_X5_goOrTell_s z c p d).2 ∧ ∀ d', (f_X5_goOrTell_s z c p d).1 = some d' → d' < S := by
  unfold f_X5_goOrTell_s
  split
  · exact ⟨hI, fun d h => by cases h⟩
  · split
    · exact ⟨hI, fun d' h => by cases h; exact ld⟩
    · exact ⟨I_tell hI, fun d h => by cases h⟩

def f_X5_besideToGoTo (z : Sg) (c : Nat) : Option Nat × Sg :=
  match (f_X5_sectionAt z (z.2.1 (46 + 6 * c) 4)) with
  | none =>
    let z4 := (f_X5_goOrTell_n z c (z.2.1 (46 + 6 * c) 4)).2
    match (f_X5_goOrTell_n z c (z.2.1 (46 + 6 * c) 4)).1 with
    | none =>
      (none, z4)
    | some c6 =>
      (some c6, z4)
  | some c2 =>
    if (z.1 (46 + 6 * c2) 1) = 1 then
      let z13 := (f_X5_goOrTell_s z c (z.2.1 (46 + 6 * c) 4) c2).2
      match (f_X5_goOrTell_s z c (z.2.1 (46 + 6 * c) 4) c2).1 with
      | none =>
        (none, z13)
      | some c15 =>
        (some c15, z13)
    else
      let z9 := (f_X5_goOrTell_n z c (z.2.1 (46 + 6 * c) 4)).2
      match (f_X5_goOrTell_n z c (z.2.1 (46 + 6 * c) 4)).1 with
      | none =>
        (none, z9)
      | some c11 =>
        (some c11, z9)
set_option maxHeartbeats 4000000 in
set_option maxRecDepth 100000 in
theorem c_X5_besideToGoTo (l : Launch) (E : Ev) (S sz : Nat) (z : Sg) (c : Nat) (lc : c < S) (hI : k_I S z) : k_Met l yX5_besideToGoTo cX5_besideToGoTo 4 (some (.object "CrossTables$Section")) ({ frames := 2, cells := 0, slots := 0, locals := 48 }) [.ref (E.2.2 0), .ref (E.2.2 (46 + 6 * c))] E (46 + 6 * S) z sz (fun v u => v = some (k_o E ((f_X5_besideToGoTo z c).1)) ∧ u = (f_X5_besideToGoTo z c).2) 0 0 := by
  refine k_body (by decide +kernel) (Nat.le_of_ble_eq_true rfl) ?_
  intro p e s m below meth cd ls hx hb hr hml hown hlocks hts hW hl
  have hl : lv_has ls 4 [(0, .ref (E.2.2 0)), (1, .ref (E.2.2 (46 + 6 * c)))] := hl
  refine lv_aload_n hx hb dX5_besideToGoTo_0 rfl (lv_at hl 0 rfl) ?_
  refine lv_aload_n hx hb dX5_besideToGoTo_1 rfl (lv_at hl 1 rfl) ?_
  refine k_get hx hb hts inlX3 hown hW (46 + 6 * c) (by omega) (k_cell_sec c) rfl 4 (by decide) lf_RX5_97 rfl (v := .long (z.2.1 (46 + 6 * c) 4)) rfl dX5_besideToGoTo_2 ?_
  refine k_callV (As := [.long (z.2.1 (46 + 6 * c) 4)]) (rest := []) hx hb hml hown hts (c_X5_sectionAt l E S _ z (z.2.1 (46 + 6 * c) 4) hI) lm_RX5_53 ln_X5_sectionAt le_X5_sectionAt li_X5 lk_X5_sectionAt (show k_nm yX5_sectionAt 1 by decide +kernel) ⟨Nat.le_of_ble_eq_true rfl, Nat.le_of_ble_eq_true rfl⟩ rfl rfl ⟨Nat.le_of_ble_eq_true rfl, Nat.le_of_ble_eq_true rfl⟩ hl.1 rfl (Nat.le_of_ble_eq_true rfl) dX5_besideToGoTo_5 (by omega) (k_c0 _ _ _) rfl hW (fun v z1 H locs hp hW => ?_)
  obtain ⟨rfl, hz1⟩ := hp
  rw [hz1] at hW
  refine W.eq (g2 := F0 m 8 ls [k_o E (f_X5_sectionAt z (z.2.1 (46 + 6 * c) 4))]) rfl ?_
  rcases h1 : (f_X5_sectionAt z (z.2.1 (46 + 6 * c) 4)) with _ | c2
  · refine W.eq (g2 := F0 m 8 ls [.null]) rfl ?_
    refine lv_astore_nN (lv' := [(2, .null), (0, .ref (E.2.2 0)), (1, .ref (E.2.2 (46 + 6 * c)))]) hx hb dX5_besideToGoTo_8 rfl hl (by decide) rfl (fun ls hl => ?_)
    refine lv_aload_nN hx hb dX5_besideToGoTo_9 rfl (lv_at hl 0 rfl) ?_
    refine lv_ifnullN (tgt := 25) hx hb dX5_besideToGoTo_10 (by decide) ?_
    refine lv_null hx hb dX5_besideToGoTo_25 ?_
    refine lv_astore_nN (lv' := [(3, .null), (2, .null), (0, .ref (E.2.2 0)), (1, .ref (E.2.2 (46 + 6 * c)))]) hx hb dX5_besideToGoTo_26 rfl hl (by decide) rfl (fun ls hl => ?_)
    refine lv_aload_n hx hb dX5_besideToGoTo_27 rfl (lv_at hl 2 rfl) ?_
    refine lv_aload_n hx hb dX5_besideToGoTo_28 rfl (lv_at hl 3 rfl) ?_
    refine lv_aload_n hx hb dX5_besideToGoTo_29 rfl (lv_at hl 3 rfl) ?_
    refine k_get hx hb hts inlX3 hown hW (46 + 6 * c) (by omega) (k_cell_sec c) rfl 4 (by decide) lf_RX5_97 rfl (v := .long (z.2.1 (46 + 6 * c) 4)) rfl dX5_besideToGoTo_30 ?_
    refine lv_aload_nN hx hb dX5_besideToGoTo_33 rfl (lv_at hl 0 rfl) ?_
    refine k_callV (As := [.ref (E.2.2 (46 + 6 * c)), .long (z.2.1 (46 + 6 * c) 4), .null]) (rest := []) hx hb hml hown hts (c_X5_goOrTell_n l E S _ z c (z.2.1 (46 + 6 * c) 4) lc hI) lm_RX5_263 ln_X5_goOrTell le_X5_goOrTell li_X5 lk_X5_goOrTell (show k_nm yX5_goOrTell 3 by decide +kernel) ⟨Nat.le_of_ble_eq_true rfl, Nat.le_of_ble_eq_true rfl⟩ rfl rfl ⟨Nat.le_of_ble_eq_true rfl, Nat.le_of_ble_eq_true rfl⟩ hl.1 rfl (Nat.le_of_ble_eq_true rfl) dX5_besideToGoTo_34 (by omega) (k_c0 _ _ _) rfl hW (fun v z1 H locs hp hW => ?_)
    obtain ⟨rfl, hz1⟩ := hp
    rw [hz1] at hW
    obtain ⟨z4, ez4⟩ : ∃ y9 : Sg, y9 = (f_X5_goOrTell_n z c (z.2.1 (46 + 6 * c) 4)).2 := ⟨_, rfl⟩
    rw [← ez4] at hW
    have Jz4 : k_I S z4 := by rw [ez4]; exact (I_goOrTell_n hI).1
    refine W.eq (g2 := F0 m 37 ls [k_o E ((f_X5_goOrTell_n z c (z.2.1 (46 + 6 * c) 4)).1)]) rfl ?_
    rcases h5 : (f_X5_goOrTell_n z c (z.2.1 (46 + 6 * c) 4)).1 with _ | c6
    · refine W.eq (g2 := F0 m 37 ls [.null]) rfl ?_
      have hR : (f_X5_besideToGoTo z c) = (none, z4) := (by subst ez4; simp only [f_X5_besideToGoTo, h1, h5])
      exact k_aret (o := none) hx hb hr hlocks hW ⟨by rw [hR], by rw [hR]⟩ dX5_besideToGoTo_37
    · have lc6 : c6 < S := (I_goOrTell_n hI).2 _ h5
      refine W.eq (g2 := F0 m 37 ls [.ref (E.2.2 (46 + 6 * c6))]) rfl ?_
      have hR : (f_X5_besideToGoTo z c) = (some c6, z4) := (by subst ez4; simp only [f_X5_besideToGoTo, h1, h5])
      exact k_aret (o := some c6) hx hb hr hlocks hW ⟨by rw [hR], by rw [hR]⟩ dX5_besideToGoTo_37
  · have lc2 : c2 < S := lt_sectionAt hI h1
    refine W.eq (g2 := F0 m 8 ls [.ref (E.2.2 (46 + 6 * c2))]) rfl ?_
    refine lv_astore_n (lv' := [(2, .ref (E.2.2 (46 + 6 * c2))), (0, .ref (E.2.2 0)), (1, .ref (E.2.2 (46 + 6 * c)))]) hx hb dX5_besideToGoTo_8 rfl hl (by decide) rfl (fun ls hl => ?_)
    refine lv_aload_n hx hb dX5_besideToGoTo_9 rfl (lv_at hl 0 rfl) ?_
    refine lv_ifnull hx hb dX5_besideToGoTo_10 ?_
    refine lv_aload_n hx hb dX5_besideToGoTo_13 rfl (lv_at hl 0 rfl) ?_
    refine k_get hx hb hts inlX3 hown hW (46 + 6 * c2) (by omega) (k_cell_sec c2) rfl 1 (by decide) lf_RX5_90 rfl (v := .int (z.1 (46 + 6 * c2) 1)) rfl dX5_besideToGoTo_14 ?_
    refine lv_iconst (v := 1) hx hb dX5_besideToGoTo_17 (by decide) ?_
    refine lv_icmp_ne (tgt := 25) hx hb dX5_besideToGoTo_18 (by decide) (fun h7 => ?_) (fun h7 => ?_)
    · refine lv_null hx hb dX5_besideToGoTo_25 ?_
      refine lv_astore_nN (lv' := [(3, .null), (2, .ref (E.2.2 (46 + 6 * c2))), (0, .ref (E.2.2 0)), (1, .ref (E.2.2 (46 + 6 * c)))]) hx hb dX5_besideToGoTo_26 rfl hl (by decide) rfl (fun ls hl => ?_)
      refine lv_aload_n hx hb dX5_besideToGoTo_27 rfl (lv_at hl 2 rfl) ?_
      refine lv_aload_n hx hb dX5_besideToGoTo_28 rfl (lv_at hl 3 rfl) ?_
      refine lv_aload_n hx hb dX5_besideToGoTo_29 rfl (lv_at hl 3 rfl) ?_
      refine k_get hx hb hts inlX3 hown hW (46 + 6 * c) (by omega) (k_cell_sec c) rfl 4 (by decide) lf_RX5_97 rfl (v := .long (z.2.1 (46 + 6 * c) 4)) rfl dX5_besideToGoTo_30 ?_
      refine lv_aload_nN hx hb dX5_besideToGoTo_33 rfl (lv_at hl 0 rfl) ?_
      refine k_callV (As := [.ref (E.2.2 (46 + 6 * c)), .long (z.2.1 (46 + 6 * c) 4), .null]) (rest := []) hx hb hml hown hts (c_X5_goOrTell_n l E S _ z c (z.2.1 (46 + 6 * c) 4) lc hI) lm_RX5_263 ln_X5_goOrTell le_X5_goOrTell li_X5 lk_X5_goOrTell (show k_nm yX5_goOrTell 3 by decide +kernel) ⟨Nat.le_of_ble_eq_true rfl, Nat.le_of_ble_eq_true rfl⟩ rfl rfl ⟨Nat.le_of_ble_eq_true rfl, Nat.le_of_ble_eq_true rfl⟩ hl.1 rfl (Nat.le_of_ble_eq_true rfl) dX5_besideToGoTo_34 (by omega) (k_c0 _ _ _) rfl hW (fun v z1 H locs hp hW => ?_)
      obtain ⟨rfl, hz1⟩ := hp
      rw [hz1] at hW
      obtain ⟨z9, ez9⟩ : ∃ y9 : Sg, y9 = (f_X5_goOrTell_n z c (z.2.1 (46 + 6 * c) 4)).2 := ⟨_, rfl⟩
      rw [← ez9] at hW
      have Jz9 : k_I S z9 := by rw [ez9]; exact (I_goOrTell_n hI).1
      refine W.eq (g2 := F0 m 37 ls [k_o E ((f_X5_goOrTell_n z c (z.2.1 (46 + 6 * c) 4)).1)]) rfl ?_
      rcases h10 : (f_X5_goOrTell_n z c (z.2.1 (46 + 6 * c) 4)).1 with _ | c11
      · refine W.eq (g2 := F0 m 37 ls [.null]) rfl ?_
        have hR : (f_X5_besideToGoTo z c) = (none, z9) := (by subst ez9; simp only [f_X5_besideToGoTo, h1, if_neg h7, h10])
        exact k_aret (o := none) hx hb hr hlocks hW ⟨by rw [hR], by rw [hR]⟩ dX5_besideToGoTo_37
      · have lc11 : c11 < S := (I_goOrTell_n hI).2 _ h10
        refine W.eq (g2 := F0 m 37 ls [.ref (E.2.2 (46 + 6 * c11))]) rfl ?_
        have hR : (f_X5_besideToGoTo z c) = (some c11, z9) := (by subst ez9; simp only [f_X5_besideToGoTo, h1, if_neg h7, h10])
        exact k_aret (o := some c11) hx hb hr hlocks hW ⟨by rw [hR], by rw [hR]⟩ dX5_besideToGoTo_37
    · refine lv_aload_n hx hb dX5_besideToGoTo_21 rfl (lv_at hl 0 rfl) ?_
      refine lv_goto (tgt := 26) hx hb dX5_besideToGoTo_22 (by decide) ?_
      refine lv_astore_n (lv' := [(3, .ref (E.2.2 (46 + 6 * c2))), (2, .ref (E.2.2 (46 + 6 * c2))), (0, .ref (E.2.2 0)), (1, .ref (E.2.2 (46 + 6 * c)))]) hx hb dX5_besideToGoTo_26 rfl hl (by decide) rfl (fun ls hl => ?_)
      refine lv_aload_n hx hb dX5_besideToGoTo_27 rfl (lv_at hl 2 rfl) ?_
      refine lv_aload_n hx hb dX5_besideToGoTo_28 rfl (lv_at hl 3 rfl) ?_
      refine lv_aload_n hx hb dX5_besideToGoTo_29 rfl (lv_at hl 3 rfl) ?_
      refine k_get hx hb hts inlX3 hown hW (46 + 6 * c) (by omega) (k_cell_sec c) rfl 4 (by decide) lf_RX5_97 rfl (v := .long (z.2.1 (46 + 6 * c) 4)) rfl dX5_besideToGoTo_30 ?_
      refine lv_aload_n hx hb dX5_besideToGoTo_33 rfl (lv_at hl 0 rfl) ?_
      refine k_callV (As := [.ref (E.2.2 (46 + 6 * c)), .long (z.2.1 (46 + 6 * c) 4), .ref (E.2.2 (46 + 6 * c2))]) (rest := []) hx hb hml hown hts (c_X5_goOrTell_s l E S _ z c (z.2.1 (46 + 6 * c) 4) c2 lc lc2 hI) lm_RX5_263 ln_X5_goOrTell le_X5_goOrTell li_X5 lk_X5_goOrTell (show k_nm yX5_goOrTell 3 by decide +kernel) ⟨Nat.le_of_ble_eq_true rfl, Nat.le_of_ble_eq_true rfl⟩ rfl rfl ⟨Nat.le_of_ble_eq_true rfl, Nat.le_of_ble_eq_true rfl⟩ hl.1 rfl (Nat.le_of_ble_eq_true rfl) dX5_besideToGoTo_34 (by omega) (k_c0 _ _ _) rfl hW (fun v z1 H locs hp hW => ?_)
      obtain ⟨rfl, hz1⟩ := hp
      rw [hz1] at hW
      obtain ⟨z13, ez13⟩ : ∃ y9 : Sg, y9 = (f_X5_goOrTell_s z c (z.2.1 (46 + 6 * c) 4) c2).2 := ⟨_, rfl⟩
      rw [← ez13] at hW
      have Jz13 : k_I S z13 := by rw [ez13]; exact (I_goOrTell_s lc2 hI).1
      refine W.eq (g2 := F0 m 37 ls [k_o E ((f_X5_goOrTell_s z c (z.2.1 (46 + 6 * c) 4) c2).1)]) rfl ?_
      rcases h14 : (f_X5_goOrTell_s z c (z.2.1 (46 + 6 * c) 4) c2).1 with _ | c15
      · refine W.eq (g2 := F0 m 37 ls [.null]) rfl ?_
        have hR : (f_X5_besideToGoTo z c) = (none, z13) := (by subst ez13; simp only [f_X5_besideToGoTo, h1, if_pos h7, h14])
        exact k_aret (o := none) hx hb hr hlocks hW ⟨by rw [hR], by rw [hR]⟩ dX5_besideToGoTo_37
      · have lc15 : c15 < S := (I_goOrTell_s lc2 hI).2 _ h14
        refine W.eq (g2 := F0 m 37 ls [.ref (E.2.2 (46 + 6 * c15))]) rfl ?_
        have hR : (f_X5_besideToGoTo z c) = (some c15, z13) := (by subst ez13; simp only [f_X5_besideToGoTo, h1, if_pos h7, h14])
        exact k_aret (o := some c15) hx hb hr hlocks hW ⟨by rw [hR], by rw [hR]⟩ dX5_besideToGoTo_37

def f_X5_beforeToGoTo (z : Sg) (c : Nat) : Option Nat × Sg :=
  match (f_X5_sectionAt z (z.2.1 (46 + 6 * c) 3)) with
  | none =>
    let z4 := (f_X5_goOrTell_n z c (z.2.1 (46 + 6 * c) 3)).2
    match (f_X5_goOrTell_n z c (z.2.1 (46 + 6 * c) 3)).1 with
    | none =>
      (none, z4)
    | some c6 =>
      (some c6, z4)
  | some c2 =>
    let z8 := (f_X5_goOrTell_s z c (z.2.1 (46 + 6 * c) 3) c2).2
    match (f_X5_goOrTell_s z c (z.2.1 (46 + 6 * c) 3) c2).1 with
    | none =>
      (none, z8)
    | some c10 =>
      (some c10, z8)
set_option maxHeartbeats 4000000 in
set_option maxRecDepth 100000 in
theorem c_X5_beforeToGoTo (l : Launch) (E : Ev) (S sz : Nat) (z : Sg) (c : Nat) (lc : c < S) (hI : k_I S z) : k_Met l yX5_beforeToGoTo cX5_beforeToGoTo 2 (some (.object "CrossTables$Section")) ({ frames := 2, cells := 0, slots := 0, locals := 48 }) [.ref (E.2.2 0), .ref (E.2.2 (46 + 6 * c))] E (46 + 6 * S) z sz (fun v u => v = some (k_o E ((f_X5_beforeToGoTo z c).1)) ∧ u = (f_X5_beforeToGoTo z c).2) 0 0 := by
  refine k_body (by decide +kernel) (Nat.le_of_ble_eq_true rfl) ?_
  intro p e s m below meth cd ls hx hb hr hml hown hlocks hts hW hl
  have hl : lv_has ls 2 [(0, .ref (E.2.2 0)), (1, .ref (E.2.2 (46 + 6 * c)))] := hl
  refine lv_aload_n hx hb dX5_beforeToGoTo_0 rfl (lv_at hl 0 rfl) ?_
  refine lv_aload_n hx hb dX5_beforeToGoTo_1 rfl (lv_at hl 1 rfl) ?_
  refine lv_aload_n hx hb dX5_beforeToGoTo_2 rfl (lv_at hl 1 rfl) ?_
  refine k_get hx hb hts inlX3 hown hW (46 + 6 * c) (by omega) (k_cell_sec c) rfl 3 (by decide) lf_RX5_267 rfl (v := .long (z.2.1 (46 + 6 * c) 3)) rfl dX5_beforeToGoTo_3 ?_
  refine lv_aload_n hx hb dX5_beforeToGoTo_6 rfl (lv_at hl 0 rfl) ?_
  refine lv_aload_n hx hb dX5_beforeToGoTo_7 rfl (lv_at hl 1 rfl) ?_
  refine k_get hx hb hts inlX3 hown hW (46 + 6 * c) (by omega) (k_cell_sec c) rfl 3 (by decide) lf_RX5_267 rfl (v := .long (z.2.1 (46 + 6 * c) 3)) rfl dX5_beforeToGoTo_8 ?_
  refine k_callV (As := [.long (z.2.1 (46 + 6 * c) 3)]) (rest := [.long (z.2.1 (46 + 6 * c) 3), .ref (E.2.2 (46 + 6 * c)), .ref (E.2.2 0)]) hx hb hml hown hts (c_X5_sectionAt l E S _ z (z.2.1 (46 + 6 * c) 3) hI) lm_RX5_53 ln_X5_sectionAt le_X5_sectionAt li_X5 lk_X5_sectionAt (show k_nm yX5_sectionAt 1 by decide +kernel) ⟨Nat.le_of_ble_eq_true rfl, Nat.le_of_ble_eq_true rfl⟩ rfl rfl ⟨Nat.le_of_ble_eq_true rfl, Nat.le_of_ble_eq_true rfl⟩ hl.1 rfl (Nat.le_of_ble_eq_true rfl) dX5_beforeToGoTo_11 (by omega) (k_c0 _ _ _) rfl hW (fun v z1 H locs hp hW => ?_)
  obtain ⟨rfl, hz1⟩ := hp
  rw [hz1] at hW
  refine W.eq (g2 := F0 m 14 ls [k_o E (f_X5_sectionAt z (z.2.1 (46 + 6 * c) 3)), .long (z.2.1 (46 + 6 * c) 3), .ref (E.2.2 (46 + 6 * c)), .ref (E.2.2 0)]) rfl ?_
  rcases h1 : (f_X5_sectionAt z (z.2.1 (46 + 6 * c) 3)) with _ | c2
  · refine W.eq (g2 := F0 m 14 ls [.null, .long (z.2.1 (46 + 6 * c) 3), .ref (E.2.2 (46 + 6 * c)), .ref (E.2.2 0)]) rfl ?_
    refine k_callV (As := [.ref (E.2.2 (46 + 6 * c)), .long (z.2.1 (46 + 6 * c) 3), .null]) (rest := []) hx hb hml hown hts (c_X5_goOrTell_n l E S _ z c (z.2.1 (46 + 6 * c) 3) lc hI) lm_RX5_263 ln_X5_goOrTell le_X5_goOrTell li_X5 lk_X5_goOrTell (show k_nm yX5_goOrTell 3 by decide +kernel) ⟨Nat.le_of_ble_eq_true rfl, Nat.le_of_ble_eq_true rfl⟩ rfl rfl ⟨Nat.le_of_ble_eq_true rfl, Nat.le_of_ble_eq_true rfl⟩ hl.1 rfl (Nat.le_of_ble_eq_true rfl) dX5_beforeToGoTo_14 (by omega) (k_c0 _ _ _) rfl hW (fun v z1 H locs hp hW => ?_)
    obtain ⟨rfl, hz1⟩ := hp
    rw [hz1] at hW
    obtain ⟨z4, ez4⟩ : ∃ y9 : Sg, y9 = (f_X5_goOrTell_n z c (z.2.1 (46 + 6 * c) 3)).2 := ⟨_, rfl⟩
    rw [← ez4] at hW
    have Jz4 : k_I S z4 := by rw [ez4]; exact (I_goOrTell_n hI).1
    refine W.eq (g2 := F0 m 17 ls [k_o E ((f_X5_goOrTell_n z c (z.2.1 (46 + 6 * c) 3)).1)]) rfl ?_
    rcases h5 : (f_X5_goOrTell_n z c (z.2.1 (46 + 6 * c) 3)).1 with _ | c6
    · refine W.eq (g2 := F0 m 17 ls [.null]) rfl ?_
      have hR : (f_X5_beforeToGoTo z c) = (none, z4) := (by subst ez4; simp only [f_X5_beforeToGoTo, h1, h5])
      exact k_aret (o := none) hx hb hr hlocks hW ⟨by rw [hR], by rw [hR]⟩ dX5_beforeToGoTo_17
    · have lc6 : c6 < S := (I_goOrTell_n hI).2 _ h5
      refine W.eq (g2 := F0 m 17 ls [.ref (E.2.2 (46 + 6 * c6))]) rfl ?_
      have hR : (f_X5_beforeToGoTo z c) = (some c6, z4) := (by subst ez4; simp only [f_X5_beforeToGoTo, h1, h5])
      exact k_aret (o := some c6) hx hb hr hlocks hW ⟨by rw [hR], by rw [hR]⟩ dX5_beforeToGoTo_17
  · have lc2 : c2 < S := lt_sectionAt hI h1
    refine W.eq (g2 := F0 m 14 ls [.ref (E.2.2 (46 + 6 * c2)), .long (z.2.1 (46 + 6 * c) 3), .ref (E.2.2 (46 + 6 * c)), .ref (E.2.2 0)]) rfl ?_
    refine k_callV (As := [.ref (E.2.2 (46 + 6 * c)), .long (z.2.1 (46 + 6 * c) 3), .ref (E.2.2 (46 + 6 * c2))]) (rest := []) hx hb hml hown hts (c_X5_goOrTell_s l E S _ z c (z.2.1 (46 + 6 * c) 3) c2 lc lc2 hI) lm_RX5_263 ln_X5_goOrTell le_X5_goOrTell li_X5 lk_X5_goOrTell (show k_nm yX5_goOrTell 3 by decide +kernel) ⟨Nat.le_of_ble_eq_true rfl, Nat.le_of_ble_eq_true rfl⟩ rfl rfl ⟨Nat.le_of_ble_eq_true rfl, Nat.le_of_ble_eq_true rfl⟩ hl.1 rfl (Nat.le_of_ble_eq_true rfl) dX5_beforeToGoTo_14 (by omega) (k_c0 _ _ _) rfl hW (fun v z1 H locs hp hW => ?_)
    obtain ⟨rfl, hz1⟩ := hp
    rw [hz1] at hW
    obtain ⟨z8, ez8⟩ : ∃ y9 : Sg, y9 = (f_X5_goOrTell_s z c (z.2.1 (46 + 6 * c) 3) c2).2 := ⟨_, rfl⟩
    rw [← ez8] at hW
    have Jz8 : k_I S z8 := by rw [ez8]; exact (I_goOrTell_s lc2 hI).1
    refine W.eq (g2 := F0 m 17 ls [k_o E ((f_X5_goOrTell_s z c (z.2.1 (46 + 6 * c) 3) c2).1)]) rfl ?_
    rcases h9 : (f_X5_goOrTell_s z c (z.2.1 (46 + 6 * c) 3) c2).1 with _ | c10
    · refine W.eq (g2 := F0 m 17 ls [.null]) rfl ?_
      have hR : (f_X5_beforeToGoTo z c) = (none, z8) := (by subst ez8; simp only [f_X5_beforeToGoTo, h1, h9])
      exact k_aret (o := none) hx hb hr hlocks hW ⟨by rw [hR], by rw [hR]⟩ dX5_beforeToGoTo_17
    · have lc10 : c10 < S := (I_goOrTell_s lc2 hI).2 _ h9
      refine W.eq (g2 := F0 m 17 ls [.ref (E.2.2 (46 + 6 * c10))]) rfl ?_
      have hR : (f_X5_beforeToGoTo z c) = (some c10, z8) := (by subst ez8; simp only [f_X5_beforeToGoTo, h1, h9])
      exact k_aret (o := some c10) hx hb hr hlocks hW ⟨by rw [hR], by rw [hR]⟩ dX5_beforeToGoTo_17

theorem I_besideToGoTo {S c : Nat} {z : Sg} (hI : k_I S z) : k_I S (f_X5_besideToGoTo z c).2 ∧ ∀ d, (f_X5_besideToGoTo z c).1 = some d → d < S := by
  unfold f_X5_besideToGoTo
  split
  · have hg := I_goOrTell_n (c := c) (p := (z.2.1 (46 + 6 * c) 4)) hI
    split
    · exact ⟨hg.1, fun d h => by cases h⟩
    · next h => exact ⟨hg.1, fun d g => by cases g; exact hg.2 _ h⟩
  · next hs =>
    split
    · have hg := I_goOrTell_s (c := c) (p := (z.2.1 (46 + 6 * c) 4)) (lt_sectionAt hI hs) hI
      split
      · exact ⟨hg.1, fun d h => by cases h⟩
      · next h => exact ⟨hg.1, fun d g => by cases g; exact hg.2 _ h⟩
    · have hg := I_goOrTell_n (c := c) (p := (z.2.1 (46 + 6 * c) 4)) hI
      split
      · exact ⟨hg.1, fun d h => by cases h⟩
      · next h => exact ⟨hg.1, fun d g => by cases g; exact hg.2 _ h⟩
theorem I_beforeToGoTo {S c : Nat} {z : Sg} (hI : k_I S z) : k_I S (f_X5_beforeToGoTo z c).2 ∧ ∀ d, (f_X5_beforeToGoTo z c).1 = some d → d < S := by
  unfold f_X5_beforeToGoTo
  split
  · have hg := I_goOrTell_n (c := c) (p := (z.2.1 (46 + 6 * c) 3)) hI
    split
    · exact ⟨hg.1, fun d h => by cases h⟩
    · next h => exact ⟨hg.1, fun d g => by cases g; exact hg.2 _ h⟩
  · next hs =>
    have hg := I_goOrTell_s (c := c) (p := (z.2.1 (46 + 6 * c) 3)) (lt_sectionAt hI hs) hI
    split
    · exact ⟨hg.1, fun d h => by cases h⟩
    · next h => exact ⟨hg.1, fun d g => by cases g; exact hg.2 _ h⟩
