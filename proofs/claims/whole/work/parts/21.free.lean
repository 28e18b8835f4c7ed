theorem go_in {z : Sg} {a : Int64} (h : ¬ f_X1_goesOnWith z a = 0) : vp_in a.toInt32 100 := by
  unfold f_X1_goesOnWith at h
  by_cases h1 : a = 0
  · rw [if_pos h1] at h; exact absurd rfl h
  · rw [if_neg h1] at h
    by_cases h2 : f_X5_isObject z a = 0
    · rw [if_pos h2] at h; exact absurd rfl h
    · exact obj_in h2

def f_X1_listFree_L23 : Nat → Sg → Int64 → Int32 → Sg
  | 0, w, _, _ => w
  | k + 1, w, a, i =>
    if (100 : Int32) ≤ i then
      w
    else
      if (f_X1_goesOnWith w a) = 0 then
        w
      else
        f_X1_listFree_L23 k (uI (uI (uI w 16 (((a : Int64).toInt32).toNatClampNeg) (vp_nar .boolean 1)) 15 i.toNatClampNeg ((a : Int64).toInt32)) 6 12 (i + 1)) (w.2.1 9 (((a : Int64).toInt32).toNatClampNeg)) (i + 1)
termination_by k9 => k9
def f_X1_listFree (z : Sg) : Sg :=
  if (z.1 8 ((0 : Int32).toNatClampNeg)) = 1 then
    f_X1_listFree_L23 101 z (z.2.1 9 ((0 : Int32).toNatClampNeg)) 0
  else
    f_X1_listFree_L23 101 z 0 0
set_option maxHeartbeats 4000000 in
set_option maxRecDepth 100000 in
theorem c_X1_listFree (l : Launch) (E : Ev) (S sz : Nat) (z : Sg) : k_Met l yX1_listFree cX1_listFree 5 none ({ frames := 2, cells := 0, slots := 0, locals := 43 }) [.ref (E.2.2 6)] E (46 + 6 * S) z sz (fun v u => v = none ∧ u = (f_X1_listFree z)) 0 0 := by
  refine k_body (by decide +kernel) (Nat.le_of_ble_eq_true rfl) ?_
  intro p e s m below meth cd ls hx hb hr hml hown hlocks hts hW hl
  have L23 : ∀ (k : Nat) (w : Sg) (a : Int64) (i : Int32) (H : Heap) (locs : List Loc) (ls : Array Slot), (0 ≤ i.toInt) → 100 - i.toInt.toNat < k → k_W E (46 + 6 * S) w (k_A E (46 + 6 * S) z s.heap.size) s H locs → lv_has ls 5 [(0, .ref (E.2.2 6)), (1, .long a), (3, .int i)] → f_X1_listFree_L23 k w a i = (f_X1_listFree z) → W p l e ({ frames := 2, cells := 0, slots := 0, locals := 43 }) s m ([.ref (E.2.2 6)] : List Value).toArray below meth cd H locs 0 0 (MQ below (k_Q (fun v u => v = none ∧ u = (f_X1_listFree z)) E (46 + 6 * S) z s.heap.size) ([.ref (E.2.2 6)] : List Value).toArray s 0 0 (k_A E (46 + 6 * S) z s.heap.size)) (F0 m 23 ls []) := by
    intro k
    induction k with
    | zero =>
      intro w a i H locs ls hi0 hm
      exact absurd hm (Nat.not_lt_zero _)
    | succ k ih =>
      intro w a i H locs ls hi0 hm hW hl hG
      refine lv_iload_n hx hb dX1_listFree_23 rfl (lv_at hl 2 rfl) ?_
      refine lv_bipush (v := 100) hx hb dX1_listFree_24 (by decide) ?_
      refine lv_icmp_ge (tgt := 78) hx hb dX1_listFree_26 (by decide) (fun h1 => ?_) (fun h1 => ?_)
      · have hR : (f_X1_listFree z) = w := (hG.symm.trans (by simp only [f_X1_listFree_L23, if_pos h1]))
        exact k_vret hx hb hr hlocks hW ⟨rfl, by rw [hR]⟩ dX1_listFree_78
      · refine lv_aload_n hx hb dX1_listFree_29 rfl (lv_at hl 0 rfl) ?_
        refine lv_lload_n hx hb dX1_listFree_30 rfl (lv_at hl 1 rfl) ?_
        refine k_callV (As := [.long a]) (rest := []) hx hb hml hown hts (c_X1_goesOnWith l E S _ w a) lm_RX1_61 ln_X1_goesOnWith le_X1_goesOnWith li_X1 lk_X1_goesOnWith (show k_nm yX1_goesOnWith 1 by decide +kernel) ⟨Nat.le_of_ble_eq_true rfl, Nat.le_of_ble_eq_true rfl⟩ rfl rfl ⟨Nat.le_of_ble_eq_true rfl, Nat.le_of_ble_eq_true rfl⟩ hl.1 rfl (Nat.le_of_ble_eq_true rfl) dX1_listFree_31 (by omega) (k_c6 _ _ _) rfl hW (fun v z1 H locs hp hW => ?_)
        obtain ⟨rfl, hz1⟩ := hp
        rw [hz1] at hW
        refine W.eq (g2 := F0 m 34 ls [.int (f_X1_goesOnWith w a)]) rfl ?_
        refine lv_if_eq (tgt := 78) hx hb dX1_listFree_34 (by decide) (fun h2 => ?_) (fun h2 => ?_)
        · have hR : (f_X1_listFree z) = w := (hG.symm.trans (by simp only [f_X1_listFree_L23, if_neg h1, if_pos h2]))
          exact k_vret hx hb hr hlocks hW ⟨rfl, by rw [hR]⟩ dX1_listFree_78
        · refine lv_lload_n hx hb dX1_listFree_37 rfl (lv_at hl 1 rfl) ?_
          refine lv_l2i (v := (a : Int64).toInt32) hx hb dX1_listFree_38 rfl ?_
          refine lv_istore (lv' := [(4, .int ((a : Int64).toInt32)), (0, .ref (E.2.2 6)), (1, .long a), (3, .int i)]) hx hb dX1_listFree_39 hl (by decide) rfl (fun ls hl => ?_)
          refine lv_aload_n hx hb dX1_listFree_41 rfl (lv_at hl 1 rfl) ?_
          refine k_get hx hb hts inlX1 hown hW 6 (by omega) k_c6 rfl 11 (by decide) lf_RX1_50 rfl (v := .ref (E.2.2 16)) rfl dX1_listFree_42 ?_
          refine lv_iload hx hb dX1_listFree_45 (lv_at hl 0 rfl) ?_
          refine lv_iconst (v := 1) hx hb dX1_listFree_47 (by decide) ?_
          refine k_zast hx hb hW 16 100 (by omega) k_c16 (by exact go_in h2) dX1_listFree_48 (fun H locs hW => ?_)
          refine lv_aload_n hx hb dX1_listFree_49 rfl (lv_at hl 1 rfl) ?_
          refine k_get hx hb hts inlX1 hown hW 6 (by omega) k_c6 rfl 10 (by decide) lf_RX1_47 rfl (v := .ref (E.2.2 15)) rfl dX1_listFree_50 ?_
          refine lv_iload_n hx hb dX1_listFree_53 rfl (lv_at hl 3 rfl) ?_
          refine lv_iload hx hb dX1_listFree_54 (lv_at hl 0 rfl) ?_
          refine k_iast hx hb hW 15 100 (by omega) k_c15 (by exact in_lt hi0 h1 rfl) dX1_listFree_56 (fun H locs hW => ?_)
          refine lv_aload_n hx hb dX1_listFree_57 rfl (lv_at hl 1 rfl) ?_
          refine lv_iload_n hx hb dX1_listFree_58 rfl (lv_at hl 3 rfl) ?_
          refine lv_iconst (v := 1) hx hb dX1_listFree_59 (by decide) ?_
          refine lv_iadd hx hb dX1_listFree_60 ?_
          refine k_putI hx hb hts inlX1 tyX1_ok nmX1 hown hW 6 (by omega) k_c6 rfl 12 (by decide) lf_RX1_54 rfl rfl (tyX1_ok 12 (by decide)) (Nat.le_of_ble_eq_true rfl) ks_X1_12 dX1_listFree_61 (fun H locs hW => ?_)
          refine lv_aload_n hx hb dX1_listFree_64 rfl (lv_at hl 1 rfl) ?_
          refine k_get hx hb hts inlX1 hown hW 6 (by omega) k_c6 rfl 3 (by decide) lf_RX1_25 rfl (v := .ref (E.2.2 9)) rfl dX1_listFree_65 ?_
          refine lv_iload hx hb dX1_listFree_68 (lv_at hl 0 rfl) ?_
          refine k_lald hx hb hW 9 100 (by omega) k_c9 (v := (w.2.1 9 (((a : Int64).toInt32).toNatClampNeg))) (by exact go_in h2) rfl dX1_listFree_70 ?_
          refine lv_lstore_n (lv' := [(1, .long (w.2.1 9 (((a : Int64).toInt32).toNatClampNeg))), (4, .int ((a : Int64).toInt32)), (0, .ref (E.2.2 6)), (3, .int i)]) hx hb dX1_listFree_71 rfl hl (by decide) rfl (fun ls hl => ?_)
          refine lv_iinc (v := i + 1) (lv' := [(3, .int (i + 1)), (1, .long (w.2.1 9 (((a : Int64).toInt32).toNatClampNeg))), (4, .int ((a : Int64).toInt32)), (0, .ref (E.2.2 6))]) hx hb dX1_listFree_72 hl (k := 3) rfl rfl (by decide) rfl (fun ls hl => ?_)
          refine lv_goto (tgt := 23) hx hb dX1_listFree_75 (by decide) ?_
          exact ih (uI (uI (uI w 16 (((a : Int64).toInt32).toNatClampNeg) (vp_nar .boolean 1)) 15 i.toNatClampNeg ((a : Int64).toInt32)) 6 12 (i + 1)) (w.2.1 9 (((a : Int64).toInt32).toNatClampNeg)) (i + 1) _ _ _ (in_s0 (m := 100) (n := 100) hi0 h1 (by decide)) (in_sm (m := 100) hi0 h1 (by decide) hm) hW (lv_sub hl [3, 1, 0] rfl) (Eq.symm (hG.symm.trans (by simp only [f_X1_listFree_L23, if_neg h1, if_neg h2])))
  have hl : lv_has ls 5 [(0, .ref (E.2.2 6))] := hl
  refine lv_aload_n hx hb dX1_listFree_0 rfl (lv_at hl 0 rfl) ?_
  refine k_get hx hb hts inlX1 hown hW 6 (by omega) k_c6 rfl 2 (by decide) lf_RX1_21 rfl (v := .ref (E.2.2 8)) rfl dX1_listFree_1 ?_
  refine lv_iconst (v := 0) hx hb dX1_listFree_4 (by decide) ?_
  refine k_iald hx hb hW 8 100 (by omega) k_c8 (v := (z.1 8 ((0 : Int32).toNatClampNeg))) (by exact vp_in_iff.mpr (by decide)) rfl dX1_listFree_5 ?_
  refine lv_iconst (v := 1) hx hb dX1_listFree_6 (by decide) ?_
  refine lv_icmp_ne (tgt := 19) hx hb dX1_listFree_7 (by decide) (fun h3 => ?_) (fun h3 => ?_)
  · refine lv_lconst (v := 0) hx hb dX1_listFree_19 (by decide) ?_
    refine lv_lstore_n (lv' := [(1, .long 0), (0, .ref (E.2.2 6))]) hx hb dX1_listFree_20 rfl hl (by decide) rfl (fun ls hl => ?_)
    refine lv_iconst (v := 0) hx hb dX1_listFree_21 (by decide) ?_
    refine lv_istore_n (lv' := [(3, .int 0), (1, .long 0), (0, .ref (E.2.2 6))]) hx hb dX1_listFree_22 rfl hl (by decide) rfl (fun ls hl => ?_)
    exact L23 101 z 0 0 _ _ _ (by decide) (by decide) hW (lv_sub hl [2, 1, 0] rfl) (Eq.symm (by simp only [f_X1_listFree, if_neg h3]))
  · refine lv_aload_n hx hb dX1_listFree_10 rfl (lv_at hl 0 rfl) ?_
    refine k_get hx hb hts inlX1 hown hW 6 (by omega) k_c6 rfl 3 (by decide) lf_RX1_25 rfl (v := .ref (E.2.2 9)) rfl dX1_listFree_11 ?_
    refine lv_iconst (v := 0) hx hb dX1_listFree_14 (by decide) ?_
    refine k_lald hx hb hW 9 100 (by omega) k_c9 (v := (z.2.1 9 ((0 : Int32).toNatClampNeg))) (by exact vp_in_iff.mpr (by decide)) rfl dX1_listFree_15 ?_
    refine lv_goto (tgt := 20) hx hb dX1_listFree_16 (by decide) ?_
    refine lv_lstore_n (lv' := [(1, .long (z.2.1 9 ((0 : Int32).toNatClampNeg))), (0, .ref (E.2.2 6))]) hx hb dX1_listFree_20 rfl hl (by decide) rfl (fun ls hl => ?_)
    refine lv_iconst (v := 0) hx hb dX1_listFree_21 (by decide) ?_
    refine lv_istore_n (lv' := [(3, .int 0), (1, .long (z.2.1 9 ((0 : Int32).toNatClampNeg))), (0, .ref (E.2.2 6))]) hx hb dX1_listFree_22 rfl hl (by decide) rfl (fun ls hl => ?_)
    exact L23 101 z (z.2.1 9 ((0 : Int32).toNatClampNeg)) 0 _ _ _ (by decide) (by decide) hW (lv_sub hl [2, 1, 0] rfl) (Eq.symm (by simp only [f_X1_listFree, if_pos h3]))

theorem I_fc {S : Nat} {y : Sg} {i : Int32} (h0 : 0 ≤ i.toInt) (g : ¬ (100 : Int32) ≤ i) (h2 : k_I S y) : k_I S (uI y 6 12 (i + 1)) := by
  refine k_I_of h2 (fun q hq => uI_r (by omega)) h2.2.2.1 h2.2.2.2.1 ?_ rfl h2.2.2.2.2.2.2.1 h2.2.2.2.2.2.2.2.1 (show k_T y from k_IT h2)
  show 0 ≤ (i + 1).toInt ∧ (i + 1).toInt ≤ 100
  exact ⟨in_s0 (m := 100) (n := 100) h0 g (by decide), in_le1 (m := 100) (n := 100) g (by decide)⟩
theorem I_listFree_L23 {S : Nat} : ∀ (k : Nat) (w : Sg) (a : Int64) (i : Int32), 0 ≤ i.toInt → k_I S w → k_I S (f_X1_listFree_L23 k w a i) := by
  intro k
  induction k with
  | zero => intro w a i _ h; rw [f_X1_listFree_L23]; exact h
  | succ k ih =>
    intro w a i h0 h
    rw [f_X1_listFree_L23]
    by_cases g : (100 : Int32) ≤ i
    · rw [if_pos g]; exact h
    · rw [if_neg g]
      split
      · exact h
      · refine ih _ _ _ (in_s0 (m := 100) (n := 100) h0 g (by decide)) ?_
        exact I_fc h0 g (k_I_u (by decide) (k_I_u (by decide) h))
theorem I_listFree {S : Nat} {z : Sg} (hI : k_I S z) : k_I S (f_X1_listFree z) := by
  unfold f_X1_listFree
  split <;> exact I_listFree_L23 _ _ _ _ (by decide) hI
