def f_X2_readTable_L22 (c : Nat) : Nat → Sg → Int32 → Int32 → Sg
  | 0, w, _, _ => w
  | k + 1, w, b, i =>
    if (300 : Int32) ≤ i then
      w
    else
      if b = 0 then
        w
      else
        if (f_X2_isMoreToRead w) = 0 then
          w
        else
          let z5 := (f_X2_scanPair w).2
          if (f_X2_scanPair w).1 = 0 then
            f_X2_readTable_L22 c k z5 0 (i + 1)
          else
            if (z5.1 17 8) = 0 then
              let z12 := (f_X2_takeBeginning z5).2
              if (f_X2_takeBeginning z5).1 = 0 then
                f_X2_readTable_L22 c k z12 0 (i + 1)
              else
                f_X2_readTable_L22 c k z12 1 (i + 1)
            else
              let z9 := (f_X2_takeTableRow z5).2
              if (f_X2_takeTableRow z5).1 = 0 then
                f_X2_readTable_L22 c k z9 0 (i + 1)
              else
                f_X2_readTable_L22 c k z9 1 (i + 1)
termination_by k9 => k9
def f_X2_readTable (z : Sg) (c : Nat) : Sg :=
  let z15 := (f_X4_open (uJ (uJ z 17 3 0) 17 4 0) c)
  f_X2_readTable_L22 c 301 z15 1 0
set_option maxHeartbeats 4000000 in
set_option maxRecDepth 100000 in
theorem c_X2_readTable (l : Launch) (E : Ev) (S sz : Nat) (z : Sg) (c : Nat) (lc : c < S) (hI : k_I S z) : k_Met l yX2_readTable cX2_readTable 4 none ({ frames := 4, cells := 0, slots := 0, locals := 82 }) [.ref (E.2.2 17), .ref (E.2.2 (46 + 6 * c))] E (46 + 6 * S) z sz (fun v u => v = none ∧ u = (f_X2_readTable z c)) 0 0 := by
  refine k_body (by decide +kernel) (Nat.le_of_ble_eq_true rfl) ?_
  intro p e s m below meth cd ls hx hb hr hml hown hlocks hts hW hl
  have L22 : ∀ (k : Nat) (w : Sg) (b : Int32) (i : Int32) (H : Heap) (locs : List Loc) (ls : Array Slot), (k_I S w) → (0 ≤ i.toInt) → 300 - i.toInt.toNat < k → k_W E (46 + 6 * S) w (k_A E (46 + 6 * S) z s.heap.size) s H locs → lv_has ls 4 [(0, .ref (E.2.2 17)), (1, .ref (E.2.2 (46 + 6 * c))), (2, .int b), (3, .int i)] → f_X2_readTable_L22 c k w b i = (f_X2_readTable z c) → W p l e ({ frames := 4, cells := 0, slots := 0, locals := 82 }) s m ([.ref (E.2.2 17), .ref (E.2.2 (46 + 6 * c))] : List Value).toArray below meth cd H locs 0 0 (MQ below (k_Q (fun v u => v = none ∧ u = (f_X2_readTable z c)) E (46 + 6 * S) z s.heap.size) ([.ref (E.2.2 17), .ref (E.2.2 (46 + 6 * c))] : List Value).toArray s 0 0 (k_A E (46 + 6 * S) z s.heap.size)) (F0 m 22 ls []) := by
    intro k
    induction k with
    | zero =>
      intro w b i H locs ls hi0 hi1 hm
      exact absurd hm (Nat.not_lt_zero _)
    | succ k ih =>
      intro w b i H locs ls hi0 hi1 hm hW hl hG
      refine lv_iload_n hx hb dX2_readTable_22 rfl (lv_at hl 3 rfl) ?_
      refine lv_sipush (v := 300) hx hb dX2_readTable_23 (by decide) ?_
      refine lv_icmp_ge (tgt := 83) hx hb dX2_readTable_26 (by decide) (fun h1 => ?_) (fun h1 => ?_)
      · have hR : (f_X2_readTable z c) = w := (hG.symm.trans (by simp only [f_X2_readTable_L22, if_pos h1]))
        exact k_vret hx hb hr hlocks hW ⟨rfl, by rw [hR]⟩ dX2_readTable_83
      · refine lv_iload_n hx hb dX2_readTable_29 rfl (lv_at hl 2 rfl) ?_
        refine lv_if_eq (tgt := 83) hx hb dX2_readTable_30 (by decide) (fun h2 => ?_) (fun h2 => ?_)
        · have hR : (f_X2_readTable z c) = w := (hG.symm.trans (by simp only [f_X2_readTable_L22, if_neg h1, if_pos h2]))
          exact k_vret hx hb hr hlocks hW ⟨rfl, by rw [hR]⟩ dX2_readTable_83
        · refine lv_aload_n hx hb dX2_readTable_33 rfl (lv_at hl 0 rfl) ?_
          refine k_callV (As := []) (rest := []) hx hb hml hown hts (c_X2_isMoreToRead l E S _ w) lm_RX2_51 ln_X2_isMoreToRead le_X2_isMoreToRead li_X2 lk_X2_isMoreToRead (show k_nm yX2_isMoreToRead 0 by decide +kernel) ⟨Nat.le_of_ble_eq_true rfl, Nat.le_of_ble_eq_true rfl⟩ rfl rfl ⟨Nat.le_of_ble_eq_true rfl, Nat.le_of_ble_eq_true rfl⟩ hl.1 rfl (Nat.le_of_ble_eq_true rfl) dX2_readTable_34 (by omega) (k_c17 _ _ _) rfl hW (fun v z1 H locs hp hW => ?_)
          obtain ⟨rfl, hz1⟩ := hp
          rw [hz1] at hW
          refine W.eq (g2 := F0 m 37 ls [.int (f_X2_isMoreToRead w)]) rfl ?_
          refine lv_if_eq (tgt := 83) hx hb dX2_readTable_37 (by decide) (fun h3 => ?_) (fun h3 => ?_)
          · have hR : (f_X2_readTable z c) = w := (hG.symm.trans (by simp only [f_X2_readTable_L22, if_neg h1, if_neg h2, if_pos h3]))
            exact k_vret hx hb hr hlocks hW ⟨rfl, by rw [hR]⟩ dX2_readTable_83
          · refine lv_aload_n hx hb dX2_readTable_40 rfl (lv_at hl 0 rfl) ?_
            refine k_callV (As := []) (rest := []) hx hb hml hown hts (c_X2_scanPair l E S _ w hi0) lm_RX2_55 ln_X2_scanPair le_X2_scanPair li_X2 lk_X2_scanPair (show k_nm yX2_scanPair 0 by decide +kernel) ⟨Nat.le_of_ble_eq_true rfl, Nat.le_of_ble_eq_true rfl⟩ rfl rfl ⟨Nat.le_of_ble_eq_true rfl, Nat.le_of_ble_eq_true rfl⟩ hl.1 rfl (Nat.le_of_ble_eq_true rfl) dX2_readTable_41 (by omega) (k_c17 _ _ _) rfl hW (fun v z1 H locs hp hW => ?_)
            obtain ⟨rfl, hz1⟩ := hp
            rw [hz1] at hW
            obtain ⟨z5, ez5⟩ : ∃ y9 : Sg, y9 = (f_X2_scanPair w).2 := ⟨_, rfl⟩
            rw [← ez5] at hW
            have Jz5 : k_I S z5 := by rw [ez5]; exact I_scanPair hi0
            refine W.eq (g2 := F0 m 44 ls [.int ((f_X2_scanPair w).1)]) rfl ?_
            refine lv_if_eq (tgt := 75) hx hb dX2_readTable_44 (by decide) (fun h6 => ?_) (fun h6 => ?_)
            · refine lv_iconst (v := 0) hx hb dX2_readTable_75 (by decide) ?_
              refine lv_istore_n (lv' := [(2, .int 0), (0, .ref (E.2.2 17)), (1, .ref (E.2.2 (46 + 6 * c))), (3, .int i)]) hx hb dX2_readTable_76 rfl hl (by decide) rfl (fun ls hl => ?_)
              refine lv_iinc (v := i + 1) (lv' := [(3, .int (i + 1)), (2, .int 0), (0, .ref (E.2.2 17)), (1, .ref (E.2.2 (46 + 6 * c)))]) hx hb dX2_readTable_77 hl (k := 3) rfl rfl (by decide) rfl (fun ls hl => ?_)
              refine lv_goto (tgt := 22) hx hb dX2_readTable_80 (by decide) ?_
              exact ih z5 0 (i + 1) _ _ _ (Jz5) (in_s0 (m := 300) (n := 300) hi1 h1 (by decide)) (in_sm (m := 300) hi1 h1 (by decide) hm) hW (lv_sub hl [2, 3, 1, 0] rfl) (Eq.symm (hG.symm.trans (by subst ez5; simp only [f_X2_readTable_L22, if_neg h1, if_neg h2, if_neg h3, if_pos h6])))
            · refine lv_aload_n hx hb dX2_readTable_47 rfl (lv_at hl 0 rfl) ?_
              refine k_get hx hb hts inlX2 hown hW 17 (by omega) k_c17 rfl 8 (by decide) lf_RX2_58 rfl (v := .int (z5.1 17 8)) rfl dX2_readTable_48 ?_
              refine lv_if_ne (tgt := 64) hx hb dX2_readTable_51 (by decide) (fun h7 => ?_) (fun h7 => ?_)
              · refine lv_aload_n hx hb dX2_readTable_64 rfl (lv_at hl 0 rfl) ?_
                refine k_callV (As := []) (rest := []) hx hb hml hown hts (c_X2_takeTableRow l E S _ z5 Jz5) lm_RX2_64 ln_X2_takeTableRow le_X2_takeTableRow li_X2 lk_X2_takeTableRow (show k_nm yX2_takeTableRow 0 by decide +kernel) ⟨Nat.le_of_ble_eq_true rfl, Nat.le_of_ble_eq_true rfl⟩ rfl rfl ⟨Nat.le_of_ble_eq_true rfl, Nat.le_of_ble_eq_true rfl⟩ hl.1 rfl (Nat.le_of_ble_eq_true rfl) dX2_readTable_65 (by omega) (k_c17 _ _ _) rfl hW (fun v z1 H locs hp hW => ?_)
                obtain ⟨rfl, hz1⟩ := hp
                rw [hz1] at hW
                obtain ⟨z9, ez9⟩ : ∃ y9 : Sg, y9 = (f_X2_takeTableRow z5).2 := ⟨_, rfl⟩
                rw [← ez9] at hW
                have Jz9 : k_I S z9 := by rw [ez9]; exact I_takeTableRow Jz5
                refine W.eq (g2 := F0 m 68 ls [.int ((f_X2_takeTableRow z5).1)]) rfl ?_
                refine lv_if_eq (tgt := 75) hx hb dX2_readTable_68 (by decide) (fun h10 => ?_) (fun h10 => ?_)
                · refine lv_iconst (v := 0) hx hb dX2_readTable_75 (by decide) ?_
                  refine lv_istore_n (lv' := [(2, .int 0), (0, .ref (E.2.2 17)), (1, .ref (E.2.2 (46 + 6 * c))), (3, .int i)]) hx hb dX2_readTable_76 rfl hl (by decide) rfl (fun ls hl => ?_)
                  refine lv_iinc (v := i + 1) (lv' := [(3, .int (i + 1)), (2, .int 0), (0, .ref (E.2.2 17)), (1, .ref (E.2.2 (46 + 6 * c)))]) hx hb dX2_readTable_77 hl (k := 3) rfl rfl (by decide) rfl (fun ls hl => ?_)
                  refine lv_goto (tgt := 22) hx hb dX2_readTable_80 (by decide) ?_
                  exact ih z9 0 (i + 1) _ _ _ (Jz9) (in_s0 (m := 300) (n := 300) hi1 h1 (by decide)) (in_sm (m := 300) hi1 h1 (by decide) hm) hW (lv_sub hl [2, 3, 1, 0] rfl) (Eq.symm (hG.symm.trans (by subst ez9 ez5; simp only [f_X2_readTable_L22, if_neg h1, if_neg h2, if_neg h3, if_neg h6, if_neg h7, if_pos h10])))
                · refine lv_iconst (v := 1) hx hb dX2_readTable_71 (by decide) ?_
                  refine lv_goto (tgt := 76) hx hb dX2_readTable_72 (by decide) ?_
                  refine lv_istore_n (lv' := [(2, .int 1), (0, .ref (E.2.2 17)), (1, .ref (E.2.2 (46 + 6 * c))), (3, .int i)]) hx hb dX2_readTable_76 rfl hl (by decide) rfl (fun ls hl => ?_)
                  refine lv_iinc (v := i + 1) (lv' := [(3, .int (i + 1)), (2, .int 1), (0, .ref (E.2.2 17)), (1, .ref (E.2.2 (46 + 6 * c)))]) hx hb dX2_readTable_77 hl (k := 3) rfl rfl (by decide) rfl (fun ls hl => ?_)
                  refine lv_goto (tgt := 22) hx hb dX2_readTable_80 (by decide) ?_
                  exact ih z9 1 (i + 1) _ _ _ (Jz9) (in_s0 (m := 300) (n := 300) hi1 h1 (by decide)) (in_sm (m := 300) hi1 h1 (by decide) hm) hW (lv_sub hl [2, 3, 1, 0] rfl) (Eq.symm (hG.symm.trans (by subst ez9 ez5; simp only [f_X2_readTable_L22, if_neg h1, if_neg h2, if_neg h3, if_neg h6, if_neg h7, if_neg h10])))
              · refine lv_aload_n hx hb dX2_readTable_54 rfl (lv_at hl 0 rfl) ?_
                refine k_callV (As := []) (rest := []) hx hb hml hown hts (c_X2_takeBeginning l E S _ z5 Jz5) lm_RX2_61 ln_X2_takeBeginning le_X2_takeBeginning li_X2 lk_X2_takeBeginning (show k_nm yX2_takeBeginning 0 by decide +kernel) ⟨Nat.le_of_ble_eq_true rfl, Nat.le_of_ble_eq_true rfl⟩ rfl rfl ⟨Nat.le_of_ble_eq_true rfl, Nat.le_of_ble_eq_true rfl⟩ hl.1 rfl (Nat.le_of_ble_eq_true rfl) dX2_readTable_55 (by omega) (k_c17 _ _ _) rfl hW (fun v z1 H locs hp hW => ?_)
                obtain ⟨rfl, hz1⟩ := hp
                rw [hz1] at hW
                obtain ⟨z12, ez12⟩ : ∃ y9 : Sg, y9 = (f_X2_takeBeginning z5).2 := ⟨_, rfl⟩
                rw [← ez12] at hW
                have Jz12 : k_I S z12 := by rw [ez12]; exact I_takeBeginning Jz5
                refine W.eq (g2 := F0 m 58 ls [.int ((f_X2_takeBeginning z5).1)]) rfl ?_
                refine lv_if_eq (tgt := 75) hx hb dX2_readTable_58 (by decide) (fun h13 => ?_) (fun h13 => ?_)
                · refine lv_iconst (v := 0) hx hb dX2_readTable_75 (by decide) ?_
                  refine lv_istore_n (lv' := [(2, .int 0), (0, .ref (E.2.2 17)), (1, .ref (E.2.2 (46 + 6 * c))), (3, .int i)]) hx hb dX2_readTable_76 rfl hl (by decide) rfl (fun ls hl => ?_)
                  refine lv_iinc (v := i + 1) (lv' := [(3, .int (i + 1)), (2, .int 0), (0, .ref (E.2.2 17)), (1, .ref (E.2.2 (46 + 6 * c)))]) hx hb dX2_readTable_77 hl (k := 3) rfl rfl (by decide) rfl (fun ls hl => ?_)
                  refine lv_goto (tgt := 22) hx hb dX2_readTable_80 (by decide) ?_
                  exact ih z12 0 (i + 1) _ _ _ (Jz12) (in_s0 (m := 300) (n := 300) hi1 h1 (by decide)) (in_sm (m := 300) hi1 h1 (by decide) hm) hW (lv_sub hl [2, 3, 1, 0] rfl) (Eq.symm (hG.symm.trans (by subst ez12 ez5; simp only [f_X2_readTable_L22, if_neg h1, if_neg h2, if_neg h3, if_neg h6, if_pos h7, if_pos h13])))
                · refine lv_goto (tgt := 71) hx hb dX2_readTable_61 (by decide) ?_
                  refine lv_iconst (v := 1) hx hb dX2_readTable_71 (by decide) ?_
                  refine lv_goto (tgt := 76) hx hb dX2_readTable_72 (by decide) ?_
                  refine lv_istore_n (lv' := [(2, .int 1), (0, .ref (E.2.2 17)), (1, .ref (E.2.2 (46 + 6 * c))), (3, .int i)]) hx hb dX2_readTable_76 rfl hl (by decide) rfl (fun ls hl => ?_)
                  refine lv_iinc (v := i + 1) (lv' := [(3, .int (i + 1)), (2, .int 1), (0, .ref (E.2.2 17)), (1, .ref (E.2.2 (46 + 6 * c)))]) hx hb dX2_readTable_77 hl (k := 3) rfl rfl (by decide) rfl (fun ls hl => ?_)
                  refine lv_goto (tgt := 22) hx hb dX2_readTable_80 (by decide) ?_
                  exact ih z12 1 (i + 1) _ _ _ (Jz12) (in_s0 (m := 300) (n := 300) hi1 h1 (by decide)) (in_sm (m := 300) hi1 h1 (by decide) hm) hW (lv_sub hl [2, 3, 1, 0] rfl) (Eq.symm (hG.symm.trans (by subst ez12 ez5; simp only [f_X2_readTable_L22, if_neg h1, if_neg h2, if_neg h3, if_neg h6, if_pos h7, if_neg h13])))
  have hl : lv_has ls 4 [(0, .ref (E.2.2 17)), (1, .ref (E.2.2 (46 + 6 * c)))] := hl
  refine lv_aload_n hx hb dX2_readTable_0 rfl (lv_at hl 0 rfl) ?_
  refine lv_lconst (v := 0) hx hb dX2_readTable_1 (by decide) ?_
  refine k_putJ hx hb hts inlX2 tyX2_ok nmX2 hown hW 17 (by omega) k_c17 rfl 3 (by decide) lf_RX2_41 rfl rfl (tyX2_ok 3 (by decide)) (Nat.le_of_ble_eq_true rfl) ks_X2_3 dX2_readTable_2 (fun H locs hW => ?_)
  refine lv_aload_n hx hb dX2_readTable_5 rfl (lv_at hl 0 rfl) ?_
  refine lv_lconst (v := 0) hx hb dX2_readTable_6 (by decide) ?_
  refine k_putJ hx hb hts inlX2 tyX2_ok nmX2 hown hW 17 (by omega) k_c17 rfl 4 (by decide) lf_RX2_45 rfl rfl (tyX2_ok 4 (by decide)) (Nat.le_of_ble_eq_true rfl) ks_X2_4 dX2_readTable_7 (fun H locs hW => ?_)
  refine lv_aload_n hx hb dX2_readTable_10 rfl (lv_at hl 0 rfl) ?_
  refine k_get hx hb hts inlX2 hown hW 17 (by omega) k_c17 rfl 1 (by decide) lf_RX2_18 rfl (v := .ref (E.2.2 18)) rfl dX2_readTable_11 ?_
  refine lv_aload_n hx hb dX2_readTable_14 rfl (lv_at hl 1 rfl) ?_
  refine k_callV (As := [.ref (E.2.2 (46 + 6 * c))]) (rest := []) hx hb hml hown hts (c_X4_open l E S _ (uJ (uJ z 17 3 0) 17 4 0) c lc (k_I_uJ (k_I_uJ hI))) lm_RX2_48 ln_X4_open le_X4_open li_X4 lk_X4_open (show k_nm yX4_open 1 by decide +kernel) ⟨Nat.le_of_ble_eq_true rfl, Nat.le_of_ble_eq_true rfl⟩ rfl rfl ⟨Nat.le_of_ble_eq_true rfl, Nat.le_of_ble_eq_true rfl⟩ hl.1 rfl (Nat.le_of_ble_eq_true rfl) dX2_readTable_15 (by omega) (k_c18 _ _ _) rfl hW (fun v z1 H locs hp hW => ?_)
  obtain ⟨rfl, hz1⟩ := hp
  rw [hz1] at hW
  obtain ⟨z15, ez15⟩ : ∃ y9 : Sg, y9 = (f_X4_open (uJ (uJ z 17 3 0) 17 4 0) c) := ⟨_, rfl⟩
  rw [← ez15] at hW
  have Jz15 : k_I S z15 := by rw [ez15]; exact I_open lc (k_I_uJ (k_I_uJ hI))
  refine W.eq (g2 := F0 m 18 ls []) rfl ?_
  refine lv_iconst (v := 1) hx hb dX2_readTable_18 (by decide) ?_
  refine lv_istore_n (lv' := [(2, .int 1), (0, .ref (E.2.2 17)), (1, .ref (E.2.2 (46 + 6 * c)))]) hx hb dX2_readTable_19 rfl hl (by decide) rfl (fun ls hl => ?_)
  refine lv_iconst (v := 0) hx hb dX2_readTable_20 (by decide) ?_
  refine lv_istore_n (lv' := [(3, .int 0), (2, .int 1), (0, .ref (E.2.2 17)), (1, .ref (E.2.2 (46 + 6 * c)))]) hx hb dX2_readTable_21 rfl hl (by decide) rfl (fun ls hl => ?_)
  exact L22 301 z15 1 0 _ _ _ (Jz15) (by decide) (by decide) hW (lv_sub hl [2, 3, 1, 0] rfl) (Eq.symm (by subst ez15; simp only [f_X2_readTable]))

def f_X2_readStream_L38 (c : Nat) (wd : Int32) (r : Int32) (ob : Int32) (K : Int32 → Sg → (Sg)) : Nat → Sg → Int32 → Int32 → Sg
  | 0, u, _, _ => u
  | k + 1, u, rows, i =>
    if (u.1 (46 + 6 * c + 3) r.toNatClampNeg) ≤ i then
      K rows u
    else
      if (rows * wd) + wd ≤ (u.1 (46 + 6 * c) 6) then
        let z4 := (f_X2_takeStreamRow u c (rows * wd) (ob + i))
        f_X2_readStream_L38 c wd r ob K k z4 (rows + 1) (i + 1)
      else
        let z6 := (f_X1_tell u 5 (u.1 17 2) ((rows : Int32).toInt64))
        z6
termination_by k9 => k9
def f_X2_readStream_L10 (c : Nat) : Nat → Sg → Int32 → Int32 → Int32 → Sg
  | 0, w, _, _, _ => w
  | k + 1, w, wd, rows, r =>
    if (w.1 (46 + 6 * c) 12) ≤ r then
      w
    else
      if (6 : Int32) ≤ r then
        w
      else
        f_X2_readStream_L38 c wd r (w.1 (46 + 6 * c + 2) r.toNatClampNeg) (fun rows2 w2 =>
            f_X2_readStream_L10 c k w2 wd rows2 (r + 1)) 101 w rows 0
termination_by k9 => k9
def f_X2_readStream (z : Sg) (c : Nat) : Sg :=
  f_X2_readStream_L10 c 7 z (f_X3_rowWidth z c) 0 0
set_option maxHeartbeats 4000000 in
set_option maxRecDepth 100000 in
theorem c_X2_readStream (l : Launch) (E : Ev) (S sz : Nat) (z : Sg) (c : Nat) (lc : c < S) (hI : k_I S z) : k_Met l yX2_readStream cX2_readStream 8 none ({ frames := 3, cells := 0, slots := 0, locals := 79 }) [.ref (E.2.2 17), .ref (E.2.2 (46 + 6 * c))] E (46 + 6 * S) z sz (fun v u => v = none ∧ u = (f_X2_readStream z c)) 0 0 := by
  refine k_body (by decide +kernel) (Nat.le_of_ble_eq_true rfl) ?_
  intro p e s m below meth cd ls hx hb hr hml hown hlocks hts hW hl
  have L38 : ∀ (wd : Int32) (r : Int32) (ob : Int32), (vp_in r 6) → ∀ (K : Int32 → Sg → (Sg)), (∀ (rows2 : Int32) (w2 : Sg) (H : Heap) (locs : List Loc) (ls : Array Slot), (k_I S w2) → k_W E (46 + 6 * S) w2 (k_A E (46 + 6 * S) z s.heap.size) s H locs → lv_has ls 8 [(0, .ref (E.2.2 17)), (1, .ref (E.2.2 (46 + 6 * c))), (2, .int wd), (3, .int rows2), (4, .int r), (5, .int ob)] → K rows2 w2 = (f_X2_readStream z c) → W p l e ({ frames := 3, cells := 0, slots := 0, locals := 79 }) s m ([.ref (E.2.2 17), .ref (E.2.2 (46 + 6 * c))] : List Value).toArray below meth cd H locs 0 0 (MQ below (k_Q (fun v u => v = none ∧ u = (f_X2_readStream z c)) E (46 + 6 * S) z s.heap.size) ([.ref (E.2.2 17), .ref (E.2.2 (46 + 6 * c))] : List Value).toArray s 0 0 (k_A E (46 + 6 * S) z s.heap.size)) (F0 m 102 ls [])) → ∀ (k : Nat) (u : Sg) (rows : Int32) (i : Int32) (H : Heap) (locs : List Loc) (ls : Array Slot), (k_I S u) → (0 ≤ i.toInt) → 100 - i.toInt.toNat < k → k_W E (46 + 6 * S) u (k_A E (46 + 6 * S) z s.heap.size) s H locs → lv_has ls 8 [(0, .ref (E.2.2 17)), (1, .ref (E.2.2 (46 + 6 * c))), (2, .int wd), (3, .int rows), (4, .int r), (5, .int ob), (6, .int i)] → f_X2_readStream_L38 c wd r ob K k u rows i = (f_X2_readStream z c) → W p l e ({ frames := 3, cells := 0, slots := 0, locals := 79 }) s m ([.ref (E.2.2 17), .ref (E.2.2 (46 + 6 * c))] : List Value).toArray below meth cd H locs 0 0 (MQ below (k_Q (fun v u => v = none ∧ u = (f_X2_readStream z c)) E (46 + 6 * S) z s.heap.size) ([.ref (E.2.2 17), .ref (E.2.2 (46 + 6 * c))] : List Value).toArray s 0 0 (k_A E (46 + 6 * S) z s.heap.size)) (F0 m 38 ls []) := by
    intro wd r ob ci0 K hK
    intro k
    induction k with
    | zero =>
      intro u rows i H locs ls hi0 hi1 hm
      exact absurd hm (Nat.not_lt_zero _)
    | succ k ih =>
      intro u rows i H locs ls hi0 hi1 hm hW hl hG
      refine lv_iload hx hb dX2_readStream_38 (lv_at hl 6 rfl) ?_
      refine lv_aload_n hx hb dX2_readStream_40 rfl (lv_at hl 1 rfl) ?_
      refine k_get hx hb hts inlX3 hown hW (46 + 6 * c) (by omega) (k_cell_sec c) rfl 11 (by decide) lf_RX2_124 rfl (v := .ref (E.2.2 (46 + 6 * c + 3))) rfl dX2_readStream_41 ?_
      refine lv_iload hx hb dX2_readStream_44 (lv_at hl 4 rfl) ?_
      refine k_iald hx hb hW (46 + 6 * c + 3) 6 (by omega) (k_cell_sm c) (v := (u.1 (46 + 6 * c + 3) r.toNatClampNeg)) (by exact ci0) rfl dX2_readStream_46 ?_
      refine lv_icmp_ge (tgt := 102) hx hb dX2_readStream_47 (by decide) (fun h1 => ?_) (fun h1 => ?_)
      · exact hK rows u _ _ _ (hi0) hW (lv_sub hl [0, 1, 2, 3, 4, 5] rfl) (Eq.symm (hG.symm.trans (by simp only [f_X2_readStream_L38, if_pos h1])))
      · refine lv_iload_n hx hb dX2_readStream_50 rfl (lv_at hl 3 rfl) ?_
        refine lv_iload_n hx hb dX2_readStream_51 rfl (lv_at hl 2 rfl) ?_
        refine lv_imul hx hb dX2_readStream_52 ?_
        refine lv_istore (lv' := [(7, .int (rows * wd)), (0, .ref (E.2.2 17)), (1, .ref (E.2.2 (46 + 6 * c))), (2, .int wd), (3, .int rows), (4, .int r), (5, .int ob), (6, .int i)]) hx hb dX2_readStream_53 hl (by decide) rfl (fun ls hl => ?_)
        refine lv_iload hx hb dX2_readStream_55 (lv_at hl 0 rfl) ?_
        refine lv_iload_n hx hb dX2_readStream_57 rfl (lv_at hl 3 rfl) ?_
        refine lv_iadd hx hb dX2_readStream_58 ?_
        refine lv_aload_n hx hb dX2_readStream_59 rfl (lv_at hl 2 rfl) ?_
        refine k_get hx hb hts inlX3 hown hW (46 + 6 * c) (by omega) (k_cell_sec c) rfl 6 (by decide) lf_RX2_127 rfl (v := .int (u.1 (46 + 6 * c) 6)) rfl dX2_readStream_60 ?_
        refine lv_icmp_le (tgt := 81) hx hb dX2_readStream_63 (by decide) (fun h2 => ?_) (fun h2 => ?_)
        · refine lv_aload_n hx hb dX2_readStream_81 rfl (lv_at hl 1 rfl) ?_
          refine lv_aload_n hx hb dX2_readStream_82 rfl (lv_at hl 2 rfl) ?_
          refine lv_iload hx hb dX2_readStream_83 (lv_at hl 0 rfl) ?_
          refine lv_iload hx hb dX2_readStream_85 (lv_at hl 6 rfl) ?_
          refine lv_iload hx hb dX2_readStream_87 (lv_at hl 7 rfl) ?_
          refine lv_iadd hx hb dX2_readStream_89 ?_
          refine k_callV (As := [.ref (E.2.2 (46 + 6 * c)), .int (rows * wd), .int (ob + i)]) (rest := []) hx hb hml hown hts (c_X2_takeStreamRow l E S _ u c (rows * wd) (ob + i) lc hi0) lm_RX2_130 ln_X2_takeStreamRow le_X2_takeStreamRow li_X2 lk_X2_takeStreamRow (show k_nm yX2_takeStreamRow 3 by decide +kernel) ⟨Nat.le_of_ble_eq_true rfl, Nat.le_of_ble_eq_true rfl⟩ rfl rfl ⟨Nat.le_of_ble_eq_true rfl, Nat.le_of_ble_eq_true rfl⟩ hl.1 rfl (Nat.le_of_ble_eq_true rfl) dX2_readStream_90 (by omega) (k_c17 _ _ _) rfl hW (fun v z1 H locs hp hW => ?_)
          obtain ⟨rfl, hz1⟩ := hp
          rw [hz1] at hW
          obtain ⟨z4, ez4⟩ : ∃ y9 : Sg, y9 = (f_X2_takeStreamRow u c (rows * wd) (ob + i)) := ⟨_, rfl⟩
          rw [← ez4] at hW
          have Jz4 : k_I S z4 := by rw [ez4]; exact I_takeStreamRow hi0
          refine W.eq (g2 := F0 m 93 ls []) rfl ?_
          refine lv_iinc (v := rows + 1) (lv' := [(3, .int (rows + 1)), (7, .int (rows * wd)), (0, .ref (E.2.2 17)), (1, .ref (E.2.2 (46 + 6 * c))), (2, .int wd), (4, .int r), (5, .int ob), (6, .int i)]) hx hb dX2_readStream_93 hl (k := 4) rfl rfl (by decide) rfl (fun ls hl => ?_)
          refine lv_iinc (v := i + 1) (lv' := [(6, .int (i + 1)), (3, .int (rows + 1)), (7, .int (rows * wd)), (0, .ref (E.2.2 17)), (1, .ref (E.2.2 (46 + 6 * c))), (2, .int wd), (4, .int r), (5, .int ob)]) hx hb dX2_readStream_96 hl (k := 7) rfl rfl (by decide) rfl (fun ls hl => ?_)
          refine lv_goto (tgt := 38) hx hb dX2_readStream_99 (by decide) ?_
          exact ih z4 (rows + 1) (i + 1) _ _ _ (Jz4) (in_s0 hi1 h1 ((k_Is hi0 lc).2.2.2.2.2 _)) (in_sm hi1 h1 ((k_Is hi0 lc).2.2.2.2.2 _) hm) hW (lv_sub hl [3, 4, 5, 1, 6, 7, 0] rfl) (Eq.symm (hG.symm.trans (by subst ez4; simp only [f_X2_readStream_L38, if_neg h1, if_pos h2])))
        · refine lv_aload_n hx hb dX2_readStream_66 rfl (lv_at hl 1 rfl) ?_
          refine k_get hx hb hts inlX2 hown hW 17 (by omega) k_c17 rfl 0 (by decide) lf_RX2_9 rfl (v := .ref (E.2.2 6)) rfl dX2_readStream_67 ?_
          refine lv_iconst (v := 5) hx hb dX2_readStream_70 (by decide) ?_
          refine lv_aload_n hx hb dX2_readStream_71 rfl (lv_at hl 1 rfl) ?_
          refine k_get hx hb hts inlX2 hown hW 17 (by omega) k_c17 rfl 2 (by decide) lf_RX2_28 rfl (v := .int (u.1 17 2)) rfl dX2_readStream_72 ?_
          refine lv_iload_n hx hb dX2_readStream_75 rfl (lv_at hl 4 rfl) ?_
          refine lv_i2l (v := (rows : Int32).toInt64) hx hb dX2_readStream_76 rfl ?_
          refine k_callV (As := [.int 5, .int (u.1 17 2), .long ((rows : Int32).toInt64)]) (rest := []) hx hb hml hown hts (c_X1_tell l E S _ u 5 (u.1 17 2) ((rows : Int32).toInt64) hi0) lm_RX2_104 ln_X1_tell le_X1_tell li_X1 lk_X1_tell (show k_nm yX1_tell 3 by decide +kernel) ⟨Nat.le_of_ble_eq_true rfl, Nat.le_of_ble_eq_true rfl⟩ rfl rfl ⟨Nat.le_of_ble_eq_true rfl, Nat.le_of_ble_eq_true rfl⟩ hl.1 rfl (Nat.le_of_ble_eq_true rfl) dX2_readStream_77 (by omega) (k_c6 _ _ _) rfl hW (fun v z1 H locs hp hW => ?_)
          obtain ⟨rfl, hz1⟩ := hp
          rw [hz1] at hW
          obtain ⟨z6, ez6⟩ : ∃ y9 : Sg, y9 = (f_X1_tell u 5 (u.1 17 2) ((rows : Int32).toInt64)) := ⟨_, rfl⟩
          rw [← ez6] at hW
          have Jz6 : k_I S z6 := by rw [ez6]; exact I_tell hi0
          refine W.eq (g2 := F0 m 80 ls []) rfl ?_
          have hR : (f_X2_readStream z c) = z6 := (hG.symm.trans (by subst ez6; simp only [f_X2_readStream_L38, if_neg h1, if_neg h2]))
          exact k_vret hx hb hr hlocks hW ⟨rfl, by rw [hR]⟩ dX2_readStream_80
  have L10 : ∀ (k : Nat) (w : Sg) (wd : Int32) (rows : Int32) (r : Int32) (H : Heap) (locs : List Loc) (ls : Array Slot), (k_I S w) → (0 ≤ r.toInt) → 6 - r.toInt.toNat < k → k_W E (46 + 6 * S) w (k_A E (46 + 6 * S) z s.heap.size) s H locs → lv_has ls 8 [(0, .ref (E.2.2 17)), (1, .ref (E.2.2 (46 + 6 * c))), (2, .int wd), (3, .int rows), (4, .int r)] → f_X2_readStream_L10 c k w wd rows r = (f_X2_readStream z c) → W p l e ({ frames := 3, cells := 0, slots := 0, locals := 79 }) s m ([.ref (E.2.2 17), .ref (E.2.2 (46 + 6 * c))] : List Value).toArray below meth cd H locs 0 0 (MQ below (k_Q (fun v u => v = none ∧ u = (f_X2_readStream z c)) E (46 + 6 * S) z s.heap.size) ([.ref (E.2.2 17), .ref (E.2.2 (46 + 6 * c))] : List Value).toArray s 0 0 (k_A E (46 + 6 * S) z s.heap.size)) (F0 m 10 ls []) := by
    intro k
    induction k with
    | zero =>
      intro w wd rows r H locs ls hi0 hi1 hm
      exact absurd hm (Nat.not_lt_zero _)
    | succ k ih =>
      intro w wd rows r H locs ls hi0 hi1 hm hW hl hG
      refine lv_iload hx hb dX2_readStream_10 (lv_at hl 4 rfl) ?_
      refine lv_aload_n hx hb dX2_readStream_12 rfl (lv_at hl 1 rfl) ?_
      refine k_get hx hb hts inlX3 hown hW (46 + 6 * c) (by omega) (k_cell_sec c) rfl 12 (by decide) lf_RX2_117 rfl (v := .int (w.1 (46 + 6 * c) 12)) rfl dX2_readStream_13 ?_
      refine lv_icmp_ge (tgt := 108) hx hb dX2_readStream_16 (by decide) (fun h7 => ?_) (fun h7 => ?_)
      · have hR : (f_X2_readStream z c) = w := (hG.symm.trans (by simp only [f_X2_readStream_L10, if_pos h7]))
        exact k_vret hx hb hr hlocks hW ⟨rfl, by rw [hR]⟩ dX2_readStream_108
      · refine lv_iload hx hb dX2_readStream_19 (lv_at hl 4 rfl) ?_
        refine lv_bipush (v := 6) hx hb dX2_readStream_21 (by decide) ?_
        refine lv_icmp_ge (tgt := 108) hx hb dX2_readStream_23 (by decide) (fun h8 => ?_) (fun h8 => ?_)
        · have hR : (f_X2_readStream z c) = w := (hG.symm.trans (by simp only [f_X2_readStream_L10, if_neg h7, if_pos h8]))
          exact k_vret hx hb hr hlocks hW ⟨rfl, by rw [hR]⟩ dX2_readStream_108
        · refine lv_aload_n hx hb dX2_readStream_26 rfl (lv_at hl 1 rfl) ?_
          refine k_get hx hb hts inlX3 hown hW (46 + 6 * c) (by omega) (k_cell_sec c) rfl 10 (by decide) lf_RX2_120 rfl (v := .ref (E.2.2 (46 + 6 * c + 2))) rfl dX2_readStream_27 ?_
          refine lv_iload hx hb dX2_readStream_30 (lv_at hl 4 rfl) ?_
          refine k_iald hx hb hW (46 + 6 * c + 2) 6 (by omega) (k_cell_sf c) (v := (w.1 (46 + 6 * c + 2) r.toNatClampNeg)) (by exact in_lt hi1 h8 rfl) rfl dX2_readStream_32 ?_
          refine lv_istore (lv' := [(5, .int (w.1 (46 + 6 * c + 2) r.toNatClampNeg)), (0, .ref (E.2.2 17)), (1, .ref (E.2.2 (46 + 6 * c))), (2, .int wd), (3, .int rows), (4, .int r)]) hx hb dX2_readStream_33 hl (by decide) rfl (fun ls hl => ?_)
          refine lv_iconst (v := 0) hx hb dX2_readStream_35 (by decide) ?_
          refine lv_istore (lv' := [(6, .int 0), (5, .int (w.1 (46 + 6 * c + 2) r.toNatClampNeg)), (0, .ref (E.2.2 17)), (1, .ref (E.2.2 (46 + 6 * c))), (2, .int wd), (3, .int rows), (4, .int r)]) hx hb dX2_readStream_36 hl (by decide) rfl (fun ls hl => ?_)
          refine L38 wd r (w.1 (46 + 6 * c + 2) r.toNatClampNeg) (in_lt hi1 h8 rfl) (fun rows2 w2 =>
              f_X2_readStream_L10 c k w2 wd rows2 (r + 1)) ?_ 101 w rows 0 _ _ _ (hi0) (by decide) (by decide) hW (lv_sub hl [2, 3, 4, 5, 6, 1, 0] rfl) (Eq.symm (hG.symm.trans (by simp only [f_X2_readStream_L10, if_neg h7, if_neg h8])))
          intro rows2 w2 H locs ls xi0 hW hl hG
          refine lv_iinc (v := r + 1) (lv' := [(4, .int (r + 1)), (0, .ref (E.2.2 17)), (1, .ref (E.2.2 (46 + 6 * c))), (2, .int wd), (3, .int rows2), (5, .int (w.1 (46 + 6 * c + 2) r.toNatClampNeg))]) hx hb dX2_readStream_102 hl (k := 4) rfl rfl (by decide) rfl (fun ls hl => ?_)
          refine lv_goto (tgt := 10) hx hb dX2_readStream_105 (by decide) ?_
          exact ih w2 wd rows2 (r + 1) _ _ _ (xi0) (in_s0 (m := 6) (n := 6) hi1 h8 (by decide)) (in_sm (m := 6) hi1 h8 (by decide) hm) hW (lv_sub hl [1, 2, 3, 4, 0] rfl) (Eq.symm (hG.symm.trans (by first | rfl | simp only [])))
  have hl : lv_has ls 8 [(0, .ref (E.2.2 17)), (1, .ref (E.2.2 (46 + 6 * c)))] := hl
  refine lv_aload_n hx hb dX2_readStream_0 rfl (lv_at hl 1 rfl) ?_
  refine k_callV (As := []) (rest := []) hx hb hml hown hts (c_X3_rowWidth l E S _ z c lc) lm_RX2_114 ln_X3_rowWidth le_X3_rowWidth li_X3 lk_X3_rowWidth (show k_nm yX3_rowWidth 0 by decide +kernel) ⟨Nat.le_of_ble_eq_true rfl, Nat.le_of_ble_eq_true rfl⟩ rfl rfl ⟨Nat.le_of_ble_eq_true rfl, Nat.le_of_ble_eq_true rfl⟩ hl.1 rfl (Nat.le_of_ble_eq_true rfl) dX2_readStream_1 (by omega) ((k_cell_sec c) _ _ _) rfl hW (fun v z1 H locs hp hW => ?_)
  obtain ⟨rfl, hz1⟩ := hp
  rw [hz1] at hW
  refine W.eq (g2 := F0 m 4 ls [.int (f_X3_rowWidth z c)]) rfl ?_
  refine lv_istore_n (lv' := [(2, .int (f_X3_rowWidth z c)), (0, .ref (E.2.2 17)), (1, .ref (E.2.2 (46 + 6 * c)))]) hx hb dX2_readStream_4 rfl hl (by decide) rfl (fun ls hl => ?_)
  refine lv_iconst (v := 0) hx hb dX2_readStream_5 (by decide) ?_
  refine lv_istore_n (lv' := [(3, .int 0), (2, .int (f_X3_rowWidth z c)), (0, .ref (E.2.2 17)), (1, .ref (E.2.2 (46 + 6 * c)))]) hx hb dX2_readStream_6 rfl hl (by decide) rfl (fun ls hl => ?_)
  refine lv_iconst (v := 0) hx hb dX2_readStream_7 (by decide) ?_
  refine lv_istore (lv' := [(4, .int 0), (3, .int 0), (2, .int (f_X3_rowWidth z c)), (0, .ref (E.2.2 17)), (1, .ref (E.2.2 (46 + 6 * c)))]) hx hb dX2_readStream_8 hl (by decide) rfl (fun ls hl => ?_)
  exact L10 7 z (f_X3_rowWidth z c) 0 0 _ _ _ (hI) (by decide) (by decide) hW (lv_sub hl [3, 4, 2, 1, 0] rfl) (Eq.symm (by simp only [f_X2_readStream]))

theorem I_readTable_L22 {S c : Nat} : ∀ (k : Nat) (w : Sg) (b i : Int32), k_I S w → k_I S (f_X2_readTable_L22 c k w b i) := by
  intro k
  induction k with
  | zero => intro w b i h; rw [f_X2_readTable_L22]; exact h
  | succ k ih =>
    intro w b i h
    rw [f_X2_readTable_L22]
    have h2 := I_scanPair h
    generalize f_X2_scanPair w = x at h2 ⊢
    split
    · exact h
    · split
      · exact h
      · split
        · exact h
        · dsimp only
          split
          · exact ih _ _ _ h2
          · split
            · split
              · exact ih _ _ _ (I_takeBeginning h2)
              · exact ih _ _ _ (I_takeBeginning h2)
            · split
              · exact ih _ _ _ (I_takeTableRow h2)
              · exact ih _ _ _ (I_takeTableRow h2)
theorem I_readTable {S c : Nat} {z : Sg} (lc : c < S) (hI : k_I S z) : k_I S (f_X2_readTable z c) := I_readTable_L22 _ _ _ _ (I_open lc (k_I_uJ (k_I_uJ hI)))
theorem I_readStream_L38 {S c : Nat} {wd r ob : Int32} {K : Int32 → Sg → Sg} (hK : ∀ a w, k_I S w → k_I S (K a w)) : ∀ (k : Nat) (w : Sg) (b i : Int32), k_I S w → k_I S (f_X2_readStream_L38 c wd r ob K k w b i) := by
  intro k
  induction k with
  | zero => intro w b i h; rw [f_X2_readStream_L38]; exact h
  | succ k ih =>
    intro w b i h
    rw [f_X2_readStream_L38]
    split
    · exact hK _ _ h
    · split
      · exact ih _ _ _ (I_takeStreamRow h)
      · exact I_tell h
theorem I_readStream_L10 {S c : Nat} {wd : Int32} : ∀ (k : Nat) (w : Sg) (b i : Int32), k_I S w → k_I S (f_X2_readStream_L10 c k w wd b i) := by
  intro k
  induction k with
  | zero => intro w b i h; rw [f_X2_readStream_L10]; exact h
  | succ k ih =>
    intro w b i h
    rw [f_X2_readStream_L10]
    split
    · exact h
    · split
      · exact h
      · exact I_readStream_L38 (fun a w h => ih _ _ _ h) _ _ _ _ h
theorem I_readStream {S c : Nat} {z : Sg} (hI : k_I S z) : k_I S (f_X2_readStream z c) := I_readStream_L10 _ _ _ _ hI
