theorem J_tell {S : Nat} {z : Sg} {a b : Int32} {d : Int64} (hI : k_J S z) : k_J S (f_X6_tell z a b d) := by
  unfold f_X6_tell
  by_cases h : (200 : Int32) ≤ (z.1 19 25)
  · rw [if_pos h]; exact hI
  · rw [if_neg h]
    exact k_J_t ⟨in_s0 (m := 200) (n := 200) hI.2.2.2.1.1 h (by decide), in_le1 (m := 200) (n := 200) h (by decide)⟩ (k_J_uJ (k_J_u (by decide) (k_J_u (by decide) hI)))
theorem bt_in {s x m : Int32} (hs : 0 ≤ s.toInt ∧ s.toInt < (12 : Nat)) (h0 : 0 ≤ x.toInt) (h1 : ¬ m ≤ x) (hm : m.toInt ≤ 300) : vp_in (300 * s + x) 3600 :=
  ix1 (k := 300) (l := 12) rfl hs ⟨h0, by simp only [Int32.le_iff_toInt_le] at h1; omega⟩ (by decide)
theorem isb_b {b e : Int32} (h : e = b + 1) (hb : 0 ≤ b.toInt ∧ b.toInt ≤ 300) (he : e.toInt ≤ 300) : 0 ≤ b.toInt ∧ b.toInt < (300 : Nat) := by
  have h2 : (b + 1).toInt = b.toInt + 1 := by
    rw [Int32.toInt_add]
    have : (1 : Int32).toInt = 1 := rfl
    rw [this]
    exact Int.bmod_eq_of_le_mul_two (by simp; omega) (by simp; omega)
  rw [h, h2] at he
  omega

def f_X6_token_L60 (p0 : Int32) (p1 : Int32) : Nat → Sg → Sg
  | 0, w => w
  | k + 1, w =>
    if (w.1 24 p0.toNatClampNeg) ≤ (w.1 19 31) then
      w
    else
      if (f_X6_isBlank w (w.1 25 (((300 * p0) + (w.1 19 31)).toNatClampNeg))) = 0 then
        f_X6_token_L60 p0 p1 k (uI w 19 31 ((w.1 19 31) + 1))
      else
        w
termination_by k9 => k9
def f_X6_token_L5 (p0 : Int32) (p1 : Int32) : Nat → Sg → Sg
  | 0, w => w
  | k + 1, w =>
    if (w.1 24 p0.toNatClampNeg) ≤ (w.1 19 30) then
      f_X6_token_L60 p0 p1 301 (uI w 19 31 (w.1 19 30))
    else
      if (f_X6_isBlank w (w.1 25 (((300 * p0) + (w.1 19 30)).toNatClampNeg))) = 0 then
        f_X6_token_L60 p0 p1 301 (uI w 19 31 (w.1 19 30))
      else
        f_X6_token_L5 p0 p1 k (uI w 19 30 ((w.1 19 30) + 1))
termination_by k9 => k9
def f_X6_token (z : Sg) (p0 : Int32) (p1 : Int32) : Sg :=
  f_X6_token_L5 p0 p1 301 (uI z 19 30 p1)
set_option maxHeartbeats 4000000 in
set_option maxRecDepth 100000 in
theorem c_X6_token (l : Launch) (E : Ev) (S sz : Nat) (z : Sg) (p0 : Int32) (p1 : Int32) (hs : 0 ≤ p0.toInt ∧ p0.toInt < (12 : Nat)) (hf : 0 ≤ p1.toInt ∧ p1.toInt ≤ 300) (hI : k_J S z) : k_Met l yX6_token cX6_token 3 none ({ frames := 1, cells := 0, slots := 0, locals := 20 }) [.ref (E.2.2 19), .int p0, .int p1] E (46 + 6 * S) z sz (fun v u => v = none ∧ u = (f_X6_token z p0 p1)) 0 0 := by
  refine k_body (by decide +kernel) (Nat.le_of_ble_eq_true rfl) ?_
  intro p e s m below meth cd ls hx hb hr hml hown hlocks hts hW hl
  have L60 : ∀ (k : Nat) (w : Sg) (H : Heap) (locs : List Loc) (ls : Array Slot), (k_J S w) → 300 - (w.1 19 31).toInt.toNat < k → k_W E (46 + 6 * S) w (k_A E (46 + 6 * S) z s.heap.size) s H locs → lv_has ls 3 [(0, .ref (E.2.2 19)), (1, .int p0), (2, .int p1)] → f_X6_token_L60 p0 p1 k w = (f_X6_token z p0 p1) → W p l e ({ frames := 1, cells := 0, slots := 0, locals := 20 }) s m ([.ref (E.2.2 19), .int p0, .int p1] : List Value).toArray below meth cd H locs 0 0 (MQ below (k_Q (fun v u => v = none ∧ u = (f_X6_token z p0 p1)) E (46 + 6 * S) z s.heap.size) ([.ref (E.2.2 19), .int p0, .int p1] : List Value).toArray s 0 0 (k_A E (46 + 6 * S) z s.heap.size)) (F0 m 60 ls []) := by
    intro k
    induction k with
    | zero =>
      intro w H locs ls hi0 hm
      exact absurd hm (Nat.not_lt_zero _)
    | succ k ih =>
      intro w H locs ls hi0 hm hW hl hG
      refine lv_aload_n hx hb dX6_token_60 rfl (lv_at hl 0 rfl) ?_
      refine k_get hx hb hts inlX6 hown hW 19 (by omega) k_c19 rfl 31 (by decide) lf_RX6_138 rfl (v := .int (w.1 19 31)) rfl dX6_token_61 ?_
      refine lv_aload_n hx hb dX6_token_64 rfl (lv_at hl 0 rfl) ?_
      refine k_get hx hb hts inlX6 hown hW 19 (by omega) k_c19 rfl 6 (by decide) lf_RX6_23 rfl (v := .ref (E.2.2 24)) rfl dX6_token_65 ?_
      refine lv_iload_n hx hb dX6_token_68 rfl (lv_at hl 1 rfl) ?_
      refine k_iald hx hb hW 24 12 (by omega) k_c24 (v := (w.1 24 p0.toNatClampNeg)) (by exact in12 hs) rfl dX6_token_69 ?_
      refine lv_icmp_ge (tgt := 107) hx hb dX6_token_70 (by decide) (fun h1 => ?_) (fun h1 => ?_)
      · have hR : (f_X6_token z p0 p1) = w := (hG.symm.trans (by simp only [f_X6_token_L60, if_pos h1]))
        exact k_vret hx hb hr hlocks hW ⟨rfl, by rw [hR]⟩ dX6_token_107
      · refine lv_aload_n hx hb dX6_token_73 rfl (lv_at hl 0 rfl) ?_
        refine k_get hx hb hts inlX6 hown hW 19 (by omega) k_c19 rfl 7 (by decide) lf_RX6_26 rfl (v := .ref (E.2.2 25)) rfl dX6_token_74 ?_
        refine lv_sipush (v := 300) hx hb dX6_token_77 (by decide) ?_
        refine lv_iload_n hx hb dX6_token_80 rfl (lv_at hl 1 rfl) ?_
        refine lv_imul hx hb dX6_token_81 ?_
        refine lv_aload_n hx hb dX6_token_82 rfl (lv_at hl 0 rfl) ?_
        refine k_get hx hb hts inlX6 hown hW 19 (by omega) k_c19 rfl 31 (by decide) lf_RX6_138 rfl (v := .int (w.1 19 31)) rfl dX6_token_83 ?_
        refine lv_iadd hx hb dX6_token_86 ?_
        refine k_bald hx hb hW 25 3600 (by omega) k_c25 (v := (w.1 25 (((300 * p0) + (w.1 19 31)).toNatClampNeg))) (by exact bt_in hs hi0.2.2.2.2.2.1.1 h1 (k_Jsz hi0 _).2) rfl dX6_token_87 ?_
        refine k_callS (rest := []) hx hb hml hown hts (c_X6_isBlank l E S _ w (w.1 25 (((300 * p0) + (w.1 19 31)).toNatClampNeg))) lm_RX6_135 ls_X6_isBlank li_X6 lk_X6_isBlank (show k_nm yX6_isBlank 1 by decide +kernel) ⟨Nat.le_of_ble_eq_true rfl, Nat.le_of_ble_eq_true rfl⟩ rfl rfl ⟨Nat.le_of_ble_eq_true rfl, Nat.le_of_ble_eq_true rfl⟩ hl.1 rfl (Nat.le_of_ble_eq_true rfl) dX6_token_88 hW (fun v z1 H locs hp hW => ?_)
        obtain ⟨rfl, hz1⟩ := hp
        rw [hz1] at hW
        refine W.eq (g2 := F0 m 91 ls [.int (f_X6_isBlank w (w.1 25 (((300 * p0) + (w.1 19 31)).toNatClampNeg)))]) rfl ?_
        refine lv_if_ne (tgt := 107) hx hb dX6_token_91 (by decide) (fun h2 => ?_) (fun h2 => ?_)
        · have hR : (f_X6_token z p0 p1) = w := (hG.symm.trans (by simp only [f_X6_token_L60, if_neg h1, if_neg h2]))
          exact k_vret hx hb hr hlocks hW ⟨rfl, by rw [hR]⟩ dX6_token_107
        · refine lv_aload_n hx hb dX6_token_94 rfl (lv_at hl 0 rfl) ?_
          refine lv_dup hx hb dX6_token_95 rfl ?_
          refine k_get hx hb hts inlX6 hown hW 19 (by omega) k_c19 rfl 31 (by decide) lf_RX6_138 rfl (v := .int (w.1 19 31)) rfl dX6_token_96 ?_
          refine lv_iconst (v := 1) hx hb dX6_token_99 (by decide) ?_
          refine lv_iadd hx hb dX6_token_100 ?_
          refine k_putI hx hb hts inlX6 tyX6_ok nmX6 hown hW 19 (by omega) k_c19 rfl 31 (by decide) lf_RX6_138 rfl rfl (tyX6_ok 31 (by decide)) (Nat.le_of_ble_eq_true rfl) ks_X6_31 dX6_token_101 (fun H locs hW => ?_)
          refine lv_goto (tgt := 60) hx hb dX6_token_104 (by decide) ?_
          exact ih (uI w 19 31 ((w.1 19 31) + 1)) _ _ _ (k_J_e ⟨in_s0 hi0.2.2.2.2.2.1.1 h1 (k_Jsz hi0 _).2, in_le1 h1 (k_Jsz hi0 _).2⟩ hi0) (in_sm hi0.2.2.2.2.2.1.1 h1 (k_Jsz hi0 _).2 hm) hW (lv_sub hl [0, 1, 2] rfl) (Eq.symm (hG.symm.trans (by simp only [f_X6_token_L60, if_neg h1, if_pos h2])))
  have L5 : ∀ (k : Nat) (w : Sg) (H : Heap) (locs : List Loc) (ls : Array Slot), (k_J S w) → 300 - (w.1 19 30).toInt.toNat < k → k_W E (46 + 6 * S) w (k_A E (46 + 6 * S) z s.heap.size) s H locs → lv_has ls 3 [(0, .ref (E.2.2 19)), (1, .int p0), (2, .int p1)] → f_X6_token_L5 p0 p1 k w = (f_X6_token z p0 p1) → W p l e ({ frames := 1, cells := 0, slots := 0, locals := 20 }) s m ([.ref (E.2.2 19), .int p0, .int p1] : List Value).toArray below meth cd H locs 0 0 (MQ below (k_Q (fun v u => v = none ∧ u = (f_X6_token z p0 p1)) E (46 + 6 * S) z s.heap.size) ([.ref (E.2.2 19), .int p0, .int p1] : List Value).toArray s 0 0 (k_A E (46 + 6 * S) z s.heap.size)) (F0 m 5 ls []) := by
    intro k
    induction k with
    | zero =>
      intro w H locs ls hi0 hm
      exact absurd hm (Nat.not_lt_zero _)
    | succ k ih =>
      intro w H locs ls hi0 hm hW hl hG
      refine lv_aload_n hx hb dX6_token_5 rfl (lv_at hl 0 rfl) ?_
      refine k_get hx hb hts inlX6 hown hW 19 (by omega) k_c19 rfl 30 (by decide) lf_RX6_132 rfl (v := .int (w.1 19 30)) rfl dX6_token_6 ?_
      refine lv_aload_n hx hb dX6_token_9 rfl (lv_at hl 0 rfl) ?_
      refine k_get hx hb hts inlX6 hown hW 19 (by omega) k_c19 rfl 6 (by decide) lf_RX6_23 rfl (v := .ref (E.2.2 24)) rfl dX6_token_10 ?_
      refine lv_iload_n hx hb dX6_token_13 rfl (lv_at hl 1 rfl) ?_
      refine k_iald hx hb hW 24 12 (by omega) k_c24 (v := (w.1 24 p0.toNatClampNeg)) (by exact in12 hs) rfl dX6_token_14 ?_
      refine lv_icmp_ge (tgt := 52) hx hb dX6_token_15 (by decide) (fun h3 => ?_) (fun h3 => ?_)
      · refine lv_aload_n hx hb dX6_token_52 rfl (lv_at hl 0 rfl) ?_
        refine lv_aload_n hx hb dX6_token_53 rfl (lv_at hl 0 rfl) ?_
        refine k_get hx hb hts inlX6 hown hW 19 (by omega) k_c19 rfl 30 (by decide) lf_RX6_132 rfl (v := .int (w.1 19 30)) rfl dX6_token_54 ?_
        refine k_putI hx hb hts inlX6 tyX6_ok nmX6 hown hW 19 (by omega) k_c19 rfl 31 (by decide) lf_RX6_138 rfl rfl (tyX6_ok 31 (by decide)) (Nat.le_of_ble_eq_true rfl) ks_X6_31 dX6_token_57 (fun H locs hW => ?_)
        exact L60 301 (uI w 19 31 (w.1 19 30)) _ _ _ (k_J_e hi0.2.2.2.2.1 hi0) (by show 300 - (w.1 19 30).toInt.toNat < 301; omega) hW (lv_sub hl [0, 1, 2] rfl) (Eq.symm (hG.symm.trans (by simp only [f_X6_token_L5, if_pos h3])))
      · refine lv_aload_n hx hb dX6_token_18 rfl (lv_at hl 0 rfl) ?_
        refine k_get hx hb hts inlX6 hown hW 19 (by omega) k_c19 rfl 7 (by decide) lf_RX6_26 rfl (v := .ref (E.2.2 25)) rfl dX6_token_19 ?_
        refine lv_sipush (v := 300) hx hb dX6_token_22 (by decide) ?_
        refine lv_iload_n hx hb dX6_token_25 rfl (lv_at hl 1 rfl) ?_
        refine lv_imul hx hb dX6_token_26 ?_
        refine lv_aload_n hx hb dX6_token_27 rfl (lv_at hl 0 rfl) ?_
        refine k_get hx hb hts inlX6 hown hW 19 (by omega) k_c19 rfl 30 (by decide) lf_RX6_132 rfl (v := .int (w.1 19 30)) rfl dX6_token_28 ?_
        refine lv_iadd hx hb dX6_token_31 ?_
        refine k_bald hx hb hW 25 3600 (by omega) k_c25 (v := (w.1 25 (((300 * p0) + (w.1 19 30)).toNatClampNeg))) (by exact bt_in hs hi0.2.2.2.2.1.1 h3 (k_Jsz hi0 _).2) rfl dX6_token_32 ?_
        refine k_callS (rest := []) hx hb hml hown hts (c_X6_isBlank l E S _ w (w.1 25 (((300 * p0) + (w.1 19 30)).toNatClampNeg))) lm_RX6_135 ls_X6_isBlank li_X6 lk_X6_isBlank (show k_nm yX6_isBlank 1 by decide +kernel) ⟨Nat.le_of_ble_eq_true rfl, Nat.le_of_ble_eq_true rfl⟩ rfl rfl ⟨Nat.le_of_ble_eq_true rfl, Nat.le_of_ble_eq_true rfl⟩ hl.1 rfl (Nat.le_of_ble_eq_true rfl) dX6_token_33 hW (fun v z1 H locs hp hW => ?_)
        obtain ⟨rfl, hz1⟩ := hp
        rw [hz1] at hW
        refine W.eq (g2 := F0 m 36 ls [.int (f_X6_isBlank w (w.1 25 (((300 * p0) + (w.1 19 30)).toNatClampNeg)))]) rfl ?_
        refine lv_if_eq (tgt := 52) hx hb dX6_token_36 (by decide) (fun h4 => ?_) (fun h4 => ?_)
        · refine lv_aload_n hx hb dX6_token_52 rfl (lv_at hl 0 rfl) ?_
          refine lv_aload_n hx hb dX6_token_53 rfl (lv_at hl 0 rfl) ?_
          refine k_get hx hb hts inlX6 hown hW 19 (by omega) k_c19 rfl 30 (by decide) lf_RX6_132 rfl (v := .int (w.1 19 30)) rfl dX6_token_54 ?_
          refine k_putI hx hb hts inlX6 tyX6_ok nmX6 hown hW 19 (by omega) k_c19 rfl 31 (by decide) lf_RX6_138 rfl rfl (tyX6_ok 31 (by decide)) (Nat.le_of_ble_eq_true rfl) ks_X6_31 dX6_token_57 (fun H locs hW => ?_)
          exact L60 301 (uI w 19 31 (w.1 19 30)) _ _ _ (k_J_e hi0.2.2.2.2.1 hi0) (by show 300 - (w.1 19 30).toInt.toNat < 301; omega) hW (lv_sub hl [0, 1, 2] rfl) (Eq.symm (hG.symm.trans (by simp only [f_X6_token_L5, if_neg h3, if_pos h4])))
        · refine lv_aload_n hx hb dX6_token_39 rfl (lv_at hl 0 rfl) ?_
          refine lv_dup hx hb dX6_token_40 rfl ?_
          refine k_get hx hb hts inlX6 hown hW 19 (by omega) k_c19 rfl 30 (by decide) lf_RX6_132 rfl (v := .int (w.1 19 30)) rfl dX6_token_41 ?_
          refine lv_iconst (v := 1) hx hb dX6_token_44 (by decide) ?_
          refine lv_iadd hx hb dX6_token_45 ?_
          refine k_putI hx hb hts inlX6 tyX6_ok nmX6 hown hW 19 (by omega) k_c19 rfl 30 (by decide) lf_RX6_132 rfl rfl (tyX6_ok 30 (by decide)) (Nat.le_of_ble_eq_true rfl) ks_X6_30 dX6_token_46 (fun H locs hW => ?_)
          refine lv_goto (tgt := 5) hx hb dX6_token_49 (by decide) ?_
          exact ih (uI w 19 30 ((w.1 19 30) + 1)) _ _ _ (k_J_b ⟨in_s0 hi0.2.2.2.2.1.1 h3 (k_Jsz hi0 _).2, in_le1 h3 (k_Jsz hi0 _).2⟩ hi0) (in_sm hi0.2.2.2.2.1.1 h3 (k_Jsz hi0 _).2 hm) hW (lv_sub hl [0, 1, 2] rfl) (Eq.symm (hG.symm.trans (by simp only [f_X6_token_L5, if_neg h3, if_neg h4])))
  have hl : lv_has ls 3 [(0, .ref (E.2.2 19)), (1, .int p0), (2, .int p1)] := hl
  refine lv_aload_n hx hb dX6_token_0 rfl (lv_at hl 0 rfl) ?_
  refine lv_iload_n hx hb dX6_token_1 rfl (lv_at hl 2 rfl) ?_
  refine k_putI hx hb hts inlX6 tyX6_ok nmX6 hown hW 19 (by omega) k_c19 rfl 30 (by decide) lf_RX6_132 rfl rfl (tyX6_ok 30 (by decide)) (Nat.le_of_ble_eq_true rfl) ks_X6_30 dX6_token_2 (fun H locs hW => ?_)
  exact L5 301 (uI z 19 30 p1) _ _ _ (k_J_b hf hI) (by show 300 - p1.toInt.toNat < 301; omega) hW (lv_sub hl [0, 1, 2] rfl) (Eq.symm (by simp only [f_X6_token]))

theorem J_token_L60 {S : Nat} {p0 p1 : Int32} : ∀ (k : Nat) (w : Sg), k_J S w → k_J S (f_X6_token_L60 p0 p1 k w) := by
  intro k
  induction k with
  | zero => intro w h; rw [f_X6_token_L60]; exact h
  | succ k ih =>
    intro w h
    rw [f_X6_token_L60]
    by_cases g : (w.1 24 p0.toNatClampNeg) ≤ (w.1 19 31)
    · rw [if_pos g]; exact h
    · rw [if_neg g]
      split
      · exact ih _ (k_J_e ⟨in_s0 h.2.2.2.2.2.1.1 g (k_Jsz h _).2, in_le1 g (k_Jsz h _).2⟩ h)
      · exact h
theorem J_token_L5 {S : Nat} {p0 p1 : Int32} : ∀ (k : Nat) (w : Sg), k_J S w → k_J S (f_X6_token_L5 p0 p1 k w) := by
  intro k
  induction k with
  | zero => intro w h; rw [f_X6_token_L5]; exact h
  | succ k ih =>
    intro w h
    rw [f_X6_token_L5]
    by_cases g : (w.1 24 p0.toNatClampNeg) ≤ (w.1 19 30)
    · rw [if_pos g]; exact J_token_L60 _ _ (k_J_e h.2.2.2.2.1 h)
    · rw [if_neg g]
      split
      · exact J_token_L60 _ _ (k_J_e h.2.2.2.2.1 h)
      · exact ih _ (k_J_b ⟨in_s0 h.2.2.2.2.1.1 g (k_Jsz h _).2, in_le1 g (k_Jsz h _).2⟩ h)
theorem J_token {S : Nat} {z : Sg} {p0 p1 : Int32} (hf : 0 ≤ p1.toInt ∧ p1.toInt ≤ 300) (hI : k_J S z) : k_J S (f_X6_token z p0 p1) := J_token_L5 _ _ (k_J_b hf hI)

def f_X6_number_L37 (z : Sg) (p0 : Int32) : Nat → Int64 → Int32 → Int64
  | 0, _, _ => 0
  | k + 1, a, i =>
    if (z.1 19 31) ≤ i then
      a
    else
      if (z.1 25 (((300 * p0) + i).toNatClampNeg)) - 48 < 0 then
        (-1)
      else
        if (z.1 25 (((300 * p0) + i).toNatClampNeg)) - 48 ≤ 9 then
          f_X6_number_L37 z p0 k ((10 * a) + (((z.1 25 (((300 * p0) + i).toNatClampNeg)) - 48 : Int32).toInt64)) (i + 1)
        else
          (-1)
termination_by k9 => k9
def f_X6_number (z : Sg) (p0 : Int32) : Int64 :=
  if (z.1 19 31) = (z.1 19 30) then
    (-1)
  else
    if (z.1 19 31) - (z.1 19 30) ≤ 10 then
      f_X6_number_L37 z p0 301 0 (z.1 19 30)
    else
      (-1)
set_option maxHeartbeats 4000000 in
set_option maxRecDepth 100000 in
theorem c_X6_number (l : Launch) (E : Ev) (S sz : Nat) (z : Sg) (p0 : Int32) (hs : 0 ≤ p0.toInt ∧ p0.toInt < (12 : Nat)) (hI : k_J S z) : k_Met l yX6_number cX6_number 6 (some .long) ({ frames := 0, cells := 0, slots := 0, locals := 0 }) [.ref (E.2.2 19), .int p0] E (46 + 6 * S) z sz (fun v u => v = some (.long (f_X6_number z p0)) ∧ u = z) 0 0 := by
  refine k_body (by decide +kernel) (Nat.le_of_ble_eq_true rfl) ?_
  intro p e s m below meth cd ls hx hb hr hml hown hlocks hts hW hl
  have L37 : ∀ (k : Nat) (a : Int64) (i : Int32) (H : Heap) (locs : List Loc) (ls : Array Slot), (0 ≤ i.toInt) → 300 - i.toInt.toNat < k → k_W E (46 + 6 * S) z (k_A E (46 + 6 * S) z s.heap.size) s H locs → lv_has ls 6 [(0, .ref (E.2.2 19)), (1, .int p0), (2, .long a), (4, .int i)] → f_X6_number_L37 z p0 k a i = (f_X6_number z p0) → W p l e ({ frames := 0, cells := 0, slots := 0, locals := 0 }) s m ([.ref (E.2.2 19), .int p0] : List Value).toArray below meth cd H locs 0 0 (MQ below (k_Q (fun v u => v = some (.long (f_X6_number z p0)) ∧ u = z) E (46 + 6 * S) z s.heap.size) ([.ref (E.2.2 19), .int p0] : List Value).toArray s 0 0 (k_A E (46 + 6 * S) z s.heap.size)) (F0 m 37 ls []) := by
    intro k
    induction k with
    | zero =>
      intro a i H locs ls hi0 hm
      exact absurd hm (Nat.not_lt_zero _)
    | succ k ih =>
      intro a i H locs ls hi0 hm hW hl hG
      refine lv_iload hx hb dX6_number_37 (lv_at hl 3 rfl) ?_
      refine lv_aload_n hx hb dX6_number_39 rfl (lv_at hl 0 rfl) ?_
      refine k_get hx hb hts inlX6 hown hW 19 (by omega) k_c19 rfl 31 (by decide) lf_RX6_138 rfl (v := .int (z.1 19 31)) rfl dX6_number_40 ?_
      refine lv_icmp_ge (tgt := 96) hx hb dX6_number_43 (by decide) (fun h1 => ?_) (fun h1 => ?_)
      · refine lv_lload_n hx hb dX6_number_96 rfl (lv_at hl 2 rfl) ?_
        have hR : (f_X6_number z p0) = a := (hG.symm.trans (by simp only [f_X6_number_L37, if_pos h1]))
        exact k_lret hx hb hr hlocks hW ⟨by rw [hR], rfl⟩ dX6_number_97
      · refine lv_aload_n hx hb dX6_number_46 rfl (lv_at hl 0 rfl) ?_
        refine k_get hx hb hts inlX6 hown hW 19 (by omega) k_c19 rfl 7 (by decide) lf_RX6_26 rfl (v := .ref (E.2.2 25)) rfl dX6_number_47 ?_
        refine lv_sipush (v := 300) hx hb dX6_number_50 (by decide) ?_
        refine lv_iload_n hx hb dX6_number_53 rfl (lv_at hl 1 rfl) ?_
        refine lv_imul hx hb dX6_number_54 ?_
        refine lv_iload hx hb dX6_number_55 (lv_at hl 3 rfl) ?_
        refine lv_iadd hx hb dX6_number_57 ?_
        refine k_bald hx hb hW 25 3600 (by omega) k_c25 (v := (z.1 25 (((300 * p0) + i).toNatClampNeg))) (by exact bt_in hs hi0 h1 hI.2.2.2.2.2.1.2) rfl dX6_number_58 ?_
        refine lv_bipush (v := 48) hx hb dX6_number_59 (by decide) ?_
        refine lv_isub hx hb dX6_number_61 ?_
        refine lv_istore (lv' := [(5, .int ((z.1 25 (((300 * p0) + i).toNatClampNeg)) - 48)), (0, .ref (E.2.2 19)), (1, .int p0), (2, .long a), (4, .int i)]) hx hb dX6_number_62 hl (by decide) rfl (fun ls hl => ?_)
        refine lv_iload hx hb dX6_number_64 (lv_at hl 0 rfl) ?_
        refine lv_if_lt (tgt := 76) hx hb dX6_number_66 (by decide) (fun h2 => ?_) (fun h2 => ?_)
        · refine lv_ldc2 (v := (-1)) hx hb hown (hts _ lc_RX6_105) dX6_number_76 ?_
          have hR : (f_X6_number z p0) = (-1) := (hG.symm.trans (by simp only [f_X6_number_L37, if_neg h1, if_pos h2]))
          exact k_lret hx hb hr hlocks hW ⟨by rw [hR], rfl⟩ dX6_number_79
        · refine lv_iload hx hb dX6_number_69 (lv_at hl 0 rfl) ?_
          refine lv_bipush (v := 9) hx hb dX6_number_71 (by decide) ?_
          refine lv_icmp_le (tgt := 80) hx hb dX6_number_73 (by decide) (fun h3 => ?_) (fun h3 => ?_)
          · refine lv_ldc2 (v := 10) hx hb hown (hts _ lc_RX6_141) dX6_number_80 ?_
            refine lv_lload_n hx hb dX6_number_83 rfl (lv_at hl 3 rfl) ?_
            refine lv_lmul hx hb dX6_number_84 ?_
            refine lv_iload hx hb dX6_number_85 (lv_at hl 0 rfl) ?_
            refine lv_i2l (v := ((z.1 25 (((300 * p0) + i).toNatClampNeg)) - 48 : Int32).toInt64) hx hb dX6_number_87 rfl ?_
            refine lv_ladd hx hb dX6_number_88 ?_
            refine lv_lstore_n (lv' := [(2, .long ((10 * a) + (((z.1 25 (((300 * p0) + i).toNatClampNeg)) - 48 : Int32).toInt64))), (5, .int ((z.1 25 (((300 * p0) + i).toNatClampNeg)) - 48)), (0, .ref (E.2.2 19)), (1, .int p0), (4, .int i)]) hx hb dX6_number_89 rfl hl (by decide) rfl (fun ls hl => ?_)
            refine lv_iinc (v := i + 1) (lv' := [(4, .int (i + 1)), (2, .long ((10 * a) + (((z.1 25 (((300 * p0) + i).toNatClampNeg)) - 48 : Int32).toInt64))), (5, .int ((z.1 25 (((300 * p0) + i).toNatClampNeg)) - 48)), (0, .ref (E.2.2 19)), (1, .int p0)]) hx hb dX6_number_90 hl (k := 4) rfl rfl (by decide) rfl (fun ls hl => ?_)
            refine lv_goto (tgt := 37) hx hb dX6_number_93 (by decide) ?_
            exact ih ((10 * a) + (((z.1 25 (((300 * p0) + i).toNatClampNeg)) - 48 : Int32).toInt64)) (i + 1) _ _ _ (in_s0 hi0 h1 hI.2.2.2.2.2.1.2) (in_sm hi0 h1 hI.2.2.2.2.2.1.2 hm) hW (lv_sub hl [3, 4, 1, 0] rfl) (Eq.symm (hG.symm.trans (by simp only [f_X6_number_L37, if_neg h1, if_neg h2, if_pos h3])))
          · refine lv_ldc2 (v := (-1)) hx hb hown (hts _ lc_RX6_105) dX6_number_76 ?_
            have hR : (f_X6_number z p0) = (-1) := (hG.symm.trans (by simp only [f_X6_number_L37, if_neg h1, if_neg h2, if_neg h3]))
            exact k_lret hx hb hr hlocks hW ⟨by rw [hR], rfl⟩ dX6_number_79
  have hl : lv_has ls 6 [(0, .ref (E.2.2 19)), (1, .int p0)] := hl
  refine lv_aload_n hx hb dX6_number_0 rfl (lv_at hl 0 rfl) ?_
  refine k_get hx hb hts inlX6 hown hW 19 (by omega) k_c19 rfl 31 (by decide) lf_RX6_138 rfl (v := .int (z.1 19 31)) rfl dX6_number_1 ?_
  refine lv_aload_n hx hb dX6_number_4 rfl (lv_at hl 0 rfl) ?_
  refine k_get hx hb hts inlX6 hown hW 19 (by omega) k_c19 rfl 30 (by decide) lf_RX6_132 rfl (v := .int (z.1 19 30)) rfl dX6_number_5 ?_
  refine lv_icmp_eq (tgt := 25) hx hb dX6_number_8 (by decide) (fun h4 => ?_) (fun h4 => ?_)
  · refine lv_ldc2 (v := (-1)) hx hb hown (hts _ lc_RX6_105) dX6_number_25 ?_
    have hR : (f_X6_number z p0) = (-1) := (by simp only [f_X6_number, if_pos h4])
    exact k_lret hx hb hr hlocks hW ⟨by rw [hR], rfl⟩ dX6_number_28
  · refine lv_aload_n hx hb dX6_number_11 rfl (lv_at hl 0 rfl) ?_
    refine k_get hx hb hts inlX6 hown hW 19 (by omega) k_c19 rfl 31 (by decide) lf_RX6_138 rfl (v := .int (z.1 19 31)) rfl dX6_number_12 ?_
    refine lv_aload_n hx hb dX6_number_15 rfl (lv_at hl 0 rfl) ?_
    refine k_get hx hb hts inlX6 hown hW 19 (by omega) k_c19 rfl 30 (by decide) lf_RX6_132 rfl (v := .int (z.1 19 30)) rfl dX6_number_16 ?_
    refine lv_isub hx hb dX6_number_19 ?_
    refine lv_bipush (v := 10) hx hb dX6_number_20 (by decide) ?_
    refine lv_icmp_le (tgt := 29) hx hb dX6_number_22 (by decide) (fun h5 => ?_) (fun h5 => ?_)
    · refine lv_lconst (v := 0) hx hb dX6_number_29 (by decide) ?_
      refine lv_lstore_n (lv' := [(2, .long 0), (0, .ref (E.2.2 19)), (1, .int p0)]) hx hb dX6_number_30 rfl hl (by decide) rfl (fun ls hl => ?_)
      refine lv_aload_n hx hb dX6_number_31 rfl (lv_at hl 1 rfl) ?_
      refine k_get hx hb hts inlX6 hown hW 19 (by omega) k_c19 rfl 30 (by decide) lf_RX6_132 rfl (v := .int (z.1 19 30)) rfl dX6_number_32 ?_
      refine lv_istore (lv' := [(4, .int (z.1 19 30)), (2, .long 0), (0, .ref (E.2.2 19)), (1, .int p0)]) hx hb dX6_number_35 hl (by decide) rfl (fun ls hl => ?_)
      exact L37 301 0 (z.1 19 30) _ _ _ (hI.2.2.2.2.1.1) (by omega) hW (lv_sub hl [2, 3, 1, 0] rfl) (Eq.symm (by simp only [f_X6_number, if_neg h4, if_pos h5]))
    · refine lv_ldc2 (v := (-1)) hx hb hown (hts _ lc_RX6_105) dX6_number_25 ?_
      have hR : (f_X6_number z p0) = (-1) := (by simp only [f_X6_number, if_neg h4, if_neg h5])
      exact k_lret hx hb hr hlocks hW ⟨by rw [hR], rfl⟩ dX6_number_28

def f_X6_isByte (z : Sg) (p0 : Int32) (p1 : Int32) : Int32 :=
  if (z.1 19 31) = (z.1 19 30) + 1 then
    if (z.1 25 (((300 * p0) + (z.1 19 30)).toNatClampNeg)) = p1 then
      1
    else
      0
  else
    0
set_option maxHeartbeats 4000000 in
set_option maxRecDepth 100000 in
theorem c_X6_isByte (l : Launch) (E : Ev) (S sz : Nat) (z : Sg) (p0 : Int32) (p1 : Int32) (hs : 0 ≤ p0.toInt ∧ p0.toInt < (12 : Nat)) (hI : k_J S z) : k_Met l yX6_isByte cX6_isByte 3 (some .boolean) ({ frames := 0, cells := 0, slots := 0, locals := 0 }) [.ref (E.2.2 19), .int p0, .int p1] E (46 + 6 * S) z sz (fun v u => v = some (.int (f_X6_isByte z p0 p1)) ∧ u = z) 0 0 := by
  refine k_body (by decide +kernel) (Nat.le_of_ble_eq_true rfl) ?_
  intro p e s m below meth cd ls hx hb hr hml hown hlocks hts hW hl
  have hl : lv_has ls 3 [(0, .ref (E.2.2 19)), (1, .int p0), (2, .int p1)] := hl
  refine lv_aload_n hx hb dX6_isByte_0 rfl (lv_at hl 0 rfl) ?_
  refine k_get hx hb hts inlX6 hown hW 19 (by omega) k_c19 rfl 31 (by decide) lf_RX6_138 rfl (v := .int (z.1 19 31)) rfl dX6_isByte_1 ?_
  refine lv_aload_n hx hb dX6_isByte_4 rfl (lv_at hl 0 rfl) ?_
  refine k_get hx hb hts inlX6 hown hW 19 (by omega) k_c19 rfl 30 (by decide) lf_RX6_132 rfl (v := .int (z.1 19 30)) rfl dX6_isByte_5 ?_
  refine lv_iconst (v := 1) hx hb dX6_isByte_8 (by decide) ?_
  refine lv_iadd hx hb dX6_isByte_9 ?_
  refine lv_icmp_ne (tgt := 36) hx hb dX6_isByte_10 (by decide) (fun h1 => ?_) (fun h1 => ?_)
  · refine lv_iconst (v := 0) hx hb dX6_isByte_36 (by decide) ?_
    have hR : (f_X6_isByte z p0 p1) = 0 := (by simp only [f_X6_isByte, if_neg h1])
    exact k_iret hx hb hr rfl hlocks hW ⟨by rw [hR], rfl⟩ dX6_isByte_37
  · refine lv_aload_n hx hb dX6_isByte_13 rfl (lv_at hl 0 rfl) ?_
    refine k_get hx hb hts inlX6 hown hW 19 (by omega) k_c19 rfl 7 (by decide) lf_RX6_26 rfl (v := .ref (E.2.2 25)) rfl dX6_isByte_14 ?_
    refine lv_sipush (v := 300) hx hb dX6_isByte_17 (by decide) ?_
    refine lv_iload_n hx hb dX6_isByte_20 rfl (lv_at hl 1 rfl) ?_
    refine lv_imul hx hb dX6_isByte_21 ?_
    refine lv_aload_n hx hb dX6_isByte_22 rfl (lv_at hl 0 rfl) ?_
    refine k_get hx hb hts inlX6 hown hW 19 (by omega) k_c19 rfl 30 (by decide) lf_RX6_132 rfl (v := .int (z.1 19 30)) rfl dX6_isByte_23 ?_
    refine lv_iadd hx hb dX6_isByte_26 ?_
    refine k_bald hx hb hW 25 3600 (by omega) k_c25 (v := (z.1 25 (((300 * p0) + (z.1 19 30)).toNatClampNeg))) (by exact ix1 (k := 300) (l := 12) rfl hs (isb_b h1 hI.2.2.2.2.1 hI.2.2.2.2.2.1.2) (by decide)) rfl dX6_isByte_27 ?_
    refine lv_iload_n hx hb dX6_isByte_28 rfl (lv_at hl 2 rfl) ?_
    refine lv_icmp_ne (tgt := 36) hx hb dX6_isByte_29 (by decide) (fun h2 => ?_) (fun h2 => ?_)
    · refine lv_iconst (v := 0) hx hb dX6_isByte_36 (by decide) ?_
      have hR : (f_X6_isByte z p0 p1) = 0 := (by simp only [f_X6_isByte, if_pos h1, if_neg h2])
      exact k_iret hx hb hr rfl hlocks hW ⟨by rw [hR], rfl⟩ dX6_isByte_37
    · refine lv_iconst (v := 1) hx hb dX6_isByte_32 (by decide) ?_
      refine lv_goto (tgt := 37) hx hb dX6_isByte_33 (by decide) ?_
      have hR : (f_X6_isByte z p0 p1) = 1 := (by simp only [f_X6_isByte, if_pos h1, if_pos h2])
      exact k_iret hx hb hr rfl hlocks hW ⟨by rw [hR], rfl⟩ dX6_isByte_37

def f_X6_field_L6 (z : Sg) (p0 : Int32) (p1 : Int32) (p2 : Int32) : Nat → Int64 → Int32 → Int64
  | 0, _, _ => 0
  | k + 1, a, i =>
    if p1 + p2 ≤ i then
      a
    else
      f_X6_field_L6 z p0 p1 p2 k ((256 * a) + (((z.1 25 (((300 * p0) + i).toNatClampNeg)) &&& 255 : Int32).toInt64)) (i + 1)
termination_by k9 => k9
def f_X6_field (z : Sg) (p0 : Int32) (p1 : Int32) (p2 : Int32) : Int64 :=
  f_X6_field_L6 z p0 p1 p2 301 0 p1
set_option maxHeartbeats 4000000 in
set_option maxRecDepth 100000 in
theorem c_X6_field (l : Launch) (E : Ev) (S sz : Nat) (z : Sg) (p0 : Int32) (p1 : Int32) (p2 : Int32) (hs : 0 ≤ p0.toInt ∧ p0.toInt < (12 : Nat)) (hf : 0 ≤ p1.toInt ∧ (p1 + p2).toInt ≤ 300) : k_Met l yX6_field cX6_field 7 (some .long) ({ frames := 0, cells := 0, slots := 0, locals := 0 }) [.ref (E.2.2 19), .int p0, .int p1, .int p2] E (46 + 6 * S) z sz (fun v u => v = some (.long (f_X6_field z p0 p1 p2)) ∧ u = z) 0 0 := by
  refine k_body (by decide +kernel) (Nat.le_of_ble_eq_true rfl) ?_
  intro p e s m below meth cd ls hx hb hr hml hown hlocks hts hW hl
  have L6 : ∀ (k : Nat) (a : Int64) (i : Int32) (H : Heap) (locs : List Loc) (ls : Array Slot), (0 ≤ i.toInt) → 300 - i.toInt.toNat < k → k_W E (46 + 6 * S) z (k_A E (46 + 6 * S) z s.heap.size) s H locs → lv_has ls 7 [(0, .ref (E.2.2 19)), (1, .int p0), (2, .int p1), (3, .int p2), (4, .long a), (6, .int i)] → f_X6_field_L6 z p0 p1 p2 k a i = (f_X6_field z p0 p1 p2) → W p l e ({ frames := 0, cells := 0, slots := 0, locals := 0 }) s m ([.ref (E.2.2 19), .int p0, .int p1, .int p2] : List Value).toArray below meth cd H locs 0 0 (MQ below (k_Q (fun v u => v = some (.long (f_X6_field z p0 p1 p2)) ∧ u = z) E (46 + 6 * S) z s.heap.size) ([.ref (E.2.2 19), .int p0, .int p1, .int p2] : List Value).toArray s 0 0 (k_A E (46 + 6 * S) z s.heap.size)) (F0 m 6 ls []) := by
    intro k
    induction k with
    | zero =>
      intro a i H locs ls hi0 hm
      exact absurd hm (Nat.not_lt_zero _)
    | succ k ih =>
      intro a i H locs ls hi0 hm hW hl hG
      refine lv_iload hx hb dX6_field_6 (lv_at hl 5 rfl) ?_
      refine lv_iload_n hx hb dX6_field_8 rfl (lv_at hl 2 rfl) ?_
      refine lv_iload_n hx hb dX6_field_9 rfl (lv_at hl 3 rfl) ?_
      refine lv_iadd hx hb dX6_field_10 ?_
      refine lv_icmp_ge (tgt := 47) hx hb dX6_field_11 (by decide) (fun h1 => ?_) (fun h1 => ?_)
      · refine lv_lload hx hb dX6_field_47 (lv_at hl 4 rfl) ?_
        have hR : (f_X6_field z p0 p1 p2) = a := (hG.symm.trans (by simp only [f_X6_field_L6, if_pos h1]))
        exact k_lret hx hb hr hlocks hW ⟨by rw [hR], rfl⟩ dX6_field_49
      · refine lv_ldc2 (v := 256) hx hb hown (hts _ lc_RX6_163) dX6_field_14 ?_
        refine lv_lload hx hb dX6_field_17 (lv_at hl 4 rfl) ?_
        refine lv_lmul hx hb dX6_field_19 ?_
        refine lv_aload_n hx hb dX6_field_20 rfl (lv_at hl 0 rfl) ?_
        refine k_get hx hb hts inlX6 hown hW 19 (by omega) k_c19 rfl 7 (by decide) lf_RX6_26 rfl (v := .ref (E.2.2 25)) rfl dX6_field_21 ?_
        refine lv_sipush (v := 300) hx hb dX6_field_24 (by decide) ?_
        refine lv_iload_n hx hb dX6_field_27 rfl (lv_at hl 1 rfl) ?_
        refine lv_imul hx hb dX6_field_28 ?_
        refine lv_iload hx hb dX6_field_29 (lv_at hl 5 rfl) ?_
        refine lv_iadd hx hb dX6_field_31 ?_
        refine k_bald hx hb hW 25 3600 (by omega) k_c25 (v := (z.1 25 (((300 * p0) + i).toNatClampNeg))) (by exact bt_in hs hi0 h1 hf.2) rfl dX6_field_32 ?_
        refine lv_sipush (v := 255) hx hb dX6_field_33 (by decide) ?_
        refine lv_iand hx hb dX6_field_36 ?_
        refine lv_i2l (v := ((z.1 25 (((300 * p0) + i).toNatClampNeg)) &&& 255 : Int32).toInt64) hx hb dX6_field_37 rfl ?_
        refine lv_ladd hx hb dX6_field_38 ?_
        refine lv_lstore (lv' := [(4, .long ((256 * a) + (((z.1 25 (((300 * p0) + i).toNatClampNeg)) &&& 255 : Int32).toInt64))), (0, .ref (E.2.2 19)), (1, .int p0), (2, .int p1), (3, .int p2), (6, .int i)]) hx hb dX6_field_39 hl (by decide) rfl (fun ls hl => ?_)
        refine lv_iinc (v := i + 1) (lv' := [(6, .int (i + 1)), (4, .long ((256 * a) + (((z.1 25 (((300 * p0) + i).toNatClampNeg)) &&& 255 : Int32).toInt64))), (0, .ref (E.2.2 19)), (1, .int p0), (2, .int p1), (3, .int p2)]) hx hb dX6_field_41 hl (k := 5) rfl rfl (by decide) rfl (fun ls hl => ?_)
        refine lv_goto (tgt := 6) hx hb dX6_field_44 (by decide) ?_
        exact ih ((256 * a) + (((z.1 25 (((300 * p0) + i).toNatClampNeg)) &&& 255 : Int32).toInt64)) (i + 1) _ _ _ (in_s0 hi0 h1 hf.2) (in_sm hi0 h1 hf.2 hm) hW (lv_sub hl [2, 3, 4, 5, 1, 0] rfl) (Eq.symm (hG.symm.trans (by simp only [f_X6_field_L6, if_neg h1])))
  have hl : lv_has ls 7 [(0, .ref (E.2.2 19)), (1, .int p0), (2, .int p1), (3, .int p2)] := hl
  refine lv_lconst (v := 0) hx hb dX6_field_0 (by decide) ?_
  refine lv_lstore (lv' := [(4, .long 0), (0, .ref (E.2.2 19)), (1, .int p0), (2, .int p1), (3, .int p2)]) hx hb dX6_field_1 hl (by decide) rfl (fun ls hl => ?_)
  refine lv_iload_n hx hb dX6_field_3 rfl (lv_at hl 3 rfl) ?_
  refine lv_istore (lv' := [(6, .int p1), (4, .long 0), (0, .ref (E.2.2 19)), (1, .int p0), (2, .int p1), (3, .int p2)]) hx hb dX6_field_4 hl (by decide) rfl (fun ls hl => ?_)
  exact L6 301 0 p1 _ _ _ (hf.1) (by omega) hW (lv_sub hl [2, 3, 4, 5, 1, 0] rfl) (Eq.symm (by simp only [f_X6_field]))
