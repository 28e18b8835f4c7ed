/-! ===== the reference's chain: its sections stand once each ===== -/
theorem php : ∀ (m n : Nat) (f : Nat → Nat), (∀ i, i < n → f i < m) → (∀ i j, i < j → j < n → f i ≠ f j) → n ≤ m := by
  intro m
  induction m with
  | zero =>
    intro n f h _
    rcases Nat.eq_zero_or_pos n with e | e
    · omega
    · exact absurd (h 0 e) (Nat.not_lt_zero _)
  | succ m ih =>
    intro n f h g
    by_cases q : ∃ i, i < n ∧ f i = m
    · obtain ⟨i, hi, he⟩ := q
      have key := ih (n - 1) (fun k => if k < i then f k else f (k + 1)) (fun k hk => by
        show (if k < i then f k else f (k + 1)) < m
        by_cases c : k < i
        · rw [if_pos c]
          have h1 := h k (by omega)
          have h2 := g k i c hi
          omega
        · rw [if_neg c]
          have h1 := h (k + 1) (by omega)
          have h2 := g i (k + 1) (by omega) (by omega)
          omega) (fun a b hab hb => by
        show (if a < i then f a else f (a + 1)) ≠ (if b < i then f b else f (b + 1))
        by_cases c : a < i
        · by_cases d : b < i
          · rw [if_pos c, if_pos d]; exact g a b hab (by omega)
          · rw [if_pos c, if_neg d]; exact g a (b + 1) (by omega) (by omega)
        · rw [if_neg c, if_neg (by omega)]; exact g (a + 1) (b + 1) (by omega) (by omega))
      omega
    · have key := ih n f (fun i hi => by
        have h1 := h i hi
        have h2 : f i ≠ m := fun e => q ⟨i, hi, e⟩
        omega) g
      omega
def k_C (S : Nat) (z : Sg) : Prop := (∀ i, i < (z.1 19 18).toInt.toNat → (z.1 35 i).toInt < S) ∧ ∀ i j, i < j → j < (z.1 19 18).toInt.toNat → z.1 35 i ≠ z.1 35 j
theorem nic_L2 {z : Sg} {p : Int32} (hc : (z.1 19 18).toInt ≤ 12) : ∀ (k : Nat) (i : Int32), 0 ≤ i.toInt → 12 - i.toInt.toNat < k → f_X6_isInChain_L2 z p k i = 0 → ∀ j, i.toInt.toNat ≤ j → j < (z.1 19 18).toInt.toNat → z.1 35 j ≠ p := by
  intro k
  induction k with
  | zero => intro i _ h; exact absurd h (Nat.not_lt_zero _)
  | succ k ih =>
    intro i h0 hm h j hj hj2
    rw [f_X6_isInChain_L2] at h
    by_cases g : (z.1 19 18) ≤ i
    · simp only [Int32.le_iff_toInt_le] at g
      omega
    · rw [if_neg g] at h
      by_cases e : (z.1 35 i.toNatClampNeg) = p
      · rw [if_pos e] at h; exact absurd h (by decide)
      · rw [if_neg e] at h
        by_cases q : j = i.toInt.toNat
        · rw [q]; exact e
        · have a1 := i_add1 g
          exact ih (i + 1) (in_s0 h0 g hc) (in_sm h0 g hc hm) h j (by omega) hj2
theorem nic {S : Nat} {z : Sg} {p : Int32} (hI : k_J S z) (h : f_X6_isInChain z p = 0) : ∀ j, j < (z.1 19 18).toInt.toNat → z.1 35 j ≠ p := fun j hj => nic_L2 hI.2.2.1.2 13 0 (by decide) (by decide) h j (Nat.zero_le _) hj
theorem cs_lt {S : Nat} {z : Sg} {p : Int32} (hI : k_J S z) (hC : k_C S z) (hp : 0 ≤ p.toInt ∧ p.toInt < S) (h : ∀ j, j < (z.1 19 18).toInt.toNat → z.1 35 j ≠ p) : (z.1 19 18).toInt + 1 ≤ S := by
  have h0 := hI.2.2.1.1
  have key := php S ((z.1 19 18).toInt.toNat + 1) (fun i => if i < (z.1 19 18).toInt.toNat then (z.1 35 i).toInt.toNat else p.toInt.toNat) (fun i hi => by
    show (if i < (z.1 19 18).toInt.toNat then (z.1 35 i).toInt.toNat else p.toInt.toNat) < S
    by_cases c : i < (z.1 19 18).toInt.toNat
    · rw [if_pos c]
      have h1 := hC.1 i c
      have h2 := (hI.2.2.2.2.2.2.2.2.2.1 i).1
      omega
    · rw [if_neg c]; omega) (fun i j hij hj => by
    show (if i < (z.1 19 18).toInt.toNat then (z.1 35 i).toInt.toNat else p.toInt.toNat) ≠ (if j < (z.1 19 18).toInt.toNat then (z.1 35 j).toInt.toNat else p.toInt.toNat)
    have h2 := (hI.2.2.2.2.2.2.2.2.2.1 i).1
    rw [if_pos (show i < (z.1 19 18).toInt.toNat by omega)]
    by_cases c : j < (z.1 19 18).toInt.toNat
    · rw [if_pos c]
      have h1 := hC.2 i j hij c
      have h3 := (hI.2.2.2.2.2.2.2.2.2.1 j).1
      intro e
      exact h1 (Int32.toInt_inj.mp (by omega))
    · rw [if_neg c]
      have h1 := h i (by omega)
      intro e
      exact h1 (Int32.toInt_inj.mp (by omega)))
  omega
theorem cs_in {S : Nat} {z : Sg} {p : Int64} (hI : k_J S z) (hC : k_C S z) (hp : ¬ f_X6_find z p < 0) (h : f_X6_isInChain z (f_X6_find z p) = 0) : vp_in (z.1 19 18) 12 := by
  have h1 := cs_lt hI hC (b_find hI hp) (nic hI h)
  have h2 := hI.1.1
  exact vp_in_iff.mpr ⟨hI.2.2.1.1, by omega⟩

def f_X6_goOn (z : Sg) (p0 : Int32) (p1 : Int64) (p2 : Int32) : Int32 × Sg :=
  if (f_X6_find z p1) < 0 then
    let z3 := (f_X6_tell z 2 p0 p1)
    ((-1), z3)
  else
    if p2 = 0 then
      if (f_X6_isInChain z (f_X6_find z p1)) = 0 then
        ((f_X6_find z p1), (uI (uI z 35 ((z.1 19 18).toNatClampNeg) (f_X6_find z p1)) 19 18 ((z.1 19 18) + 1)))
      else
        let z7 := (f_X6_tell z 1 p0 p1)
        ((-1), z7)
    else
      if (z.1 20 ((f_X6_find z p1).toNatClampNeg)) = 0 then
        let z13 := (f_X6_tell z 2 p0 p1)
        ((-1), z13)
      else
        if (f_X6_isInChain z (f_X6_find z p1)) = 0 then
          ((f_X6_find z p1), (uI (uI z 35 ((z.1 19 18).toNatClampNeg) (f_X6_find z p1)) 19 18 ((z.1 19 18) + 1)))
        else
          let z11 := (f_X6_tell z 1 p0 p1)
          ((-1), z11)
set_option maxHeartbeats 4000000 in
set_option maxRecDepth 100000 in
theorem c_X6_goOn (l : Launch) (E : Ev) (S sz : Nat) (z : Sg) (p0 : Int32) (p1 : Int64) (p2 : Int32) (hC : k_C S z) (hI : k_J S z) : k_Met l yX6_goOn cX6_goOn 6 (some .int) ({ frames := 1, cells := 0, slots := 0, locals := 24 }) [.ref (E.2.2 19), .int p0, .long p1, .int p2] E (46 + 6 * S) z sz (fun v u => v = some (.int ((f_X6_goOn z p0 p1 p2).1)) ∧ u = (f_X6_goOn z p0 p1 p2).2) 0 0 := by
  refine k_body (by decide +kernel) (Nat.le_of_ble_eq_true rfl) ?_
  intro p e s m below meth cd ls hx hb hr hml hown hlocks hts hW hl
  have hl : lv_has ls 6 [(0, .ref (E.2.2 19)), (1, .int p0), (2, .long p1), (4, .int p2)] := hl
  refine lv_aload_n hx hb dX6_goOn_0 rfl (lv_at hl 0 rfl) ?_
  refine lv_lload_n hx hb dX6_goOn_1 rfl (lv_at hl 2 rfl) ?_
  refine k_callV (As := [.long p1]) (rest := []) hx hb hml hown hts (c_X6_find l E S _ z p1 hI) lm_RX6_101 ln_X6_find le_X6_find li_X6 lk_X6_find (show k_nm yX6_find 1 by decide +kernel) ⟨Nat.le_of_ble_eq_true rfl, Nat.le_of_ble_eq_true rfl⟩ rfl rfl ⟨Nat.le_of_ble_eq_true rfl, Nat.le_of_ble_eq_true rfl⟩ hl.1 rfl (Nat.le_of_ble_eq_true rfl) dX6_goOn_2 (by omega) (k_c19 _ _ _) rfl hW (fun v z1 H locs hp hW => ?_)
  obtain ⟨rfl, hz1⟩ := hp
  rw [hz1] at hW
  refine W.eq (g2 := F0 m 5 ls [.int (f_X6_find z p1)]) rfl ?_
  refine lv_istore (lv' := [(5, .int (f_X6_find z p1)), (0, .ref (E.2.2 19)), (1, .int p0), (2, .long p1), (4, .int p2)]) hx hb dX6_goOn_5 hl (by decide) rfl (fun ls hl => ?_)
  refine lv_iload hx hb dX6_goOn_7 (lv_at hl 0 rfl) ?_
  refine lv_if_lt (tgt := 27) hx hb dX6_goOn_9 (by decide) (fun h1 => ?_) (fun h1 => ?_)
  · refine lv_aload_n hx hb dX6_goOn_27 rfl (lv_at hl 1 rfl) ?_
    refine lv_iconst (v := 2) hx hb dX6_goOn_28 (by decide) ?_
    refine lv_iload_n hx hb dX6_goOn_29 rfl (lv_at hl 2 rfl) ?_
    refine lv_lload_n hx hb dX6_goOn_30 rfl (lv_at hl 3 rfl) ?_
    refine k_callV (As := [.int 2, .int p0, .long p1]) (rest := []) hx hb hml hown hts (c_X6_tell l E S _ z 2 p0 p1 hI) lm_RX6_151 ln_X6_tell le_X6_tell li_X6 lk_X6_tell (show k_nm yX6_tell 3 by decide +kernel) ⟨Nat.le_of_ble_eq_true rfl, Nat.le_of_ble_eq_true rfl⟩ rfl rfl ⟨Nat.le_of_ble_eq_true rfl, Nat.le_of_ble_eq_true rfl⟩ hl.1 rfl (Nat.le_of_ble_eq_true rfl) dX6_goOn_31 (by omega) (k_c19 _ _ _) rfl hW (fun v z1 H locs hp hW => ?_)
    obtain ⟨rfl, hz1⟩ := hp
    rw [hz1] at hW
    obtain ⟨z3, ez3⟩ : ∃ y9 : Sg, y9 = (f_X6_tell z 2 p0 p1) := ⟨_, rfl⟩
    rw [← ez3] at hW
    have Jz3 : k_J S z3 := by rw [ez3]; exact J_tell hI
    refine W.eq (g2 := F0 m 34 ls []) rfl ?_
    refine lv_iconst (v := (-1)) hx hb dX6_goOn_34 (by decide) ?_
    have hR : (f_X6_goOn z p0 p1 p2) = ((-1), z3) := (by subst ez3; simp only [f_X6_goOn, if_pos h1])
    exact k_iret hx hb hr rfl hlocks hW ⟨by rw [hR], by rw [hR]⟩ dX6_goOn_35
  · refine lv_iload hx hb dX6_goOn_12 (lv_at hl 4 rfl) ?_
    refine lv_if_eq (tgt := 36) hx hb dX6_goOn_14 (by decide) (fun h4 => ?_) (fun h4 => ?_)
    · refine lv_aload_n hx hb dX6_goOn_36 rfl (lv_at hl 1 rfl) ?_
      refine lv_iload hx hb dX6_goOn_37 (lv_at hl 0 rfl) ?_
      refine k_callV (As := [.int (f_X6_find z p1)]) (rest := []) hx hb hml hown hts (c_X6_isInChain l E S _ z (f_X6_find z p1) hI) lm_RX6_181 ln_X6_isInChain le_X6_isInChain li_X6 lk_X6_isInChain (show k_nm yX6_isInChain 1 by decide +kernel) ⟨Nat.le_of_ble_eq_true rfl, Nat.le_of_ble_eq_true rfl⟩ rfl rfl ⟨Nat.le_of_ble_eq_true rfl, Nat.le_of_ble_eq_true rfl⟩ hl.1 rfl (Nat.le_of_ble_eq_true rfl) dX6_goOn_39 (by omega) (k_c19 _ _ _) rfl hW (fun v z1 H locs hp hW => ?_)
      obtain ⟨rfl, hz1⟩ := hp
      rw [hz1] at hW
      refine W.eq (g2 := F0 m 42 ls [.int (f_X6_isInChain z (f_X6_find z p1))]) rfl ?_
      refine lv_if_eq (tgt := 54) hx hb dX6_goOn_42 (by decide) (fun h5 => ?_) (fun h5 => ?_)
      · refine lv_aload_n hx hb dX6_goOn_54 rfl (lv_at hl 1 rfl) ?_
        refine k_get hx hb hts inlX6 hown hW 19 (by omega) k_c19 rfl 19 (by decide) lf_RX6_58 rfl (v := .ref (E.2.2 35)) rfl dX6_goOn_55 ?_
        refine lv_aload_n hx hb dX6_goOn_58 rfl (lv_at hl 1 rfl) ?_
        refine k_get hx hb hts inlX6 hown hW 19 (by omega) k_c19 rfl 18 (by decide) lf_RX6_178 rfl (v := .int (z.1 19 18)) rfl dX6_goOn_59 ?_
        refine lv_iload hx hb dX6_goOn_62 (lv_at hl 0 rfl) ?_
        refine k_iast hx hb hW 35 12 (by omega) k_c35 (by exact cs_in hI hC h1 h5) dX6_goOn_64 (fun H locs hW => ?_)
        refine lv_aload_n hx hb dX6_goOn_65 rfl (lv_at hl 1 rfl) ?_
        refine lv_dup hx hb dX6_goOn_66 rfl ?_
        refine k_get hx hb hts inlX6 hown hW 19 (by omega) k_c19 rfl 18 (by decide) lf_RX6_178 rfl (v := .int (z.1 19 18)) rfl dX6_goOn_67 ?_
        refine lv_iconst (v := 1) hx hb dX6_goOn_70 (by decide) ?_
        refine lv_iadd hx hb dX6_goOn_71 ?_
        refine k_putI hx hb hts inlX6 tyX6_ok nmX6 hown hW 19 (by omega) k_c19 rfl 18 (by decide) lf_RX6_178 rfl rfl (tyX6_ok 18 (by decide)) (Nat.le_of_ble_eq_true rfl) ks_X6_18 dX6_goOn_72 (fun H locs hW => ?_)
        refine lv_iload hx hb dX6_goOn_75 (lv_at hl 0 rfl) ?_
        have hR : (f_X6_goOn z p0 p1 p2) = ((f_X6_find z p1), (uI (uI z 35 ((z.1 19 18).toNatClampNeg) (f_X6_find z p1)) 19 18 ((z.1 19 18) + 1))) := (by simp only [f_X6_goOn, if_neg h1, if_pos h4, if_pos h5])
        exact k_iret hx hb hr rfl hlocks hW ⟨by rw [hR], by rw [hR]⟩ dX6_goOn_77
      · refine lv_aload_n hx hb dX6_goOn_45 rfl (lv_at hl 1 rfl) ?_
        refine lv_iconst (v := 1) hx hb dX6_goOn_46 (by decide) ?_
        refine lv_iload_n hx hb dX6_goOn_47 rfl (lv_at hl 2 rfl) ?_
        refine lv_lload_n hx hb dX6_goOn_48 rfl (lv_at hl 3 rfl) ?_
        refine k_callV (As := [.int 1, .int p0, .long p1]) (rest := []) hx hb hml hown hts (c_X6_tell l E S _ z 1 p0 p1 hI) lm_RX6_151 ln_X6_tell le_X6_tell li_X6 lk_X6_tell (show k_nm yX6_tell 3 by decide +kernel) ⟨Nat.le_of_ble_eq_true rfl, Nat.le_of_ble_eq_true rfl⟩ rfl rfl ⟨Nat.le_of_ble_eq_true rfl, Nat.le_of_ble_eq_true rfl⟩ hl.1 rfl (Nat.le_of_ble_eq_true rfl) dX6_goOn_49 (by omega) (k_c19 _ _ _) rfl hW (fun v z1 H locs hp hW => ?_)
        obtain ⟨rfl, hz1⟩ := hp
        rw [hz1] at hW
        obtain ⟨z7, ez7⟩ : ∃ y9 : Sg, y9 = (f_X6_tell z 1 p0 p1) := ⟨_, rfl⟩
        rw [← ez7] at hW
        have Jz7 : k_J S z7 := by rw [ez7]; exact J_tell hI
        refine W.eq (g2 := F0 m 52 ls []) rfl ?_
        refine lv_iconst (v := (-1)) hx hb dX6_goOn_52 (by decide) ?_
        have hR : (f_X6_goOn z p0 p1 p2) = ((-1), z7) := (by subst ez7; simp only [f_X6_goOn, if_neg h1, if_pos h4, if_neg h5])
        exact k_iret hx hb hr rfl hlocks hW ⟨by rw [hR], by rw [hR]⟩ dX6_goOn_53
    · refine lv_aload_n hx hb dX6_goOn_17 rfl (lv_at hl 1 rfl) ?_
      refine k_get hx hb hts inlX6 hown hW 19 (by omega) k_c19 rfl 2 (by decide) lf_RX6_7 rfl (v := .ref (E.2.2 20)) rfl dX6_goOn_18 ?_
      refine lv_iload hx hb dX6_goOn_21 (lv_at hl 0 rfl) ?_
      refine k_iald hx hb hW 20 12 (by omega) k_c20 (v := (z.1 20 ((f_X6_find z p1).toNatClampNeg))) (by exact in12 (lt_of12 hI.1.1 (b_find hI h1))) rfl dX6_goOn_23 ?_
      refine lv_if_ne (tgt := 36) hx hb dX6_goOn_24 (by decide) (fun h8 => ?_) (fun h8 => ?_)
      · refine lv_aload_n hx hb dX6_goOn_36 rfl (lv_at hl 1 rfl) ?_
        refine lv_iload hx hb dX6_goOn_37 (lv_at hl 0 rfl) ?_
        refine k_callV (As := [.int (f_X6_find z p1)]) (rest := []) hx hb hml hown hts (c_X6_isInChain l E S _ z (f_X6_find z p1) hI) lm_RX6_181 ln_X6_isInChain le_X6_isInChain li_X6 lk_X6_isInChain (show k_nm yX6_isInChain 1 by decide +kernel) ⟨Nat.le_of_ble_eq_true rfl, Nat.le_of_ble_eq_true rfl⟩ rfl rfl ⟨Nat.le_of_ble_eq_true rfl, Nat.le_of_ble_eq_true rfl⟩ hl.1 rfl (Nat.le_of_ble_eq_true rfl) dX6_goOn_39 (by omega) (k_c19 _ _ _) rfl hW (fun v z1 H locs hp hW => ?_)
        obtain ⟨rfl, hz1⟩ := hp
        rw [hz1] at hW
        refine W.eq (g2 := F0 m 42 ls [.int (f_X6_isInChain z (f_X6_find z p1))]) rfl ?_
        refine lv_if_eq (tgt := 54) hx hb dX6_goOn_42 (by decide) (fun h9 => ?_) (fun h9 => ?_)
        · refine lv_aload_n hx hb dX6_goOn_54 rfl (lv_at hl 1 rfl) ?_
          refine k_get hx hb hts inlX6 hown hW 19 (by omega) k_c19 rfl 19 (by decide) lf_RX6_58 rfl (v := .ref (E.2.2 35)) rfl dX6_goOn_55 ?_
          refine lv_aload_n hx hb dX6_goOn_58 rfl (lv_at hl 1 rfl) ?_
          refine k_get hx hb hts inlX6 hown hW 19 (by omega) k_c19 rfl 18 (by decide) lf_RX6_178 rfl (v := .int (z.1 19 18)) rfl dX6_goOn_59 ?_
          refine lv_iload hx hb dX6_goOn_62 (lv_at hl 0 rfl) ?_
          refine k_iast hx hb hW 35 12 (by omega) k_c35 (by exact cs_in hI hC h1 h9) dX6_goOn_64 (fun H locs hW => ?_)
          refine lv_aload_n hx hb dX6_goOn_65 rfl (lv_at hl 1 rfl) ?_
          refine lv_dup hx hb dX6_goOn_66 rfl ?_
          refine k_get hx hb hts inlX6 hown hW 19 (by omega) k_c19 rfl 18 (by decide) lf_RX6_178 rfl (v := .int (z.1 19 18)) rfl dX6_goOn_67 ?_
          refine lv_iconst (v := 1) hx hb dX6_goOn_70 (by decide) ?_
          refine lv_iadd hx hb dX6_goOn_71 ?_
          refine k_putI hx hb hts inlX6 tyX6_ok nmX6 hown hW 19 (by omega) k_c19 rfl 18 (by decide) lf_RX6_178 rfl rfl (tyX6_ok 18 (by decide)) (Nat.le_of_ble_eq_true rfl) ks_X6_18 dX6_goOn_72 (fun H locs hW => ?_)
          refine lv_iload hx hb dX6_goOn_75 (lv_at hl 0 rfl) ?_
          have hR : (f_X6_goOn z p0 p1 p2) = ((f_X6_find z p1), (uI (uI z 35 ((z.1 19 18).toNatClampNeg) (f_X6_find z p1)) 19 18 ((z.1 19 18) + 1))) := (by simp only [f_X6_goOn, if_neg h1, if_neg h4, if_neg h8, if_pos h9])
          exact k_iret hx hb hr rfl hlocks hW ⟨by rw [hR], by rw [hR]⟩ dX6_goOn_77
        · refine lv_aload_n hx hb dX6_goOn_45 rfl (lv_at hl 1 rfl) ?_
          refine lv_iconst (v := 1) hx hb dX6_goOn_46 (by decide) ?_
          refine lv_iload_n hx hb dX6_goOn_47 rfl (lv_at hl 2 rfl) ?_
          refine lv_lload_n hx hb dX6_goOn_48 rfl (lv_at hl 3 rfl) ?_
          refine k_callV (As := [.int 1, .int p0, .long p1]) (rest := []) hx hb hml hown hts (c_X6_tell l E S _ z 1 p0 p1 hI) lm_RX6_151 ln_X6_tell le_X6_tell li_X6 lk_X6_tell (show k_nm yX6_tell 3 by decide +kernel) ⟨Nat.le_of_ble_eq_true rfl, Nat.le_of_ble_eq_true rfl⟩ rfl rfl ⟨Nat.le_of_ble_eq_true rfl, Nat.le_of_ble_eq_true rfl⟩ hl.1 rfl (Nat.le_of_ble_eq_true rfl) dX6_goOn_49 (by omega) (k_c19 _ _ _) rfl hW (fun v z1 H locs hp hW => ?_)
          obtain ⟨rfl, hz1⟩ := hp
          rw [hz1] at hW
          obtain ⟨z11, ez11⟩ : ∃ y9 : Sg, y9 = (f_X6_tell z 1 p0 p1) := ⟨_, rfl⟩
          rw [← ez11] at hW
          have Jz11 : k_J S z11 := by rw [ez11]; exact J_tell hI
          refine W.eq (g2 := F0 m 52 ls []) rfl ?_
          refine lv_iconst (v := (-1)) hx hb dX6_goOn_52 (by decide) ?_
          have hR : (f_X6_goOn z p0 p1 p2) = ((-1), z11) := (by subst ez11; simp only [f_X6_goOn, if_neg h1, if_neg h4, if_neg h8, if_neg h9])
          exact k_iret hx hb hr rfl hlocks hW ⟨by rw [hR], by rw [hR]⟩ dX6_goOn_53
      · refine lv_aload_n hx hb dX6_goOn_27 rfl (lv_at hl 1 rfl) ?_
        refine lv_iconst (v := 2) hx hb dX6_goOn_28 (by decide) ?_
        refine lv_iload_n hx hb dX6_goOn_29 rfl (lv_at hl 2 rfl) ?_
        refine lv_lload_n hx hb dX6_goOn_30 rfl (lv_at hl 3 rfl) ?_
        refine k_callV (As := [.int 2, .int p0, .long p1]) (rest := []) hx hb hml hown hts (c_X6_tell l E S _ z 2 p0 p1 hI) lm_RX6_151 ln_X6_tell le_X6_tell li_X6 lk_X6_tell (show k_nm yX6_tell 3 by decide +kernel) ⟨Nat.le_of_ble_eq_true rfl, Nat.le_of_ble_eq_true rfl⟩ rfl rfl ⟨Nat.le_of_ble_eq_true rfl, Nat.le_of_ble_eq_true rfl⟩ hl.1 rfl (Nat.le_of_ble_eq_true rfl) dX6_goOn_31 (by omega) (k_c19 _ _ _) rfl hW (fun v z1 H locs hp hW => ?_)
        obtain ⟨rfl, hz1⟩ := hp
        rw [hz1] at hW
        obtain ⟨z13, ez13⟩ : ∃ y9 : Sg, y9 = (f_X6_tell z 2 p0 p1) := ⟨_, rfl⟩
        rw [← ez13] at hW
        have Jz13 : k_J S z13 := by rw [ez13]; exact J_tell hI
        refine W.eq (g2 := F0 m 34 ls []) rfl ?_
        refine lv_iconst (v := (-1)) hx hb dX6_goOn_34 (by decide) ?_
        have hR : (f_X6_goOn z p0 p1 p2) = ((-1), z13) := (by subst ez13; simp only [f_X6_goOn, if_neg h1, if_neg h4, if_pos h8])
        exact k_iret hx hb hr rfl hlocks hW ⟨by rw [hR], by rw [hR]⟩ dX6_goOn_35

/-- a section at the chain's end, before its rows are read -/
def k_P (S : Nat) (s : Int32) (z : Sg) : Prop := k_J S z ∧ k_C S z ∧ k_V z ∧ (0 ≤ s.toInt ∧ s.toInt < S) ∧ ∀ o, o < 100 → (z.1 39 o).toInt + 1 ≤ (z.1 19 18).toInt
def k_Y (S : Nat) (z : Sg) : Prop := k_C S z ∧ k_V z ∧ ∀ o, o < 100 → (z.1 39 o).toInt ≤ (z.1 19 18).toInt
theorem C_mf {S : Nat} {z w : Sg} (h : mf z w) (hC : k_C S z) : k_C S w := by
  unfold k_C
  rw [(h.1 35 rfl).1, h.2.2.1]
  exact hC
theorem find_m1 {z : Sg} {p : Int64} : ((-1 : Int32), z).1 = -1 := rfl
theorem goOn_all {S : Nat} {z : Sg} {s b : Int32} {p : Int64} (hI : k_J S z) (hC : k_C S z) (hV : k_V z) : k_J S (f_X6_goOn z s p b).2 ∧ k_C S (f_X6_goOn z s p b).2 ∧ k_V (f_X6_goOn z s p b).2 ∧ (f_X6_goOn z s p b).2.1 39 = z.1 39 ∧ (f_X6_goOn z s p b).2.1 40 = z.1 40 ∧ (((f_X6_goOn z s p b).1 = -1 ∧ (f_X6_goOn z s p b).2.1 19 18 = z.1 19 18) ∨ (0 ≤ (f_X6_goOn z s p b).1.toInt ∧ (f_X6_goOn z s p b).1.toInt < S ∧ ((f_X6_goOn z s p b).2.1 19 18).toInt = (z.1 19 18).toInt + 1)) := by
  have ht : ∀ (a : Int32), k_J S (f_X6_tell z a s p) ∧ k_C S (f_X6_tell z a s p) ∧ k_V (f_X6_tell z a s p) ∧ (f_X6_tell z a s p).1 39 = z.1 39 ∧ (f_X6_tell z a s p).1 40 = z.1 40 ∧ (((-1 : Int32) = -1 ∧ (f_X6_tell z a s p).1 19 18 = z.1 19 18) ∨ (0 ≤ (-1 : Int32).toInt ∧ (-1 : Int32).toInt < S ∧ ((f_X6_tell z a s p).1 19 18).toInt = (z.1 19 18).toInt + 1)) := by
    intro a
    have hm := mf_tell (a := a) (b := s) (d := p) (mf.rf (z := z))
    refine ⟨J_tell hI, C_mf hm hC, V_mf hm hV, ?_, ?_, Or.inl ⟨rfl, hm.2.2.1⟩⟩
    · unfold f_X6_tell; split <;> rfl
    · unfold f_X6_tell; split <;> rfl
  have hgo : ¬ (f_X6_find z p) < 0 → (f_X6_isInChain z (f_X6_find z p)) = 0 → k_J S (uI (uI z 35 ((z.1 19 18).toNatClampNeg) (f_X6_find z p)) 19 18 ((z.1 19 18) + 1)) ∧ k_C S (uI (uI z 35 ((z.1 19 18).toNatClampNeg) (f_X6_find z p)) 19 18 ((z.1 19 18) + 1)) ∧ (z.1 19 18 + 1).toInt = (z.1 19 18).toInt + 1 := by
    intro h1 h2
    have hb := b_find hI h1
    have hn := nic hI h2
    have hlt := cs_lt hI hC hb hn
    generalize f_X6_find z p = q at hb hn hlt ⊢
    have hS := hI.1.1
    have hc0 := hI.2.2.1.1
    have e1 : ((z.1 19 18) + 1).toInt = (z.1 19 18).toInt + 1 := i_addb (by have : (1 : Int32).toInt = 1 := rfl; rw [this]; omega)
    refine ⟨k_J_c (by rw [e1]; omega) (k_J_ch (by omega) hI), ?_, e1⟩
    have e3 : (uI (uI z 35 ((z.1 19 18).toNatClampNeg) q) 19 18 ((z.1 19 18) + 1)).1 19 18 = (z.1 19 18) + 1 := by rw [uI_s]; simp [upd]
    have e4 : (uI (uI z 35 ((z.1 19 18).toNatClampNeg) q) 19 18 ((z.1 19 18) + 1)).1 35 = upd (z.1 35) (z.1 19 18).toInt.toNat q := by rw [uI_r (by decide), uI_s]; rfl
    refine ⟨fun i hi => ?_, fun i j hij hj => ?_⟩
    · rw [e3, e1] at hi
      rw [e4]
      unfold upd
      split
      · exact hb.2
      · exact hC.1 i (by omega)
    · rw [e3, e1] at hj
      rw [e4]
      have d1 : ¬ i = (z.1 19 18).toInt.toNat := by omega
      simp only [upd, if_neg d1]
      by_cases d2 : j = (z.1 19 18).toInt.toNat
      · rw [if_pos d2]; exact hn i (by omega)
      · rw [if_neg d2]; exact hC.2 i j hij (by omega)
  unfold f_X6_goOn
  split
  · exact ht 2
  · next h1 =>
    have hb := b_find hI h1
    split
    · split
      · next h2 =>
        have h3 := hgo h1 h2
        refine ⟨h3.1, h3.2.1, hV, rfl, rfl, Or.inr ⟨hb.1, hb.2, ?_⟩⟩
        exact h3.2.2
      · exact ht 1
    · split
      · exact ht 2
      · split
        · next h2 =>
          have h3 := hgo h1 h2
          refine ⟨h3.1, h3.2.1, hV, rfl, rfl, Or.inr ⟨hb.1, hb.2, ?_⟩⟩
          exact h3.2.2
        · exact ht 1
theorem neg1 {x : Int32} (h : x = -1) : x < 0 := by rw [h]; decide
theorem goOn_pos {S : Nat} {z : Sg} {s b : Int32} {p : Int64} (hI : k_J S z) (hC : k_C S z) (hV : k_V z) (h : ¬ (f_X6_goOn z s p b).1 < 0) : (0 ≤ (f_X6_goOn z s p b).1.toInt ∧ (f_X6_goOn z s p b).1.toInt < S ∧ ((f_X6_goOn z s p b).2.1 19 18).toInt = (z.1 19 18).toInt + 1) := by
  rcases (goOn_all (s := s) (b := b) (p := p) hI hC hV).2.2.2.2.2 with g | g
  · exact absurd (neg1 g.1) h
  · exact g
theorem goOn_t {S : Nat} {z : Sg} {s b : Int32} {p : Int64} (hI : k_J S z) (hC : k_C S z) (hV : k_V z) (h : ¬ (f_X6_goOn z s p b).1 < 0) : (z.1 19 18).toInt.toNat ≤ 11 := by
  have h1 := goOn_pos hI hC hV h
  have h2 := (goOn_all (s := s) (b := b) (p := p) hI hC hV).1.2.2.1
  have h3 := hI.2.2.1
  omega
theorem P_t {S : Nat} {s : Int32} {z : Sg} (h : k_P S s z) : (z.1 19 18).toInt.toNat - 1 ≤ 11 := by
  have h3 := h.1.2.2.1
  omega
theorem P_R {S : Nat} {s : Int32} {z : Sg} (h : k_P S s z) : k_R ((z.1 19 18).toInt.toNat - 1) s z := by
  intro o ho
  have h1 := h.2.2.2.2 o ho
  left; omega
theorem R_goOn {S t : Nat} {z : Sg} {s s' b : Int32} {p : Int64} (hI : k_J S z) (hC : k_C S z) (hV : k_V z) (hR : k_R t s z) : k_R t s (f_X6_goOn z s' p b).2 := by
  have h := goOn_all (s := s') (b := b) (p := p) hI hC hV
  unfold k_R
  rw [h.2.2.2.1, h.2.2.2.2.1]
  exact hR
theorem R_up {t u : Nat} {z : Sg} {s s' : Int32} (hu : t + 1 ≤ u) (hR : k_R t s z) : k_R u s' z := by
  intro o ho
  rcases hR o ho with h | ⟨h, -⟩
  · left; omega
  · left; omega
theorem P_cs {S : Nat} {s : Int32} {z : Sg} (h : k_P S s z) : (z.1 19 18).toInt.toNat - 1 + 1 ≤ (z.1 19 18).toInt.toNat := by
  have h1 := h.2.2.2.2 0 (by decide)
  have h2 := (h.1.2.2.2.2.2.2.2.2.2.2 0).1
  omega

def f_X6_readWhole (z : Sg) (p0 : Int32) : Sg :=
  if (z.1 20 p0.toNatClampNeg) = 0 then
    if (z.2.1 23 p0.toNatClampNeg) < 0 then
      let z7 := (f_X6_readRows z p0)
      z7
    else
      let z10 := (f_X6_goOn z p0 (z.2.1 23 p0.toNatClampNeg) 1).2
      let z12 := (f_X6_readRows z10 p0)
      if (f_X6_goOn z p0 (z.2.1 23 p0.toNatClampNeg) 1).1 < 0 then
        z12
      else
        let z15 := (f_X6_readRows z12 ((f_X6_goOn z p0 (z.2.1 23 p0.toNatClampNeg) 1).1))
        z15
  else
    let z3 := (f_X6_readRows z p0)
    z3
set_option maxHeartbeats 4000000 in
set_option maxRecDepth 100000 in
theorem c_X6_readWhole (l : Launch) (E : Ev) (S sz : Nat) (z : Sg) (p0 : Int32) (hP : k_P S p0 z) (hI : k_J S z) : k_Met l yX6_readWhole cX6_readWhole 3 none ({ frames := 4, cells := 0, slots := 0, locals := 95 }) [.ref (E.2.2 19), .int p0] E (46 + 6 * S) z sz (fun v u => v = none ∧ u = (f_X6_readWhole z p0)) 0 0 := by
  refine k_body (by decide +kernel) (Nat.le_of_ble_eq_true rfl) ?_
  intro p e s m below meth cd ls hx hb hr hml hown hlocks hts hW hl
  have hl : lv_has ls 3 [(0, .ref (E.2.2 19)), (1, .int p0)] := hl
  refine lv_aload_n hx hb dX6_readWhole_0 rfl (lv_at hl 0 rfl) ?_
  refine k_get hx hb hts inlX6 hown hW 19 (by omega) k_c19 rfl 2 (by decide) lf_RX6_7 rfl (v := .ref (E.2.2 20)) rfl dX6_readWhole_1 ?_
  refine lv_iload_n hx hb dX6_readWhole_4 rfl (lv_at hl 1 rfl) ?_
  refine k_iald hx hb hW 20 12 (by omega) k_c20 (v := (z.1 20 p0.toNatClampNeg)) (by exact in12 (lt_of12 hI.1.1 hP.2.2.2.1)) rfl dX6_readWhole_5 ?_
  refine lv_if_ne (tgt := 35) hx hb dX6_readWhole_6 (by decide) (fun h1 => ?_) (fun h1 => ?_)
  · refine lv_iconst (v := (-1)) hx hb dX6_readWhole_35 (by decide) ?_
    refine lv_istore_n (lv' := [(2, .int (-1)), (0, .ref (E.2.2 19)), (1, .int p0)]) hx hb dX6_readWhole_36 rfl hl (by decide) rfl (fun ls hl => ?_)
    refine lv_aload_n hx hb dX6_readWhole_37 rfl (lv_at hl 1 rfl) ?_
    refine lv_iload_n hx hb dX6_readWhole_38 rfl (lv_at hl 2 rfl) ?_
    refine k_callV (As := [.int p0]) (rest := []) hx hb hml hown hts (c_X6_readRows l E S _ z p0 (lt_of12 hI.1.1 hP.2.2.2.1) ((z.1 19 18).toInt.toNat - 1) (P_t hP) (P_R hP) hP.2.2.1 hI) lm_RX6_188 ln_X6_readRows le_X6_readRows li_X6 lk_X6_readRows (show k_nm yX6_readRows 1 by decide +kernel) ⟨Nat.le_of_ble_eq_true rfl, Nat.le_of_ble_eq_true rfl⟩ rfl rfl ⟨Nat.le_of_ble_eq_true rfl, Nat.le_of_ble_eq_true rfl⟩ hl.1 rfl (Nat.le_of_ble_eq_true rfl) dX6_readWhole_39 (by omega) (k_c19 _ _ _) rfl hW (fun v z1 H locs hp hW => ?_)
    obtain ⟨rfl, hz1⟩ := hp
    rw [hz1] at hW
    obtain ⟨z3, ez3⟩ : ∃ y9 : Sg, y9 = (f_X6_readRows z p0) := ⟨_, rfl⟩
    rw [← ez3] at hW
    have Jz3 : k_J S z3 := by rw [ez3]; exact (G_readRows (P_t hP) ⟨hI, (P_R hP), hP.2.2.1, mf.rf⟩).1
    have Rz3 : k_R ((z.1 19 18).toInt.toNat - 1) p0 z3 := by rw [ez3]; exact (G_readRows (P_t hP) ⟨hI, (P_R hP), hP.2.2.1, mf.rf⟩).2.1
    have Tz3 : k_V z3 := by rw [ez3]; exact (G_readRows (P_t hP) ⟨hI, (P_R hP), hP.2.2.1, mf.rf⟩).2.2.1
    refine W.eq (g2 := F0 m 42 ls []) rfl ?_
    refine lv_iload_n hx hb dX6_readWhole_42 rfl (lv_at hl 0 rfl) ?_
    refine lv_if_lt (tgt := 51) hx hb dX6_readWhole_43 (by decide) (fun _ => ?_) (fun h4 => absurd h4 (by decide))
    have hR : (f_X6_readWhole z p0) = z3 := (by subst ez3; simp only [f_X6_readWhole, if_neg h1])
    exact k_vret hx hb hr hlocks hW ⟨rfl, by rw [hR]⟩ dX6_readWhole_51
  · refine lv_aload_n hx hb dX6_readWhole_9 rfl (lv_at hl 0 rfl) ?_
    refine k_get hx hb hts inlX6 hown hW 19 (by omega) k_c19 rfl 5 (by decide) lf_RX6_20 rfl (v := .ref (E.2.2 23)) rfl dX6_readWhole_10 ?_
    refine lv_iload_n hx hb dX6_readWhole_13 rfl (lv_at hl 1 rfl) ?_
    refine k_lald hx hb hW 23 12 (by omega) k_c23 (v := (z.2.1 23 p0.toNatClampNeg)) (by exact in12 (lt_of12 hI.1.1 hP.2.2.2.1)) rfl dX6_readWhole_14 ?_
    refine lv_lconst (v := 0) hx hb dX6_readWhole_15 (by decide) ?_
    refine k_lif_lt (tgt := 35) hx hb dX6_readWhole_16 dX6_readWhole_17 (by decide) (fun h5 => ?_) (fun h5 => ?_)
    · refine lv_iconst (v := (-1)) hx hb dX6_readWhole_35 (by decide) ?_
      refine lv_istore_n (lv' := [(2, .int (-1)), (0, .ref (E.2.2 19)), (1, .int p0)]) hx hb dX6_readWhole_36 rfl hl (by decide) rfl (fun ls hl => ?_)
      refine lv_aload_n hx hb dX6_readWhole_37 rfl (lv_at hl 1 rfl) ?_
      refine lv_iload_n hx hb dX6_readWhole_38 rfl (lv_at hl 2 rfl) ?_
      refine k_callV (As := [.int p0]) (rest := []) hx hb hml hown hts (c_X6_readRows l E S _ z p0 (lt_of12 hI.1.1 hP.2.2.2.1) ((z.1 19 18).toInt.toNat - 1) (P_t hP) (P_R hP) hP.2.2.1 hI) lm_RX6_188 ln_X6_readRows le_X6_readRows li_X6 lk_X6_readRows (show k_nm yX6_readRows 1 by decide +kernel) ⟨Nat.le_of_ble_eq_true rfl, Nat.le_of_ble_eq_true rfl⟩ rfl rfl ⟨Nat.le_of_ble_eq_true rfl, Nat.le_of_ble_eq_true rfl⟩ hl.1 rfl (Nat.le_of_ble_eq_true rfl) dX6_readWhole_39 (by omega) (k_c19 _ _ _) rfl hW (fun v z1 H locs hp hW => ?_)
      obtain ⟨rfl, hz1⟩ := hp
      rw [hz1] at hW
      obtain ⟨z7, ez7⟩ : ∃ y9 : Sg, y9 = (f_X6_readRows z p0) := ⟨_, rfl⟩
      rw [← ez7] at hW
      have Jz7 : k_J S z7 := by rw [ez7]; exact (G_readRows (P_t hP) ⟨hI, (P_R hP), hP.2.2.1, mf.rf⟩).1
      have Rz7 : k_R ((z.1 19 18).toInt.toNat - 1) p0 z7 := by rw [ez7]; exact (G_readRows (P_t hP) ⟨hI, (P_R hP), hP.2.2.1, mf.rf⟩).2.1
      have Tz7 : k_V z7 := by rw [ez7]; exact (G_readRows (P_t hP) ⟨hI, (P_R hP), hP.2.2.1, mf.rf⟩).2.2.1
      refine W.eq (g2 := F0 m 42 ls []) rfl ?_
      refine lv_iload_n hx hb dX6_readWhole_42 rfl (lv_at hl 0 rfl) ?_
      refine lv_if_lt (tgt := 51) hx hb dX6_readWhole_43 (by decide) (fun _ => ?_) (fun h8 => absurd h8 (by decide))
      have hR : (f_X6_readWhole z p0) = z7 := (by subst ez7; simp only [f_X6_readWhole, if_pos h1, if_pos h5])
      exact k_vret hx hb hr hlocks hW ⟨rfl, by rw [hR]⟩ dX6_readWhole_51
    · refine lv_aload_n hx hb dX6_readWhole_20 rfl (lv_at hl 0 rfl) ?_
      refine lv_iload_n hx hb dX6_readWhole_21 rfl (lv_at hl 1 rfl) ?_
      refine lv_aload_n hx hb dX6_readWhole_22 rfl (lv_at hl 0 rfl) ?_
      refine k_get hx hb hts inlX6 hown hW 19 (by omega) k_c19 rfl 5 (by decide) lf_RX6_20 rfl (v := .ref (E.2.2 23)) rfl dX6_readWhole_23 ?_
      refine lv_iload_n hx hb dX6_readWhole_26 rfl (lv_at hl 1 rfl) ?_
      refine k_lald hx hb hW 23 12 (by omega) k_c23 (v := (z.2.1 23 p0.toNatClampNeg)) (by exact in12 (lt_of12 hI.1.1 hP.2.2.2.1)) rfl dX6_readWhole_27 ?_
      refine lv_iconst (v := 1) hx hb dX6_readWhole_28 (by decide) ?_
      refine k_callV (As := [.int p0, .long (z.2.1 23 p0.toNatClampNeg), .int 1]) (rest := []) hx hb hml hown hts (c_X6_goOn l E S _ z p0 (z.2.1 23 p0.toNatClampNeg) 1 hP.2.1 hI) lm_RX6_184 ln_X6_goOn le_X6_goOn li_X6 lk_X6_goOn (show k_nm yX6_goOn 3 by decide +kernel) ⟨Nat.le_of_ble_eq_true rfl, Nat.le_of_ble_eq_true rfl⟩ rfl rfl ⟨Nat.le_of_ble_eq_true rfl, Nat.le_of_ble_eq_true rfl⟩ hl.1 rfl (Nat.le_of_ble_eq_true rfl) dX6_readWhole_29 (by omega) (k_c19 _ _ _) rfl hW (fun v z1 H locs hp hW => ?_)
      obtain ⟨rfl, hz1⟩ := hp
      rw [hz1] at hW
      obtain ⟨z10, ez10⟩ : ∃ y9 : Sg, y9 = (f_X6_goOn z p0 (z.2.1 23 p0.toNatClampNeg) 1).2 := ⟨_, rfl⟩
      rw [← ez10] at hW
      have Jz10 : k_J S z10 := by rw [ez10]; exact (goOn_all hI hP.2.1 hP.2.2.1).1
      have Rz10 : k_R ((z.1 19 18).toInt.toNat - 1) p0 z10 := by rw [ez10]; exact R_goOn hI hP.2.1 hP.2.2.1 ((P_R hP))
      have Tz10 : k_V z10 := by rw [ez10]; exact (goOn_all hI hP.2.1 hP.2.2.1).2.2.1
      refine W.eq (g2 := F0 m 32 ls [.int ((f_X6_goOn z p0 (z.2.1 23 p0.toNatClampNeg) 1).1)]) rfl ?_
      refine lv_goto (tgt := 36) hx hb dX6_readWhole_32 (by decide) ?_
      refine lv_istore_n (lv' := [(2, .int ((f_X6_goOn z p0 (z.2.1 23 p0.toNatClampNeg) 1).1)), (0, .ref (E.2.2 19)), (1, .int p0)]) hx hb dX6_readWhole_36 rfl hl (by decide) rfl (fun ls hl => ?_)
      refine lv_aload_n hx hb dX6_readWhole_37 rfl (lv_at hl 1 rfl) ?_
      refine lv_iload_n hx hb dX6_readWhole_38 rfl (lv_at hl 2 rfl) ?_
      refine k_callV (As := [.int p0]) (rest := []) hx hb hml hown hts (c_X6_readRows l E S _ z10 p0 (lt_of12 hI.1.1 hP.2.2.2.1) ((z.1 19 18).toInt.toNat - 1) (P_t hP) Rz10 Tz10 Jz10) lm_RX6_188 ln_X6_readRows le_X6_readRows li_X6 lk_X6_readRows (show k_nm yX6_readRows 1 by decide +kernel) ⟨Nat.le_of_ble_eq_true rfl, Nat.le_of_ble_eq_true rfl⟩ rfl rfl ⟨Nat.le_of_ble_eq_true rfl, Nat.le_of_ble_eq_true rfl⟩ hl.1 rfl (Nat.le_of_ble_eq_true rfl) dX6_readWhole_39 (by omega) (k_c19 _ _ _) rfl hW (fun v z1 H locs hp hW => ?_)
      obtain ⟨rfl, hz1⟩ := hp
      rw [hz1] at hW
      obtain ⟨z12, ez12⟩ : ∃ y9 : Sg, y9 = (f_X6_readRows z10 p0) := ⟨_, rfl⟩
      rw [← ez12] at hW
      have Jz12 : k_J S z12 := by rw [ez12]; exact (G_readRows (P_t hP) ⟨Jz10, Rz10, Tz10, mf.rf⟩).1
      have Rz12 : k_R ((z.1 19 18).toInt.toNat - 1) p0 z12 := by rw [ez12]; exact (G_readRows (P_t hP) ⟨Jz10, Rz10, Tz10, mf.rf⟩).2.1
      have Tz12 : k_V z12 := by rw [ez12]; exact (G_readRows (P_t hP) ⟨Jz10, Rz10, Tz10, mf.rf⟩).2.2.1
      refine W.eq (g2 := F0 m 42 ls []) rfl ?_
      refine lv_iload_n hx hb dX6_readWhole_42 rfl (lv_at hl 0 rfl) ?_
      refine lv_if_lt (tgt := 51) hx hb dX6_readWhole_43 (by decide) (fun h13 => ?_) (fun h13 => ?_)
      · have hR : (f_X6_readWhole z p0) = z12 := (by subst ez12 ez10; simp only [f_X6_readWhole, if_pos h1, if_neg h5, if_pos h13])
        exact k_vret hx hb hr hlocks hW ⟨rfl, by rw [hR]⟩ dX6_readWhole_51
      · refine lv_aload_n hx hb dX6_readWhole_46 rfl (lv_at hl 1 rfl) ?_
        refine lv_iload_n hx hb dX6_readWhole_47 rfl (lv_at hl 0 rfl) ?_
        refine k_callV (As := [.int ((f_X6_goOn z p0 (z.2.1 23 p0.toNatClampNeg) 1).1)]) (rest := []) hx hb hml hown hts (c_X6_readRows l E S _ z12 ((f_X6_goOn z p0 (z.2.1 23 p0.toNatClampNeg) 1).1) (lt_of12 hI.1.1 ⟨(goOn_pos hI hP.2.1 hP.2.2.1 h13).1, (goOn_pos hI hP.2.1 hP.2.2.1 h13).2.1⟩) ((z.1 19 18).toInt.toNat) (goOn_t hI hP.2.1 hP.2.2.1 h13) (R_up (P_cs hP) (Rz12)) Tz12 Jz12) lm_RX6_188 ln_X6_readRows le_X6_readRows li_X6 lk_X6_readRows (show k_nm yX6_readRows 1 by decide +kernel) ⟨Nat.le_of_ble_eq_true rfl, Nat.le_of_ble_eq_true rfl⟩ rfl rfl ⟨Nat.le_of_ble_eq_true rfl, Nat.le_of_ble_eq_true rfl⟩ hl.1 rfl (Nat.le_of_ble_eq_true rfl) dX6_readWhole_48 (by omega) (k_c19 _ _ _) rfl hW (fun v z1 H locs hp hW => ?_)
        obtain ⟨rfl, hz1⟩ := hp
        rw [hz1] at hW
        obtain ⟨z15, ez15⟩ : ∃ y9 : Sg, y9 = (f_X6_readRows z12 ((f_X6_goOn z p0 (z.2.1 23 p0.toNatClampNeg) 1).1)) := ⟨_, rfl⟩
        rw [← ez15] at hW
        have Jz15 : k_J S z15 := by rw [ez15]; exact (G_readRows (goOn_t hI hP.2.1 hP.2.2.1 h13) ⟨Jz12, (R_up (P_cs hP) (Rz12)), Tz12, mf.rf⟩).1
        have Tz15 : k_V z15 := by rw [ez15]; exact (G_readRows (goOn_t hI hP.2.1 hP.2.2.1 h13) ⟨Jz12, (R_up (P_cs hP) (Rz12)), Tz12, mf.rf⟩).2.2.1
        refine W.eq (g2 := F0 m 51 ls []) rfl ?_
        have hR : (f_X6_readWhole z p0) = z15 := (by subst ez15 ez12 ez10; simp only [f_X6_readWhole, if_pos h1, if_neg h5, if_neg h13])
        exact k_vret hx hb hr hlocks hW ⟨rfl, by rw [hR]⟩ dX6_readWhole_51

theorem b_readWhole {S : Nat} {s : Int32} {z : Sg} (hP : k_P S s z) : k_J S (f_X6_readWhole z s) ∧ k_Y S (f_X6_readWhole z s) ∧ (z.1 19 18).toInt ≤ ((f_X6_readWhole z s).1 19 18).toInt := by
  have hI := hP.1
  have h1 := P_t hP
  have h2 := P_cs hP
  have g0 : k_G S ((z.1 19 18).toInt.toNat - 1) s z z := ⟨hP.1, P_R hP, hP.2.2.1, mf.rf⟩
  have h0 := hI.2.2.1
  have fin : ∀ (w : Sg) (t : Nat) (q : Int32), k_C S w → k_G S t q w (f_X6_readRows w q) → t + 1 ≤ (w.1 19 18).toInt.toNat → 0 ≤ (w.1 19 18).toInt → k_J S (f_X6_readRows w q) ∧ k_Y S (f_X6_readRows w q) ∧ (w.1 19 18).toInt ≤ ((f_X6_readRows w q).1 19 18).toInt := by
    intro w t q hC g h4 h5
    have e := g.2.2.2.2.2.1
    refine ⟨g.1, ⟨C_mf g.2.2.2 hC, g.2.2.1, fun o ho => ?_⟩, by rw [e]; exact Int.le_refl _⟩
    rw [e]
    rcases g.2.1 o ho with h | ⟨h, -⟩ <;> omega
  have go : k_J S (f_X6_readRows z s) ∧ k_Y S (f_X6_readRows z s) ∧ (z.1 19 18).toInt ≤ ((f_X6_readRows z s).1 19 18).toInt := fin z _ s hP.2.1 (G_readRows h1 g0) h2 h0.1
  unfold f_X6_readWhole
  split
  · split
    · exact go
    · have ha := goOn_all (s := s) (b := 1) (p := (z.2.1 23 s.toNatClampNeg)) hI hP.2.1 hP.2.2.1
      have hr := R_goOn (s' := s) (b := 1) (p := (z.2.1 23 s.toNatClampNeg)) hI hP.2.1 hP.2.2.1 (P_R hP)
      have hp := goOn_pos (s := s) (b := 1) (p := (z.2.1 23 s.toNatClampNeg)) hI hP.2.1 hP.2.2.1
      have ht := goOn_t (s := s) (b := 1) (p := (z.2.1 23 s.toNatClampNeg)) hI hP.2.1 hP.2.2.1
      generalize f_X6_goOn z s (z.2.1 23 s.toNatClampNeg) 1 = r at ha hr hp ht ⊢
      dsimp only
      have g1 : k_G S ((z.1 19 18).toInt.toNat - 1) s r.2 (f_X6_readRows r.2 s) := G_readRows h1 ⟨ha.1, hr, ha.2.2.1, mf.rf⟩
      have hcs : (z.1 19 18).toInt ≤ (r.2.1 19 18).toInt := by
        rcases ha.2.2.2.2.2 with ⟨-, g⟩ | ⟨-, -, g⟩
        · rw [g]; exact Int.le_refl _
        · omega
      split
      · have f := fin r.2 _ s ha.2.1 g1 (by omega) (by omega)
        exact ⟨f.1, f.2.1, by omega⟩
      · next hn =>
        have q1 := hp hn
        have q2 := ht hn
        have e := g1.2.2.2.2.2.1
        have hC2 := C_mf g1.2.2.2 ha.2.1
        have g2 : k_G S (z.1 19 18).toInt.toNat r.1 (f_X6_readRows r.2 s) (f_X6_readRows (f_X6_readRows r.2 s) r.1) := G_readRows q2 ⟨g1.1, R_up h2 g1.2.1, g1.2.2.1, mf.rf⟩
        have f := fin (f_X6_readRows r.2 s) _ r.1 hC2 g2 (by rw [e]; omega) (by rw [e]; omega)
        refine ⟨f.1, f.2.1, Int.le_trans ?_ f.2.2⟩
        rw [e]; exact hcs
  · exact go
theorem Y_goOn {S : Nat} {z : Sg} {s b : Int32} {p : Int64} (hI : k_J S z) (hY : k_Y S z) : k_Y S (f_X6_goOn z s p b).2 := by
  have ha := goOn_all (s := s) (b := b) (p := p) hI hY.1 hY.2.1
  refine ⟨ha.2.1, ha.2.2.1, fun o ho => ?_⟩
  have h1 := hY.2.2 o ho
  rw [ha.2.2.2.1]
  rcases ha.2.2.2.2.2 with ⟨-, g⟩ | ⟨-, -, g⟩
  · rw [g]; exact h1
  · omega
theorem P_goOn {S : Nat} {z : Sg} {s b : Int32} {p : Int64} (hI : k_J S z) (hY : k_Y S z) (h : 0 ≤ (f_X6_goOn z s p b).1.toInt) : k_P S (f_X6_goOn z s p b).1 (f_X6_goOn z s p b).2 := by
  have ha := goOn_all (s := s) (b := b) (p := p) hI hY.1 hY.2.1
  rcases ha.2.2.2.2.2 with ⟨g, -⟩ | ⟨g1, g2, g3⟩
  · rw [g] at h; exact absurd h (by decide)
  · refine ⟨ha.1, ha.2.1, ha.2.2.1, ⟨g1, g2⟩, fun o ho => ?_⟩
    have h1 := hY.2.2 o ho
    rw [ha.2.2.2.1]
    omega
theorem mb_goOn {S k : Nat} {w z : Sg} {q s b : Int32} {p : Int64} (hm : (if q < 0 then 0 else 13 - (w.1 19 18).toInt.toNat) < k + 1) (hq : ¬ q < 0) (hw : (w.1 19 18).toInt ≤ (z.1 19 18).toInt) (hI : k_J S z) (hY : k_Y S z) : (if (f_X6_goOn z s p b).1 < 0 then 0 else 13 - ((f_X6_goOn z s p b).2.1 19 18).toInt.toNat) < k := by
  have ha := goOn_all (s := s) (b := b) (p := p) hI hY.1 hY.2.1
  rw [if_neg hq] at hm
  have h1 := hI.2.2.1
  have h2 := ha.1.2.2.1
  rcases ha.2.2.2.2.2 with ⟨g, -⟩ | ⟨g1, g2, g3⟩
  · rw [if_pos (neg1 g)]; omega
  · split
    · omega
    · omega
theorem mb_m1 {S k x : Nat} {w : Sg} {q : Int32} (hm : (if q < 0 then 0 else 13 - (w.1 19 18).toInt.toNat) < k + 1) (hq : ¬ q < 0) (hI : k_J S w) : (if (-1 : Int32) < 0 then 0 else x) < k := by
  rw [if_neg hq] at hm
  have h1 := hI.2.2.1
  rw [if_pos (by decide)]
  omega
