/-- widths, firsts and counts of the reference's streams -/
def k_V (z : Sg) : Prop := (∀ k, 0 ≤ (z.1 26 k).toInt ∧ (z.1 26 k).toInt ≤ 4) ∧ (∀ k, 0 ≤ (z.1 28 k).toInt ∧ (z.1 28 k).toInt ≤ 999) ∧ ∀ k, (z.1 29 k).toInt ≤ 100
theorem rev_b {i r : Int32} (h1 : ¬ i < -1) (h2 : ¬ i = -1) (h3 : ¬ r ≤ i) (hr : r.toInt ≤ 12) : 0 ≤ i.toInt ∧ i.toInt < (12 : Nat) := by
  simp only [Int32.lt_iff_toInt_lt, Int32.le_iff_toInt_le, ← Int32.toInt_inj] at h1 h2 h3
  have e1 : (-1 : Int32).toInt = -1 := rfl
  omega
theorem i_addb {x y : Int32} (h : -2000000000 ≤ x.toInt + y.toInt ∧ x.toInt + y.toInt ≤ 2000000000) : (x + y).toInt = x.toInt + y.toInt := by
  rw [Int32.toInt_add]
  exact Int.bmod_eq_of_le_mul_two (by simp; omega) (by simp; omega)
theorem st_f {at' a b c sz : Int32} (hat : 0 ≤ at'.toInt ∧ at'.toInt ≤ 300) (ha : 0 ≤ a.toInt ∧ a.toInt ≤ 4) (hb : 0 ≤ b.toInt ∧ b.toInt ≤ 4) (hc : 0 ≤ c.toInt ∧ c.toInt ≤ 4) (h : ((at' + a) + b) + c ≤ sz) (hz : sz.toInt ≤ 300) : (0 ≤ at'.toInt ∧ (at' + a).toInt ≤ 300) ∧ (0 ≤ (at' + a).toInt ∧ ((at' + a) + b).toInt ≤ 300) ∧ (0 ≤ ((at' + a) + b).toInt ∧ (((at' + a) + b) + c).toInt ≤ 300) ∧ (0 ≤ (((at' + a) + b) + c).toInt ∧ (((at' + a) + b) + c).toInt ≤ 300) := by
  have e1 : (at' + a).toInt = at'.toInt + a.toInt := i_addb (by omega)
  have e2 : ((at' + a) + b).toInt = at'.toInt + a.toInt + b.toInt := by rw [i_addb (by omega), e1]
  have e3 : (((at' + a) + b) + c).toInt = at'.toInt + a.toInt + b.toInt + c.toInt := by rw [i_addb (by omega), e2]
  simp only [Int32.le_iff_toInt_le] at h
  rw [e3] at h
  rw [e3, e2, e1]
  omega
theorem st_o {f k m : Int32} (hf : 0 ≤ f.toInt ∧ f.toInt ≤ 999) (hk : 0 ≤ k.toInt) (h : ¬ m ≤ k) (hm : m.toInt ≤ 100) : 0 ≤ ((f + k : Int32).toInt64).toInt := by
  simp only [Int32.le_iff_toInt_le] at h
  rw [i_2l, i_addb (by omega)]
  omega
theorem lt6 {r m : Int32} (h0 : 0 ≤ r.toInt) (h : ¬ m ≤ r) (hm : m.toInt ≤ 6) : 0 ≤ r.toInt ∧ r.toInt < (6 : Nat) := by
  simp only [Int32.le_iff_toInt_le] at h
  omega
theorem V_row {z : Sg} {s b : Int32} {p d e : Int64} (hV : k_V z) : k_V (f_X6_row z s p b d e) := by
  unfold f_X6_row
  repeat' (first | exact hV | split)
theorem V_tell {z : Sg} {a b : Int32} {d : Int64} (hV : k_V z) : k_V (f_X6_tell z a b d) := by
  unfold f_X6_tell
  repeat' (first | exact hV | split)

def f_X6_revision (z : Sg) (p0 : Int32) (p1 : Int32) : Int32 × Sg :=
  if (f_X6_isObject z p0) = 0 then
    (0, (uI z 19 0 1))
  else
    if p1 < (-1) then
      (0, (uI z 19 0 1))
    else
      if p1 = (-1) then
        ((z.1 39 p0.toNatClampNeg), (uI z 19 0 0))
      else
        if (z.1 39 p0.toNatClampNeg) ≤ p1 then
          ((-1), (uI z 19 0 0))
        else
          ((z.1 40 (((12 * p0) + p1).toNatClampNeg)), (uI z 19 0 0))
set_option maxHeartbeats 4000000 in
set_option maxRecDepth 100000 in
theorem c_X6_revision (l : Launch) (E : Ev) (S sz : Nat) (z : Sg) (p0 : Int32) (p1 : Int32) (hI : k_J S z) : k_Met l yX6_revision cX6_revision 3 (some .int) ({ frames := 1, cells := 0, slots := 0, locals := 20 }) [.ref (E.2.2 19), .int p0, .int p1] E (46 + 6 * S) z sz (fun v u => v = some (.int ((f_X6_revision z p0 p1).1)) ∧ u = (f_X6_revision z p0 p1).2) 0 0 := by
  refine k_body (by decide +kernel) (Nat.le_of_ble_eq_true rfl) ?_
  intro p e s m below meth cd ls hx hb hr hml hown hlocks hts hW hl
  have hl : lv_has ls 3 [(0, .ref (E.2.2 19)), (1, .int p0), (2, .int p1)] := hl
  refine lv_aload_n hx hb dX6_revision_0 rfl (lv_at hl 0 rfl) ?_
  refine lv_iload_n hx hb dX6_revision_1 rfl (lv_at hl 1 rfl) ?_
  refine k_callS (rest := [.ref (E.2.2 19)]) hx hb hml hown hts (c_X6_isObject l E S _ z p0) lm_RX6_197 ls_X6_isObject li_X6 lk_X6_isObject (show k_nm yX6_isObject 1 by decide +kernel) ⟨Nat.le_of_ble_eq_true rfl, Nat.le_of_ble_eq_true rfl⟩ rfl rfl ⟨Nat.le_of_ble_eq_true rfl, Nat.le_of_ble_eq_true rfl⟩ hl.1 rfl (Nat.le_of_ble_eq_true rfl) dX6_revision_2 hW (fun v z1 H locs hp hW => ?_)
  obtain ⟨rfl, hz1⟩ := hp
  rw [hz1] at hW
  refine W.eq (g2 := F0 m 5 ls [.int (f_X6_isObject z p0), .ref (E.2.2 19)]) rfl ?_
  refine lv_if_eq (tgt := 17) hx hb dX6_revision_5 (by decide) (fun h1 => ?_) (fun h1 => ?_)
  · refine lv_iconst (v := 1) hx hb dX6_revision_17 (by decide) ?_
    refine k_putI hx hb hts inlX6 tyX6_ok nmX6 hown hW 19 (by omega) k_c19 rfl 0 (by decide) lf_RX6_88 rfl rfl (tyX6_ok 0 (by decide)) (Nat.le_of_ble_eq_true rfl) ks_X6_0 dX6_revision_18 (fun H locs hW => ?_)
    refine lv_aload_n hx hb dX6_revision_21 rfl (lv_at hl 0 rfl) ?_
    refine k_get hx hb hts inlX6 hown hW 19 (by omega) k_c19 rfl 0 (by decide) lf_RX6_88 rfl (v := .int 1) rfl dX6_revision_22 ?_
    refine lv_if_le (tgt := 30) hx hb dX6_revision_25 (by decide) (fun h2 => absurd h2 (by decide)) (fun _ => ?_)
    refine lv_iconst (v := 0) hx hb dX6_revision_28 (by decide) ?_
    have hR : (f_X6_revision z p0 p1) = (0, (uI z 19 0 1)) := (by simp only [f_X6_revision, if_pos h1])
    exact k_iret hx hb hr rfl hlocks hW ⟨by rw [hR], by rw [hR]⟩ dX6_revision_29
  · refine lv_iload_n hx hb dX6_revision_8 rfl (lv_at hl 2 rfl) ?_
    refine lv_iconst (v := (-1)) hx hb dX6_revision_9 (by decide) ?_
    refine lv_icmp_lt (tgt := 17) hx hb dX6_revision_10 (by decide) (fun h3 => ?_) (fun h3 => ?_)
    · refine lv_iconst (v := 1) hx hb dX6_revision_17 (by decide) ?_
      refine k_putI hx hb hts inlX6 tyX6_ok nmX6 hown hW 19 (by omega) k_c19 rfl 0 (by decide) lf_RX6_88 rfl rfl (tyX6_ok 0 (by decide)) (Nat.le_of_ble_eq_true rfl) ks_X6_0 dX6_revision_18 (fun H locs hW => ?_)
      refine lv_aload_n hx hb dX6_revision_21 rfl (lv_at hl 0 rfl) ?_
      refine k_get hx hb hts inlX6 hown hW 19 (by omega) k_c19 rfl 0 (by decide) lf_RX6_88 rfl (v := .int 1) rfl dX6_revision_22 ?_
      refine lv_if_le (tgt := 30) hx hb dX6_revision_25 (by decide) (fun h4 => absurd h4 (by decide)) (fun _ => ?_)
      refine lv_iconst (v := 0) hx hb dX6_revision_28 (by decide) ?_
      have hR : (f_X6_revision z p0 p1) = (0, (uI z 19 0 1)) := (by simp only [f_X6_revision, if_neg h1, if_pos h3])
      exact k_iret hx hb hr rfl hlocks hW ⟨by rw [hR], by rw [hR]⟩ dX6_revision_29
    · refine lv_iconst (v := 0) hx hb dX6_revision_13 (by decide) ?_
      refine lv_goto (tgt := 18) hx hb dX6_revision_14 (by decide) ?_
      refine k_putI hx hb hts inlX6 tyX6_ok nmX6 hown hW 19 (by omega) k_c19 rfl 0 (by decide) lf_RX6_88 rfl rfl (tyX6_ok 0 (by decide)) (Nat.le_of_ble_eq_true rfl) ks_X6_0 dX6_revision_18 (fun H locs hW => ?_)
      refine lv_aload_n hx hb dX6_revision_21 rfl (lv_at hl 0 rfl) ?_
      refine k_get hx hb hts inlX6 hown hW 19 (by omega) k_c19 rfl 0 (by decide) lf_RX6_88 rfl (v := .int 0) rfl dX6_revision_22 ?_
      refine lv_if_le (tgt := 30) hx hb dX6_revision_25 (by decide) (fun _ => ?_) (fun h5 => absurd h5 (by decide))
      refine lv_iload_n hx hb dX6_revision_30 rfl (lv_at hl 2 rfl) ?_
      refine lv_iconst (v := (-1)) hx hb dX6_revision_31 (by decide) ?_
      refine lv_icmp_ne (tgt := 44) hx hb dX6_revision_32 (by decide) (fun h6 => ?_) (fun h6 => ?_)
      · refine lv_iload_n hx hb dX6_revision_44 rfl (lv_at hl 2 rfl) ?_
        refine lv_aload_n hx hb dX6_revision_45 rfl (lv_at hl 0 rfl) ?_
        refine k_get hx hb hts inlX6 hown hW 19 (by omega) k_c19 rfl 23 (by decide) lf_RX6_70 rfl (v := .ref (E.2.2 39)) rfl dX6_revision_46 ?_
        refine lv_iload_n hx hb dX6_revision_49 rfl (lv_at hl 1 rfl) ?_
        refine k_iald hx hb hW 39 100 (by omega) k_c39 (v := (z.1 39 p0.toNatClampNeg)) (by exact m_obj h1) rfl dX6_revision_50 ?_
        refine lv_icmp_ge (tgt := 68) hx hb dX6_revision_51 (by decide) (fun h7 => ?_) (fun h7 => ?_)
        · refine lv_iconst (v := (-1)) hx hb dX6_revision_68 (by decide) ?_
          have hR : (f_X6_revision z p0 p1) = ((-1), (uI z 19 0 0)) := (by simp only [f_X6_revision, if_neg h1, if_neg h3, if_neg h6, if_pos h7])
          exact k_iret hx hb hr rfl hlocks hW ⟨by rw [hR], by rw [hR]⟩ dX6_revision_69
        · refine lv_aload_n hx hb dX6_revision_54 rfl (lv_at hl 0 rfl) ?_
          refine k_get hx hb hts inlX6 hown hW 19 (by omega) k_c19 rfl 24 (by decide) lf_RX6_73 rfl (v := .ref (E.2.2 40)) rfl dX6_revision_55 ?_
          refine lv_bipush (v := 12) hx hb dX6_revision_58 (by decide) ?_
          refine lv_iload_n hx hb dX6_revision_60 rfl (lv_at hl 1 rfl) ?_
          refine lv_imul hx hb dX6_revision_61 ?_
          refine lv_iload_n hx hb dX6_revision_62 rfl (lv_at hl 2 rfl) ?_
          refine lv_iadd hx hb dX6_revision_63 ?_
          refine k_iald hx hb hW 40 1200 (by omega) k_c40 (v := (z.1 40 (((12 * p0) + p1).toNatClampNeg))) (by exact ix1 (k := 12) (l := 100) rfl (vp_in_iff.mp (m_obj h1)) (rev_b h3 h6 h7 (hI.2.2.2.2.2.2.2.2.2.2 _).2) (by decide)) rfl dX6_revision_64 ?_
          refine lv_goto (tgt := 69) hx hb dX6_revision_65 (by decide) ?_
          have hR : (f_X6_revision z p0 p1) = ((z.1 40 (((12 * p0) + p1).toNatClampNeg)), (uI z 19 0 0)) := (by simp only [f_X6_revision, if_neg h1, if_neg h3, if_neg h6, if_neg h7])
          exact k_iret hx hb hr rfl hlocks hW ⟨by rw [hR], by rw [hR]⟩ dX6_revision_69
      · refine lv_aload_n hx hb dX6_revision_35 rfl (lv_at hl 0 rfl) ?_
        refine k_get hx hb hts inlX6 hown hW 19 (by omega) k_c19 rfl 23 (by decide) lf_RX6_70 rfl (v := .ref (E.2.2 39)) rfl dX6_revision_36 ?_
        refine lv_iload_n hx hb dX6_revision_39 rfl (lv_at hl 1 rfl) ?_
        refine k_iald hx hb hW 39 100 (by omega) k_c39 (v := (z.1 39 p0.toNatClampNeg)) (by exact m_obj h1) rfl dX6_revision_40 ?_
        refine lv_goto (tgt := 69) hx hb dX6_revision_41 (by decide) ?_
        have hR : (f_X6_revision z p0 p1) = ((z.1 39 p0.toNatClampNeg), (uI z 19 0 0)) := (by simp only [f_X6_revision, if_neg h1, if_neg h3, if_pos h6])
        exact k_iret hx hb hr rfl hlocks hW ⟨by rw [hR], by rw [hR]⟩ dX6_revision_69

def f_X6_trailer_L23 (p0 : Int32) : Nat → Sg → Int32 → Int32 × Sg
  | 0, w, _ => (0, w)
  | k + 1, w, i =>
    if (w.1 19 18) ≤ i then
      if (w.1 19 0) ≤ 0 then
        ((-1), w)
      else
        (0, w)
    else
      if (w.1 19 0) = 0 then
        if (w.1 30 (((10 * (w.1 35 i.toNatClampNeg)) + p0).toNatClampNeg)) = 0 then
          f_X6_trailer_L23 p0 k w (i + 1)
        else
          ((w.1 35 i.toNatClampNeg), w)
      else
        if (w.1 19 0) ≤ 0 then
          ((-1), w)
        else
          (0, w)
termination_by k9 => k9
def f_X6_trailer (z : Sg) (p0 : Int32) : Int32 × Sg :=
  if (f_X6_in z ((p0 : Int32).toInt64) 0 9) = 0 then
    f_X6_trailer_L23 p0 13 (uI z 19 0 1) 0
  else
    f_X6_trailer_L23 p0 13 (uI z 19 0 0) 0
set_option maxHeartbeats 4000000 in
set_option maxRecDepth 100000 in
theorem c_X6_trailer (l : Launch) (E : Ev) (S sz : Nat) (z : Sg) (p0 : Int32) (hI : k_J S z) : k_Met l yX6_trailer cX6_trailer 3 (some .int) ({ frames := 1, cells := 0, slots := 0, locals := 25 }) [.ref (E.2.2 19), .int p0] E (46 + 6 * S) z sz (fun v u => v = some (.int ((f_X6_trailer z p0).1)) ∧ u = (f_X6_trailer z p0).2) 0 0 := by
  refine k_body (by decide +kernel) (Nat.le_of_ble_eq_true rfl) ?_
  intro p e s m below meth cd ls hx hb hr hml hown hlocks hts hW hl
  have L23 : ∀ (k : Nat) (w : Sg) (i : Int32) (H : Heap) (locs : List Loc) (ls : Array Slot), (k_J S w) → (0 ≤ i.toInt) → (w.1 19 0 = 0 → 0 ≤ p0.toInt ∧ p0.toInt < (10 : Nat)) → 12 - i.toInt.toNat < k → k_W E (46 + 6 * S) w (k_A E (46 + 6 * S) z s.heap.size) s H locs → lv_has ls 3 [(0, .ref (E.2.2 19)), (1, .int p0), (2, .int i)] → f_X6_trailer_L23 p0 k w i = (f_X6_trailer z p0) → W p l e ({ frames := 1, cells := 0, slots := 0, locals := 25 }) s m ([.ref (E.2.2 19), .int p0] : List Value).toArray below meth cd H locs 0 0 (MQ below (k_Q (fun v u => v = some (.int ((f_X6_trailer z p0).1)) ∧ u = (f_X6_trailer z p0).2) E (46 + 6 * S) z s.heap.size) ([.ref (E.2.2 19), .int p0] : List Value).toArray s 0 0 (k_A E (46 + 6 * S) z s.heap.size)) (F0 m 23 ls []) := by
    intro k
    induction k with
    | zero =>
      intro w i H locs ls hi0 hi1 hi2 hm
      exact absurd hm (Nat.not_lt_zero _)
    | succ k ih =>
      intro w i H locs ls hi0 hi1 hi2 hm hW hl hG
      refine lv_iload_n hx hb dX6_trailer_23 rfl (lv_at hl 2 rfl) ?_
      refine lv_aload_n hx hb dX6_trailer_24 rfl (lv_at hl 0 rfl) ?_
      refine k_get hx hb hts inlX6 hown hW 19 (by omega) k_c19 rfl 18 (by decide) lf_RX6_178 rfl (v := .int (w.1 19 18)) rfl dX6_trailer_25 ?_
      refine lv_icmp_ge (tgt := 70) hx hb dX6_trailer_28 (by decide) (fun h1 => ?_) (fun h1 => ?_)
      · refine lv_aload_n hx hb dX6_trailer_70 rfl (lv_at hl 0 rfl) ?_
        refine k_get hx hb hts inlX6 hown hW 19 (by omega) k_c19 rfl 0 (by decide) lf_RX6_88 rfl (v := .int (w.1 19 0)) rfl dX6_trailer_71 ?_
        refine lv_if_le (tgt := 81) hx hb dX6_trailer_74 (by decide) (fun h2 => ?_) (fun h2 => ?_)
        · refine lv_iconst (v := (-1)) hx hb dX6_trailer_81 (by decide) ?_
          have hR : (f_X6_trailer z p0) = ((-1), w) := (hG.symm.trans (by simp only [f_X6_trailer_L23, if_pos h1, if_pos h2]))
          exact k_iret hx hb hr rfl hlocks hW ⟨by rw [hR], by rw [hR]⟩ dX6_trailer_82
        · refine lv_iconst (v := 0) hx hb dX6_trailer_77 (by decide) ?_
          refine lv_goto (tgt := 82) hx hb dX6_trailer_78 (by decide) ?_
          have hR : (f_X6_trailer z p0) = (0, w) := (hG.symm.trans (by simp only [f_X6_trailer_L23, if_pos h1, if_neg h2]))
          exact k_iret hx hb hr rfl hlocks hW ⟨by rw [hR], by rw [hR]⟩ dX6_trailer_82
      · refine lv_aload_n hx hb dX6_trailer_31 rfl (lv_at hl 0 rfl) ?_
        refine k_get hx hb hts inlX6 hown hW 19 (by omega) k_c19 rfl 0 (by decide) lf_RX6_88 rfl (v := .int (w.1 19 0)) rfl dX6_trailer_32 ?_
        refine lv_if_ne (tgt := 70) hx hb dX6_trailer_35 (by decide) (fun h3 => ?_) (fun h3 => ?_)
        · refine lv_aload_n hx hb dX6_trailer_70 rfl (lv_at hl 0 rfl) ?_
          refine k_get hx hb hts inlX6 hown hW 19 (by omega) k_c19 rfl 0 (by decide) lf_RX6_88 rfl (v := .int (w.1 19 0)) rfl dX6_trailer_71 ?_
          refine lv_if_le (tgt := 81) hx hb dX6_trailer_74 (by decide) (fun h4 => ?_) (fun h4 => ?_)
          · refine lv_iconst (v := (-1)) hx hb dX6_trailer_81 (by decide) ?_
            have hR : (f_X6_trailer z p0) = ((-1), w) := (hG.symm.trans (by simp only [f_X6_trailer_L23, if_neg h1, if_neg h3, if_pos h4]))
            exact k_iret hx hb hr rfl hlocks hW ⟨by rw [hR], by rw [hR]⟩ dX6_trailer_82
          · refine lv_iconst (v := 0) hx hb dX6_trailer_77 (by decide) ?_
            refine lv_goto (tgt := 82) hx hb dX6_trailer_78 (by decide) ?_
            have hR : (f_X6_trailer z p0) = (0, w) := (hG.symm.trans (by simp only [f_X6_trailer_L23, if_neg h1, if_neg h3, if_neg h4]))
            exact k_iret hx hb hr rfl hlocks hW ⟨by rw [hR], by rw [hR]⟩ dX6_trailer_82
        · refine lv_aload_n hx hb dX6_trailer_38 rfl (lv_at hl 0 rfl) ?_
          refine k_get hx hb hts inlX6 hown hW 19 (by omega) k_c19 rfl 12 (by decide) lf_RX6_42 rfl (v := .ref (E.2.2 30)) rfl dX6_trailer_39 ?_
          refine lv_bipush (v := 10) hx hb dX6_trailer_42 (by decide) ?_
          refine lv_aload_n hx hb dX6_trailer_44 rfl (lv_at hl 0 rfl) ?_
          refine k_get hx hb hts inlX6 hown hW 19 (by omega) k_c19 rfl 19 (by decide) lf_RX6_58 rfl (v := .ref (E.2.2 35)) rfl dX6_trailer_45 ?_
          refine lv_iload_n hx hb dX6_trailer_48 rfl (lv_at hl 2 rfl) ?_
          refine k_iald hx hb hW 35 12 (by omega) k_c35 (v := (w.1 35 i.toNatClampNeg)) (by exact in_lt3 hi1 h1 hi0.2.2.1.2) rfl dX6_trailer_49 ?_
          refine lv_imul hx hb dX6_trailer_50 ?_
          refine lv_iload_n hx hb dX6_trailer_51 rfl (lv_at hl 1 rfl) ?_
          refine lv_iadd hx hb dX6_trailer_52 ?_
          refine k_zald hx hb hW 30 120 (by omega) k_c30 (v := (w.1 30 (((10 * (w.1 35 i.toNatClampNeg)) + p0).toNatClampNeg))) (by exact ix1 (k := 10) (l := 12) rfl (hi0.2.2.2.2.2.2.2.2.2.1 _) (hi2 h3) (by decide)) rfl dX6_trailer_53 ?_
          refine lv_if_eq (tgt := 64) hx hb dX6_trailer_54 (by decide) (fun h5 => ?_) (fun h5 => ?_)
          · refine lv_iinc (v := i + 1) (lv' := [(2, .int (i + 1)), (0, .ref (E.2.2 19)), (1, .int p0)]) hx hb dX6_trailer_64 hl (k := 2) rfl rfl (by decide) rfl (fun ls hl => ?_)
            refine lv_goto (tgt := 23) hx hb dX6_trailer_67 (by decide) ?_
            exact ih w (i + 1) _ _ _ (hi0) (in_s0 hi1 h1 hi0.2.2.1.2) (hi2) (in_sm hi1 h1 hi0.2.2.1.2 hm) hW (lv_sub hl [1, 2, 0] rfl) (Eq.symm (hG.symm.trans (by simp only [f_X6_trailer_L23, if_neg h1, if_pos h3, if_pos h5])))
          · refine lv_aload_n hx hb dX6_trailer_57 rfl (lv_at hl 0 rfl) ?_
            refine k_get hx hb hts inlX6 hown hW 19 (by omega) k_c19 rfl 19 (by decide) lf_RX6_58 rfl (v := .ref (E.2.2 35)) rfl dX6_trailer_58 ?_
            refine lv_iload_n hx hb dX6_trailer_61 rfl (lv_at hl 2 rfl) ?_
            refine k_iald hx hb hW 35 12 (by omega) k_c35 (v := (w.1 35 i.toNatClampNeg)) (by exact in_lt3 hi1 h1 hi0.2.2.1.2) rfl dX6_trailer_62 ?_
            have hR : (f_X6_trailer z p0) = ((w.1 35 i.toNatClampNeg), w) := (hG.symm.trans (by simp only [f_X6_trailer_L23, if_neg h1, if_pos h3, if_neg h5]))
            exact k_iret hx hb hr rfl hlocks hW ⟨by rw [hR], by rw [hR]⟩ dX6_trailer_63
  have hl : lv_has ls 3 [(0, .ref (E.2.2 19)), (1, .int p0)] := hl
  refine lv_aload_n hx hb dX6_trailer_0 rfl (lv_at hl 0 rfl) ?_
  refine lv_iload_n hx hb dX6_trailer_1 rfl (lv_at hl 1 rfl) ?_
  refine lv_i2l (v := (p0 : Int32).toInt64) hx hb dX6_trailer_2 rfl ?_
  refine lv_lconst (v := 0) hx hb dX6_trailer_3 (by decide) ?_
  refine lv_ldc2 (v := 9) hx hb hown (hts _ lc_RX6_117) dX6_trailer_4 ?_
  refine k_callS (rest := [.ref (E.2.2 19)]) hx hb hml hown hts (c_X6_in l E S _ z ((p0 : Int32).toInt64) 0 9) lm_RX6_95 ls_X6_in li_X6 lk_X6_in (show k_nm yX6_in 3 by decide +kernel) ⟨Nat.le_of_ble_eq_true rfl, Nat.le_of_ble_eq_true rfl⟩ rfl rfl ⟨Nat.le_of_ble_eq_true rfl, Nat.le_of_ble_eq_true rfl⟩ hl.1 rfl (Nat.le_of_ble_eq_true rfl) dX6_trailer_7 hW (fun v z1 H locs hp hW => ?_)
  obtain ⟨rfl, hz1⟩ := hp
  rw [hz1] at hW
  refine W.eq (g2 := F0 m 10 ls [.int (f_X6_in z ((p0 : Int32).toInt64) 0 9), .ref (E.2.2 19)]) rfl ?_
  refine lv_if_eq (tgt := 17) hx hb dX6_trailer_10 (by decide) (fun h6 => ?_) (fun h6 => ?_)
  · refine lv_iconst (v := 1) hx hb dX6_trailer_17 (by decide) ?_
    refine k_putI hx hb hts inlX6 tyX6_ok nmX6 hown hW 19 (by omega) k_c19 rfl 0 (by decide) lf_RX6_88 rfl rfl (tyX6_ok 0 (by decide)) (Nat.le_of_ble_eq_true rfl) ks_X6_0 dX6_trailer_18 (fun H locs hW => ?_)
    refine lv_iconst (v := 0) hx hb dX6_trailer_21 (by decide) ?_
    refine lv_istore_n (lv' := [(2, .int 0), (0, .ref (E.2.2 19)), (1, .int p0)]) hx hb dX6_trailer_22 rfl hl (by decide) rfl (fun ls hl => ?_)
    exact L23 13 (uI z 19 0 1) 0 _ _ _ ((k_J_f hI)) (by decide) (by first | exact fun h => absurd (show (1 : Int32) = 0 from h) (by decide) | exact fun _ => m_inI h6 rfl (by decide)) (by decide) hW (lv_sub hl [1, 2, 0] rfl) (Eq.symm (by simp only [f_X6_trailer, if_pos h6]))
  · refine lv_iconst (v := 0) hx hb dX6_trailer_13 (by decide) ?_
    refine lv_goto (tgt := 18) hx hb dX6_trailer_14 (by decide) ?_
    refine k_putI hx hb hts inlX6 tyX6_ok nmX6 hown hW 19 (by omega) k_c19 rfl 0 (by decide) lf_RX6_88 rfl rfl (tyX6_ok 0 (by decide)) (Nat.le_of_ble_eq_true rfl) ks_X6_0 dX6_trailer_18 (fun H locs hW => ?_)
    refine lv_iconst (v := 0) hx hb dX6_trailer_21 (by decide) ?_
    refine lv_istore_n (lv' := [(2, .int 0), (0, .ref (E.2.2 19)), (1, .int p0)]) hx hb dX6_trailer_22 rfl hl (by decide) rfl (fun ls hl => ?_)
    exact L23 13 (uI z 19 0 0) 0 _ _ _ ((k_J_f hI)) (by decide) (by first | exact fun h => absurd (show (1 : Int32) = 0 from h) (by decide) | exact fun _ => m_inI h6 rfl (by decide)) (by decide) hW (lv_sub hl [1, 2, 0] rfl) (Eq.symm (by simp only [f_X6_trailer, if_neg h6]))

def f_X6_readStream_L55 (p0 : Int32) (a : Int32) (b : Int32) (c : Int32) (r : Int32) (K : Int32 → Int32 → Sg → (Sg)) : Nat → Sg → Int32 → Int32 → Int32 → Sg
  | 0, u, _, _, _ => u
  | k + 1, u, at1, rows, i =>
    if (u.1 29 (((6 * p0) + r).toNatClampNeg)) ≤ i then
      K at1 rows u
    else
      if ((at1 + a) + b) + c ≤ (u.1 24 p0.toNatClampNeg) then
        if a = 0 then
          let z9 := (f_X6_row u p0 (((u.1 28 (((6 * p0) + r).toNatClampNeg)) + i : Int32).toInt64) (((1 : Int64).toInt32) + 1) (f_X6_field u p0 (at1 + a) b) (f_X6_field u p0 ((at1 + a) + b) c))
          f_X6_readStream_L55 p0 a b c r K k z9 (((at1 + a) + b) + c) (rows + 1) (i + 1)
        else
          if (3 : Int64) ≤ (f_X6_field u p0 at1 a) then
            f_X6_readStream_L55 p0 a b c r K k u (((at1 + a) + b) + c) (rows + 1) (i + 1)
          else
            let z6 := (f_X6_row u p0 (((u.1 28 (((6 * p0) + r).toNatClampNeg)) + i : Int32).toInt64) ((((f_X6_field u p0 at1 a) : Int64).toInt32) + 1) (f_X6_field u p0 (at1 + a) b) (f_X6_field u p0 ((at1 + a) + b) c))
            f_X6_readStream_L55 p0 a b c r K k z6 (((at1 + a) + b) + c) (rows + 1) (i + 1)
      else
        let z11 := (f_X6_tell u 5 p0 ((rows : Int32).toInt64))
        z11
termination_by k9 => k9
def f_X6_readStream_L41 (p0 : Int32) : Nat → Sg → Int32 → Int32 → Int32 → Int32 → Int32 → Int32 → Sg
  | 0, w, _, _, _, _, _, _ => w
  | k + 1, w, a, b, c, at1, rows, r =>
    if (w.1 27 p0.toNatClampNeg) ≤ r then
      w
    else
      f_X6_readStream_L55 p0 a b c r (fun at2 rows2 w2 =>
          f_X6_readStream_L41 p0 k w2 a b c at2 rows2 (r + 1)) 101 w at1 rows 0
termination_by k9 => k9
def f_X6_readStream (z : Sg) (p0 : Int32) : Sg :=
  f_X6_readStream_L41 p0 7 z (z.1 26 ((3 * p0).toNatClampNeg)) (z.1 26 (((3 * p0) + 1).toNatClampNeg)) (z.1 26 (((3 * p0) + 2).toNatClampNeg)) 0 0 0
set_option maxHeartbeats 4000000 in
set_option maxRecDepth 100000 in
theorem c_X6_readStream (l : Launch) (E : Ev) (S sz : Nat) (z : Sg) (p0 : Int32) (hs : 0 ≤ p0.toInt ∧ p0.toInt < (12 : Nat)) (t : Nat) (ht : t ≤ 11) (hR : k_R t p0 z) (hV : k_V z) (hI : k_J S z) : k_Met l yX6_readStream cX6_readStream 11 none ({ frames := 1, cells := 0, slots := 0, locals := 29 }) [.ref (E.2.2 19), .int p0] E (46 + 6 * S) z sz (fun v u => v = none ∧ u = (f_X6_readStream z p0)) 0 0 := by
  refine k_body (by decide +kernel) (Nat.le_of_ble_eq_true rfl) ?_
  intro p e s m below meth cd ls hx hb hr hml hown hlocks hts hW hl
  have L55 : ∀ (a : Int32) (b : Int32) (c : Int32) (r : Int32), (0 ≤ a.toInt ∧ a.toInt ≤ 4) → (0 ≤ b.toInt ∧ b.toInt ≤ 4) → (0 ≤ c.toInt ∧ c.toInt ≤ 4) → (0 ≤ r.toInt ∧ r.toInt < (6 : Nat)) → ∀ (K : Int32 → Int32 → Sg → (Sg)), (∀ (at2 : Int32) (rows2 : Int32) (w2 : Sg) (H : Heap) (locs : List Loc) (ls : Array Slot), (k_J S w2) → (k_R t p0 w2) → (k_V w2) → (0 ≤ at2.toInt ∧ at2.toInt ≤ 300) → k_W E (46 + 6 * S) w2 (k_A E (46 + 6 * S) z s.heap.size) s H locs → lv_has ls 11 [(0, .ref (E.2.2 19)), (1, .int p0), (2, .int a), (3, .int b), (4, .int c), (5, .int at2), (6, .int rows2), (7, .int r)] → K at2 rows2 w2 = (f_X6_readStream z p0) → W p l e ({ frames := 1, cells := 0, slots := 0, locals := 29 }) s m ([.ref (E.2.2 19), .int p0] : List Value).toArray below meth cd H locs 0 0 (MQ below (k_Q (fun v u => v = none ∧ u = (f_X6_readStream z p0)) E (46 + 6 * S) z s.heap.size) ([.ref (E.2.2 19), .int p0] : List Value).toArray s 0 0 (k_A E (46 + 6 * S) z s.heap.size)) (F0 m 196 ls [])) → ∀ (k : Nat) (u : Sg) (at1 : Int32) (rows : Int32) (i : Int32) (H : Heap) (locs : List Loc) (ls : Array Slot), (k_J S u) → (k_R t p0 u) → (k_V u) → (0 ≤ at1.toInt ∧ at1.toInt ≤ 300) → (0 ≤ i.toInt) → 100 - i.toInt.toNat < k → k_W E (46 + 6 * S) u (k_A E (46 + 6 * S) z s.heap.size) s H locs → lv_has ls 11 [(0, .ref (E.2.2 19)), (1, .int p0), (2, .int a), (3, .int b), (4, .int c), (5, .int at1), (6, .int rows), (7, .int r), (8, .int i)] → f_X6_readStream_L55 p0 a b c r K k u at1 rows i = (f_X6_readStream z p0) → W p l e ({ frames := 1, cells := 0, slots := 0, locals := 29 }) s m ([.ref (E.2.2 19), .int p0] : List Value).toArray below meth cd H locs 0 0 (MQ below (k_Q (fun v u => v = none ∧ u = (f_X6_readStream z p0)) E (46 + 6 * S) z s.heap.size) ([.ref (E.2.2 19), .int p0] : List Value).toArray s 0 0 (k_A E (46 + 6 * S) z s.heap.size)) (F0 m 55 ls []) := by
    intro a b c r ci0 ci1 ci2 ci3 K hK
    intro k
    induction k with
    | zero =>
      intro u at1 rows i H locs ls hi0 hi1 hi2 hi3 hi4 hm
      exact absurd hm (Nat.not_lt_zero _)
    | succ k ih =>
      intro u at1 rows i H locs ls hi0 hi1 hi2 hi3 hi4 hm hW hl hG
      refine lv_iload hx hb dX6_readStream_55 (lv_at hl 8 rfl) ?_
      refine lv_aload_n hx hb dX6_readStream_57 rfl (lv_at hl 0 rfl) ?_
      refine k_get hx hb hts inlX6 hown hW 19 (by omega) k_c19 rfl 11 (by decide) lf_RX6_39 rfl (v := .ref (E.2.2 29)) rfl dX6_readStream_58 ?_
      refine lv_bipush (v := 6) hx hb dX6_readStream_61 (by decide) ?_
      refine lv_iload_n hx hb dX6_readStream_63 rfl (lv_at hl 1 rfl) ?_
      refine lv_imul hx hb dX6_readStream_64 ?_
      refine lv_iload hx hb dX6_readStream_65 (lv_at hl 7 rfl) ?_
      refine lv_iadd hx hb dX6_readStream_67 ?_
      refine k_iald hx hb hW 29 72 (by omega) k_c29 (v := (u.1 29 (((6 * p0) + r).toNatClampNeg))) (by exact ix1 (k := 6) (l := 12) rfl hs ci3 (by decide)) rfl dX6_readStream_68 ?_
      refine lv_icmp_ge (tgt := 196) hx hb dX6_readStream_69 (by decide) (fun h1 => ?_) (fun h1 => ?_)
      · exact hK at1 rows u _ _ _ (hi0) (hi1) (hi2) (hi3) hW (lv_sub hl [0, 1, 2, 3, 4, 5, 6, 7] rfl) (Eq.symm (hG.symm.trans (by simp only [f_X6_readStream_L55, if_pos h1])))
      · refine lv_iload hx hb dX6_readStream_72 (lv_at hl 5 rfl) ?_
        refine lv_iload_n hx hb dX6_readStream_74 rfl (lv_at hl 2 rfl) ?_
        refine lv_iadd hx hb dX6_readStream_75 ?_
        refine lv_iload_n hx hb dX6_readStream_76 rfl (lv_at hl 3 rfl) ?_
        refine lv_iadd hx hb dX6_readStream_77 ?_
        refine lv_iload hx hb dX6_readStream_78 (lv_at hl 4 rfl) ?_
        refine lv_iadd hx hb dX6_readStream_80 ?_
        refine lv_aload_n hx hb dX6_readStream_81 rfl (lv_at hl 0 rfl) ?_
        refine k_get hx hb hts inlX6 hown hW 19 (by omega) k_c19 rfl 6 (by decide) lf_RX6_23 rfl (v := .ref (E.2.2 24)) rfl dX6_readStream_82 ?_
        refine lv_iload_n hx hb dX6_readStream_85 rfl (lv_at hl 1 rfl) ?_
        refine k_iald hx hb hW 24 12 (by omega) k_c24 (v := (u.1 24 p0.toNatClampNeg)) (by exact in12 hs) rfl dX6_readStream_86 ?_
        refine lv_icmp_le (tgt := 100) hx hb dX6_readStream_87 (by decide) (fun h2 => ?_) (fun h2 => ?_)
        · refine lv_iload_n hx hb dX6_readStream_100 rfl (lv_at hl 2 rfl) ?_
          refine lv_if_ne (tgt := 108) hx hb dX6_readStream_101 (by decide) (fun h3 => ?_) (fun h3 => ?_)
          · refine lv_aload_n hx hb dX6_readStream_108 rfl (lv_at hl 0 rfl) ?_
            refine lv_iload_n hx hb dX6_readStream_109 rfl (lv_at hl 1 rfl) ?_
            refine lv_iload hx hb dX6_readStream_110 (lv_at hl 5 rfl) ?_
            refine lv_iload_n hx hb dX6_readStream_112 rfl (lv_at hl 2 rfl) ?_
            refine k_callV (As := [.int p0, .int at1, .int a]) (rest := []) hx hb hml hown hts (c_X6_field l E S _ u p0 at1 a hs ((st_f hi3 ci0 ci1 ci2 h2 (k_Jsz hi0 _).2).1)) lm_RX6_165 ln_X6_field le_X6_field li_X6 lk_X6_field (show k_nm yX6_field 3 by decide +kernel) ⟨Nat.le_of_ble_eq_true rfl, Nat.le_of_ble_eq_true rfl⟩ rfl rfl ⟨Nat.le_of_ble_eq_true rfl, Nat.le_of_ble_eq_true rfl⟩ hl.1 rfl (Nat.le_of_ble_eq_true rfl) dX6_readStream_113 (by omega) (k_c19 _ _ _) rfl hW (fun v z1 H locs hp hW => ?_)
            obtain ⟨rfl, hz1⟩ := hp
            rw [hz1] at hW
            refine W.eq (g2 := F0 m 116 ls [.long (f_X6_field u p0 at1 a)]) rfl ?_
            refine lv_lstore (lv' := [(9, .long (f_X6_field u p0 at1 a)), (0, .ref (E.2.2 19)), (1, .int p0), (2, .int a), (3, .int b), (4, .int c), (5, .int at1), (6, .int rows), (7, .int r), (8, .int i)]) hx hb dX6_readStream_116 hl (by decide) rfl (fun ls hl => ?_)
            refine lv_lload hx hb dX6_readStream_118 (lv_at hl 0 rfl) ?_
            refine lv_ldc2 (v := 3) hx hb hown (hts _ lc_RX6_169) dX6_readStream_120 ?_
            refine k_lif_ge (tgt := 176) hx hb dX6_readStream_123 dX6_readStream_124 (by decide) (fun h4 => ?_) (fun h4 => ?_)
            · refine lv_iload hx hb dX6_readStream_176 (lv_at hl 6 rfl) ?_
              refine lv_iload_n hx hb dX6_readStream_178 rfl (lv_at hl 3 rfl) ?_
              refine lv_iadd hx hb dX6_readStream_179 ?_
              refine lv_iload_n hx hb dX6_readStream_180 rfl (lv_at hl 4 rfl) ?_
              refine lv_iadd hx hb dX6_readStream_181 ?_
              refine lv_iload hx hb dX6_readStream_182 (lv_at hl 5 rfl) ?_
              refine lv_iadd hx hb dX6_readStream_184 ?_
              refine lv_istore (lv' := [(5, .int (((at1 + a) + b) + c)), (9, .long (f_X6_field u p0 at1 a)), (0, .ref (E.2.2 19)), (1, .int p0), (2, .int a), (3, .int b), (4, .int c), (6, .int rows), (7, .int r), (8, .int i)]) hx hb dX6_readStream_185 hl (by decide) rfl (fun ls hl => ?_)
              refine lv_iinc (v := rows + 1) (lv' := [(6, .int (rows + 1)), (5, .int (((at1 + a) + b) + c)), (9, .long (f_X6_field u p0 at1 a)), (0, .ref (E.2.2 19)), (1, .int p0), (2, .int a), (3, .int b), (4, .int c), (7, .int r), (8, .int i)]) hx hb dX6_readStream_187 hl (k := 7) rfl rfl (by decide) rfl (fun ls hl => ?_)
              refine lv_iinc (v := i + 1) (lv' := [(8, .int (i + 1)), (6, .int (rows + 1)), (5, .int (((at1 + a) + b) + c)), (9, .long (f_X6_field u p0 at1 a)), (0, .ref (E.2.2 19)), (1, .int p0), (2, .int a), (3, .int b), (4, .int c), (7, .int r)]) hx hb dX6_readStream_190 hl (k := 9) rfl rfl (by decide) rfl (fun ls hl => ?_)
              refine lv_goto (tgt := 55) hx hb dX6_readStream_193 (by decide) ?_
              exact ih u (((at1 + a) + b) + c) (rows + 1) (i + 1) _ _ _ (hi0) (hi1) (hi2) ((st_f hi3 ci0 ci1 ci2 h2 (k_Jsz hi0 _).2).2.2.2) (in_s0 hi4 h1 (hi2.2.2 _)) (in_sm hi4 h1 (hi2.2.2 _) hm) hW (lv_sub hl [4, 5, 6, 7, 8, 2, 1, 9, 0] rfl) (Eq.symm (hG.symm.trans (by simp only [f_X6_readStream_L55, if_neg h1, if_pos h2, if_neg h3, if_pos h4])))
            · refine lv_aload_n hx hb dX6_readStream_127 rfl (lv_at hl 1 rfl) ?_
              refine lv_iload_n hx hb dX6_readStream_128 rfl (lv_at hl 2 rfl) ?_
              refine lv_aload_n hx hb dX6_readStream_129 rfl (lv_at hl 1 rfl) ?_
              refine k_get hx hb hts inlX6 hown hW 19 (by omega) k_c19 rfl 10 (by decide) lf_RX6_36 rfl (v := .ref (E.2.2 28)) rfl dX6_readStream_130 ?_
              refine lv_bipush (v := 6) hx hb dX6_readStream_133 (by decide) ?_
              refine lv_iload_n hx hb dX6_readStream_135 rfl (lv_at hl 2 rfl) ?_
              refine lv_imul hx hb dX6_readStream_136 ?_
              refine lv_iload hx hb dX6_readStream_137 (lv_at hl 8 rfl) ?_
              refine lv_iadd hx hb dX6_readStream_139 ?_
              refine k_iald hx hb hW 28 72 (by omega) k_c28 (v := (u.1 28 (((6 * p0) + r).toNatClampNeg))) (by exact ix1 (k := 6) (l := 12) rfl hs ci3 (by decide)) rfl dX6_readStream_140 ?_
              refine lv_iload hx hb dX6_readStream_141 (lv_at hl 9 rfl) ?_
              refine lv_iadd hx hb dX6_readStream_143 ?_
              refine lv_i2l (v := ((u.1 28 (((6 * p0) + r).toNatClampNeg)) + i : Int32).toInt64) hx hb dX6_readStream_144 rfl ?_
              refine lv_lload hx hb dX6_readStream_145 (lv_at hl 0 rfl) ?_
              refine lv_l2i (v := ((f_X6_field u p0 at1 a) : Int64).toInt32) hx hb dX6_readStream_147 rfl ?_
              refine lv_iconst (v := 1) hx hb dX6_readStream_148 (by decide) ?_
              refine lv_iadd hx hb dX6_readStream_149 ?_
              refine lv_aload_n hx hb dX6_readStream_150 rfl (lv_at hl 1 rfl) ?_
              refine lv_iload_n hx hb dX6_readStream_151 rfl (lv_at hl 2 rfl) ?_
              refine lv_iload hx hb dX6_readStream_152 (lv_at hl 6 rfl) ?_
              refine lv_iload_n hx hb dX6_readStream_154 rfl (lv_at hl 3 rfl) ?_
              refine lv_iadd hx hb dX6_readStream_155 ?_
              refine lv_iload_n hx hb dX6_readStream_156 rfl (lv_at hl 4 rfl) ?_
              refine k_callV (As := [.int p0, .int (at1 + a), .int b]) (rest := [.int ((((f_X6_field u p0 at1 a) : Int64).toInt32) + 1), .long (((u.1 28 (((6 * p0) + r).toNatClampNeg)) + i : Int32).toInt64), .int p0, .ref (E.2.2 19)]) hx hb hml hown hts (c_X6_field l E S _ u p0 (at1 + a) b hs ((st_f hi3 ci0 ci1 ci2 h2 (k_Jsz hi0 _).2).2.1)) lm_RX6_165 ln_X6_field le_X6_field li_X6 lk_X6_field (show k_nm yX6_field 3 by decide +kernel) ⟨Nat.le_of_ble_eq_true rfl, Nat.le_of_ble_eq_true rfl⟩ rfl rfl ⟨Nat.le_of_ble_eq_true rfl, Nat.le_of_ble_eq_true rfl⟩ hl.1 rfl (Nat.le_of_ble_eq_true rfl) dX6_readStream_157 (by omega) (k_c19 _ _ _) rfl hW (fun v z1 H locs hp hW => ?_)
              obtain ⟨rfl, hz1⟩ := hp
              rw [hz1] at hW
              refine W.eq (g2 := F0 m 160 ls [.long (f_X6_field u p0 (at1 + a) b), .int ((((f_X6_field u p0 at1 a) : Int64).toInt32) + 1), .long (((u.1 28 (((6 * p0) + r).toNatClampNeg)) + i : Int32).toInt64), .int p0, .ref (E.2.2 19)]) rfl ?_
              refine lv_aload_n hx hb dX6_readStream_160 rfl (lv_at hl 1 rfl) ?_
              refine lv_iload_n hx hb dX6_readStream_161 rfl (lv_at hl 2 rfl) ?_
              refine lv_iload hx hb dX6_readStream_162 (lv_at hl 6 rfl) ?_
              refine lv_iload_n hx hb dX6_readStream_164 rfl (lv_at hl 3 rfl) ?_
              refine lv_iadd hx hb dX6_readStream_165 ?_
              refine lv_iload_n hx hb dX6_readStream_166 rfl (lv_at hl 4 rfl) ?_
              refine lv_iadd hx hb dX6_readStream_167 ?_
              refine lv_iload hx hb dX6_readStream_168 (lv_at hl 5 rfl) ?_
              refine k_callV (As := [.int p0, .int ((at1 + a) + b), .int c]) (rest := [.long (f_X6_field u p0 (at1 + a) b), .int ((((f_X6_field u p0 at1 a) : Int64).toInt32) + 1), .long (((u.1 28 (((6 * p0) + r).toNatClampNeg)) + i : Int32).toInt64), .int p0, .ref (E.2.2 19)]) hx hb hml hown hts (c_X6_field l E S _ u p0 ((at1 + a) + b) c hs ((st_f hi3 ci0 ci1 ci2 h2 (k_Jsz hi0 _).2).2.2.1)) lm_RX6_165 ln_X6_field le_X6_field li_X6 lk_X6_field (show k_nm yX6_field 3 by decide +kernel) ⟨Nat.le_of_ble_eq_true rfl, Nat.le_of_ble_eq_true rfl⟩ rfl rfl ⟨Nat.le_of_ble_eq_true rfl, Nat.le_of_ble_eq_true rfl⟩ hl.1 rfl (Nat.le_of_ble_eq_true rfl) dX6_readStream_170 (by omega) (k_c19 _ _ _) rfl hW (fun v z1 H locs hp hW => ?_)
              obtain ⟨rfl, hz1⟩ := hp
              rw [hz1] at hW
              refine W.eq (g2 := F0 m 173 ls [.long (f_X6_field u p0 ((at1 + a) + b) c), .long (f_X6_field u p0 (at1 + a) b), .int ((((f_X6_field u p0 at1 a) : Int64).toInt32) + 1), .long (((u.1 28 (((6 * p0) + r).toNatClampNeg)) + i : Int32).toInt64), .int p0, .ref (E.2.2 19)]) rfl ?_
              refine k_callV (As := [.int p0, .long (((u.1 28 (((6 * p0) + r).toNatClampNeg)) + i : Int32).toInt64), .int ((((f_X6_field u p0 at1 a) : Int64).toInt32) + 1), .long (f_X6_field u p0 (at1 + a) b), .long (f_X6_field u p0 ((at1 + a) + b) c)]) (rest := []) hx hb hml hown hts (c_X6_row l E S _ u p0 (((u.1 28 (((6 * p0) + r).toNatClampNeg)) + i : Int32).toInt64) ((((f_X6_field u p0 at1 a) : Int64).toInt32) + 1) (f_X6_field u p0 (at1 + a) b) (f_X6_field u p0 ((at1 + a) + b) c) t ht hi1 (st_o (hi2.2.1 _) hi4 h1 (hi2.2.2 _)) hi0) lm_RX6_159 ln_X6_row le_X6_row li_X6 lk_X6_row (show k_nm yX6_row 5 by decide +kernel) ⟨Nat.le_of_ble_eq_true rfl, Nat.le_of_ble_eq_true rfl⟩ rfl rfl ⟨Nat.le_of_ble_eq_true rfl, Nat.le_of_ble_eq_true rfl⟩ hl.1 rfl (Nat.le_of_ble_eq_true rfl) dX6_readStream_173 (by omega) (k_c19 _ _ _) rfl hW (fun v z1 H locs hp hW => ?_)
              obtain ⟨rfl, hz1⟩ := hp
              rw [hz1] at hW
              obtain ⟨z6, ez6⟩ : ∃ y9 : Sg, y9 = (f_X6_row u p0 (((u.1 28 (((6 * p0) + r).toNatClampNeg)) + i : Int32).toInt64) ((((f_X6_field u p0 at1 a) : Int64).toInt32) + 1) (f_X6_field u p0 (at1 + a) b) (f_X6_field u p0 ((at1 + a) + b) c)) := ⟨_, rfl⟩
              rw [← ez6] at hW
              have Jz6 : k_J S z6 := by rw [ez6]; exact (JR_row ht hi1 (st_o (hi2.2.1 _) hi4 h1 (hi2.2.2 _)) hi0).1
              have Rz6 : k_R t p0 z6 := by rw [ez6]; exact (JR_row ht hi1 (st_o (hi2.2.1 _) hi4 h1 (hi2.2.2 _)) hi0).2
              have Tz6 : k_V z6 := by rw [ez6]; exact V_row hi2
              refine W.eq (g2 := F0 m 176 ls []) rfl ?_
              refine lv_iload hx hb dX6_readStream_176 (lv_at hl 6 rfl) ?_
              refine lv_iload_n hx hb dX6_readStream_178 rfl (lv_at hl 3 rfl) ?_
              refine lv_iadd hx hb dX6_readStream_179 ?_
              refine lv_iload_n hx hb dX6_readStream_180 rfl (lv_at hl 4 rfl) ?_
              refine lv_iadd hx hb dX6_readStream_181 ?_
              refine lv_iload hx hb dX6_readStream_182 (lv_at hl 5 rfl) ?_
              refine lv_iadd hx hb dX6_readStream_184 ?_
              refine lv_istore (lv' := [(5, .int (((at1 + a) + b) + c)), (9, .long (f_X6_field u p0 at1 a)), (0, .ref (E.2.2 19)), (1, .int p0), (2, .int a), (3, .int b), (4, .int c), (6, .int rows), (7, .int r), (8, .int i)]) hx hb dX6_readStream_185 hl (by decide) rfl (fun ls hl => ?_)
              refine lv_iinc (v := rows + 1) (lv' := [(6, .int (rows + 1)), (5, .int (((at1 + a) + b) + c)), (9, .long (f_X6_field u p0 at1 a)), (0, .ref (E.2.2 19)), (1, .int p0), (2, .int a), (3, .int b), (4, .int c), (7, .int r), (8, .int i)]) hx hb dX6_readStream_187 hl (k := 7) rfl rfl (by decide) rfl (fun ls hl => ?_)
              refine lv_iinc (v := i + 1) (lv' := [(8, .int (i + 1)), (6, .int (rows + 1)), (5, .int (((at1 + a) + b) + c)), (9, .long (f_X6_field u p0 at1 a)), (0, .ref (E.2.2 19)), (1, .int p0), (2, .int a), (3, .int b), (4, .int c), (7, .int r)]) hx hb dX6_readStream_190 hl (k := 9) rfl rfl (by decide) rfl (fun ls hl => ?_)
              refine lv_goto (tgt := 55) hx hb dX6_readStream_193 (by decide) ?_
              exact ih z6 (((at1 + a) + b) + c) (rows + 1) (i + 1) _ _ _ (Jz6) (Rz6) (Tz6) ((st_f hi3 ci0 ci1 ci2 h2 (k_Jsz hi0 _).2).2.2.2) (in_s0 hi4 h1 (hi2.2.2 _)) (in_sm hi4 h1 (hi2.2.2 _) hm) hW (lv_sub hl [4, 5, 6, 7, 8, 2, 1, 9, 0] rfl) (Eq.symm (hG.symm.trans (by subst ez6; simp only [f_X6_readStream_L55, if_neg h1, if_pos h2, if_neg h3, if_neg h4])))
          · refine lv_lconst (v := 1) hx hb dX6_readStream_104 (by decide) ?_
            refine lv_goto (tgt := 116) hx hb dX6_readStream_105 (by decide) ?_
            refine lv_lstore (lv' := [(9, .long 1), (0, .ref (E.2.2 19)), (1, .int p0), (2, .int a), (3, .int b), (4, .int c), (5, .int at1), (6, .int rows), (7, .int r), (8, .int i)]) hx hb dX6_readStream_116 hl (by decide) rfl (fun ls hl => ?_)
            refine lv_lload hx hb dX6_readStream_118 (lv_at hl 0 rfl) ?_
            refine lv_ldc2 (v := 3) hx hb hown (hts _ lc_RX6_169) dX6_readStream_120 ?_
            refine k_lif_ge (tgt := 176) hx hb dX6_readStream_123 dX6_readStream_124 (by decide) (fun h7 => absurd h7 (by decide)) (fun _ => ?_)
            refine lv_aload_n hx hb dX6_readStream_127 rfl (lv_at hl 1 rfl) ?_
            refine lv_iload_n hx hb dX6_readStream_128 rfl (lv_at hl 2 rfl) ?_
            refine lv_aload_n hx hb dX6_readStream_129 rfl (lv_at hl 1 rfl) ?_
            refine k_get hx hb hts inlX6 hown hW 19 (by omega) k_c19 rfl 10 (by decide) lf_RX6_36 rfl (v := .ref (E.2.2 28)) rfl dX6_readStream_130 ?_
            refine lv_bipush (v := 6) hx hb dX6_readStream_133 (by decide) ?_
            refine lv_iload_n hx hb dX6_readStream_135 rfl (lv_at hl 2 rfl) ?_
            refine lv_imul hx hb dX6_readStream_136 ?_
            refine lv_iload hx hb dX6_readStream_137 (lv_at hl 8 rfl) ?_
            refine lv_iadd hx hb dX6_readStream_139 ?_
            refine k_iald hx hb hW 28 72 (by omega) k_c28 (v := (u.1 28 (((6 * p0) + r).toNatClampNeg))) (by exact ix1 (k := 6) (l := 12) rfl hs ci3 (by decide)) rfl dX6_readStream_140 ?_
            refine lv_iload hx hb dX6_readStream_141 (lv_at hl 9 rfl) ?_
            refine lv_iadd hx hb dX6_readStream_143 ?_
            refine lv_i2l (v := ((u.1 28 (((6 * p0) + r).toNatClampNeg)) + i : Int32).toInt64) hx hb dX6_readStream_144 rfl ?_
            refine lv_lload hx hb dX6_readStream_145 (lv_at hl 0 rfl) ?_
            refine lv_l2i (v := (1 : Int64).toInt32) hx hb dX6_readStream_147 rfl ?_
            refine lv_iconst (v := 1) hx hb dX6_readStream_148 (by decide) ?_
            refine lv_iadd hx hb dX6_readStream_149 ?_
            refine lv_aload_n hx hb dX6_readStream_150 rfl (lv_at hl 1 rfl) ?_
            refine lv_iload_n hx hb dX6_readStream_151 rfl (lv_at hl 2 rfl) ?_
            refine lv_iload hx hb dX6_readStream_152 (lv_at hl 6 rfl) ?_
            refine lv_iload_n hx hb dX6_readStream_154 rfl (lv_at hl 3 rfl) ?_
            refine lv_iadd hx hb dX6_readStream_155 ?_
            refine lv_iload_n hx hb dX6_readStream_156 rfl (lv_at hl 4 rfl) ?_
            refine k_callV (As := [.int p0, .int (at1 + a), .int b]) (rest := [.int (((1 : Int64).toInt32) + 1), .long (((u.1 28 (((6 * p0) + r).toNatClampNeg)) + i : Int32).toInt64), .int p0, .ref (E.2.2 19)]) hx hb hml hown hts (c_X6_field l E S _ u p0 (at1 + a) b hs ((st_f hi3 ci0 ci1 ci2 h2 (k_Jsz hi0 _).2).2.1)) lm_RX6_165 ln_X6_field le_X6_field li_X6 lk_X6_field (show k_nm yX6_field 3 by decide +kernel) ⟨Nat.le_of_ble_eq_true rfl, Nat.le_of_ble_eq_true rfl⟩ rfl rfl ⟨Nat.le_of_ble_eq_true rfl, Nat.le_of_ble_eq_true rfl⟩ hl.1 rfl (Nat.le_of_ble_eq_true rfl) dX6_readStream_157 (by omega) (k_c19 _ _ _) rfl hW (fun v z1 H locs hp hW => ?_)
            obtain ⟨rfl, hz1⟩ := hp
            rw [hz1] at hW
            refine W.eq (g2 := F0 m 160 ls [.long (f_X6_field u p0 (at1 + a) b), .int (((1 : Int64).toInt32) + 1), .long (((u.1 28 (((6 * p0) + r).toNatClampNeg)) + i : Int32).toInt64), .int p0, .ref (E.2.2 19)]) rfl ?_
            refine lv_aload_n hx hb dX6_readStream_160 rfl (lv_at hl 1 rfl) ?_
            refine lv_iload_n hx hb dX6_readStream_161 rfl (lv_at hl 2 rfl) ?_
            refine lv_iload hx hb dX6_readStream_162 (lv_at hl 6 rfl) ?_
            refine lv_iload_n hx hb dX6_readStream_164 rfl (lv_at hl 3 rfl) ?_
            refine lv_iadd hx hb dX6_readStream_165 ?_
            refine lv_iload_n hx hb dX6_readStream_166 rfl (lv_at hl 4 rfl) ?_
            refine lv_iadd hx hb dX6_readStream_167 ?_
            refine lv_iload hx hb dX6_readStream_168 (lv_at hl 5 rfl) ?_
            refine k_callV (As := [.int p0, .int ((at1 + a) + b), .int c]) (rest := [.long (f_X6_field u p0 (at1 + a) b), .int (((1 : Int64).toInt32) + 1), .long (((u.1 28 (((6 * p0) + r).toNatClampNeg)) + i : Int32).toInt64), .int p0, .ref (E.2.2 19)]) hx hb hml hown hts (c_X6_field l E S _ u p0 ((at1 + a) + b) c hs ((st_f hi3 ci0 ci1 ci2 h2 (k_Jsz hi0 _).2).2.2.1)) lm_RX6_165 ln_X6_field le_X6_field li_X6 lk_X6_field (show k_nm yX6_field 3 by decide +kernel) ⟨Nat.le_of_ble_eq_true rfl, Nat.le_of_ble_eq_true rfl⟩ rfl rfl ⟨Nat.le_of_ble_eq_true rfl, Nat.le_of_ble_eq_true rfl⟩ hl.1 rfl (Nat.le_of_ble_eq_true rfl) dX6_readStream_170 (by omega) (k_c19 _ _ _) rfl hW (fun v z1 H locs hp hW => ?_)
            obtain ⟨rfl, hz1⟩ := hp
            rw [hz1] at hW
            refine W.eq (g2 := F0 m 173 ls [.long (f_X6_field u p0 ((at1 + a) + b) c), .long (f_X6_field u p0 (at1 + a) b), .int (((1 : Int64).toInt32) + 1), .long (((u.1 28 (((6 * p0) + r).toNatClampNeg)) + i : Int32).toInt64), .int p0, .ref (E.2.2 19)]) rfl ?_
            refine k_callV (As := [.int p0, .long (((u.1 28 (((6 * p0) + r).toNatClampNeg)) + i : Int32).toInt64), .int (((1 : Int64).toInt32) + 1), .long (f_X6_field u p0 (at1 + a) b), .long (f_X6_field u p0 ((at1 + a) + b) c)]) (rest := []) hx hb hml hown hts (c_X6_row l E S _ u p0 (((u.1 28 (((6 * p0) + r).toNatClampNeg)) + i : Int32).toInt64) (((1 : Int64).toInt32) + 1) (f_X6_field u p0 (at1 + a) b) (f_X6_field u p0 ((at1 + a) + b) c) t ht hi1 (st_o (hi2.2.1 _) hi4 h1 (hi2.2.2 _)) hi0) lm_RX6_159 ln_X6_row le_X6_row li_X6 lk_X6_row (show k_nm yX6_row 5 by decide +kernel) ⟨Nat.le_of_ble_eq_true rfl, Nat.le_of_ble_eq_true rfl⟩ rfl rfl ⟨Nat.le_of_ble_eq_true rfl, Nat.le_of_ble_eq_true rfl⟩ hl.1 rfl (Nat.le_of_ble_eq_true rfl) dX6_readStream_173 (by omega) (k_c19 _ _ _) rfl hW (fun v z1 H locs hp hW => ?_)
            obtain ⟨rfl, hz1⟩ := hp
            rw [hz1] at hW
            obtain ⟨z9, ez9⟩ : ∃ y9 : Sg, y9 = (f_X6_row u p0 (((u.1 28 (((6 * p0) + r).toNatClampNeg)) + i : Int32).toInt64) (((1 : Int64).toInt32) + 1) (f_X6_field u p0 (at1 + a) b) (f_X6_field u p0 ((at1 + a) + b) c)) := ⟨_, rfl⟩
            rw [← ez9] at hW
            have Jz9 : k_J S z9 := by rw [ez9]; exact (JR_row ht hi1 (st_o (hi2.2.1 _) hi4 h1 (hi2.2.2 _)) hi0).1
            have Rz9 : k_R t p0 z9 := by rw [ez9]; exact (JR_row ht hi1 (st_o (hi2.2.1 _) hi4 h1 (hi2.2.2 _)) hi0).2
            have Tz9 : k_V z9 := by rw [ez9]; exact V_row hi2
            refine W.eq (g2 := F0 m 176 ls []) rfl ?_
            refine lv_iload hx hb dX6_readStream_176 (lv_at hl 6 rfl) ?_
            refine lv_iload_n hx hb dX6_readStream_178 rfl (lv_at hl 3 rfl) ?_
            refine lv_iadd hx hb dX6_readStream_179 ?_
            refine lv_iload_n hx hb dX6_readStream_180 rfl (lv_at hl 4 rfl) ?_
            refine lv_iadd hx hb dX6_readStream_181 ?_
            refine lv_iload hx hb dX6_readStream_182 (lv_at hl 5 rfl) ?_
            refine lv_iadd hx hb dX6_readStream_184 ?_
            refine lv_istore (lv' := [(5, .int (((at1 + a) + b) + c)), (9, .long 1), (0, .ref (E.2.2 19)), (1, .int p0), (2, .int a), (3, .int b), (4, .int c), (6, .int rows), (7, .int r), (8, .int i)]) hx hb dX6_readStream_185 hl (by decide) rfl (fun ls hl => ?_)
            refine lv_iinc (v := rows + 1) (lv' := [(6, .int (rows + 1)), (5, .int (((at1 + a) + b) + c)), (9, .long 1), (0, .ref (E.2.2 19)), (1, .int p0), (2, .int a), (3, .int b), (4, .int c), (7, .int r), (8, .int i)]) hx hb dX6_readStream_187 hl (k := 7) rfl rfl (by decide) rfl (fun ls hl => ?_)
            refine lv_iinc (v := i + 1) (lv' := [(8, .int (i + 1)), (6, .int (rows + 1)), (5, .int (((at1 + a) + b) + c)), (9, .long 1), (0, .ref (E.2.2 19)), (1, .int p0), (2, .int a), (3, .int b), (4, .int c), (7, .int r)]) hx hb dX6_readStream_190 hl (k := 9) rfl rfl (by decide) rfl (fun ls hl => ?_)
            refine lv_goto (tgt := 55) hx hb dX6_readStream_193 (by decide) ?_
            exact ih z9 (((at1 + a) + b) + c) (rows + 1) (i + 1) _ _ _ (Jz9) (Rz9) (Tz9) ((st_f hi3 ci0 ci1 ci2 h2 (k_Jsz hi0 _).2).2.2.2) (in_s0 hi4 h1 (hi2.2.2 _)) (in_sm hi4 h1 (hi2.2.2 _) hm) hW (lv_sub hl [4, 5, 6, 7, 8, 2, 1, 9, 0] rfl) (Eq.symm (hG.symm.trans (by subst ez9; simp only [f_X6_readStream_L55, if_neg h1, if_pos h2, if_pos h3])))
        · refine lv_aload_n hx hb dX6_readStream_90 rfl (lv_at hl 0 rfl) ?_
          refine lv_iconst (v := 5) hx hb dX6_readStream_91 (by decide) ?_
          refine lv_iload_n hx hb dX6_readStream_92 rfl (lv_at hl 1 rfl) ?_
          refine lv_iload hx hb dX6_readStream_93 (lv_at hl 6 rfl) ?_
          refine lv_i2l (v := (rows : Int32).toInt64) hx hb dX6_readStream_95 rfl ?_
          refine k_callV (As := [.int 5, .int p0, .long ((rows : Int32).toInt64)]) (rest := []) hx hb hml hown hts (c_X6_tell l E S _ u 5 p0 ((rows : Int32).toInt64) hi0) lm_RX6_151 ln_X6_tell le_X6_tell li_X6 lk_X6_tell (show k_nm yX6_tell 3 by decide +kernel) ⟨Nat.le_of_ble_eq_true rfl, Nat.le_of_ble_eq_true rfl⟩ rfl rfl ⟨Nat.le_of_ble_eq_true rfl, Nat.le_of_ble_eq_true rfl⟩ hl.1 rfl (Nat.le_of_ble_eq_true rfl) dX6_readStream_96 (by omega) (k_c19 _ _ _) rfl hW (fun v z1 H locs hp hW => ?_)
          obtain ⟨rfl, hz1⟩ := hp
          rw [hz1] at hW
          obtain ⟨z11, ez11⟩ : ∃ y9 : Sg, y9 = (f_X6_tell u 5 p0 ((rows : Int32).toInt64)) := ⟨_, rfl⟩
          rw [← ez11] at hW
          have Jz11 : k_J S z11 := by rw [ez11]; exact J_tell hi0
          have Rz11 : k_R t p0 z11 := by rw [ez11]; exact R_tell hi1
          have Tz11 : k_V z11 := by rw [ez11]; exact V_tell hi2
          refine W.eq (g2 := F0 m 99 ls []) rfl ?_
          have hR : (f_X6_readStream z p0) = z11 := (hG.symm.trans (by subst ez11; simp only [f_X6_readStream_L55, if_neg h1, if_neg h2]))
          exact k_vret hx hb hr hlocks hW ⟨rfl, by rw [hR]⟩ dX6_readStream_99
  have L41 : ∀ (k : Nat) (w : Sg) (a : Int32) (b : Int32) (c : Int32) (at1 : Int32) (rows : Int32) (r : Int32) (H : Heap) (locs : List Loc) (ls : Array Slot), (k_J S w) → (k_R t p0 w) → (k_V w) → (0 ≤ at1.toInt ∧ at1.toInt ≤ 300) → (0 ≤ a.toInt ∧ a.toInt ≤ 4) → (0 ≤ b.toInt ∧ b.toInt ≤ 4) → (0 ≤ c.toInt ∧ c.toInt ≤ 4) → (0 ≤ r.toInt) → 6 - r.toInt.toNat < k → k_W E (46 + 6 * S) w (k_A E (46 + 6 * S) z s.heap.size) s H locs → lv_has ls 11 [(0, .ref (E.2.2 19)), (1, .int p0), (2, .int a), (3, .int b), (4, .int c), (5, .int at1), (6, .int rows), (7, .int r)] → f_X6_readStream_L41 p0 k w a b c at1 rows r = (f_X6_readStream z p0) → W p l e ({ frames := 1, cells := 0, slots := 0, locals := 29 }) s m ([.ref (E.2.2 19), .int p0] : List Value).toArray below meth cd H locs 0 0 (MQ below (k_Q (fun v u => v = none ∧ u = (f_X6_readStream z p0)) E (46 + 6 * S) z s.heap.size) ([.ref (E.2.2 19), .int p0] : List Value).toArray s 0 0 (k_A E (46 + 6 * S) z s.heap.size)) (F0 m 41 ls []) := by
    intro k
    induction k with
    | zero =>
      intro w a b c at1 rows r H locs ls hi0 hi1 hi2 hi3 hi4 hi5 hi6 hi7 hm
      exact absurd hm (Nat.not_lt_zero _)
    | succ k ih =>
      intro w a b c at1 rows r H locs ls hi0 hi1 hi2 hi3 hi4 hi5 hi6 hi7 hm hW hl hG
      refine lv_iload hx hb dX6_readStream_41 (lv_at hl 7 rfl) ?_
      refine lv_aload_n hx hb dX6_readStream_43 rfl (lv_at hl 0 rfl) ?_
      refine k_get hx hb hts inlX6 hown hW 19 (by omega) k_c19 rfl 9 (by decide) lf_RX6_33 rfl (v := .ref (E.2.2 27)) rfl dX6_readStream_44 ?_
      refine lv_iload_n hx hb dX6_readStream_47 rfl (lv_at hl 1 rfl) ?_
      refine k_iald hx hb hW 27 12 (by omega) k_c27 (v := (w.1 27 p0.toNatClampNeg)) (by exact in12 hs) rfl dX6_readStream_48 ?_
      refine lv_icmp_ge (tgt := 202) hx hb dX6_readStream_49 (by decide) (fun h12 => ?_) (fun h12 => ?_)
      · have hR : (f_X6_readStream z p0) = w := (hG.symm.trans (by simp only [f_X6_readStream_L41, if_pos h12]))
        exact k_vret hx hb hr hlocks hW ⟨rfl, by rw [hR]⟩ dX6_readStream_202
      · refine lv_iconst (v := 0) hx hb dX6_readStream_52 (by decide) ?_
        refine lv_istore (lv' := [(8, .int 0), (0, .ref (E.2.2 19)), (1, .int p0), (2, .int a), (3, .int b), (4, .int c), (5, .int at1), (6, .int rows), (7, .int r)]) hx hb dX6_readStream_53 hl (by decide) rfl (fun ls hl => ?_)
        refine L55 a b c r (hi4) (hi5) (hi6) (lt6 hi7 h12 (hi0.2.2.2.2.2.2.2.1 _).2) (fun at2 rows2 w2 =>
            f_X6_readStream_L41 p0 k w2 a b c at2 rows2 (r + 1)) ?_ 101 w at1 rows 0 _ _ _ (hi0) (hi1) (hi2) (hi3) (by decide) (by decide) hW (lv_sub hl [1, 2, 3, 4, 5, 6, 7, 8, 0] rfl) (Eq.symm (hG.symm.trans (by simp only [f_X6_readStream_L41, if_neg h12])))
        intro at2 rows2 w2 H locs ls xi0 xi1 xi2 xi3 hW hl hG
        refine lv_iinc (v := r + 1) (lv' := [(7, .int (r + 1)), (0, .ref (E.2.2 19)), (1, .int p0), (2, .int a), (3, .int b), (4, .int c), (5, .int at2), (6, .int rows2)]) hx hb dX6_readStream_196 hl (k := 7) rfl rfl (by decide) rfl (fun ls hl => ?_)
        refine lv_goto (tgt := 41) hx hb dX6_readStream_199 (by decide) ?_
        exact ih w2 a b c at2 rows2 (r + 1) _ _ _ (xi0) (xi1) (xi2) (xi3) (hi4) (hi5) (hi6) (in_s0 hi7 h12 (hi0.2.2.2.2.2.2.2.1 _).2) (in_sm hi7 h12 (hi0.2.2.2.2.2.2.2.1 _).2 hm) hW (lv_sub hl [1, 2, 3, 4, 5, 6, 7, 0] rfl) (Eq.symm (hG.symm.trans (by first | rfl | simp only [])))
  have hl : lv_has ls 11 [(0, .ref (E.2.2 19)), (1, .int p0)] := hl
  refine lv_aload_n hx hb dX6_readStream_0 rfl (lv_at hl 0 rfl) ?_
  refine k_get hx hb hts inlX6 hown hW 19 (by omega) k_c19 rfl 8 (by decide) lf_RX6_30 rfl (v := .ref (E.2.2 26)) rfl dX6_readStream_1 ?_
  refine lv_iconst (v := 3) hx hb dX6_readStream_4 (by decide) ?_
  refine lv_iload_n hx hb dX6_readStream_5 rfl (lv_at hl 1 rfl) ?_
  refine lv_imul hx hb dX6_readStream_6 ?_
  refine k_iald hx hb hW 26 36 (by omega) k_c26 (v := (z.1 26 ((3 * p0).toNatClampNeg))) (by exact ix0 (k := 3) (l := 12) rfl hs (by decide) (by decide)) rfl dX6_readStream_7 ?_
  refine lv_istore_n (lv' := [(2, .int (z.1 26 ((3 * p0).toNatClampNeg))), (0, .ref (E.2.2 19)), (1, .int p0)]) hx hb dX6_readStream_8 rfl hl (by decide) rfl (fun ls hl => ?_)
  refine lv_aload_n hx hb dX6_readStream_9 rfl (lv_at hl 1 rfl) ?_
  refine k_get hx hb hts inlX6 hown hW 19 (by omega) k_c19 rfl 8 (by decide) lf_RX6_30 rfl (v := .ref (E.2.2 26)) rfl dX6_readStream_10 ?_
  refine lv_iconst (v := 3) hx hb dX6_readStream_13 (by decide) ?_
  refine lv_iload_n hx hb dX6_readStream_14 rfl (lv_at hl 2 rfl) ?_
  refine lv_imul hx hb dX6_readStream_15 ?_
  refine lv_iconst (v := 1) hx hb dX6_readStream_16 (by decide) ?_
  refine lv_iadd hx hb dX6_readStream_17 ?_
  refine k_iald hx hb hW 26 36 (by omega) k_c26 (v := (z.1 26 (((3 * p0) + 1).toNatClampNeg))) (by exact ix1 (k := 3) (l := 12) rfl hs (by decide) (by decide)) rfl dX6_readStream_18 ?_
  refine lv_istore_n (lv' := [(3, .int (z.1 26 (((3 * p0) + 1).toNatClampNeg))), (2, .int (z.1 26 ((3 * p0).toNatClampNeg))), (0, .ref (E.2.2 19)), (1, .int p0)]) hx hb dX6_readStream_19 rfl hl (by decide) rfl (fun ls hl => ?_)
  refine lv_aload_n hx hb dX6_readStream_20 rfl (lv_at hl 2 rfl) ?_
  refine k_get hx hb hts inlX6 hown hW 19 (by omega) k_c19 rfl 8 (by decide) lf_RX6_30 rfl (v := .ref (E.2.2 26)) rfl dX6_readStream_21 ?_
  refine lv_iconst (v := 3) hx hb dX6_readStream_24 (by decide) ?_
  refine lv_iload_n hx hb dX6_readStream_25 rfl (lv_at hl 3 rfl) ?_
  refine lv_imul hx hb dX6_readStream_26 ?_
  refine lv_iconst (v := 2) hx hb dX6_readStream_27 (by decide) ?_
  refine lv_iadd hx hb dX6_readStream_28 ?_
  refine k_iald hx hb hW 26 36 (by omega) k_c26 (v := (z.1 26 (((3 * p0) + 2).toNatClampNeg))) (by exact ix1 (k := 3) (l := 12) rfl hs (by decide) (by decide)) rfl dX6_readStream_29 ?_
  refine lv_istore (lv' := [(4, .int (z.1 26 (((3 * p0) + 2).toNatClampNeg))), (3, .int (z.1 26 (((3 * p0) + 1).toNatClampNeg))), (2, .int (z.1 26 ((3 * p0).toNatClampNeg))), (0, .ref (E.2.2 19)), (1, .int p0)]) hx hb dX6_readStream_30 hl (by decide) rfl (fun ls hl => ?_)
  refine lv_iconst (v := 0) hx hb dX6_readStream_32 (by decide) ?_
  refine lv_istore (lv' := [(5, .int 0), (4, .int (z.1 26 (((3 * p0) + 2).toNatClampNeg))), (3, .int (z.1 26 (((3 * p0) + 1).toNatClampNeg))), (2, .int (z.1 26 ((3 * p0).toNatClampNeg))), (0, .ref (E.2.2 19)), (1, .int p0)]) hx hb dX6_readStream_33 hl (by decide) rfl (fun ls hl => ?_)
  refine lv_iconst (v := 0) hx hb dX6_readStream_35 (by decide) ?_
  refine lv_istore (lv' := [(6, .int 0), (5, .int 0), (4, .int (z.1 26 (((3 * p0) + 2).toNatClampNeg))), (3, .int (z.1 26 (((3 * p0) + 1).toNatClampNeg))), (2, .int (z.1 26 ((3 * p0).toNatClampNeg))), (0, .ref (E.2.2 19)), (1, .int p0)]) hx hb dX6_readStream_36 hl (by decide) rfl (fun ls hl => ?_)
  refine lv_iconst (v := 0) hx hb dX6_readStream_38 (by decide) ?_
  refine lv_istore (lv' := [(7, .int 0), (6, .int 0), (5, .int 0), (4, .int (z.1 26 (((3 * p0) + 2).toNatClampNeg))), (3, .int (z.1 26 (((3 * p0) + 1).toNatClampNeg))), (2, .int (z.1 26 ((3 * p0).toNatClampNeg))), (0, .ref (E.2.2 19)), (1, .int p0)]) hx hb dX6_readStream_39 hl (by decide) rfl (fun ls hl => ?_)
  exact L41 7 z (z.1 26 ((3 * p0).toNatClampNeg)) (z.1 26 (((3 * p0) + 1).toNatClampNeg)) (z.1 26 (((3 * p0) + 2).toNatClampNeg)) 0 0 0 _ _ _ (hI) (hR) (hV) (by decide) (hV.1 _) (hV.1 _) (hV.1 _) (by decide) (by decide) hW (lv_sub hl [6, 7, 5, 4, 3, 2, 1, 0] rfl) (Eq.symm (by simp only [f_X6_readStream]))
