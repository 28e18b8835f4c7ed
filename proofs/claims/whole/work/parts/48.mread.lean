theorem fh_in {S : Nat} {z : Sg} {p : Int64} (hI : k_J S z) (h : ¬ f_X6_findHead z p = z.1 19 14) : vp_in (f_X6_findHead z p) 60 := by
  have h1 := b_findHead_L2 (p0 := p) hI.2.1.1 61 0 (by decide) hI.2.1.1 (by decide) hI.2.1.2
  have h2 := hI.2.1.2
  have h3 : ¬ (f_X6_findHead z p).toInt = (z.1 19 14).toInt := fun e => h (Int32.toInt_inj.mp e)
  unfold f_X6_findHead at h3 ⊢
  rw [vp_in_iff]
  omega
theorem clampEq (x : Int32) : x.toNatClampNeg = x.toInt.toNat := rfl
/-- how many sections are written down of each object: t, or t + 1 with s the last -/
def k_R (t : Nat) (s : Int32) (z : Sg) : Prop := ∀ o, o < 100 → (z.1 39 o).toInt ≤ t ∨ ((z.1 39 o).toInt = t + 1 ∧ z.1 40 (12 * o + (z.1 39 o).toInt.toNat - 1) = s)
theorem ro_b {p : Int64} (ho : 0 ≤ p.toInt) (h : p ≤ 99) : 0 ≤ (p.toInt32).toInt ∧ (p.toInt32).toInt < (100 : Nat) := by
  simp only [Int64.le_iff_toInt_le] at h
  have e : (99 : Int64).toInt = 99 := rfl
  rw [l2i_small ho (by omega)]
  omega
theorem rvx {o r : Int32} (ho : 0 ≤ o.toInt ∧ o.toInt < (100 : Nat)) (hr : 1 ≤ r.toInt ∧ r.toInt ≤ 12) : ((12 * o) + r - 1).toNatClampNeg = 12 * o.toNatClampNeg + r.toInt.toNat - 1 := by
  have e2 := add_ti (K := 12) (k := 12) (l := 100) (s := o) (x := r) rfl ho ⟨by omega, by omega⟩ (by decide)
  have e3 : ((12 * o) + r - 1).toInt = 12 * o.toInt + r.toInt - 1 := by
    rw [Int32.toInt_sub, e2]
    have : (1 : Int32).toInt = 1 := rfl
    rw [this]
    exact Int.bmod_eq_of_le_mul_two (by simp; omega) (by simp; omega)
  rw [clampEq, clampEq, e3]
  omega
theorem rvx1 {o r : Int32} (ho : 0 ≤ o.toInt ∧ o.toInt < (100 : Nat)) (hr : 0 ≤ r.toInt ∧ r.toInt ≤ 12) : ((12 * o) + r).toNatClampNeg = 12 * o.toNatClampNeg + r.toInt.toNat := by
  have e2 := add_ti (K := 12) (k := 12) (l := 100) (s := o) (x := r) rfl ho ⟨hr.1, by omega⟩ (by decide)
  rw [clampEq, clampEq, e2]
  omega
theorem rv_ix {S : Nat} {z : Sg} {o : Int32} (hI : k_J S z) (ho : 0 ≤ o.toInt ∧ o.toInt < (100 : Nat)) (h : ¬ (z.1 39 o.toNatClampNeg) = 0) : ((12 * o) + (z.1 39 o.toNatClampNeg) - 1).toNatClampNeg = 12 * o.toNatClampNeg + (z.1 39 o.toNatClampNeg).toInt.toNat - 1 := by
  have hr := hI.2.2.2.2.2.2.2.2.2.2 o.toNatClampNeg
  have h1 : ¬ (z.1 39 o.toNatClampNeg).toInt = 0 := fun e => h (Int32.toInt_inj.mp e)
  exact rvx ho ⟨by omega, hr.2⟩
theorem rv_ix1 {S : Nat} {z : Sg} {o : Int32} (hI : k_J S z) (ho : 0 ≤ o.toInt ∧ o.toInt < (100 : Nat)) : ((12 * o) + (z.1 39 o.toNatClampNeg)).toNatClampNeg = 12 * o.toNatClampNeg + (z.1 39 o.toNatClampNeg).toInt.toNat :=
  rvx1 ho (hI.2.2.2.2.2.2.2.2.2.2 o.toNatClampNeg)
theorem rv_1 {S : Nat} {z : Sg} {k : Nat} (hI : k_J S z) (h : ¬ (z.1 39 k) = 0) : 1 ≤ (z.1 39 k).toInt ∧ (z.1 39 k).toInt ≤ (12 : Nat) := by
  have hr := hI.2.2.2.2.2.2.2.2.2.2 k
  have h1 : ¬ (z.1 39 k).toInt = 0 := fun e => h (Int32.toInt_inj.mp e)
  omega
theorem rv_lt {S t : Nat} {z : Sg} {s o : Int32} (hI : k_J S z) (ht : t ≤ 11) (hR : k_R t s z) (ho : 0 ≤ o.toInt ∧ o.toInt < (100 : Nat)) (h : (z.1 39 o.toNatClampNeg) = 0 ∨ ¬ z.1 40 ((12 * o) + (z.1 39 o.toNatClampNeg) - 1).toNatClampNeg = s) : 0 ≤ (z.1 39 o.toNatClampNeg).toInt ∧ (z.1 39 o.toNatClampNeg).toInt < (12 : Nat) := by
  have hr := hI.2.2.2.2.2.2.2.2.2.2 o.toNatClampNeg
  refine ⟨hr.1, ?_⟩
  by_cases h0 : (z.1 39 o.toNatClampNeg) = 0
  · rw [h0]; decide
  · have h2 := h.resolve_left h0
    rcases hR o.toNatClampNeg (by rw [clampEq]; omega) with h3 | ⟨-, h3⟩
    · omega
    · rw [rv_ix hI ho h0] at h2
      exact absurd h3 h2

def f_X6_row (z : Sg) (p0 : Int32) (p1 : Int64) (p2 : Int32) (p3 : Int64) (p4 : Int64) : Sg :=
  if p1 ≤ 99 then
    if (z.1 36 (((p1 : Int64).toInt32).toNatClampNeg)) = 0 then
      if (z.1 39 (((p1 : Int64).toInt32).toNatClampNeg)) = 0 then
        (uI (uI (uJ (uJ (uI z 36 (((p1 : Int64).toInt32).toNatClampNeg) p2) 37 (((p1 : Int64).toInt32).toNatClampNeg) p3) 38 (((p1 : Int64).toInt32).toNatClampNeg) p4) 40 (((12 * ((p1 : Int64).toInt32)) + (z.1 39 (((p1 : Int64).toInt32).toNatClampNeg))).toNatClampNeg) p0) 39 (((p1 : Int64).toInt32).toNatClampNeg) ((z.1 39 (((p1 : Int64).toInt32).toNatClampNeg)) + 1))
      else
        if (z.1 40 ((((12 * ((p1 : Int64).toInt32)) + (z.1 39 (((p1 : Int64).toInt32).toNatClampNeg))) - 1).toNatClampNeg)) = p0 then
          (uJ (uJ (uI z 36 (((p1 : Int64).toInt32).toNatClampNeg) p2) 37 (((p1 : Int64).toInt32).toNatClampNeg) p3) 38 (((p1 : Int64).toInt32).toNatClampNeg) p4)
        else
          (uI (uI (uJ (uJ (uI z 36 (((p1 : Int64).toInt32).toNatClampNeg) p2) 37 (((p1 : Int64).toInt32).toNatClampNeg) p3) 38 (((p1 : Int64).toInt32).toNatClampNeg) p4) 40 (((12 * ((p1 : Int64).toInt32)) + (z.1 39 (((p1 : Int64).toInt32).toNatClampNeg))).toNatClampNeg) p0) 39 (((p1 : Int64).toInt32).toNatClampNeg) ((z.1 39 (((p1 : Int64).toInt32).toNatClampNeg)) + 1))
    else
      if (z.1 39 (((p1 : Int64).toInt32).toNatClampNeg)) = 0 then
        (uI (uI z 40 (((12 * ((p1 : Int64).toInt32)) + (z.1 39 (((p1 : Int64).toInt32).toNatClampNeg))).toNatClampNeg) p0) 39 (((p1 : Int64).toInt32).toNatClampNeg) ((z.1 39 (((p1 : Int64).toInt32).toNatClampNeg)) + 1))
      else
        if (z.1 40 ((((12 * ((p1 : Int64).toInt32)) + (z.1 39 (((p1 : Int64).toInt32).toNatClampNeg))) - 1).toNatClampNeg)) = p0 then
          z
        else
          (uI (uI z 40 (((12 * ((p1 : Int64).toInt32)) + (z.1 39 (((p1 : Int64).toInt32).toNatClampNeg))).toNatClampNeg) p0) 39 (((p1 : Int64).toInt32).toNatClampNeg) ((z.1 39 (((p1 : Int64).toInt32).toNatClampNeg)) + 1))
  else
    z
set_option maxHeartbeats 4000000 in
set_option maxRecDepth 100000 in
theorem c_X6_row (l : Launch) (E : Ev) (S sz : Nat) (z : Sg) (p0 : Int32) (p1 : Int64) (p2 : Int32) (p3 : Int64) (p4 : Int64) (t : Nat) (ht : t ≤ 11) (hR : k_R t p0 z) (ho : 0 ≤ p1.toInt) (hI : k_J S z) : k_Met l yX6_row cX6_row 10 none ({ frames := 0, cells := 0, slots := 0, locals := 0 }) [.ref (E.2.2 19), .int p0, .long p1, .int p2, .long p3, .long p4] E (46 + 6 * S) z sz (fun v u => v = none ∧ u = (f_X6_row z p0 p1 p2 p3 p4)) 0 0 := by
  refine k_body (by decide +kernel) (Nat.le_of_ble_eq_true rfl) ?_
  intro p e s m below meth cd ls hx hb hr hml hown hlocks hts hW hl
  have hl : lv_has ls 10 [(0, .ref (E.2.2 19)), (1, .int p0), (2, .long p1), (4, .int p2), (5, .long p3), (7, .long p4)] := hl
  refine lv_lload_n hx hb dX6_row_0 rfl (lv_at hl 2 rfl) ?_
  refine lv_ldc2 (v := 99) hx hb hown (hts _ lc_RX6_125) dX6_row_1 ?_
  refine k_lif_le (tgt := 9) hx hb dX6_row_4 dX6_row_5 (by decide) (fun h1 => ?_) (fun h1 => ?_)
  · refine lv_lload_n hx hb dX6_row_9 rfl (lv_at hl 2 rfl) ?_
    refine lv_l2i (v := (p1 : Int64).toInt32) hx hb dX6_row_10 rfl ?_
    refine lv_istore (lv' := [(9, .int ((p1 : Int64).toInt32)), (0, .ref (E.2.2 19)), (1, .int p0), (2, .long p1), (4, .int p2), (5, .long p3), (7, .long p4)]) hx hb dX6_row_11 hl (by decide) rfl (fun ls hl => ?_)
    refine lv_aload_n hx hb dX6_row_13 rfl (lv_at hl 1 rfl) ?_
    refine k_get hx hb hts inlX6 hown hW 19 (by omega) k_c19 rfl 20 (by decide) lf_RX6_61 rfl (v := .ref (E.2.2 36)) rfl dX6_row_14 ?_
    refine lv_iload hx hb dX6_row_17 (lv_at hl 0 rfl) ?_
    refine k_iald hx hb hW 36 100 (by omega) k_c36 (v := (z.1 36 (((p1 : Int64).toInt32).toNatClampNeg))) (by exact vp_in_iff.mpr (ro_b ho h1)) rfl dX6_row_19 ?_
    refine lv_if_ne (tgt := 50) hx hb dX6_row_20 (by decide) (fun h2 => ?_) (fun h2 => ?_)
    · refine lv_aload_n hx hb dX6_row_50 rfl (lv_at hl 1 rfl) ?_
      refine k_get hx hb hts inlX6 hown hW 19 (by omega) k_c19 rfl 23 (by decide) lf_RX6_70 rfl (v := .ref (E.2.2 39)) rfl dX6_row_51 ?_
      refine lv_iload hx hb dX6_row_54 (lv_at hl 0 rfl) ?_
      refine k_iald hx hb hW 39 100 (by omega) k_c39 (v := (z.1 39 (((p1 : Int64).toInt32).toNatClampNeg))) (by exact vp_in_iff.mpr (ro_b ho h1)) rfl dX6_row_56 ?_
      refine lv_if_eq (tgt := 84) hx hb dX6_row_57 (by decide) (fun h3 => ?_) (fun h3 => ?_)
      · refine lv_aload_n hx hb dX6_row_84 rfl (lv_at hl 1 rfl) ?_
        refine k_get hx hb hts inlX6 hown hW 19 (by omega) k_c19 rfl 24 (by decide) lf_RX6_73 rfl (v := .ref (E.2.2 40)) rfl dX6_row_85 ?_
        refine lv_bipush (v := 12) hx hb dX6_row_88 (by decide) ?_
        refine lv_iload hx hb dX6_row_90 (lv_at hl 0 rfl) ?_
        refine lv_imul hx hb dX6_row_92 ?_
        refine lv_aload_n hx hb dX6_row_93 rfl (lv_at hl 1 rfl) ?_
        refine k_get hx hb hts inlX6 hown hW 19 (by omega) k_c19 rfl 23 (by decide) lf_RX6_70 rfl (v := .ref (E.2.2 39)) rfl dX6_row_94 ?_
        refine lv_iload hx hb dX6_row_97 (lv_at hl 0 rfl) ?_
        refine k_iald hx hb hW 39 100 (by omega) k_c39 (v := (z.1 39 (((p1 : Int64).toInt32).toNatClampNeg))) (by exact vp_in_iff.mpr (ro_b ho h1)) rfl dX6_row_99 ?_
        refine lv_iadd hx hb dX6_row_100 ?_
        refine lv_iload_n hx hb dX6_row_101 rfl (lv_at hl 2 rfl) ?_
        refine k_iast hx hb hW 40 1200 (by omega) k_c40 (by exact ix1 (k := 12) (l := 100) rfl (ro_b ho h1) (rv_lt hI ht hR (ro_b ho h1) (by first | exact Or.inl (by assumption) | exact Or.inr (by assumption))) (by decide)) dX6_row_102 (fun H locs hW => ?_)
        refine lv_aload_n hx hb dX6_row_103 rfl (lv_at hl 1 rfl) ?_
        refine k_get hx hb hts inlX6 hown hW 19 (by omega) k_c19 rfl 23 (by decide) lf_RX6_70 rfl (v := .ref (E.2.2 39)) rfl dX6_row_104 ?_
        refine lv_iload hx hb dX6_row_107 (lv_at hl 0 rfl) ?_
        refine lv_dup2_11 hx hb dX6_row_109 rfl rfl ?_
        refine k_iald hx hb hW 39 100 (by omega) k_c39 (v := (z.1 39 (((p1 : Int64).toInt32).toNatClampNeg))) (by exact vp_in_iff.mpr (ro_b ho h1)) rfl dX6_row_110 ?_
        refine lv_iconst (v := 1) hx hb dX6_row_111 (by decide) ?_
        refine lv_iadd hx hb dX6_row_112 ?_
        refine k_iast hx hb hW 39 100 (by omega) k_c39 (by exact vp_in_iff.mpr (ro_b ho h1)) dX6_row_113 (fun H locs hW => ?_)
        have hR : (f_X6_row z p0 p1 p2 p3 p4) = (uI (uI z 40 (((12 * ((p1 : Int64).toInt32)) + (z.1 39 (((p1 : Int64).toInt32).toNatClampNeg))).toNatClampNeg) p0) 39 (((p1 : Int64).toInt32).toNatClampNeg) ((z.1 39 (((p1 : Int64).toInt32).toNatClampNeg)) + 1)) := (by simp only [f_X6_row, if_pos h1, if_neg h2, if_pos h3])
        exact k_vret hx hb hr hlocks hW ⟨rfl, by rw [hR]⟩ dX6_row_114
      · refine lv_aload_n hx hb dX6_row_60 rfl (lv_at hl 1 rfl) ?_
        refine k_get hx hb hts inlX6 hown hW 19 (by omega) k_c19 rfl 24 (by decide) lf_RX6_73 rfl (v := .ref (E.2.2 40)) rfl dX6_row_61 ?_
        refine lv_bipush (v := 12) hx hb dX6_row_64 (by decide) ?_
        refine lv_iload hx hb dX6_row_66 (lv_at hl 0 rfl) ?_
        refine lv_imul hx hb dX6_row_68 ?_
        refine lv_aload_n hx hb dX6_row_69 rfl (lv_at hl 1 rfl) ?_
        refine k_get hx hb hts inlX6 hown hW 19 (by omega) k_c19 rfl 23 (by decide) lf_RX6_70 rfl (v := .ref (E.2.2 39)) rfl dX6_row_70 ?_
        refine lv_iload hx hb dX6_row_73 (lv_at hl 0 rfl) ?_
        refine k_iald hx hb hW 39 100 (by omega) k_c39 (v := (z.1 39 (((p1 : Int64).toInt32).toNatClampNeg))) (by exact vp_in_iff.mpr (ro_b ho h1)) rfl dX6_row_75 ?_
        refine lv_iadd hx hb dX6_row_76 ?_
        refine lv_iconst (v := 1) hx hb dX6_row_77 (by decide) ?_
        refine lv_isub hx hb dX6_row_78 ?_
        refine k_iald hx hb hW 40 1200 (by omega) k_c40 (v := (z.1 40 ((((12 * ((p1 : Int64).toInt32)) + (z.1 39 (((p1 : Int64).toInt32).toNatClampNeg))) - 1).toNatClampNeg))) (by exact ix2 (k := 12) (l := 100) rfl (ro_b ho h1) (rv_1 hI h3) (by decide)) rfl dX6_row_79 ?_
        refine lv_iload_n hx hb dX6_row_80 rfl (lv_at hl 2 rfl) ?_
        refine lv_icmp_eq (tgt := 114) hx hb dX6_row_81 (by decide) (fun h4 => ?_) (fun h4 => ?_)
        · have hR : (f_X6_row z p0 p1 p2 p3 p4) = z := (by simp only [f_X6_row, if_pos h1, if_neg h2, if_neg h3, if_pos h4])
          exact k_vret hx hb hr hlocks hW ⟨rfl, by rw [hR]⟩ dX6_row_114
        · refine lv_aload_n hx hb dX6_row_84 rfl (lv_at hl 1 rfl) ?_
          refine k_get hx hb hts inlX6 hown hW 19 (by omega) k_c19 rfl 24 (by decide) lf_RX6_73 rfl (v := .ref (E.2.2 40)) rfl dX6_row_85 ?_
          refine lv_bipush (v := 12) hx hb dX6_row_88 (by decide) ?_
          refine lv_iload hx hb dX6_row_90 (lv_at hl 0 rfl) ?_
          refine lv_imul hx hb dX6_row_92 ?_
          refine lv_aload_n hx hb dX6_row_93 rfl (lv_at hl 1 rfl) ?_
          refine k_get hx hb hts inlX6 hown hW 19 (by omega) k_c19 rfl 23 (by decide) lf_RX6_70 rfl (v := .ref (E.2.2 39)) rfl dX6_row_94 ?_
          refine lv_iload hx hb dX6_row_97 (lv_at hl 0 rfl) ?_
          refine k_iald hx hb hW 39 100 (by omega) k_c39 (v := (z.1 39 (((p1 : Int64).toInt32).toNatClampNeg))) (by exact vp_in_iff.mpr (ro_b ho h1)) rfl dX6_row_99 ?_
          refine lv_iadd hx hb dX6_row_100 ?_
          refine lv_iload_n hx hb dX6_row_101 rfl (lv_at hl 2 rfl) ?_
          refine k_iast hx hb hW 40 1200 (by omega) k_c40 (by exact ix1 (k := 12) (l := 100) rfl (ro_b ho h1) (rv_lt hI ht hR (ro_b ho h1) (by first | exact Or.inl (by assumption) | exact Or.inr (by assumption))) (by decide)) dX6_row_102 (fun H locs hW => ?_)
          refine lv_aload_n hx hb dX6_row_103 rfl (lv_at hl 1 rfl) ?_
          refine k_get hx hb hts inlX6 hown hW 19 (by omega) k_c19 rfl 23 (by decide) lf_RX6_70 rfl (v := .ref (E.2.2 39)) rfl dX6_row_104 ?_
          refine lv_iload hx hb dX6_row_107 (lv_at hl 0 rfl) ?_
          refine lv_dup2_11 hx hb dX6_row_109 rfl rfl ?_
          refine k_iald hx hb hW 39 100 (by omega) k_c39 (v := (z.1 39 (((p1 : Int64).toInt32).toNatClampNeg))) (by exact vp_in_iff.mpr (ro_b ho h1)) rfl dX6_row_110 ?_
          refine lv_iconst (v := 1) hx hb dX6_row_111 (by decide) ?_
          refine lv_iadd hx hb dX6_row_112 ?_
          refine k_iast hx hb hW 39 100 (by omega) k_c39 (by exact vp_in_iff.mpr (ro_b ho h1)) dX6_row_113 (fun H locs hW => ?_)
          have hR : (f_X6_row z p0 p1 p2 p3 p4) = (uI (uI z 40 (((12 * ((p1 : Int64).toInt32)) + (z.1 39 (((p1 : Int64).toInt32).toNatClampNeg))).toNatClampNeg) p0) 39 (((p1 : Int64).toInt32).toNatClampNeg) ((z.1 39 (((p1 : Int64).toInt32).toNatClampNeg)) + 1)) := (by simp only [f_X6_row, if_pos h1, if_neg h2, if_neg h3, if_neg h4])
          exact k_vret hx hb hr hlocks hW ⟨rfl, by rw [hR]⟩ dX6_row_114
    · refine lv_aload_n hx hb dX6_row_23 rfl (lv_at hl 1 rfl) ?_
      refine k_get hx hb hts inlX6 hown hW 19 (by omega) k_c19 rfl 20 (by decide) lf_RX6_61 rfl (v := .ref (E.2.2 36)) rfl dX6_row_24 ?_
      refine lv_iload hx hb dX6_row_27 (lv_at hl 0 rfl) ?_
      refine lv_iload hx hb dX6_row_29 (lv_at hl 4 rfl) ?_
      refine k_iast hx hb hW 36 100 (by omega) k_c36 (by exact vp_in_iff.mpr (ro_b ho h1)) dX6_row_31 (fun H locs hW => ?_)
      refine lv_aload_n hx hb dX6_row_32 rfl (lv_at hl 1 rfl) ?_
      refine k_get hx hb hts inlX6 hown hW 19 (by omega) k_c19 rfl 21 (by decide) lf_RX6_64 rfl (v := .ref (E.2.2 37)) rfl dX6_row_33 ?_
      refine lv_iload hx hb dX6_row_36 (lv_at hl 0 rfl) ?_
      refine lv_lload hx hb dX6_row_38 (lv_at hl 5 rfl) ?_
      refine k_last hx hb hW 37 100 (by omega) k_c37 (by exact vp_in_iff.mpr (ro_b ho h1)) dX6_row_40 (fun H locs hW => ?_)
      refine lv_aload_n hx hb dX6_row_41 rfl (lv_at hl 1 rfl) ?_
      refine k_get hx hb hts inlX6 hown hW 19 (by omega) k_c19 rfl 22 (by decide) lf_RX6_67 rfl (v := .ref (E.2.2 38)) rfl dX6_row_42 ?_
      refine lv_iload hx hb dX6_row_45 (lv_at hl 0 rfl) ?_
      refine lv_lload hx hb dX6_row_47 (lv_at hl 6 rfl) ?_
      refine k_last hx hb hW 38 100 (by omega) k_c38 (by exact vp_in_iff.mpr (ro_b ho h1)) dX6_row_49 (fun H locs hW => ?_)
      refine lv_aload_n hx hb dX6_row_50 rfl (lv_at hl 1 rfl) ?_
      refine k_get hx hb hts inlX6 hown hW 19 (by omega) k_c19 rfl 23 (by decide) lf_RX6_70 rfl (v := .ref (E.2.2 39)) rfl dX6_row_51 ?_
      refine lv_iload hx hb dX6_row_54 (lv_at hl 0 rfl) ?_
      refine k_iald hx hb hW 39 100 (by omega) k_c39 (v := (z.1 39 (((p1 : Int64).toInt32).toNatClampNeg))) (by exact vp_in_iff.mpr (ro_b ho h1)) rfl dX6_row_56 ?_
      refine lv_if_eq (tgt := 84) hx hb dX6_row_57 (by decide) (fun h5 => ?_) (fun h5 => ?_)
      · refine lv_aload_n hx hb dX6_row_84 rfl (lv_at hl 1 rfl) ?_
        refine k_get hx hb hts inlX6 hown hW 19 (by omega) k_c19 rfl 24 (by decide) lf_RX6_73 rfl (v := .ref (E.2.2 40)) rfl dX6_row_85 ?_
        refine lv_bipush (v := 12) hx hb dX6_row_88 (by decide) ?_
        refine lv_iload hx hb dX6_row_90 (lv_at hl 0 rfl) ?_
        refine lv_imul hx hb dX6_row_92 ?_
        refine lv_aload_n hx hb dX6_row_93 rfl (lv_at hl 1 rfl) ?_
        refine k_get hx hb hts inlX6 hown hW 19 (by omega) k_c19 rfl 23 (by decide) lf_RX6_70 rfl (v := .ref (E.2.2 39)) rfl dX6_row_94 ?_
        refine lv_iload hx hb dX6_row_97 (lv_at hl 0 rfl) ?_
        refine k_iald hx hb hW 39 100 (by omega) k_c39 (v := (z.1 39 (((p1 : Int64).toInt32).toNatClampNeg))) (by exact vp_in_iff.mpr (ro_b ho h1)) rfl dX6_row_99 ?_
        refine lv_iadd hx hb dX6_row_100 ?_
        refine lv_iload_n hx hb dX6_row_101 rfl (lv_at hl 2 rfl) ?_
        refine k_iast hx hb hW 40 1200 (by omega) k_c40 (by exact ix1 (k := 12) (l := 100) rfl (ro_b ho h1) (rv_lt hI ht hR (ro_b ho h1) (by first | exact Or.inl (by assumption) | exact Or.inr (by assumption))) (by decide)) dX6_row_102 (fun H locs hW => ?_)
        refine lv_aload_n hx hb dX6_row_103 rfl (lv_at hl 1 rfl) ?_
        refine k_get hx hb hts inlX6 hown hW 19 (by omega) k_c19 rfl 23 (by decide) lf_RX6_70 rfl (v := .ref (E.2.2 39)) rfl dX6_row_104 ?_
        refine lv_iload hx hb dX6_row_107 (lv_at hl 0 rfl) ?_
        refine lv_dup2_11 hx hb dX6_row_109 rfl rfl ?_
        refine k_iald hx hb hW 39 100 (by omega) k_c39 (v := (z.1 39 (((p1 : Int64).toInt32).toNatClampNeg))) (by exact vp_in_iff.mpr (ro_b ho h1)) rfl dX6_row_110 ?_
        refine lv_iconst (v := 1) hx hb dX6_row_111 (by decide) ?_
        refine lv_iadd hx hb dX6_row_112 ?_
        refine k_iast hx hb hW 39 100 (by omega) k_c39 (by exact vp_in_iff.mpr (ro_b ho h1)) dX6_row_113 (fun H locs hW => ?_)
        have hR : (f_X6_row z p0 p1 p2 p3 p4) = (uI (uI (uJ (uJ (uI z 36 (((p1 : Int64).toInt32).toNatClampNeg) p2) 37 (((p1 : Int64).toInt32).toNatClampNeg) p3) 38 (((p1 : Int64).toInt32).toNatClampNeg) p4) 40 (((12 * ((p1 : Int64).toInt32)) + (z.1 39 (((p1 : Int64).toInt32).toNatClampNeg))).toNatClampNeg) p0) 39 (((p1 : Int64).toInt32).toNatClampNeg) ((z.1 39 (((p1 : Int64).toInt32).toNatClampNeg)) + 1)) := (by simp only [f_X6_row, if_pos h1, if_pos h2, if_pos h5])
        exact k_vret hx hb hr hlocks hW ⟨rfl, by rw [hR]⟩ dX6_row_114
      · refine lv_aload_n hx hb dX6_row_60 rfl (lv_at hl 1 rfl) ?_
        refine k_get hx hb hts inlX6 hown hW 19 (by omega) k_c19 rfl 24 (by decide) lf_RX6_73 rfl (v := .ref (E.2.2 40)) rfl dX6_row_61 ?_
        refine lv_bipush (v := 12) hx hb dX6_row_64 (by decide) ?_
        refine lv_iload hx hb dX6_row_66 (lv_at hl 0 rfl) ?_
        refine lv_imul hx hb dX6_row_68 ?_
        refine lv_aload_n hx hb dX6_row_69 rfl (lv_at hl 1 rfl) ?_
        refine k_get hx hb hts inlX6 hown hW 19 (by omega) k_c19 rfl 23 (by decide) lf_RX6_70 rfl (v := .ref (E.2.2 39)) rfl dX6_row_70 ?_
        refine lv_iload hx hb dX6_row_73 (lv_at hl 0 rfl) ?_
        refine k_iald hx hb hW 39 100 (by omega) k_c39 (v := (z.1 39 (((p1 : Int64).toInt32).toNatClampNeg))) (by exact vp_in_iff.mpr (ro_b ho h1)) rfl dX6_row_75 ?_
        refine lv_iadd hx hb dX6_row_76 ?_
        refine lv_iconst (v := 1) hx hb dX6_row_77 (by decide) ?_
        refine lv_isub hx hb dX6_row_78 ?_
        refine k_iald hx hb hW 40 1200 (by omega) k_c40 (v := (z.1 40 ((((12 * ((p1 : Int64).toInt32)) + (z.1 39 (((p1 : Int64).toInt32).toNatClampNeg))) - 1).toNatClampNeg))) (by exact ix2 (k := 12) (l := 100) rfl (ro_b ho h1) (rv_1 hI h5) (by decide)) rfl dX6_row_79 ?_
        refine lv_iload_n hx hb dX6_row_80 rfl (lv_at hl 2 rfl) ?_
        refine lv_icmp_eq (tgt := 114) hx hb dX6_row_81 (by decide) (fun h6 => ?_) (fun h6 => ?_)
        · have hR : (f_X6_row z p0 p1 p2 p3 p4) = (uJ (uJ (uI z 36 (((p1 : Int64).toInt32).toNatClampNeg) p2) 37 (((p1 : Int64).toInt32).toNatClampNeg) p3) 38 (((p1 : Int64).toInt32).toNatClampNeg) p4) := (by simp only [f_X6_row, if_pos h1, if_pos h2, if_neg h5, if_pos h6])
          exact k_vret hx hb hr hlocks hW ⟨rfl, by rw [hR]⟩ dX6_row_114
        · refine lv_aload_n hx hb dX6_row_84 rfl (lv_at hl 1 rfl) ?_
          refine k_get hx hb hts inlX6 hown hW 19 (by omega) k_c19 rfl 24 (by decide) lf_RX6_73 rfl (v := .ref (E.2.2 40)) rfl dX6_row_85 ?_
          refine lv_bipush (v := 12) hx hb dX6_row_88 (by decide) ?_
          refine lv_iload hx hb dX6_row_90 (lv_at hl 0 rfl) ?_
          refine lv_imul hx hb dX6_row_92 ?_
          refine lv_aload_n hx hb dX6_row_93 rfl (lv_at hl 1 rfl) ?_
          refine k_get hx hb hts inlX6 hown hW 19 (by omega) k_c19 rfl 23 (by decide) lf_RX6_70 rfl (v := .ref (E.2.2 39)) rfl dX6_row_94 ?_
          refine lv_iload hx hb dX6_row_97 (lv_at hl 0 rfl) ?_
          refine k_iald hx hb hW 39 100 (by omega) k_c39 (v := (z.1 39 (((p1 : Int64).toInt32).toNatClampNeg))) (by exact vp_in_iff.mpr (ro_b ho h1)) rfl dX6_row_99 ?_
          refine lv_iadd hx hb dX6_row_100 ?_
          refine lv_iload_n hx hb dX6_row_101 rfl (lv_at hl 2 rfl) ?_
          refine k_iast hx hb hW 40 1200 (by omega) k_c40 (by exact ix1 (k := 12) (l := 100) rfl (ro_b ho h1) (rv_lt hI ht hR (ro_b ho h1) (by first | exact Or.inl (by assumption) | exact Or.inr (by assumption))) (by decide)) dX6_row_102 (fun H locs hW => ?_)
          refine lv_aload_n hx hb dX6_row_103 rfl (lv_at hl 1 rfl) ?_
          refine k_get hx hb hts inlX6 hown hW 19 (by omega) k_c19 rfl 23 (by decide) lf_RX6_70 rfl (v := .ref (E.2.2 39)) rfl dX6_row_104 ?_
          refine lv_iload hx hb dX6_row_107 (lv_at hl 0 rfl) ?_
          refine lv_dup2_11 hx hb dX6_row_109 rfl rfl ?_
          refine k_iald hx hb hW 39 100 (by omega) k_c39 (v := (z.1 39 (((p1 : Int64).toInt32).toNatClampNeg))) (by exact vp_in_iff.mpr (ro_b ho h1)) rfl dX6_row_110 ?_
          refine lv_iconst (v := 1) hx hb dX6_row_111 (by decide) ?_
          refine lv_iadd hx hb dX6_row_112 ?_
          refine k_iast hx hb hW 39 100 (by omega) k_c39 (by exact vp_in_iff.mpr (ro_b ho h1)) dX6_row_113 (fun H locs hW => ?_)
          have hR : (f_X6_row z p0 p1 p2 p3 p4) = (uI (uI (uJ (uJ (uI z 36 (((p1 : Int64).toInt32).toNatClampNeg) p2) 37 (((p1 : Int64).toInt32).toNatClampNeg) p3) 38 (((p1 : Int64).toInt32).toNatClampNeg) p4) 40 (((12 * ((p1 : Int64).toInt32)) + (z.1 39 (((p1 : Int64).toInt32).toNatClampNeg))).toNatClampNeg) p0) 39 (((p1 : Int64).toInt32).toNatClampNeg) ((z.1 39 (((p1 : Int64).toInt32).toNatClampNeg)) + 1)) := (by simp only [f_X6_row, if_pos h1, if_pos h2, if_neg h5, if_neg h6])
          exact k_vret hx hb hr hlocks hW ⟨rfl, by rw [hR]⟩ dX6_row_114
  · have hR : (f_X6_row z p0 p1 p2 p3 p4) = z := (by simp only [f_X6_row, if_neg h1])
    exact k_vret hx hb hr hlocks hW ⟨rfl, by rw [hR]⟩ dX6_row_8

def f_X6_judge_L7 (z : Sg) (p0 : Int32) : Nat → Int64 → Int32 → Sg
  | 0, _, _ => z
  | k + 1, a, i =>
    if (z.1 19 14) ≤ i then
      if (z.1 36 p0.toNatClampNeg) = 1 then
        if p0 ≤ 0 then
          if (z.1 36 p0.toNatClampNeg) = 2 then
            if (f_X6_findHead z (z.2.1 37 p0.toNatClampNeg)) = (z.1 19 14) then
              let z17 := (f_X6_tell (uI z 36 p0.toNatClampNeg 4) 7 p0 (z.2.1 37 p0.toNatClampNeg))
              z17
            else
              if (z.1 33 ((f_X6_findHead z (z.2.1 37 p0.toNatClampNeg)).toNatClampNeg)) = p0 then
                if ((z.1 34 ((f_X6_findHead z (z.2.1 37 p0.toNatClampNeg)).toNatClampNeg)) : Int32).toInt64 = (z.2.1 38 p0.toNatClampNeg) then
                  z
                else
                  let z23 := (f_X6_tell (uI z 36 p0.toNatClampNeg 4) 7 p0 (z.2.1 37 p0.toNatClampNeg))
                  z23
              else
                let z20 := (f_X6_tell (uI z 36 p0.toNatClampNeg 4) 7 p0 (z.2.1 37 p0.toNatClampNeg))
                z20
          else
            z
        else
          if a < 0 then
            if (z.1 36 p0.toNatClampNeg) = 2 then
              if (f_X6_findHead z (z.2.1 37 p0.toNatClampNeg)) = (z.1 19 14) then
                let z28 := (f_X6_tell (uI z 36 p0.toNatClampNeg 4) 7 p0 (z.2.1 37 p0.toNatClampNeg))
                z28
              else
                if (z.1 33 ((f_X6_findHead z (z.2.1 37 p0.toNatClampNeg)).toNatClampNeg)) = p0 then
                  if ((z.1 34 ((f_X6_findHead z (z.2.1 37 p0.toNatClampNeg)).toNatClampNeg)) : Int32).toInt64 = (z.2.1 38 p0.toNatClampNeg) then
                    z
                  else
                    let z34 := (f_X6_tell (uI z 36 p0.toNatClampNeg 4) 7 p0 (z.2.1 37 p0.toNatClampNeg))
                    z34
                else
                  let z31 := (f_X6_tell (uI z 36 p0.toNatClampNeg 4) 7 p0 (z.2.1 37 p0.toNatClampNeg))
                  z31
            else
              z
          else
            let z36 := (f_X6_tell z 6 p0 a)
            if (z36.1 36 p0.toNatClampNeg) = 2 then
              if (f_X6_findHead z36 (z36.2.1 37 p0.toNatClampNeg)) = (z36.1 19 14) then
                let z40 := (f_X6_tell (uI z36 36 p0.toNatClampNeg 4) 7 p0 (z36.2.1 37 p0.toNatClampNeg))
                z40
              else
                if (z36.1 33 ((f_X6_findHead z36 (z36.2.1 37 p0.toNatClampNeg)).toNatClampNeg)) = p0 then
                  if ((z36.1 34 ((f_X6_findHead z36 (z36.2.1 37 p0.toNatClampNeg)).toNatClampNeg)) : Int32).toInt64 = (z36.2.1 38 p0.toNatClampNeg) then
                    z36
                  else
                    let z46 := (f_X6_tell (uI z36 36 p0.toNatClampNeg 4) 7 p0 (z36.2.1 37 p0.toNatClampNeg))
                    z46
                else
                  let z43 := (f_X6_tell (uI z36 36 p0.toNatClampNeg 4) 7 p0 (z36.2.1 37 p0.toNatClampNeg))
                  z43
            else
              z36
      else
        if (z.1 36 p0.toNatClampNeg) = 2 then
          if (f_X6_findHead z (z.2.1 37 p0.toNatClampNeg)) = (z.1 19 14) then
            let z6 := (f_X6_tell (uI z 36 p0.toNatClampNeg 4) 7 p0 (z.2.1 37 p0.toNatClampNeg))
            z6
          else
            if (z.1 33 ((f_X6_findHead z (z.2.1 37 p0.toNatClampNeg)).toNatClampNeg)) = p0 then
              if ((z.1 34 ((f_X6_findHead z (z.2.1 37 p0.toNatClampNeg)).toNatClampNeg)) : Int32).toInt64 = (z.2.1 38 p0.toNatClampNeg) then
                z
              else
                let z12 := (f_X6_tell (uI z 36 p0.toNatClampNeg 4) 7 p0 (z.2.1 37 p0.toNatClampNeg))
                z12
            else
              let z9 := (f_X6_tell (uI z 36 p0.toNatClampNeg 4) 7 p0 (z.2.1 37 p0.toNatClampNeg))
              z9
        else
          z
    else
      if (z.1 33 i.toNatClampNeg) = p0 then
        if a < 0 then
          f_X6_judge_L7 z p0 k (z.2.1 32 i.toNatClampNeg) (i + 1)
        else
          if a ≤ (z.2.1 32 i.toNatClampNeg) then
            f_X6_judge_L7 z p0 k a (i + 1)
          else
            f_X6_judge_L7 z p0 k (z.2.1 32 i.toNatClampNeg) (i + 1)
      else
        f_X6_judge_L7 z p0 k a (i + 1)
termination_by k9 => k9
def f_X6_judge (z : Sg) (p0 : Int32) : Sg :=
  f_X6_judge_L7 z p0 61 (-1) 0
set_option maxHeartbeats 4000000 in
set_option maxRecDepth 100000 in
theorem c_X6_judge (l : Launch) (E : Ev) (S sz : Nat) (z : Sg) (p0 : Int32) (hp : vp_in p0 100) (hI : k_J S z) : k_Met l yX6_judge cX6_judge 5 none ({ frames := 1, cells := 0, slots := 0, locals := 24 }) [.ref (E.2.2 19), .int p0] E (46 + 6 * S) z sz (fun v u => v = none ∧ u = (f_X6_judge z p0)) 0 0 := by
  refine k_body (by decide +kernel) (Nat.le_of_ble_eq_true rfl) ?_
  intro p e s m below meth cd ls hx hb hr hml hown hlocks hts hW hl
  have L7 : ∀ (k : Nat) (a : Int64) (i : Int32) (H : Heap) (locs : List Loc) (ls : Array Slot), (0 ≤ i.toInt) → 60 - i.toInt.toNat < k → k_W E (46 + 6 * S) z (k_A E (46 + 6 * S) z s.heap.size) s H locs → lv_has ls 5 [(0, .ref (E.2.2 19)), (1, .int p0), (2, .long a), (4, .int i)] → f_X6_judge_L7 z p0 k a i = (f_X6_judge z p0) → W p l e ({ frames := 1, cells := 0, slots := 0, locals := 24 }) s m ([.ref (E.2.2 19), .int p0] : List Value).toArray below meth cd H locs 0 0 (MQ below (k_Q (fun v u => v = none ∧ u = (f_X6_judge z p0)) E (46 + 6 * S) z s.heap.size) ([.ref (E.2.2 19), .int p0] : List Value).toArray s 0 0 (k_A E (46 + 6 * S) z s.heap.size)) (F0 m 7 ls []) := by
    intro k
    induction k with
    | zero =>
      intro a i H locs ls hi0 hm
      exact absurd hm (Nat.not_lt_zero _)
    | succ k ih =>
      intro a i H locs ls hi0 hm hW hl hG
      refine lv_iload hx hb dX6_judge_7 (lv_at hl 3 rfl) ?_
      refine lv_aload_n hx hb dX6_judge_9 rfl (lv_at hl 0 rfl) ?_
      refine k_get hx hb hts inlX6 hown hW 19 (by omega) k_c19 rfl 14 (by decide) lf_RX6_119 rfl (v := .int (z.1 19 14)) rfl dX6_judge_10 ?_
      refine lv_icmp_ge (tgt := 63) hx hb dX6_judge_13 (by decide) (fun h1 => ?_) (fun h1 => ?_)
      · refine lv_aload_n hx hb dX6_judge_63 rfl (lv_at hl 0 rfl) ?_
        refine k_get hx hb hts inlX6 hown hW 19 (by omega) k_c19 rfl 20 (by decide) lf_RX6_61 rfl (v := .ref (E.2.2 36)) rfl dX6_judge_64 ?_
        refine lv_iload_n hx hb dX6_judge_67 rfl (lv_at hl 1 rfl) ?_
        refine k_iald hx hb hW 36 100 (by omega) k_c36 (v := (z.1 36 p0.toNatClampNeg)) (by exact hp) rfl dX6_judge_68 ?_
        refine lv_iconst (v := 1) hx hb dX6_judge_69 (by decide) ?_
        refine lv_icmp_ne (tgt := 91) hx hb dX6_judge_70 (by decide) (fun h2 => ?_) (fun h2 => ?_)
        · refine lv_aload_n hx hb dX6_judge_91 rfl (lv_at hl 0 rfl) ?_
          refine k_get hx hb hts inlX6 hown hW 19 (by omega) k_c19 rfl 20 (by decide) lf_RX6_61 rfl (v := .ref (E.2.2 36)) rfl dX6_judge_92 ?_
          refine lv_iload_n hx hb dX6_judge_95 rfl (lv_at hl 1 rfl) ?_
          refine k_iald hx hb hW 36 100 (by omega) k_c36 (v := (z.1 36 p0.toNatClampNeg)) (by exact hp) rfl dX6_judge_96 ?_
          refine lv_iconst (v := 2) hx hb dX6_judge_97 (by decide) ?_
          refine lv_icmp_ne (tgt := 171) hx hb dX6_judge_98 (by decide) (fun h3 => ?_) (fun h3 => ?_)
          · have hR : (f_X6_judge z p0) = z := (hG.symm.trans (by simp only [f_X6_judge_L7, if_pos h1, if_neg h2, if_neg h3]))
            exact k_vret hx hb hr hlocks hW ⟨rfl, by rw [hR]⟩ dX6_judge_171
          · refine lv_aload_n hx hb dX6_judge_101 rfl (lv_at hl 0 rfl) ?_
            refine lv_aload_n hx hb dX6_judge_102 rfl (lv_at hl 0 rfl) ?_
            refine k_get hx hb hts inlX6 hown hW 19 (by omega) k_c19 rfl 21 (by decide) lf_RX6_64 rfl (v := .ref (E.2.2 37)) rfl dX6_judge_103 ?_
            refine lv_iload_n hx hb dX6_judge_106 rfl (lv_at hl 1 rfl) ?_
            refine k_lald hx hb hW 37 100 (by omega) k_c37 (v := (z.2.1 37 p0.toNatClampNeg)) (by exact hp) rfl dX6_judge_107 ?_
            refine k_callV (As := [.long (z.2.1 37 p0.toNatClampNeg)]) (rest := []) hx hb hml hown hts (c_X6_findHead l E S _ z (z.2.1 37 p0.toNatClampNeg) hI) lm_RX6_122 ln_X6_findHead le_X6_findHead li_X6 lk_X6_findHead (show k_nm yX6_findHead 1 by decide +kernel) ⟨Nat.le_of_ble_eq_true rfl, Nat.le_of_ble_eq_true rfl⟩ rfl rfl ⟨Nat.le_of_ble_eq_true rfl, Nat.le_of_ble_eq_true rfl⟩ hl.1 rfl (Nat.le_of_ble_eq_true rfl) dX6_judge_108 (by omega) (k_c19 _ _ _) rfl hW (fun v z1 H locs hp hW => ?_)
            obtain ⟨rfl, hz1⟩ := hp
            rw [hz1] at hW
            refine W.eq (g2 := F0 m 111 ls [.int (f_X6_findHead z (z.2.1 37 p0.toNatClampNeg))]) rfl ?_
            refine lv_istore (lv' := [(4, .int (f_X6_findHead z (z.2.1 37 p0.toNatClampNeg))), (0, .ref (E.2.2 19)), (1, .int p0), (2, .long a)]) hx hb dX6_judge_111 hl (by decide) rfl (fun ls hl => ?_)
            refine lv_iload hx hb dX6_judge_113 (lv_at hl 0 rfl) ?_
            refine lv_aload_n hx hb dX6_judge_115 rfl (lv_at hl 1 rfl) ?_
            refine k_get hx hb hts inlX6 hown hW 19 (by omega) k_c19 rfl 14 (by decide) lf_RX6_119 rfl (v := .int (z.1 19 14)) rfl dX6_judge_116 ?_
            refine lv_icmp_eq (tgt := 151) hx hb dX6_judge_119 (by decide) (fun h4 => ?_) (fun h4 => ?_)
            · refine lv_aload_n hx hb dX6_judge_151 rfl (lv_at hl 1 rfl) ?_
              refine k_get hx hb hts inlX6 hown hW 19 (by omega) k_c19 rfl 20 (by decide) lf_RX6_61 rfl (v := .ref (E.2.2 36)) rfl dX6_judge_152 ?_
              refine lv_iload_n hx hb dX6_judge_155 rfl (lv_at hl 2 rfl) ?_
              refine lv_iconst (v := 4) hx hb dX6_judge_156 (by decide) ?_
              refine k_iast hx hb hW 36 100 (by omega) k_c36 (by exact hp) dX6_judge_157 (fun H locs hW => ?_)
              refine lv_aload_n hx hb dX6_judge_158 rfl (lv_at hl 1 rfl) ?_
              refine lv_bipush (v := 7) hx hb dX6_judge_159 (by decide) ?_
              refine lv_iload_n hx hb dX6_judge_161 rfl (lv_at hl 2 rfl) ?_
              refine lv_aload_n hx hb dX6_judge_162 rfl (lv_at hl 1 rfl) ?_
              refine k_get hx hb hts inlX6 hown hW 19 (by omega) k_c19 rfl 21 (by decide) lf_RX6_64 rfl (v := .ref (E.2.2 37)) rfl dX6_judge_163 ?_
              refine lv_iload_n hx hb dX6_judge_166 rfl (lv_at hl 2 rfl) ?_
              refine k_lald hx hb hW 37 100 (by omega) k_c37 (v := (z.2.1 37 p0.toNatClampNeg)) (by exact hp) rfl dX6_judge_167 ?_
              refine k_callV (As := [.int 7, .int p0, .long (z.2.1 37 p0.toNatClampNeg)]) (rest := []) hx hb hml hown hts (c_X6_tell l E S _ (uI z 36 p0.toNatClampNeg 4) 7 p0 (z.2.1 37 p0.toNatClampNeg) (k_J_u (by decide) hI)) lm_RX6_151 ln_X6_tell le_X6_tell li_X6 lk_X6_tell (show k_nm yX6_tell 3 by decide +kernel) ⟨Nat.le_of_ble_eq_true rfl, Nat.le_of_ble_eq_true rfl⟩ rfl rfl ⟨Nat.le_of_ble_eq_true rfl, Nat.le_of_ble_eq_true rfl⟩ hl.1 rfl (Nat.le_of_ble_eq_true rfl) dX6_judge_168 (by omega) (k_c19 _ _ _) rfl hW (fun v z1 H locs hp hW => ?_)
              obtain ⟨rfl, hz1⟩ := hp
              rw [hz1] at hW
              obtain ⟨z6, ez6⟩ : ∃ y9 : Sg, y9 = (f_X6_tell (uI z 36 p0.toNatClampNeg 4) 7 p0 (z.2.1 37 p0.toNatClampNeg)) := ⟨_, rfl⟩
              rw [← ez6] at hW
              have Jz6 : k_J S z6 := by rw [ez6]; exact J_tell (k_J_u (by decide) hI)
              refine W.eq (g2 := F0 m 171 ls []) rfl ?_
              have hR : (f_X6_judge z p0) = z6 := (hG.symm.trans (by subst ez6; simp only [f_X6_judge_L7, if_pos h1, if_neg h2, if_pos h3, if_pos h4]))
              exact k_vret hx hb hr hlocks hW ⟨rfl, by rw [hR]⟩ dX6_judge_171
            · refine lv_aload_n hx hb dX6_judge_122 rfl (lv_at hl 1 rfl) ?_
              refine k_get hx hb hts inlX6 hown hW 19 (by omega) k_c19 rfl 16 (by decide) lf_RX6_52 rfl (v := .ref (E.2.2 33)) rfl dX6_judge_123 ?_
              refine lv_iload hx hb dX6_judge_126 (lv_at hl 0 rfl) ?_
              refine k_iald hx hb hW 33 60 (by omega) k_c33 (v := (z.1 33 ((f_X6_findHead z (z.2.1 37 p0.toNatClampNeg)).toNatClampNeg))) (by exact fh_in hI h4) rfl dX6_judge_128 ?_
              refine lv_iload_n hx hb dX6_judge_129 rfl (lv_at hl 2 rfl) ?_
              refine lv_icmp_ne (tgt := 151) hx hb dX6_judge_130 (by decide) (fun h7 => ?_) (fun h7 => ?_)
              · refine lv_aload_n hx hb dX6_judge_151 rfl (lv_at hl 1 rfl) ?_
                refine k_get hx hb hts inlX6 hown hW 19 (by omega) k_c19 rfl 20 (by decide) lf_RX6_61 rfl (v := .ref (E.2.2 36)) rfl dX6_judge_152 ?_
                refine lv_iload_n hx hb dX6_judge_155 rfl (lv_at hl 2 rfl) ?_
                refine lv_iconst (v := 4) hx hb dX6_judge_156 (by decide) ?_
                refine k_iast hx hb hW 36 100 (by omega) k_c36 (by exact hp) dX6_judge_157 (fun H locs hW => ?_)
                refine lv_aload_n hx hb dX6_judge_158 rfl (lv_at hl 1 rfl) ?_
                refine lv_bipush (v := 7) hx hb dX6_judge_159 (by decide) ?_
                refine lv_iload_n hx hb dX6_judge_161 rfl (lv_at hl 2 rfl) ?_
                refine lv_aload_n hx hb dX6_judge_162 rfl (lv_at hl 1 rfl) ?_
                refine k_get hx hb hts inlX6 hown hW 19 (by omega) k_c19 rfl 21 (by decide) lf_RX6_64 rfl (v := .ref (E.2.2 37)) rfl dX6_judge_163 ?_
                refine lv_iload_n hx hb dX6_judge_166 rfl (lv_at hl 2 rfl) ?_
                refine k_lald hx hb hW 37 100 (by omega) k_c37 (v := (z.2.1 37 p0.toNatClampNeg)) (by exact hp) rfl dX6_judge_167 ?_
                refine k_callV (As := [.int 7, .int p0, .long (z.2.1 37 p0.toNatClampNeg)]) (rest := []) hx hb hml hown hts (c_X6_tell l E S _ (uI z 36 p0.toNatClampNeg 4) 7 p0 (z.2.1 37 p0.toNatClampNeg) (k_J_u (by decide) hI)) lm_RX6_151 ln_X6_tell le_X6_tell li_X6 lk_X6_tell (show k_nm yX6_tell 3 by decide +kernel) ⟨Nat.le_of_ble_eq_true rfl, Nat.le_of_ble_eq_true rfl⟩ rfl rfl ⟨Nat.le_of_ble_eq_true rfl, Nat.le_of_ble_eq_true rfl⟩ hl.1 rfl (Nat.le_of_ble_eq_true rfl) dX6_judge_168 (by omega) (k_c19 _ _ _) rfl hW (fun v z1 H locs hp hW => ?_)
                obtain ⟨rfl, hz1⟩ := hp
                rw [hz1] at hW
                obtain ⟨z9, ez9⟩ : ∃ y9 : Sg, y9 = (f_X6_tell (uI z 36 p0.toNatClampNeg 4) 7 p0 (z.2.1 37 p0.toNatClampNeg)) := ⟨_, rfl⟩
                rw [← ez9] at hW
                have Jz9 : k_J S z9 := by rw [ez9]; exact J_tell (k_J_u (by decide) hI)
                refine W.eq (g2 := F0 m 171 ls []) rfl ?_
                have hR : (f_X6_judge z p0) = z9 := (hG.symm.trans (by subst ez9; simp only [f_X6_judge_L7, if_pos h1, if_neg h2, if_pos h3, if_neg h4, if_neg h7]))
                exact k_vret hx hb hr hlocks hW ⟨rfl, by rw [hR]⟩ dX6_judge_171
              · refine lv_aload_n hx hb dX6_judge_133 rfl (lv_at hl 1 rfl) ?_
                refine k_get hx hb hts inlX6 hown hW 19 (by omega) k_c19 rfl 17 (by decide) lf_RX6_55 rfl (v := .ref (E.2.2 34)) rfl dX6_judge_134 ?_
                refine lv_iload hx hb dX6_judge_137 (lv_at hl 0 rfl) ?_
                refine k_iald hx hb hW 34 60 (by omega) k_c34 (v := (z.1 34 ((f_X6_findHead z (z.2.1 37 p0.toNatClampNeg)).toNatClampNeg))) (by exact fh_in hI h4) rfl dX6_judge_139 ?_
                refine lv_i2l (v := ((z.1 34 ((f_X6_findHead z (z.2.1 37 p0.toNatClampNeg)).toNatClampNeg)) : Int32).toInt64) hx hb dX6_judge_140 rfl ?_
                refine lv_aload_n hx hb dX6_judge_141 rfl (lv_at hl 1 rfl) ?_
                refine k_get hx hb hts inlX6 hown hW 19 (by omega) k_c19 rfl 22 (by decide) lf_RX6_67 rfl (v := .ref (E.2.2 38)) rfl dX6_judge_142 ?_
                refine lv_iload_n hx hb dX6_judge_145 rfl (lv_at hl 2 rfl) ?_
                refine k_lald hx hb hW 38 100 (by omega) k_c38 (v := (z.2.1 38 p0.toNatClampNeg)) (by exact hp) rfl dX6_judge_146 ?_
                refine k_lif_eq (tgt := 171) hx hb dX6_judge_147 dX6_judge_148 (by decide) (fun h10 => ?_) (fun h10 => ?_)
                · have hR : (f_X6_judge z p0) = z := (hG.symm.trans (by simp only [f_X6_judge_L7, if_pos h1, if_neg h2, if_pos h3, if_neg h4, if_pos h7, if_pos h10]))
                  exact k_vret hx hb hr hlocks hW ⟨rfl, by rw [hR]⟩ dX6_judge_171
                · refine lv_aload_n hx hb dX6_judge_151 rfl (lv_at hl 1 rfl) ?_
                  refine k_get hx hb hts inlX6 hown hW 19 (by omega) k_c19 rfl 20 (by decide) lf_RX6_61 rfl (v := .ref (E.2.2 36)) rfl dX6_judge_152 ?_
                  refine lv_iload_n hx hb dX6_judge_155 rfl (lv_at hl 2 rfl) ?_
                  refine lv_iconst (v := 4) hx hb dX6_judge_156 (by decide) ?_
                  refine k_iast hx hb hW 36 100 (by omega) k_c36 (by exact hp) dX6_judge_157 (fun H locs hW => ?_)
                  refine lv_aload_n hx hb dX6_judge_158 rfl (lv_at hl 1 rfl) ?_
                  refine lv_bipush (v := 7) hx hb dX6_judge_159 (by decide) ?_
                  refine lv_iload_n hx hb dX6_judge_161 rfl (lv_at hl 2 rfl) ?_
                  refine lv_aload_n hx hb dX6_judge_162 rfl (lv_at hl 1 rfl) ?_
                  refine k_get hx hb hts inlX6 hown hW 19 (by omega) k_c19 rfl 21 (by decide) lf_RX6_64 rfl (v := .ref (E.2.2 37)) rfl dX6_judge_163 ?_
                  refine lv_iload_n hx hb dX6_judge_166 rfl (lv_at hl 2 rfl) ?_
                  refine k_lald hx hb hW 37 100 (by omega) k_c37 (v := (z.2.1 37 p0.toNatClampNeg)) (by exact hp) rfl dX6_judge_167 ?_
                  refine k_callV (As := [.int 7, .int p0, .long (z.2.1 37 p0.toNatClampNeg)]) (rest := []) hx hb hml hown hts (c_X6_tell l E S _ (uI z 36 p0.toNatClampNeg 4) 7 p0 (z.2.1 37 p0.toNatClampNeg) (k_J_u (by decide) hI)) lm_RX6_151 ln_X6_tell le_X6_tell li_X6 lk_X6_tell (show k_nm yX6_tell 3 by decide +kernel) ⟨Nat.le_of_ble_eq_true rfl, Nat.le_of_ble_eq_true rfl⟩ rfl rfl ⟨Nat.le_of_ble_eq_true rfl, Nat.le_of_ble_eq_true rfl⟩ hl.1 rfl (Nat.le_of_ble_eq_true rfl) dX6_judge_168 (by omega) (k_c19 _ _ _) rfl hW (fun v z1 H locs hp hW => ?_)
                  obtain ⟨rfl, hz1⟩ := hp
                  rw [hz1] at hW
                  obtain ⟨z12, ez12⟩ : ∃ y9 : Sg, y9 = (f_X6_tell (uI z 36 p0.toNatClampNeg 4) 7 p0 (z.2.1 37 p0.toNatClampNeg)) := ⟨_, rfl⟩
                  rw [← ez12] at hW
                  have Jz12 : k_J S z12 := by rw [ez12]; exact J_tell (k_J_u (by decide) hI)
                  refine W.eq (g2 := F0 m 171 ls []) rfl ?_
                  have hR : (f_X6_judge z p0) = z12 := (hG.symm.trans (by subst ez12; simp only [f_X6_judge_L7, if_pos h1, if_neg h2, if_pos h3, if_neg h4, if_pos h7, if_neg h10]))
                  exact k_vret hx hb hr hlocks hW ⟨rfl, by rw [hR]⟩ dX6_judge_171
        · refine lv_iload_n hx hb dX6_judge_73 rfl (lv_at hl 1 rfl) ?_
          refine lv_if_le (tgt := 91) hx hb dX6_judge_74 (by decide) (fun h13 => ?_) (fun h13 => ?_)
          · refine lv_aload_n hx hb dX6_judge_91 rfl (lv_at hl 0 rfl) ?_
            refine k_get hx hb hts inlX6 hown hW 19 (by omega) k_c19 rfl 20 (by decide) lf_RX6_61 rfl (v := .ref (E.2.2 36)) rfl dX6_judge_92 ?_
            refine lv_iload_n hx hb dX6_judge_95 rfl (lv_at hl 1 rfl) ?_
            refine k_iald hx hb hW 36 100 (by omega) k_c36 (v := (z.1 36 p0.toNatClampNeg)) (by exact hp) rfl dX6_judge_96 ?_
            refine lv_iconst (v := 2) hx hb dX6_judge_97 (by decide) ?_
            refine lv_icmp_ne (tgt := 171) hx hb dX6_judge_98 (by decide) (fun h14 => ?_) (fun h14 => ?_)
            · have hR : (f_X6_judge z p0) = z := (hG.symm.trans (by simp only [f_X6_judge_L7, if_pos h1, if_pos h2, if_pos h13, if_neg h14]))
              exact k_vret hx hb hr hlocks hW ⟨rfl, by rw [hR]⟩ dX6_judge_171
            · refine lv_aload_n hx hb dX6_judge_101 rfl (lv_at hl 0 rfl) ?_
              refine lv_aload_n hx hb dX6_judge_102 rfl (lv_at hl 0 rfl) ?_
              refine k_get hx hb hts inlX6 hown hW 19 (by omega) k_c19 rfl 21 (by decide) lf_RX6_64 rfl (v := .ref (E.2.2 37)) rfl dX6_judge_103 ?_
              refine lv_iload_n hx hb dX6_judge_106 rfl (lv_at hl 1 rfl) ?_
              refine k_lald hx hb hW 37 100 (by omega) k_c37 (v := (z.2.1 37 p0.toNatClampNeg)) (by exact hp) rfl dX6_judge_107 ?_
              refine k_callV (As := [.long (z.2.1 37 p0.toNatClampNeg)]) (rest := []) hx hb hml hown hts (c_X6_findHead l E S _ z (z.2.1 37 p0.toNatClampNeg) hI) lm_RX6_122 ln_X6_findHead le_X6_findHead li_X6 lk_X6_findHead (show k_nm yX6_findHead 1 by decide +kernel) ⟨Nat.le_of_ble_eq_true rfl, Nat.le_of_ble_eq_true rfl⟩ rfl rfl ⟨Nat.le_of_ble_eq_true rfl, Nat.le_of_ble_eq_true rfl⟩ hl.1 rfl (Nat.le_of_ble_eq_true rfl) dX6_judge_108 (by omega) (k_c19 _ _ _) rfl hW (fun v z1 H locs hp hW => ?_)
              obtain ⟨rfl, hz1⟩ := hp
              rw [hz1] at hW
              refine W.eq (g2 := F0 m 111 ls [.int (f_X6_findHead z (z.2.1 37 p0.toNatClampNeg))]) rfl ?_
              refine lv_istore (lv' := [(4, .int (f_X6_findHead z (z.2.1 37 p0.toNatClampNeg))), (0, .ref (E.2.2 19)), (1, .int p0), (2, .long a)]) hx hb dX6_judge_111 hl (by decide) rfl (fun ls hl => ?_)
              refine lv_iload hx hb dX6_judge_113 (lv_at hl 0 rfl) ?_
              refine lv_aload_n hx hb dX6_judge_115 rfl (lv_at hl 1 rfl) ?_
              refine k_get hx hb hts inlX6 hown hW 19 (by omega) k_c19 rfl 14 (by decide) lf_RX6_119 rfl (v := .int (z.1 19 14)) rfl dX6_judge_116 ?_
              refine lv_icmp_eq (tgt := 151) hx hb dX6_judge_119 (by decide) (fun h15 => ?_) (fun h15 => ?_)
              · refine lv_aload_n hx hb dX6_judge_151 rfl (lv_at hl 1 rfl) ?_
                refine k_get hx hb hts inlX6 hown hW 19 (by omega) k_c19 rfl 20 (by decide) lf_RX6_61 rfl (v := .ref (E.2.2 36)) rfl dX6_judge_152 ?_
                refine lv_iload_n hx hb dX6_judge_155 rfl (lv_at hl 2 rfl) ?_
                refine lv_iconst (v := 4) hx hb dX6_judge_156 (by decide) ?_
                refine k_iast hx hb hW 36 100 (by omega) k_c36 (by exact hp) dX6_judge_157 (fun H locs hW => ?_)
                refine lv_aload_n hx hb dX6_judge_158 rfl (lv_at hl 1 rfl) ?_
                refine lv_bipush (v := 7) hx hb dX6_judge_159 (by decide) ?_
                refine lv_iload_n hx hb dX6_judge_161 rfl (lv_at hl 2 rfl) ?_
                refine lv_aload_n hx hb dX6_judge_162 rfl (lv_at hl 1 rfl) ?_
                refine k_get hx hb hts inlX6 hown hW 19 (by omega) k_c19 rfl 21 (by decide) lf_RX6_64 rfl (v := .ref (E.2.2 37)) rfl dX6_judge_163 ?_
                refine lv_iload_n hx hb dX6_judge_166 rfl (lv_at hl 2 rfl) ?_
                refine k_lald hx hb hW 37 100 (by omega) k_c37 (v := (z.2.1 37 p0.toNatClampNeg)) (by exact hp) rfl dX6_judge_167 ?_
                refine k_callV (As := [.int 7, .int p0, .long (z.2.1 37 p0.toNatClampNeg)]) (rest := []) hx hb hml hown hts (c_X6_tell l E S _ (uI z 36 p0.toNatClampNeg 4) 7 p0 (z.2.1 37 p0.toNatClampNeg) (k_J_u (by decide) hI)) lm_RX6_151 ln_X6_tell le_X6_tell li_X6 lk_X6_tell (show k_nm yX6_tell 3 by decide +kernel) ⟨Nat.le_of_ble_eq_true rfl, Nat.le_of_ble_eq_true rfl⟩ rfl rfl ⟨Nat.le_of_ble_eq_true rfl, Nat.le_of_ble_eq_true rfl⟩ hl.1 rfl (Nat.le_of_ble_eq_true rfl) dX6_judge_168 (by omega) (k_c19 _ _ _) rfl hW (fun v z1 H locs hp hW => ?_)
                obtain ⟨rfl, hz1⟩ := hp
                rw [hz1] at hW
                obtain ⟨z17, ez17⟩ : ∃ y9 : Sg, y9 = (f_X6_tell (uI z 36 p0.toNatClampNeg 4) 7 p0 (z.2.1 37 p0.toNatClampNeg)) := ⟨_, rfl⟩
                rw [← ez17] at hW
                have Jz17 : k_J S z17 := by rw [ez17]; exact J_tell (k_J_u (by decide) hI)
                refine W.eq (g2 := F0 m 171 ls []) rfl ?_
                have hR : (f_X6_judge z p0) = z17 := (hG.symm.trans (by subst ez17; simp only [f_X6_judge_L7, if_pos h1, if_pos h2, if_pos h13, if_pos h14, if_pos h15]))
                exact k_vret hx hb hr hlocks hW ⟨rfl, by rw [hR]⟩ dX6_judge_171
              · refine lv_aload_n hx hb dX6_judge_122 rfl (lv_at hl 1 rfl) ?_
                refine k_get hx hb hts inlX6 hown hW 19 (by omega) k_c19 rfl 16 (by decide) lf_RX6_52 rfl (v := .ref (E.2.2 33)) rfl dX6_judge_123 ?_
                refine lv_iload hx hb dX6_judge_126 (lv_at hl 0 rfl) ?_
                refine k_iald hx hb hW 33 60 (by omega) k_c33 (v := (z.1 33 ((f_X6_findHead z (z.2.1 37 p0.toNatClampNeg)).toNatClampNeg))) (by exact fh_in hI h15) rfl dX6_judge_128 ?_
                refine lv_iload_n hx hb dX6_judge_129 rfl (lv_at hl 2 rfl) ?_
                refine lv_icmp_ne (tgt := 151) hx hb dX6_judge_130 (by decide) (fun h18 => ?_) (fun h18 => ?_)
                · refine lv_aload_n hx hb dX6_judge_151 rfl (lv_at hl 1 rfl) ?_
                  refine k_get hx hb hts inlX6 hown hW 19 (by omega) k_c19 rfl 20 (by decide) lf_RX6_61 rfl (v := .ref (E.2.2 36)) rfl dX6_judge_152 ?_
                  refine lv_iload_n hx hb dX6_judge_155 rfl (lv_at hl 2 rfl) ?_
                  refine lv_iconst (v := 4) hx hb dX6_judge_156 (by decide) ?_
                  refine k_iast hx hb hW 36 100 (by omega) k_c36 (by exact hp) dX6_judge_157 (fun H locs hW => ?_)
                  refine lv_aload_n hx hb dX6_judge_158 rfl (lv_at hl 1 rfl) ?_
                  refine lv_bipush (v := 7) hx hb dX6_judge_159 (by decide) ?_
                  refine lv_iload_n hx hb dX6_judge_161 rfl (lv_at hl 2 rfl) ?_
                  refine lv_aload_n hx hb dX6_judge_162 rfl (lv_at hl 1 rfl) ?_
                  refine k_get hx hb hts inlX6 hown hW 19 (by omega) k_c19 rfl 21 (by decide) lf_RX6_64 rfl (v := .ref (E.2.2 37)) rfl dX6_judge_163 ?_
                  refine lv_iload_n hx hb dX6_judge_166 rfl (lv_at hl 2 rfl) ?_
                  refine k_lald hx hb hW 37 100 (by omega) k_c37 (v := (z.2.1 37 p0.toNatClampNeg)) (by exact hp) rfl dX6_judge_167 ?_
                  refine k_callV (As := [.int 7, .int p0, .long (z.2.1 37 p0.toNatClampNeg)]) (rest := []) hx hb hml hown hts (c_X6_tell l E S _ (uI z 36 p0.toNatClampNeg 4) 7 p0 (z.2.1 37 p0.toNatClampNeg) (k_J_u (by decide) hI)) lm_RX6_151 ln_X6_tell le_X6_tell li_X6 lk_X6_tell (show k_nm yX6_tell 3 by decide +kernel) ⟨Nat.le_of_ble_eq_true rfl, Nat.le_of_ble_eq_true rfl⟩ rfl rfl ⟨Nat.le_of_ble_eq_true rfl, Nat.le_of_ble_eq_true rfl⟩ hl.1 rfl (Nat.le_of_ble_eq_true rfl) dX6_judge_168 (by omega) (k_c19 _ _ _) rfl hW (fun v z1 H locs hp hW => ?_)
                  obtain ⟨rfl, hz1⟩ := hp
                  rw [hz1] at hW
                  obtain ⟨z20, ez20⟩ : ∃ y9 : Sg, y9 = (f_X6_tell (uI z 36 p0.toNatClampNeg 4) 7 p0 (z.2.1 37 p0.toNatClampNeg)) := ⟨_, rfl⟩
                  rw [← ez20] at hW
                  have Jz20 : k_J S z20 := by rw [ez20]; exact J_tell (k_J_u (by decide) hI)
                  refine W.eq (g2 := F0 m 171 ls []) rfl ?_
                  have hR : (f_X6_judge z p0) = z20 := (hG.symm.trans (by subst ez20; simp only [f_X6_judge_L7, if_pos h1, if_pos h2, if_pos h13, if_pos h14, if_neg h15, if_neg h18]))
                  exact k_vret hx hb hr hlocks hW ⟨rfl, by rw [hR]⟩ dX6_judge_171
                · refine lv_aload_n hx hb dX6_judge_133 rfl (lv_at hl 1 rfl) ?_
                  refine k_get hx hb hts inlX6 hown hW 19 (by omega) k_c19 rfl 17 (by decide) lf_RX6_55 rfl (v := .ref (E.2.2 34)) rfl dX6_judge_134 ?_
                  refine lv_iload hx hb dX6_judge_137 (lv_at hl 0 rfl) ?_
                  refine k_iald hx hb hW 34 60 (by omega) k_c34 (v := (z.1 34 ((f_X6_findHead z (z.2.1 37 p0.toNatClampNeg)).toNatClampNeg))) (by exact fh_in hI h15) rfl dX6_judge_139 ?_
                  refine lv_i2l (v := ((z.1 34 ((f_X6_findHead z (z.2.1 37 p0.toNatClampNeg)).toNatClampNeg)) : Int32).toInt64) hx hb dX6_judge_140 rfl ?_
                  refine lv_aload_n hx hb dX6_judge_141 rfl (lv_at hl 1 rfl) ?_
                  refine k_get hx hb hts inlX6 hown hW 19 (by omega) k_c19 rfl 22 (by decide) lf_RX6_67 rfl (v := .ref (E.2.2 38)) rfl dX6_judge_142 ?_
                  refine lv_iload_n hx hb dX6_judge_145 rfl (lv_at hl 2 rfl) ?_
                  refine k_lald hx hb hW 38 100 (by omega) k_c38 (v := (z.2.1 38 p0.toNatClampNeg)) (by exact hp) rfl dX6_judge_146 ?_
                  refine k_lif_eq (tgt := 171) hx hb dX6_judge_147 dX6_judge_148 (by decide) (fun h21 => ?_) (fun h21 => ?_)
                  · have hR : (f_X6_judge z p0) = z := (hG.symm.trans (by simp only [f_X6_judge_L7, if_pos h1, if_pos h2, if_pos h13, if_pos h14, if_neg h15, if_pos h18, if_pos h21]))
                    exact k_vret hx hb hr hlocks hW ⟨rfl, by rw [hR]⟩ dX6_judge_171
                  · refine lv_aload_n hx hb dX6_judge_151 rfl (lv_at hl 1 rfl) ?_
                    refine k_get hx hb hts inlX6 hown hW 19 (by omega) k_c19 rfl 20 (by decide) lf_RX6_61 rfl (v := .ref (E.2.2 36)) rfl dX6_judge_152 ?_
                    refine lv_iload_n hx hb dX6_judge_155 rfl (lv_at hl 2 rfl) ?_
                    refine lv_iconst (v := 4) hx hb dX6_judge_156 (by decide) ?_
                    refine k_iast hx hb hW 36 100 (by omega) k_c36 (by exact hp) dX6_judge_157 (fun H locs hW => ?_)
                    refine lv_aload_n hx hb dX6_judge_158 rfl (lv_at hl 1 rfl) ?_
                    refine lv_bipush (v := 7) hx hb dX6_judge_159 (by decide) ?_
                    refine lv_iload_n hx hb dX6_judge_161 rfl (lv_at hl 2 rfl) ?_
                    refine lv_aload_n hx hb dX6_judge_162 rfl (lv_at hl 1 rfl) ?_
                    refine k_get hx hb hts inlX6 hown hW 19 (by omega) k_c19 rfl 21 (by decide) lf_RX6_64 rfl (v := .ref (E.2.2 37)) rfl dX6_judge_163 ?_
                    refine lv_iload_n hx hb dX6_judge_166 rfl (lv_at hl 2 rfl) ?_
                    refine k_lald hx hb hW 37 100 (by omega) k_c37 (v := (z.2.1 37 p0.toNatClampNeg)) (by exact hp) rfl dX6_judge_167 ?_
                    refine k_callV (As := [.int 7, .int p0, .long (z.2.1 37 p0.toNatClampNeg)]) (rest := []) hx hb hml hown hts (c_X6_tell l E S _ (uI z 36 p0.toNatClampNeg 4) 7 p0 (z.2.1 37 p0.toNatClampNeg) (k_J_u (by decide) hI)) lm_RX6_151 ln_X6_tell le_X6_tell li_X6 lk_X6_tell (show k_nm yX6_tell 3 by decide +kernel) ⟨Nat.le_of_ble_eq_true rfl, Nat.le_of_ble_eq_true rfl⟩ rfl rfl ⟨Nat.le_of_ble_eq_true rfl, Nat.le_of_ble_eq_true rfl⟩ hl.1 rfl (Nat.le_of_ble_eq_true rfl) dX6_judge_168 (by omega) (k_c19 _ _ _) rfl hW (fun v z1 H locs hp hW => ?_)
                    obtain ⟨rfl, hz1⟩ := hp
                    rw [hz1] at hW
                    obtain ⟨z23, ez23⟩ : ∃ y9 : Sg, y9 = (f_X6_tell (uI z 36 p0.toNatClampNeg 4) 7 p0 (z.2.1 37 p0.toNatClampNeg)) := ⟨_, rfl⟩
                    rw [← ez23] at hW
                    have Jz23 : k_J S z23 := by rw [ez23]; exact J_tell (k_J_u (by decide) hI)
                    refine W.eq (g2 := F0 m 171 ls []) rfl ?_
                    have hR : (f_X6_judge z p0) = z23 := (hG.symm.trans (by subst ez23; simp only [f_X6_judge_L7, if_pos h1, if_pos h2, if_pos h13, if_pos h14, if_neg h15, if_pos h18, if_neg h21]))
                    exact k_vret hx hb hr hlocks hW ⟨rfl, by rw [hR]⟩ dX6_judge_171
          · refine lv_lload_n hx hb dX6_judge_77 rfl (lv_at hl 2 rfl) ?_
            refine lv_lconst (v := 0) hx hb dX6_judge_78 (by decide) ?_
            refine k_lif_lt (tgt := 91) hx hb dX6_judge_79 dX6_judge_80 (by decide) (fun h24 => ?_) (fun h24 => ?_)
            · refine lv_aload_n hx hb dX6_judge_91 rfl (lv_at hl 0 rfl) ?_
              refine k_get hx hb hts inlX6 hown hW 19 (by omega) k_c19 rfl 20 (by decide) lf_RX6_61 rfl (v := .ref (E.2.2 36)) rfl dX6_judge_92 ?_
              refine lv_iload_n hx hb dX6_judge_95 rfl (lv_at hl 1 rfl) ?_
              refine k_iald hx hb hW 36 100 (by omega) k_c36 (v := (z.1 36 p0.toNatClampNeg)) (by exact hp) rfl dX6_judge_96 ?_
              refine lv_iconst (v := 2) hx hb dX6_judge_97 (by decide) ?_
              refine lv_icmp_ne (tgt := 171) hx hb dX6_judge_98 (by decide) (fun h25 => ?_) (fun h25 => ?_)
              · have hR : (f_X6_judge z p0) = z := (hG.symm.trans (by simp only [f_X6_judge_L7, if_pos h1, if_pos h2, if_neg h13, if_pos h24, if_neg h25]))
                exact k_vret hx hb hr hlocks hW ⟨rfl, by rw [hR]⟩ dX6_judge_171
              · refine lv_aload_n hx hb dX6_judge_101 rfl (lv_at hl 0 rfl) ?_
                refine lv_aload_n hx hb dX6_judge_102 rfl (lv_at hl 0 rfl) ?_
                refine k_get hx hb hts inlX6 hown hW 19 (by omega) k_c19 rfl 21 (by decide) lf_RX6_64 rfl (v := .ref (E.2.2 37)) rfl dX6_judge_103 ?_
                refine lv_iload_n hx hb dX6_judge_106 rfl (lv_at hl 1 rfl) ?_
                refine k_lald hx hb hW 37 100 (by omega) k_c37 (v := (z.2.1 37 p0.toNatClampNeg)) (by exact hp) rfl dX6_judge_107 ?_
                refine k_callV (As := [.long (z.2.1 37 p0.toNatClampNeg)]) (rest := []) hx hb hml hown hts (c_X6_findHead l E S _ z (z.2.1 37 p0.toNatClampNeg) hI) lm_RX6_122 ln_X6_findHead le_X6_findHead li_X6 lk_X6_findHead (show k_nm yX6_findHead 1 by decide +kernel) ⟨Nat.le_of_ble_eq_true rfl, Nat.le_of_ble_eq_true rfl⟩ rfl rfl ⟨Nat.le_of_ble_eq_true rfl, Nat.le_of_ble_eq_true rfl⟩ hl.1 rfl (Nat.le_of_ble_eq_true rfl) dX6_judge_108 (by omega) (k_c19 _ _ _) rfl hW (fun v z1 H locs hp hW => ?_)
                obtain ⟨rfl, hz1⟩ := hp
                rw [hz1] at hW
                refine W.eq (g2 := F0 m 111 ls [.int (f_X6_findHead z (z.2.1 37 p0.toNatClampNeg))]) rfl ?_
                refine lv_istore (lv' := [(4, .int (f_X6_findHead z (z.2.1 37 p0.toNatClampNeg))), (0, .ref (E.2.2 19)), (1, .int p0), (2, .long a)]) hx hb dX6_judge_111 hl (by decide) rfl (fun ls hl => ?_)
                refine lv_iload hx hb dX6_judge_113 (lv_at hl 0 rfl) ?_
                refine lv_aload_n hx hb dX6_judge_115 rfl (lv_at hl 1 rfl) ?_
                refine k_get hx hb hts inlX6 hown hW 19 (by omega) k_c19 rfl 14 (by decide) lf_RX6_119 rfl (v := .int (z.1 19 14)) rfl dX6_judge_116 ?_
                refine lv_icmp_eq (tgt := 151) hx hb dX6_judge_119 (by decide) (fun h26 => ?_) (fun h26 => ?_)
                · refine lv_aload_n hx hb dX6_judge_151 rfl (lv_at hl 1 rfl) ?_
                  refine k_get hx hb hts inlX6 hown hW 19 (by omega) k_c19 rfl 20 (by decide) lf_RX6_61 rfl (v := .ref (E.2.2 36)) rfl dX6_judge_152 ?_
                  refine lv_iload_n hx hb dX6_judge_155 rfl (lv_at hl 2 rfl) ?_
                  refine lv_iconst (v := 4) hx hb dX6_judge_156 (by decide) ?_
                  refine k_iast hx hb hW 36 100 (by omega) k_c36 (by exact hp) dX6_judge_157 (fun H locs hW => ?_)
                  refine lv_aload_n hx hb dX6_judge_158 rfl (lv_at hl 1 rfl) ?_
                  refine lv_bipush (v := 7) hx hb dX6_judge_159 (by decide) ?_
                  refine lv_iload_n hx hb dX6_judge_161 rfl (lv_at hl 2 rfl) ?_
                  refine lv_aload_n hx hb dX6_judge_162 rfl (lv_at hl 1 rfl) ?_
                  refine k_get hx hb hts inlX6 hown hW 19 (by omega) k_c19 rfl 21 (by decide) lf_RX6_64 rfl (v := .ref (E.2.2 37)) rfl dX6_judge_163 ?_
                  refine lv_iload_n hx hb dX6_judge_166 rfl (lv_at hl 2 rfl) ?_
                  refine k_lald hx hb hW 37 100 (by omega) k_c37 (v := (z.2.1 37 p0.toNatClampNeg)) (by exact hp) rfl dX6_judge_167 ?_
                  refine k_callV (As := [.int 7, .int p0, .long (z.2.1 37 p0.toNatClampNeg)]) (rest := []) hx hb hml hown hts (c_X6_tell l E S _ (uI z 36 p0.toNatClampNeg 4) 7 p0 (z.2.1 37 p0.toNatClampNeg) (k_J_u (by decide) hI)) lm_RX6_151 ln_X6_tell le_X6_tell li_X6 lk_X6_tell (show k_nm yX6_tell 3 by decide +kernel) ⟨Nat.le_of_ble_eq_true rfl, Nat.le_of_ble_eq_true rfl⟩ rfl rfl ⟨Nat.le_of_ble_eq_true rfl, Nat.le_of_ble_eq_true rfl⟩ hl.1 rfl (Nat.le_of_ble_eq_true rfl) dX6_judge_168 (by omega) (k_c19 _ _ _) rfl hW (fun v z1 H locs hp hW => ?_)
                  obtain ⟨rfl, hz1⟩ := hp
                  rw [hz1] at hW
                  obtain ⟨z28, ez28⟩ : ∃ y9 : Sg, y9 = (f_X6_tell (uI z 36 p0.toNatClampNeg 4) 7 p0 (z.2.1 37 p0.toNatClampNeg)) := ⟨_, rfl⟩
                  rw [← ez28] at hW
                  have Jz28 : k_J S z28 := by rw [ez28]; exact J_tell (k_J_u (by decide) hI)
                  refine W.eq (g2 := F0 m 171 ls []) rfl ?_
                  have hR : (f_X6_judge z p0) = z28 := (hG.symm.trans (by subst ez28; simp only [f_X6_judge_L7, if_pos h1, if_pos h2, if_neg h13, if_pos h24, if_pos h25, if_pos h26]))
                  exact k_vret hx hb hr hlocks hW ⟨rfl, by rw [hR]⟩ dX6_judge_171
                · refine lv_aload_n hx hb dX6_judge_122 rfl (lv_at hl 1 rfl) ?_
                  refine k_get hx hb hts inlX6 hown hW 19 (by omega) k_c19 rfl 16 (by decide) lf_RX6_52 rfl (v := .ref (E.2.2 33)) rfl dX6_judge_123 ?_
                  refine lv_iload hx hb dX6_judge_126 (lv_at hl 0 rfl) ?_
                  refine k_iald hx hb hW 33 60 (by omega) k_c33 (v := (z.1 33 ((f_X6_findHead z (z.2.1 37 p0.toNatClampNeg)).toNatClampNeg))) (by exact fh_in hI h26) rfl dX6_judge_128 ?_
                  refine lv_iload_n hx hb dX6_judge_129 rfl (lv_at hl 2 rfl) ?_
                  refine lv_icmp_ne (tgt := 151) hx hb dX6_judge_130 (by decide) (fun h29 => ?_) (fun h29 => ?_)
                  · refine lv_aload_n hx hb dX6_judge_151 rfl (lv_at hl 1 rfl) ?_
                    refine k_get hx hb hts inlX6 hown hW 19 (by omega) k_c19 rfl 20 (by decide) lf_RX6_61 rfl (v := .ref (E.2.2 36)) rfl dX6_judge_152 ?_
                    refine lv_iload_n hx hb dX6_judge_155 rfl (lv_at hl 2 rfl) ?_
                    refine lv_iconst (v := 4) hx hb dX6_judge_156 (by decide) ?_
                    refine k_iast hx hb hW 36 100 (by omega) k_c36 (by exact hp) dX6_judge_157 (fun H locs hW => ?_)
                    refine lv_aload_n hx hb dX6_judge_158 rfl (lv_at hl 1 rfl) ?_
                    refine lv_bipush (v := 7) hx hb dX6_judge_159 (by decide) ?_
                    refine lv_iload_n hx hb dX6_judge_161 rfl (lv_at hl 2 rfl) ?_
                    refine lv_aload_n hx hb dX6_judge_162 rfl (lv_at hl 1 rfl) ?_
                    refine k_get hx hb hts inlX6 hown hW 19 (by omega) k_c19 rfl 21 (by decide) lf_RX6_64 rfl (v := .ref (E.2.2 37)) rfl dX6_judge_163 ?_
                    refine lv_iload_n hx hb dX6_judge_166 rfl (lv_at hl 2 rfl) ?_
                    refine k_lald hx hb hW 37 100 (by omega) k_c37 (v := (z.2.1 37 p0.toNatClampNeg)) (by exact hp) rfl dX6_judge_167 ?_
                    refine k_callV (As := [.int 7, .int p0, .long (z.2.1 37 p0.toNatClampNeg)]) (rest := []) hx hb hml hown hts (c_X6_tell l E S _ (uI z 36 p0.toNatClampNeg 4) 7 p0 (z.2.1 37 p0.toNatClampNeg) (k_J_u (by decide) hI)) lm_RX6_151 ln_X6_tell le_X6_tell li_X6 lk_X6_tell (show k_nm yX6_tell 3 by decide +kernel) ⟨Nat.le_of_ble_eq_true rfl, Nat.le_of_ble_eq_true rfl⟩ rfl rfl ⟨Nat.le_of_ble_eq_true rfl, Nat.le_of_ble_eq_true rfl⟩ hl.1 rfl (Nat.le_of_ble_eq_true rfl) dX6_judge_168 (by omega) (k_c19 _ _ _) rfl hW (fun v z1 H locs hp hW => ?_)
                    obtain ⟨rfl, hz1⟩ := hp
                    rw [hz1] at hW
                    obtain ⟨z31, ez31⟩ : ∃ y9 : Sg, y9 = (f_X6_tell (uI z 36 p0.toNatClampNeg 4) 7 p0 (z.2.1 37 p0.toNatClampNeg)) := ⟨_, rfl⟩
                    rw [← ez31] at hW
                    have Jz31 : k_J S z31 := by rw [ez31]; exact J_tell (k_J_u (by decide) hI)
                    refine W.eq (g2 := F0 m 171 ls []) rfl ?_
                    have hR : (f_X6_judge z p0) = z31 := (hG.symm.trans (by subst ez31; simp only [f_X6_judge_L7, if_pos h1, if_pos h2, if_neg h13, if_pos h24, if_pos h25, if_neg h26, if_neg h29]))
                    exact k_vret hx hb hr hlocks hW ⟨rfl, by rw [hR]⟩ dX6_judge_171
                  · refine lv_aload_n hx hb dX6_judge_133 rfl (lv_at hl 1 rfl) ?_
                    refine k_get hx hb hts inlX6 hown hW 19 (by omega) k_c19 rfl 17 (by decide) lf_RX6_55 rfl (v := .ref (E.2.2 34)) rfl dX6_judge_134 ?_
                    refine lv_iload hx hb dX6_judge_137 (lv_at hl 0 rfl) ?_
                    refine k_iald hx hb hW 34 60 (by omega) k_c34 (v := (z.1 34 ((f_X6_findHead z (z.2.1 37 p0.toNatClampNeg)).toNatClampNeg))) (by exact fh_in hI h26) rfl dX6_judge_139 ?_
                    refine lv_i2l (v := ((z.1 34 ((f_X6_findHead z (z.2.1 37 p0.toNatClampNeg)).toNatClampNeg)) : Int32).toInt64) hx hb dX6_judge_140 rfl ?_
                    refine lv_aload_n hx hb dX6_judge_141 rfl (lv_at hl 1 rfl) ?_
                    refine k_get hx hb hts inlX6 hown hW 19 (by omega) k_c19 rfl 22 (by decide) lf_RX6_67 rfl (v := .ref (E.2.2 38)) rfl dX6_judge_142 ?_
                    refine lv_iload_n hx hb dX6_judge_145 rfl (lv_at hl 2 rfl) ?_
                    refine k_lald hx hb hW 38 100 (by omega) k_c38 (v := (z.2.1 38 p0.toNatClampNeg)) (by exact hp) rfl dX6_judge_146 ?_
                    refine k_lif_eq (tgt := 171) hx hb dX6_judge_147 dX6_judge_148 (by decide) (fun h32 => ?_) (fun h32 => ?_)
                    · have hR : (f_X6_judge z p0) = z := (hG.symm.trans (by simp only [f_X6_judge_L7, if_pos h1, if_pos h2, if_neg h13, if_pos h24, if_pos h25, if_neg h26, if_pos h29, if_pos h32]))
                      exact k_vret hx hb hr hlocks hW ⟨rfl, by rw [hR]⟩ dX6_judge_171
                    · refine lv_aload_n hx hb dX6_judge_151 rfl (lv_at hl 1 rfl) ?_
                      refine k_get hx hb hts inlX6 hown hW 19 (by omega) k_c19 rfl 20 (by decide) lf_RX6_61 rfl (v := .ref (E.2.2 36)) rfl dX6_judge_152 ?_
                      refine lv_iload_n hx hb dX6_judge_155 rfl (lv_at hl 2 rfl) ?_
                      refine lv_iconst (v := 4) hx hb dX6_judge_156 (by decide) ?_
                      refine k_iast hx hb hW 36 100 (by omega) k_c36 (by exact hp) dX6_judge_157 (fun H locs hW => ?_)
                      refine lv_aload_n hx hb dX6_judge_158 rfl (lv_at hl 1 rfl) ?_
                      refine lv_bipush (v := 7) hx hb dX6_judge_159 (by decide) ?_
                      refine lv_iload_n hx hb dX6_judge_161 rfl (lv_at hl 2 rfl) ?_
                      refine lv_aload_n hx hb dX6_judge_162 rfl (lv_at hl 1 rfl) ?_
                      refine k_get hx hb hts inlX6 hown hW 19 (by omega) k_c19 rfl 21 (by decide) lf_RX6_64 rfl (v := .ref (E.2.2 37)) rfl dX6_judge_163 ?_
                      refine lv_iload_n hx hb dX6_judge_166 rfl (lv_at hl 2 rfl) ?_
                      refine k_lald hx hb hW 37 100 (by omega) k_c37 (v := (z.2.1 37 p0.toNatClampNeg)) (by exact hp) rfl dX6_judge_167 ?_
                      refine k_callV (As := [.int 7, .int p0, .long (z.2.1 37 p0.toNatClampNeg)]) (rest := []) hx hb hml hown hts (c_X6_tell l E S _ (uI z 36 p0.toNatClampNeg 4) 7 p0 (z.2.1 37 p0.toNatClampNeg) (k_J_u (by decide) hI)) lm_RX6_151 ln_X6_tell le_X6_tell li_X6 lk_X6_tell (show k_nm yX6_tell 3 by decide +kernel) ⟨Nat.le_of_ble_eq_true rfl, Nat.le_of_ble_eq_true rfl⟩ rfl rfl ⟨Nat.le_of_ble_eq_true rfl, Nat.le_of_ble_eq_true rfl⟩ hl.1 rfl (Nat.le_of_ble_eq_true rfl) dX6_judge_168 (by omega) (k_c19 _ _ _) rfl hW (fun v z1 H locs hp hW => ?_)
                      obtain ⟨rfl, hz1⟩ := hp
                      rw [hz1] at hW
                      obtain ⟨z34, ez34⟩ : ∃ y9 : Sg, y9 = (f_X6_tell (uI z 36 p0.toNatClampNeg 4) 7 p0 (z.2.1 37 p0.toNatClampNeg)) := ⟨_, rfl⟩
                      rw [← ez34] at hW
                      have Jz34 : k_J S z34 := by rw [ez34]; exact J_tell (k_J_u (by decide) hI)
                      refine W.eq (g2 := F0 m 171 ls []) rfl ?_
                      have hR : (f_X6_judge z p0) = z34 := (hG.symm.trans (by subst ez34; simp only [f_X6_judge_L7, if_pos h1, if_pos h2, if_neg h13, if_pos h24, if_pos h25, if_neg h26, if_pos h29, if_neg h32]))
                      exact k_vret hx hb hr hlocks hW ⟨rfl, by rw [hR]⟩ dX6_judge_171
            · refine lv_aload_n hx hb dX6_judge_83 rfl (lv_at hl 0 rfl) ?_
              refine lv_bipush (v := 6) hx hb dX6_judge_84 (by decide) ?_
              refine lv_iload_n hx hb dX6_judge_86 rfl (lv_at hl 1 rfl) ?_
              refine lv_lload_n hx hb dX6_judge_87 rfl (lv_at hl 2 rfl) ?_
              refine k_callV (As := [.int 6, .int p0, .long a]) (rest := []) hx hb hml hown hts (c_X6_tell l E S _ z 6 p0 a hI) lm_RX6_151 ln_X6_tell le_X6_tell li_X6 lk_X6_tell (show k_nm yX6_tell 3 by decide +kernel) ⟨Nat.le_of_ble_eq_true rfl, Nat.le_of_ble_eq_true rfl⟩ rfl rfl ⟨Nat.le_of_ble_eq_true rfl, Nat.le_of_ble_eq_true rfl⟩ hl.1 rfl (Nat.le_of_ble_eq_true rfl) dX6_judge_88 (by omega) (k_c19 _ _ _) rfl hW (fun v z1 H locs hp hW => ?_)
              obtain ⟨rfl, hz1⟩ := hp
              rw [hz1] at hW
              obtain ⟨z36, ez36⟩ : ∃ y9 : Sg, y9 = (f_X6_tell z 6 p0 a) := ⟨_, rfl⟩
              rw [← ez36] at hW
              have Jz36 : k_J S z36 := by rw [ez36]; exact J_tell hI
              refine W.eq (g2 := F0 m 91 ls []) rfl ?_
              refine lv_aload_n hx hb dX6_judge_91 rfl (lv_at hl 0 rfl) ?_
              refine k_get hx hb hts inlX6 hown hW 19 (by omega) k_c19 rfl 20 (by decide) lf_RX6_61 rfl (v := .ref (E.2.2 36)) rfl dX6_judge_92 ?_
              refine lv_iload_n hx hb dX6_judge_95 rfl (lv_at hl 1 rfl) ?_
              refine k_iald hx hb hW 36 100 (by omega) k_c36 (v := (z36.1 36 p0.toNatClampNeg)) (by exact hp) rfl dX6_judge_96 ?_
              refine lv_iconst (v := 2) hx hb dX6_judge_97 (by decide) ?_
              refine lv_icmp_ne (tgt := 171) hx hb dX6_judge_98 (by decide) (fun h37 => ?_) (fun h37 => ?_)
              · have hR : (f_X6_judge z p0) = z36 := (hG.symm.trans (by subst ez36; simp only [f_X6_judge_L7, if_pos h1, if_pos h2, if_neg h13, if_neg h24, if_neg h37]))
                exact k_vret hx hb hr hlocks hW ⟨rfl, by rw [hR]⟩ dX6_judge_171
              · refine lv_aload_n hx hb dX6_judge_101 rfl (lv_at hl 0 rfl) ?_
                refine lv_aload_n hx hb dX6_judge_102 rfl (lv_at hl 0 rfl) ?_
                refine k_get hx hb hts inlX6 hown hW 19 (by omega) k_c19 rfl 21 (by decide) lf_RX6_64 rfl (v := .ref (E.2.2 37)) rfl dX6_judge_103 ?_
                refine lv_iload_n hx hb dX6_judge_106 rfl (lv_at hl 1 rfl) ?_
                refine k_lald hx hb hW 37 100 (by omega) k_c37 (v := (z36.2.1 37 p0.toNatClampNeg)) (by exact hp) rfl dX6_judge_107 ?_
                refine k_callV (As := [.long (z36.2.1 37 p0.toNatClampNeg)]) (rest := []) hx hb hml hown hts (c_X6_findHead l E S _ z36 (z36.2.1 37 p0.toNatClampNeg) Jz36) lm_RX6_122 ln_X6_findHead le_X6_findHead li_X6 lk_X6_findHead (show k_nm yX6_findHead 1 by decide +kernel) ⟨Nat.le_of_ble_eq_true rfl, Nat.le_of_ble_eq_true rfl⟩ rfl rfl ⟨Nat.le_of_ble_eq_true rfl, Nat.le_of_ble_eq_true rfl⟩ hl.1 rfl (Nat.le_of_ble_eq_true rfl) dX6_judge_108 (by omega) (k_c19 _ _ _) rfl hW (fun v z1 H locs hp hW => ?_)
                obtain ⟨rfl, hz1⟩ := hp
                rw [hz1] at hW
                refine W.eq (g2 := F0 m 111 ls [.int (f_X6_findHead z36 (z36.2.1 37 p0.toNatClampNeg))]) rfl ?_
                refine lv_istore (lv' := [(4, .int (f_X6_findHead z36 (z36.2.1 37 p0.toNatClampNeg))), (0, .ref (E.2.2 19)), (1, .int p0), (2, .long a)]) hx hb dX6_judge_111 hl (by decide) rfl (fun ls hl => ?_)
                refine lv_iload hx hb dX6_judge_113 (lv_at hl 0 rfl) ?_
                refine lv_aload_n hx hb dX6_judge_115 rfl (lv_at hl 1 rfl) ?_
                refine k_get hx hb hts inlX6 hown hW 19 (by omega) k_c19 rfl 14 (by decide) lf_RX6_119 rfl (v := .int (z36.1 19 14)) rfl dX6_judge_116 ?_
                refine lv_icmp_eq (tgt := 151) hx hb dX6_judge_119 (by decide) (fun h38 => ?_) (fun h38 => ?_)
                · refine lv_aload_n hx hb dX6_judge_151 rfl (lv_at hl 1 rfl) ?_
                  refine k_get hx hb hts inlX6 hown hW 19 (by omega) k_c19 rfl 20 (by decide) lf_RX6_61 rfl (v := .ref (E.2.2 36)) rfl dX6_judge_152 ?_
                  refine lv_iload_n hx hb dX6_judge_155 rfl (lv_at hl 2 rfl) ?_
                  refine lv_iconst (v := 4) hx hb dX6_judge_156 (by decide) ?_
                  refine k_iast hx hb hW 36 100 (by omega) k_c36 (by exact hp) dX6_judge_157 (fun H locs hW => ?_)
                  refine lv_aload_n hx hb dX6_judge_158 rfl (lv_at hl 1 rfl) ?_
                  refine lv_bipush (v := 7) hx hb dX6_judge_159 (by decide) ?_
                  refine lv_iload_n hx hb dX6_judge_161 rfl (lv_at hl 2 rfl) ?_
                  refine lv_aload_n hx hb dX6_judge_162 rfl (lv_at hl 1 rfl) ?_
                  refine k_get hx hb hts inlX6 hown hW 19 (by omega) k_c19 rfl 21 (by decide) lf_RX6_64 rfl (v := .ref (E.2.2 37)) rfl dX6_judge_163 ?_
                  refine lv_iload_n hx hb dX6_judge_166 rfl (lv_at hl 2 rfl) ?_
                  refine k_lald hx hb hW 37 100 (by omega) k_c37 (v := (z36.2.1 37 p0.toNatClampNeg)) (by exact hp) rfl dX6_judge_167 ?_
                  refine k_callV (As := [.int 7, .int p0, .long (z36.2.1 37 p0.toNatClampNeg)]) (rest := []) hx hb hml hown hts (c_X6_tell l E S _ (uI z36 36 p0.toNatClampNeg 4) 7 p0 (z36.2.1 37 p0.toNatClampNeg) (k_J_u (by decide) Jz36)) lm_RX6_151 ln_X6_tell le_X6_tell li_X6 lk_X6_tell (show k_nm yX6_tell 3 by decide +kernel) ⟨Nat.le_of_ble_eq_true rfl, Nat.le_of_ble_eq_true rfl⟩ rfl rfl ⟨Nat.le_of_ble_eq_true rfl, Nat.le_of_ble_eq_true rfl⟩ hl.1 rfl (Nat.le_of_ble_eq_true rfl) dX6_judge_168 (by omega) (k_c19 _ _ _) rfl hW (fun v z1 H locs hp hW => ?_)
                  obtain ⟨rfl, hz1⟩ := hp
                  rw [hz1] at hW
                  obtain ⟨z40, ez40⟩ : ∃ y9 : Sg, y9 = (f_X6_tell (uI z36 36 p0.toNatClampNeg 4) 7 p0 (z36.2.1 37 p0.toNatClampNeg)) := ⟨_, rfl⟩
                  rw [← ez40] at hW
                  have Jz40 : k_J S z40 := by rw [ez40]; exact J_tell (k_J_u (by decide) Jz36)
                  refine W.eq (g2 := F0 m 171 ls []) rfl ?_
                  have hR : (f_X6_judge z p0) = z40 := (hG.symm.trans (by subst ez40 ez36; simp only [f_X6_judge_L7, if_pos h1, if_pos h2, if_neg h13, if_neg h24, if_pos h37, if_pos h38]))
                  exact k_vret hx hb hr hlocks hW ⟨rfl, by rw [hR]⟩ dX6_judge_171
                · refine lv_aload_n hx hb dX6_judge_122 rfl (lv_at hl 1 rfl) ?_
                  refine k_get hx hb hts inlX6 hown hW 19 (by omega) k_c19 rfl 16 (by decide) lf_RX6_52 rfl (v := .ref (E.2.2 33)) rfl dX6_judge_123 ?_
                  refine lv_iload hx hb dX6_judge_126 (lv_at hl 0 rfl) ?_
                  refine k_iald hx hb hW 33 60 (by omega) k_c33 (v := (z36.1 33 ((f_X6_findHead z36 (z36.2.1 37 p0.toNatClampNeg)).toNatClampNeg))) (by exact fh_in Jz36 h38) rfl dX6_judge_128 ?_
                  refine lv_iload_n hx hb dX6_judge_129 rfl (lv_at hl 2 rfl) ?_
                  refine lv_icmp_ne (tgt := 151) hx hb dX6_judge_130 (by decide) (fun h41 => ?_) (fun h41 => ?_)
                  · refine lv_aload_n hx hb dX6_judge_151 rfl (lv_at hl 1 rfl) ?_
                    refine k_get hx hb hts inlX6 hown hW 19 (by omega) k_c19 rfl 20 (by decide) lf_RX6_61 rfl (v := .ref (E.2.2 36)) rfl dX6_judge_152 ?_
                    refine lv_iload_n hx hb dX6_judge_155 rfl (lv_at hl 2 rfl) ?_
                    refine lv_iconst (v := 4) hx hb dX6_judge_156 (by decide) ?_
                    refine k_iast hx hb hW 36 100 (by omega) k_c36 (by exact hp) dX6_judge_157 (fun H locs hW => ?_)
                    refine lv_aload_n hx hb dX6_judge_158 rfl (lv_at hl 1 rfl) ?_
                    refine lv_bipush (v := 7) hx hb dX6_judge_159 (by decide) ?_
                    refine lv_iload_n hx hb dX6_judge_161 rfl (lv_at hl 2 rfl) ?_
                    refine lv_aload_n hx hb dX6_judge_162 rfl (lv_at hl 1 rfl) ?_
                    refine k_get hx hb hts inlX6 hown hW 19 (by omega) k_c19 rfl 21 (by decide) lf_RX6_64 rfl (v := .ref (E.2.2 37)) rfl dX6_judge_163 ?_
                    refine lv_iload_n hx hb dX6_judge_166 rfl (lv_at hl 2 rfl) ?_
                    refine k_lald hx hb hW 37 100 (by omega) k_c37 (v := (z36.2.1 37 p0.toNatClampNeg)) (by exact hp) rfl dX6_judge_167 ?_
                    refine k_callV (As := [.int 7, .int p0, .long (z36.2.1 37 p0.toNatClampNeg)]) (rest := []) hx hb hml hown hts (c_X6_tell l E S _ (uI z36 36 p0.toNatClampNeg 4) 7 p0 (z36.2.1 37 p0.toNatClampNeg) (k_J_u (by decide) Jz36)) lm_RX6_151 ln_X6_tell le_X6_tell li_X6 lk_X6_tell (show k_nm yX6_tell 3 by decide +kernel) ⟨Nat.le_of_ble_eq_true rfl, Nat.le_of_ble_eq_true rfl⟩ rfl rfl ⟨Nat.le_of_ble_eq_true rfl, Nat.le_of_ble_eq_true rfl⟩ hl.1 rfl (Nat.le_of_ble_eq_true rfl) dX6_judge_168 (by omega) (k_c19 _ _ _) rfl hW (fun v z1 H locs hp hW => ?_)
                    obtain ⟨rfl, hz1⟩ := hp
                    rw [hz1] at hW
                    obtain ⟨z43, ez43⟩ : ∃ y9 : Sg, y9 = (f_X6_tell (uI z36 36 p0.toNatClampNeg 4) 7 p0 (z36.2.1 37 p0.toNatClampNeg)) := ⟨_, rfl⟩
                    rw [← ez43] at hW
                    have Jz43 : k_J S z43 := by rw [ez43]; exact J_tell (k_J_u (by decide) Jz36)
                    refine W.eq (g2 := F0 m 171 ls []) rfl ?_
                    have hR : (f_X6_judge z p0) = z43 := (hG.symm.trans (by subst ez43 ez36; simp only [f_X6_judge_L7, if_pos h1, if_pos h2, if_neg h13, if_neg h24, if_pos h37, if_neg h38, if_neg h41]))
                    exact k_vret hx hb hr hlocks hW ⟨rfl, by rw [hR]⟩ dX6_judge_171
                  · refine lv_aload_n hx hb dX6_judge_133 rfl (lv_at hl 1 rfl) ?_
                    refine k_get hx hb hts inlX6 hown hW 19 (by omega) k_c19 rfl 17 (by decide) lf_RX6_55 rfl (v := .ref (E.2.2 34)) rfl dX6_judge_134 ?_
                    refine lv_iload hx hb dX6_judge_137 (lv_at hl 0 rfl) ?_
                    refine k_iald hx hb hW 34 60 (by omega) k_c34 (v := (z36.1 34 ((f_X6_findHead z36 (z36.2.1 37 p0.toNatClampNeg)).toNatClampNeg))) (by exact fh_in Jz36 h38) rfl dX6_judge_139 ?_
                    refine lv_i2l (v := ((z36.1 34 ((f_X6_findHead z36 (z36.2.1 37 p0.toNatClampNeg)).toNatClampNeg)) : Int32).toInt64) hx hb dX6_judge_140 rfl ?_
                    refine lv_aload_n hx hb dX6_judge_141 rfl (lv_at hl 1 rfl) ?_
                    refine k_get hx hb hts inlX6 hown hW 19 (by omega) k_c19 rfl 22 (by decide) lf_RX6_67 rfl (v := .ref (E.2.2 38)) rfl dX6_judge_142 ?_
                    refine lv_iload_n hx hb dX6_judge_145 rfl (lv_at hl 2 rfl) ?_
                    refine k_lald hx hb hW 38 100 (by omega) k_c38 (v := (z36.2.1 38 p0.toNatClampNeg)) (by exact hp) rfl dX6_judge_146 ?_
                    refine k_lif_eq (tgt := 171) hx hb dX6_judge_147 dX6_judge_148 (by decide) (fun h44 => ?_) (fun h44 => ?_)
                    · have hR : (f_X6_judge z p0) = z36 := (hG.symm.trans (by subst ez36; simp only [f_X6_judge_L7, if_pos h1, if_pos h2, if_neg h13, if_neg h24, if_pos h37, if_neg h38, if_pos h41, if_pos h44]))
                      exact k_vret hx hb hr hlocks hW ⟨rfl, by rw [hR]⟩ dX6_judge_171
                    · refine lv_aload_n hx hb dX6_judge_151 rfl (lv_at hl 1 rfl) ?_
                      refine k_get hx hb hts inlX6 hown hW 19 (by omega) k_c19 rfl 20 (by decide) lf_RX6_61 rfl (v := .ref (E.2.2 36)) rfl dX6_judge_152 ?_
                      refine lv_iload_n hx hb dX6_judge_155 rfl (lv_at hl 2 rfl) ?_
                      refine lv_iconst (v := 4) hx hb dX6_judge_156 (by decide) ?_
                      refine k_iast hx hb hW 36 100 (by omega) k_c36 (by exact hp) dX6_judge_157 (fun H locs hW => ?_)
                      refine lv_aload_n hx hb dX6_judge_158 rfl (lv_at hl 1 rfl) ?_
                      refine lv_bipush (v := 7) hx hb dX6_judge_159 (by decide) ?_
                      refine lv_iload_n hx hb dX6_judge_161 rfl (lv_at hl 2 rfl) ?_
                      refine lv_aload_n hx hb dX6_judge_162 rfl (lv_at hl 1 rfl) ?_
                      refine k_get hx hb hts inlX6 hown hW 19 (by omega) k_c19 rfl 21 (by decide) lf_RX6_64 rfl (v := .ref (E.2.2 37)) rfl dX6_judge_163 ?_
                      refine lv_iload_n hx hb dX6_judge_166 rfl (lv_at hl 2 rfl) ?_
                      refine k_lald hx hb hW 37 100 (by omega) k_c37 (v := (z36.2.1 37 p0.toNatClampNeg)) (by exact hp) rfl dX6_judge_167 ?_
                      refine k_callV (As := [.int 7, .int p0, .long (z36.2.1 37 p0.toNatClampNeg)]) (rest := []) hx hb hml hown hts (c_X6_tell l E S _ (uI z36 36 p0.toNatClampNeg 4) 7 p0 (z36.2.1 37 p0.toNatClampNeg) (k_J_u (by decide) Jz36)) lm_RX6_151 ln_X6_tell le_X6_tell li_X6 lk_X6_tell (show k_nm yX6_tell 3 by decide +kernel) ⟨Nat.le_of_ble_eq_true rfl, Nat.le_of_ble_eq_true rfl⟩ rfl rfl ⟨Nat.le_of_ble_eq_true rfl, Nat.le_of_ble_eq_true rfl⟩ hl.1 rfl (Nat.le_of_ble_eq_true rfl) dX6_judge_168 (by omega) (k_c19 _ _ _) rfl hW (fun v z1 H locs hp hW => ?_)
                      obtain ⟨rfl, hz1⟩ := hp
                      rw [hz1] at hW
                      obtain ⟨z46, ez46⟩ : ∃ y9 : Sg, y9 = (f_X6_tell (uI z36 36 p0.toNatClampNeg 4) 7 p0 (z36.2.1 37 p0.toNatClampNeg)) := ⟨_, rfl⟩
                      rw [← ez46] at hW
                      have Jz46 : k_J S z46 := by rw [ez46]; exact J_tell (k_J_u (by decide) Jz36)
                      refine W.eq (g2 := F0 m 171 ls []) rfl ?_
                      have hR : (f_X6_judge z p0) = z46 := (hG.symm.trans (by subst ez46 ez36; simp only [f_X6_judge_L7, if_pos h1, if_pos h2, if_neg h13, if_neg h24, if_pos h37, if_neg h38, if_pos h41, if_neg h44]))
                      exact k_vret hx hb hr hlocks hW ⟨rfl, by rw [hR]⟩ dX6_judge_171
      · refine lv_aload_n hx hb dX6_judge_16 rfl (lv_at hl 0 rfl) ?_
        refine k_get hx hb hts inlX6 hown hW 19 (by omega) k_c19 rfl 16 (by decide) lf_RX6_52 rfl (v := .ref (E.2.2 33)) rfl dX6_judge_17 ?_
        refine lv_iload hx hb dX6_judge_20 (lv_at hl 3 rfl) ?_
        refine k_iald hx hb hW 33 60 (by omega) k_c33 (v := (z.1 33 i.toNatClampNeg)) (by exact in_lt3 hi0 h1 hI.2.1.2) rfl dX6_judge_22 ?_
        refine lv_iload_n hx hb dX6_judge_23 rfl (lv_at hl 1 rfl) ?_
        refine lv_icmp_ne (tgt := 55) hx hb dX6_judge_24 (by decide) (fun h47 => ?_) (fun h47 => ?_)
        · refine lv_lload_n hx hb dX6_judge_55 rfl (lv_at hl 2 rfl) ?_
          refine lv_lstore_n (lv' := [(2, .long a), (0, .ref (E.2.2 19)), (1, .int p0), (4, .int i)]) hx hb dX6_judge_56 rfl hl (by decide) rfl (fun ls hl => ?_)
          refine lv_iinc (v := i + 1) (lv' := [(4, .int (i + 1)), (2, .long a), (0, .ref (E.2.2 19)), (1, .int p0)]) hx hb dX6_judge_57 hl (k := 3) rfl rfl (by decide) rfl (fun ls hl => ?_)
          refine lv_goto (tgt := 7) hx hb dX6_judge_60 (by decide) ?_
          exact ih a (i + 1) _ _ _ (in_s0 hi0 h1 hI.2.1.2) (in_sm hi0 h1 hI.2.1.2 hm) hW (lv_sub hl [2, 3, 1, 0] rfl) (Eq.symm (hG.symm.trans (by simp only [f_X6_judge_L7, if_neg h1, if_neg h47])))
        · refine lv_lload_n hx hb dX6_judge_27 rfl (lv_at hl 2 rfl) ?_
          refine lv_lconst (v := 0) hx hb dX6_judge_28 (by decide) ?_
          refine k_lif_lt (tgt := 45) hx hb dX6_judge_29 dX6_judge_30 (by decide) (fun h48 => ?_) (fun h48 => ?_)
          · refine lv_aload_n hx hb dX6_judge_45 rfl (lv_at hl 0 rfl) ?_
            refine k_get hx hb hts inlX6 hown hW 19 (by omega) k_c19 rfl 15 (by decide) lf_RX6_49 rfl (v := .ref (E.2.2 32)) rfl dX6_judge_46 ?_
            refine lv_iload hx hb dX6_judge_49 (lv_at hl 3 rfl) ?_
            refine k_lald hx hb hW 32 60 (by omega) k_c32 (v := (z.2.1 32 i.toNatClampNeg)) (by exact in_lt3 hi0 h1 hI.2.1.2) rfl dX6_judge_51 ?_
            refine lv_goto (tgt := 56) hx hb dX6_judge_52 (by decide) ?_
            refine lv_lstore_n (lv' := [(2, .long (z.2.1 32 i.toNatClampNeg)), (0, .ref (E.2.2 19)), (1, .int p0), (4, .int i)]) hx hb dX6_judge_56 rfl hl (by decide) rfl (fun ls hl => ?_)
            refine lv_iinc (v := i + 1) (lv' := [(4, .int (i + 1)), (2, .long (z.2.1 32 i.toNatClampNeg)), (0, .ref (E.2.2 19)), (1, .int p0)]) hx hb dX6_judge_57 hl (k := 3) rfl rfl (by decide) rfl (fun ls hl => ?_)
            refine lv_goto (tgt := 7) hx hb dX6_judge_60 (by decide) ?_
            exact ih (z.2.1 32 i.toNatClampNeg) (i + 1) _ _ _ (in_s0 hi0 h1 hI.2.1.2) (in_sm hi0 h1 hI.2.1.2 hm) hW (lv_sub hl [2, 3, 1, 0] rfl) (Eq.symm (hG.symm.trans (by simp only [f_X6_judge_L7, if_neg h1, if_pos h47, if_pos h48])))
          · refine lv_aload_n hx hb dX6_judge_33 rfl (lv_at hl 0 rfl) ?_
            refine k_get hx hb hts inlX6 hown hW 19 (by omega) k_c19 rfl 15 (by decide) lf_RX6_49 rfl (v := .ref (E.2.2 32)) rfl dX6_judge_34 ?_
            refine lv_iload hx hb dX6_judge_37 (lv_at hl 3 rfl) ?_
            refine k_lald hx hb hW 32 60 (by omega) k_c32 (v := (z.2.1 32 i.toNatClampNeg)) (by exact in_lt3 hi0 h1 hI.2.1.2) rfl dX6_judge_39 ?_
            refine lv_lload_n hx hb dX6_judge_40 rfl (lv_at hl 2 rfl) ?_
            refine k_lif_ge (tgt := 55) hx hb dX6_judge_41 dX6_judge_42 (by decide) (fun h49 => ?_) (fun h49 => ?_)
            · refine lv_lload_n hx hb dX6_judge_55 rfl (lv_at hl 2 rfl) ?_
              refine lv_lstore_n (lv' := [(2, .long a), (0, .ref (E.2.2 19)), (1, .int p0), (4, .int i)]) hx hb dX6_judge_56 rfl hl (by decide) rfl (fun ls hl => ?_)
              refine lv_iinc (v := i + 1) (lv' := [(4, .int (i + 1)), (2, .long a), (0, .ref (E.2.2 19)), (1, .int p0)]) hx hb dX6_judge_57 hl (k := 3) rfl rfl (by decide) rfl (fun ls hl => ?_)
              refine lv_goto (tgt := 7) hx hb dX6_judge_60 (by decide) ?_
              exact ih a (i + 1) _ _ _ (in_s0 hi0 h1 hI.2.1.2) (in_sm hi0 h1 hI.2.1.2 hm) hW (lv_sub hl [2, 3, 1, 0] rfl) (Eq.symm (hG.symm.trans (by simp only [f_X6_judge_L7, if_neg h1, if_pos h47, if_neg h48, if_pos h49])))
            · refine lv_aload_n hx hb dX6_judge_45 rfl (lv_at hl 0 rfl) ?_
              refine k_get hx hb hts inlX6 hown hW 19 (by omega) k_c19 rfl 15 (by decide) lf_RX6_49 rfl (v := .ref (E.2.2 32)) rfl dX6_judge_46 ?_
              refine lv_iload hx hb dX6_judge_49 (lv_at hl 3 rfl) ?_
              refine k_lald hx hb hW 32 60 (by omega) k_c32 (v := (z.2.1 32 i.toNatClampNeg)) (by exact in_lt3 hi0 h1 hI.2.1.2) rfl dX6_judge_51 ?_
              refine lv_goto (tgt := 56) hx hb dX6_judge_52 (by decide) ?_
              refine lv_lstore_n (lv' := [(2, .long (z.2.1 32 i.toNatClampNeg)), (0, .ref (E.2.2 19)), (1, .int p0), (4, .int i)]) hx hb dX6_judge_56 rfl hl (by decide) rfl (fun ls hl => ?_)
              refine lv_iinc (v := i + 1) (lv' := [(4, .int (i + 1)), (2, .long (z.2.1 32 i.toNatClampNeg)), (0, .ref (E.2.2 19)), (1, .int p0)]) hx hb dX6_judge_57 hl (k := 3) rfl rfl (by decide) rfl (fun ls hl => ?_)
              refine lv_goto (tgt := 7) hx hb dX6_judge_60 (by decide) ?_
              exact ih (z.2.1 32 i.toNatClampNeg) (i + 1) _ _ _ (in_s0 hi0 h1 hI.2.1.2) (in_sm hi0 h1 hI.2.1.2 hm) hW (lv_sub hl [2, 3, 1, 0] rfl) (Eq.symm (hG.symm.trans (by simp only [f_X6_judge_L7, if_neg h1, if_pos h47, if_neg h48, if_neg h49])))
  have hl : lv_has ls 5 [(0, .ref (E.2.2 19)), (1, .int p0)] := hl
  refine lv_ldc2 (v := (-1)) hx hb hown (hts _ lc_RX6_105) dX6_judge_0 ?_
  refine lv_lstore_n (lv' := [(2, .long (-1)), (0, .ref (E.2.2 19)), (1, .int p0)]) hx hb dX6_judge_3 rfl hl (by decide) rfl (fun ls hl => ?_)
  refine lv_iconst (v := 0) hx hb dX6_judge_4 (by decide) ?_
  refine lv_istore (lv' := [(4, .int 0), (2, .long (-1)), (0, .ref (E.2.2 19)), (1, .int p0)]) hx hb dX6_judge_5 hl (by decide) rfl (fun ls hl => ?_)
  exact L7 61 (-1) 0 _ _ _ (by decide) (by decide) hW (lv_sub hl [2, 3, 1, 0] rfl) (Eq.symm (by simp only [f_X6_judge]))
