/-! ===== bits of sections, rows, what is told ===== -/
theorem nI_or (a b : Nat) : nI a ||| nI b = nI (a ||| b) := Int32.toBitVec_inj.1 BitVec.ofNat_or.symm
theorem nI_tn {x : Int32} (h : 0 ≤ x.toInt) : x = nI x.toInt.toNat := (nI_cl h).symm
theorem sh_1 : ∀ L, L < 13 → 0 < L → (1 : Int32) <<< ((nI L - 1) &&& 31) = nI (2 ^ (L - 1)) := by decide +kernel
theorem cnt_s (t p : Nat) : cnt t (p + 1) = cnt t p + if t.testBit p then 1 else 0 := rfl
theorem cnt_le (t : Nat) : ∀ p, cnt t p ≤ p := by
  intro p
  induction p with
  | zero => exact Nat.le_refl _
  | succ p ih => rw [cnt_s]; split <;> omega
theorem cnt_mono {t p q : Nat} (h : p ≤ q) : cnt t p ≤ cnt t q := by
  induction q with
  | zero => have : p = 0 := by omega
            rw [this]; exact Nat.le_refl _
  | succ q ih =>
    by_cases e : p = q + 1
    · rw [e]; exact Nat.le_refl _
    · have := ih (by omega)
      rw [cnt_s]; omega
theorem cnt_lt {t p q : Nat} (h : p < q) (hb : t.testBit p = true) : cnt t p + 1 ≤ cnt t q := by
  have h1 := cnt_mono (t := t) (show p + 1 ≤ q from h)
  rw [cnt_s, hb] at h1
  exact h1
theorem cnt_top {t : Nat} : ∀ m, 0 < cnt t m → ∃ p, p < m ∧ t.testBit p = true ∧ cnt t p + 1 = cnt t m := by
  intro m
  induction m with
  | zero => intro h; exact absurd h (Nat.lt_irrefl 0)
  | succ m ih =>
    intro h
    by_cases e : t.testBit m = true
    · exact ⟨m, by omega, e, by rw [cnt_s, e]; rfl⟩
    · have e' : t.testBit m = false := by simpa using e
      have e1 : cnt t (m + 1) = cnt t m := by rw [cnt_s, e']; rfl
      rw [e1] at h ⊢
      obtain ⟨p, a, b, c⟩ := ih h
      exact ⟨p, by omega, b, c⟩
theorem cnt_or {t n : Nat} : ∀ q, q ≤ n → cnt (t ||| 2 ^ n) q = cnt t q := by
  intro q
  induction q with
  | zero => intro _; rfl
  | succ q ih =>
    intro h
    rw [cnt_s, cnt_s, ih (by omega), Nat.testBit_or, Nat.testBit_two_pow]
    have : decide (n = q) = false := by simp; omega
    rw [this, Bool.or_false]
theorem cnt_hi {t L : Nat} (h : t < 2 ^ L) : ∀ d, cnt t (L + d) = cnt t L := by
  intro d
  induction d with
  | zero => rfl
  | succ d ih =>
    rw [← Nat.add_assoc, cnt_s, ih]
    have : t.testBit (L + d) = false := Nat.testBit_lt_two_pow (Nat.lt_of_lt_of_le h (Nat.pow_le_pow_right (by decide) (by omega)))
    rw [this]; rfl
theorem or_self_bit {t n : Nat} (h : t.testBit n = true) : t ||| 2 ^ n = t := by
  apply Nat.eq_of_testBit_eq
  intro i
  rw [Nat.testBit_or, Nat.testBit_two_pow]
  by_cases e : n = i
  · subst e; rw [h]; rfl
  · have : decide (n = i) = false := by simpa using e
    rw [this, Bool.or_false]
/-- the tellers, by rows -/
def q_r (L : Nat) (T N A C : Nat → Int32) : Prop := ∀ o, o < 100 → (0 ≤ (T o).toInt ∧ (T o).toInt < 2 ^ L) ∧ (N o).toInt = cnt (T o).toInt.toNat L ∧ ∀ p, p < L → (T o).toInt.toNat.testBit p = true → A (12 * o + cnt (T o).toInt.toNat p) = C p
theorem two_pow_le12 {L : Nat} (h : L ≤ 12) : (2 : Int) ^ L ≤ 4096 := by
  have : (2 : Nat) ^ L ≤ 2 ^ 12 := Nat.pow_le_pow_right (by decide) h
  have e : ((2 ^ L : Nat) : Int) = (2 : Int) ^ L := by simp
  omega
theorem q_r_t {L o : Nat} {T N A C : Nat → Int32} (h : q_r L T N A C) (ho : o < 100) : (T o).toInt.toNat < 2 ^ L := by
  have h1 := (h o ho).1
  have e : ((2 ^ L : Nat) : Int) = (2 : Int) ^ L := by simp
  omega
/-- the bit is there already: nothing changes, and the last of the list is the section -/
theorem q_r_old {L o : Nat} {T N A C : Nat → Int32} (hL : 1 ≤ L ∧ L ≤ 12) (h : q_r L T N A C) (ho : o < 100) (hb : (T o).toInt.toNat.testBit (L - 1) = true) : (T o ||| nI (2 ^ (L - 1)) = T o) ∧ ¬ N o = 0 ∧ A (12 * o + (N o).toInt.toNat - 1) = C (L - 1) := by
  obtain ⟨h1, h2, h3⟩ := h o ho
  have e1 : cnt (T o).toInt.toNat L = cnt (T o).toInt.toNat (L - 1) + 1 := by
    obtain ⟨m, rfl⟩ : ∃ m, L = m + 1 := ⟨L - 1, by omega⟩
    have hb' : (T o).toInt.toNat.testBit m = true := hb
    rw [cnt_s, hb']; rfl
  refine ⟨?_, ?_, ?_⟩
  · rw [nI_tn h1.1, nI_or]
    have hlt := q_r_t h ho
    have h12 := two_pow_le12 hL.2
    have e2 : (nI (T o).toInt.toNat).toInt.toNat = (T o).toInt.toNat := by
      rw [← nI_tn h1.1]
    rw [or_self_bit hb]
  · intro e
    rw [e] at h2
    have : (0 : Int32).toInt = 0 := rfl
    omega
  · rw [← h3 (L - 1) (by omega) hb]
    congr 1
    omega
theorem q_r_same {L o : Nat} {T N A C : Nat → Int32} {x : Int32} (h : q_r L T N A C) (hx : x = T o) : q_r L (upd T o x) N A C := by
  have : upd T o x = T := by
    funext j
    unfold upd
    split
    · next e => rw [e, hx]
    · rfl
  rw [this]; exact h
/-- the bit is new: the list grows -/
theorem q_r_new {L o : Nat} {T N A C : Nat → Int32} {s : Int32} (hL : 1 ≤ L ∧ L ≤ 12) (h : q_r L T N A C) (ho : o < 100) (hb : (T o).toInt.toNat.testBit (L - 1) = false) (hC : C (L - 1) = s) (hd : ∀ p, p < L - 1 → C p ≠ s) : (N o = 0 ∨ (¬ N o = 0 ∧ ¬ A (12 * o + (N o).toInt.toNat - 1) = s)) ∧ ((N o).toInt + 1 ≤ 12 ∧ 0 ≤ (N o).toInt) ∧ q_r L (upd T o (T o ||| nI (2 ^ (L - 1)))) (upd N o (N o + 1)) (upd A (12 * o + (N o).toInt.toNat) s) C := by
  obtain ⟨h1, h2, h3⟩ := h o ho
  have hlt := q_r_t h ho
  have e1 : cnt (T o).toInt.toNat L = cnt (T o).toInt.toNat (L - 1) := by
    obtain ⟨m, rfl⟩ : ∃ m, L = m + 1 := ⟨L - 1, by omega⟩
    have hb' : (T o).toInt.toNat.testBit m = false := hb
    rw [cnt_s, hb']; rfl
  have hcl := cnt_le (T o).toInt.toNat (L - 1)
  have hN : (N o).toInt.toNat = cnt (T o).toInt.toNat (L - 1) := by omega
  have hN1 : (N o + 1).toInt = (N o).toInt + 1 := i_p1 (m := 12) (by omega) (by omega) (by decide)
  refine ⟨?_, ⟨by omega, by omega⟩, fun q hq => ?_⟩
  · by_cases g : N o = 0
    · exact Or.inl g
    · refine Or.inr ⟨g, ?_⟩
      have g0 : 0 < cnt (T o).toInt.toNat (L - 1) := by
        rcases Nat.eq_zero_or_pos (cnt (T o).toInt.toNat (L - 1)) with a | a
        · exfalso
          apply g
          apply Int32.toInt_inj.mp
          have : (0 : Int32).toInt = 0 := rfl
          omega
        · exact a
      obtain ⟨p, a, b, c⟩ := cnt_top _ g0
      have e2 : 12 * o + (N o).toInt.toNat - 1 = 12 * o + cnt (T o).toInt.toNat p := by omega
      rw [e2, h3 p (by omega) b]
      exact hd p a
  · by_cases e : q = o
    · subst e
      have hx : T q ||| nI (2 ^ (L - 1)) = nI ((T q).toInt.toNat ||| 2 ^ (L - 1)) := by
        rw [← nI_or, ← nI_tn h1.1]
      have hlt2 : (T q).toInt.toNat ||| 2 ^ (L - 1) < 2 ^ L := Nat.or_lt_two_pow hlt (Nat.pow_lt_pow_right (by decide) (by omega))
      have h12 : 2 ^ L ≤ 2 ^ 12 := Nat.pow_le_pow_right (by decide) hL.2
      have hx2 : (T q ||| nI (2 ^ (L - 1))).toInt = (((T q).toInt.toNat ||| 2 ^ (L - 1) : Nat) : Int) := by
        rw [hx, nI_toInt (by omega)]
      have hx3 : (T q ||| nI (2 ^ (L - 1))).toInt.toNat = (T q).toInt.toNat ||| 2 ^ (L - 1) := by rw [hx2, Int.toNat_natCast]
      rw [upd_eq, upd_eq, hx3, hx2]
      have ec : cnt ((T q).toInt.toNat ||| 2 ^ (L - 1)) (L - 1) = cnt (T q).toInt.toNat (L - 1) := cnt_or _ (Nat.le_refl _)
      have ec1 : cnt ((T q).toInt.toNat ||| 2 ^ (L - 1)) L = cnt (T q).toInt.toNat (L - 1) + 1 := by
        have hbb : ((T q).toInt.toNat ||| 2 ^ (L - 1)).testBit (L - 1) = true := by
          rw [Nat.testBit_or, Nat.testBit_two_pow]; simp
        have : cnt ((T q).toInt.toNat ||| 2 ^ (L - 1)) (L - 1 + 1) = cnt (T q).toInt.toNat (L - 1) + 1 := by
          rw [cnt_s, ec, hbb]; rfl
        rw [← this]
        congr 1
        omega
      have e2L : ((2 ^ L : Nat) : Int) = (2 : Int) ^ L := by simp
      refine ⟨⟨by omega, by omega⟩, by rw [ec1, hN1]; omega, fun p hp hpb => ?_⟩
      by_cases ep : p = L - 1
      · rw [ep, ec, ← hN, upd_eq, hC]
      · rw [cnt_or p (by omega)]
        rw [Nat.testBit_or, Nat.testBit_two_pow] at hpb
        have : decide (L - 1 = p) = false := by simp; omega
        rw [this, Bool.or_false] at hpb
        have := cnt_lt (q := L - 1) (show p < L - 1 by omega) hpb
        rw [upd_ne (by omega)]
        exact h3 p hp hpb
    · rw [upd_ne e, upd_ne e]
      obtain ⟨g1, g2, g3⟩ := h q hq
      refine ⟨g1, g2, fun p hp hpb => ?_⟩
      have := cnt_le (T q).toInt.toNat p
      rw [upd_ne (by omega)]
      exact g3 p hp hpb
def q_KR (L : Nat) (u v : Sg) : Prop := q_K u v ∧ q_R L u v ∧ ∀ o, 0 ≤ (u.1 8 o).toInt ∧ (u.1 8 o).toInt ≤ 4
theorem bd_up {f : Nat → Int32} {o : Nat} {k : Int32} (h : ∀ j, 0 ≤ (f j).toInt ∧ (f j).toInt ≤ 4) (hk : 0 ≤ k.toInt ∧ k.toInt ≤ 4) : ∀ j, 0 ≤ (upd f o k j).toInt ∧ (upd f o k j).toInt ≤ 4 := fun j => by
  unfold upd
  split
  · exact hk
  · exact h j
theorem KR_row {L : Nat} {u v : Sg} {s k : Int32} {ob p g : Int64} (hL : 1 ≤ L ∧ L ≤ 12) (hl : (u.1 6 1).toInt = L) (hC : v.1 35 (L - 1) = s) (hd : ∀ p, p < L - 1 → v.1 35 p ≠ s) (hk : ¬ k = 0) (hk4 : 0 ≤ k.toInt ∧ k.toInt ≤ 4) (ho : 0 ≤ ob.toInt) (h : q_KR L u v) : q_KR L (f_X1_takeRow u ob k p g) (f_X6_row v s ob k p g) := by
  obtain ⟨hK, hR, hB⟩ := h
  have hR : q_r L (u.1 11) (v.1 39) (v.1 40) (v.1 35) := hR
  have e99 : (99 : Int64).toInt = 99 := rfl
  have e100 : (100 : Int64).toInt = 100 := rfl
  have e0 : (0 : Int64).toInt = 0 := rfl
  unfold f_X1_takeRow f_X6_row
  rw [if_neg hk]
  by_cases a : ob ≤ 99
  · have hob : ¬ f_X5_isObject u ob = 0 := by
      unfold f_X5_isObject
      simp only [Int64.le_iff_toInt_le] at a
      rw [if_neg (by simp only [Int64.lt_iff_toInt_lt]; omega), if_neg (by simp only [Int64.le_iff_toInt_le]; omega)]
      decide
    have hb := ro_b ho a
    rw [if_pos a, if_neg hob]
    have hxl : u.1 6 1 = nI L := by
      apply Int32.toInt_inj.mp
      rw [hl, nI_toInt (by omega)]
    rw [hxl, sh_1 L (by omega) (by omega), hK.1]
    generalize ob.toInt32 = o at hb ⊢
    have hoc : o.toNatClampNeg < 100 := by rw [clampEq]; omega
    have hoN := (hR _ hoc).2.1
    have hcl := cnt_le (u.1 11 o.toNatClampNeg).toInt.toNat L
    by_cases hbit : (u.1 11 o.toNatClampNeg).toInt.toNat.testBit (L - 1) = true
    · obtain ⟨r1, r2, r3⟩ := q_r_old hL hR hoc hbit
      have hN1 : 1 ≤ (v.1 39 o.toNatClampNeg).toInt := by
        rcases Int.lt_or_le 0 (v.1 39 o.toNatClampNeg).toInt with c | c
        · omega
        · exfalso; apply r2; apply Int32.toInt_inj.mp
          have : (0 : Int32).toInt = 0 := rfl
          omega
      have hix : ((12 * o) + (v.1 39 o.toNatClampNeg) - 1).toNatClampNeg = 12 * o.toNatClampNeg + (v.1 39 o.toNatClampNeg).toInt.toNat - 1 := rvx hb ⟨hN1, by omega⟩
      rw [if_neg r2, if_neg r2, hix, r3, if_pos hC, if_pos hC, r1]
      generalize o.toNatClampNeg = q at *
      by_cases w0 : v.1 36 q = 0
      · rw [if_pos w0, if_pos w0]
        refine ⟨⟨?_, ?_, ?_⟩, q_r_same hR rfl, bd_up hB hk4⟩
        · show upd (u.1 8) q k = upd (v.1 36) q k
          rw [hK.1]
        · show vp_updL (u.2.1 9) q p = vp_updL (v.2.1 37) q p
          rw [hK.2.1]
        · show vp_updL (u.2.1 10) q g = vp_updL (v.2.1 38) q g
          rw [hK.2.2]
      · rw [if_neg w0, if_neg w0]
        exact ⟨hK, q_r_same hR rfl, hB⟩
    · have hbit' : (u.1 11 o.toNatClampNeg).toInt.toNat.testBit (L - 1) = false := by simpa using hbit
      obtain ⟨r1, r2, r3⟩ := q_r_new hL hR hoc hbit' hC hd
      have hix : ((12 * o) + (v.1 39 o.toNatClampNeg)).toNatClampNeg = 12 * o.toNatClampNeg + (v.1 39 o.toNatClampNeg).toInt.toNat := rvx1 hb ⟨r2.2, by omega⟩
      have hsel : ∀ {α : Type} (x y : α), (if (v.1 39 o.toNatClampNeg) = 0 then x else if (v.1 40 ((((12 * o) + (v.1 39 o.toNatClampNeg)) - 1).toNatClampNeg)) = s then y else x) = x := by
        intro α x y
        rcases r1 with r1 | ⟨r1, r4⟩
        · rw [if_pos r1]
        · have hN1 : 1 ≤ (v.1 39 o.toNatClampNeg).toInt := by
            rcases Int.lt_or_le 0 (v.1 39 o.toNatClampNeg).toInt with c | c
            · omega
            · exfalso; apply r1; apply Int32.toInt_inj.mp
              have : (0 : Int32).toInt = 0 := rfl
              omega
          have hix2 : ((12 * o) + (v.1 39 o.toNatClampNeg) - 1).toNatClampNeg = 12 * o.toNatClampNeg + (v.1 39 o.toNatClampNeg).toInt.toNat - 1 := rvx hb ⟨hN1, by omega⟩
          rw [if_neg r1, hix2, if_neg r4]
      rw [hsel, hsel, hix]
      generalize o.toNatClampNeg = q at *
      by_cases w0 : v.1 36 q = 0
      · rw [if_pos w0, if_pos w0]
        refine ⟨⟨?_, ?_, ?_⟩, r3, bd_up hB hk4⟩
        · show upd (u.1 8) q k = upd (v.1 36) q k
          rw [hK.1]
        · show vp_updL (u.2.1 9) q p = vp_updL (v.2.1 37) q p
          rw [hK.2.1]
        · show vp_updL (u.2.1 10) q g = vp_updL (v.2.1 38) q g
          rw [hK.2.2]
      · rw [if_neg w0, if_neg w0]
        exact ⟨hK, r3, hB⟩
  · have hob : f_X5_isObject u ob = 0 := by
      unfold f_X5_isObject
      simp only [Int64.le_iff_toInt_le] at a
      rw [if_neg (by simp only [Int64.lt_iff_toInt_lt]; omega), if_pos (by simp only [Int64.le_iff_toInt_le]; omega)]
    rw [if_neg a, if_pos hob]
    exact ⟨hK, hR, hB⟩
theorem T_tell2 {u v : Sg} {a b : Int32} {d : Int64} (h : q_T u v) : q_T (f_X1_tell u a b d) (f_X6_tell v a b d) := by
  obtain ⟨h1, h2, h3, h4⟩ := h
  unfold f_X1_tell f_X6_tell
  rw [h1]
  split
  · exact ⟨h1, h2, h3, h4⟩
  · refine ⟨rfl, ?_, ?_, ?_⟩
    · show upd (u.1 12) _ a = upd (v.1 41) _ a
      rw [h2]
    · show upd (u.1 13) _ b = upd (v.1 42) _ b
      rw [h3]
    · show vp_updL (u.2.1 14) _ d = vp_updL (v.2.1 43) _ d
      rw [h4]
theorem KR_tell {L : Nat} {u v : Sg} {a b a' b' : Int32} {d d' : Int64} (h : q_KR L u v) : q_KR L (f_X1_tell u a b d) (f_X6_tell v a' b' d') := by
  unfold f_X1_tell f_X6_tell
  split <;> split <;> exact h
theorem KR_tellc {L : Nat} {u v : Sg} {a b : Int32} {d : Int64} (h : q_KR L u v) : q_KR L (f_X1_tell u a b d) v := by
  unfold f_X1_tell
  split <;> exact h
theorem KR_tellm {L : Nat} {u v : Sg} {a b : Int32} {d : Int64} (h : q_KR L u v) : q_KR L u (f_X6_tell v a b d) := by
  unfold f_X6_tell
  split <;> exact h
theorem T_rowc {u v : Sg} {k : Int32} {ob p g : Int64} (h : q_T u v) : q_T (f_X1_takeRow u ob k p g) v := by
  unfold f_X1_takeRow
  repeat' (first | exact h | split)
theorem T_rowm {u v : Sg} {s k : Int32} {ob p g : Int64} (h : q_T u v) : q_T u (f_X6_row v s ob k p g) := by
  unfold f_X6_row
  repeat' (first | exact h | split)
