/-! ===== the chain on both sides ===== -/
/-- a reading under way: the first L of the chain are entered -/
def q_M (S L : Nat) (u v : Sg) : Prop := (k_I S u ∧ k_O S u ∧ q_Y S u) ∧ (k_J S v ∧ k_V v ∧ k_C S v) ∧ (q_S S u v ∧ q_H u v) ∧ (q_KR L u v ∧ q_T u v ∧ q_C S L u v) ∧ (∀ o, o < 100 → u.1 16 o = 0) ∧ u.1 6 12 = 0 ∧ v.1 19 0 = 0
theorem m_s_mf {v v' : Sg} {d : Nat} (hv : mf v v') : m_s v v' d := by
  unfold m_s
  rw [(hv.1 20 rfl).1, (hv.1 24 rfl).1, (hv.1 25 rfl).1, (hv.1 26 rfl).1, (hv.1 27 rfl).1, (hv.1 28 rfl).1, (hv.1 29 rfl).1, (hv.1 30 rfl).1, (hv.1 31 rfl).1, (hv.1 21 rfl).2, (hv.1 22 rfl).2, (hv.1 23 rfl).2]
  exact ⟨⟨rfl, rfl, rfl, rfl, rfl, rfl⟩, ⟨rfl, rfl, rfl⟩, fun _ _ => rfl, fun _ _ => ⟨rfl, rfl⟩, fun _ _ => ⟨rfl, rfl⟩⟩
theorem cfo_r {c r : Nat} (a : 46 + 6 * c ≤ r) : cfo r = false := by
  obtain ⟨k, rfl⟩ : ∃ k, r = 46 + 6 * c + k := ⟨r - (46 + 6 * c), by omega⟩
  exact cfo_s
theorem k_O_cf {S : Nat} {u u' : Sg} (hu : cf u u') (hI : k_I S u') (hO : k_O S u) : k_O S u' := by
  intro r i c h
  by_cases e : r ≠ 18 ∨ i ≠ 0
  · rw [hu.2.1 r i e] at h
    exact hO r i c h
  · have e1 : r = 18 := by omega
    have e2 : i = 0 := by omega
    rw [e1, e2] at h
    exact hI.2.2.2.2.2.2.2.1 c h
theorem row7 {u u' : Sg} (hu : cf u u') : u'.2.2 7 = u.2.2 7 := funext fun i => hu.2.1 7 i (Or.inl (by decide))
theorem M_of {S L : Nat} {u v u' v' : Sg} (h : q_M S L u v) (hu : cf u u') (hv : mf v v') (hI : k_I S u') (hJ : k_J S v') (hK : q_KR L u' v') (hT : q_T u' v') : q_M S L u' v' := by
  obtain ⟨⟨h1, h2, h3⟩, ⟨h4, h5, h6⟩, ⟨h7, h8⟩, ⟨h9, h10, h11⟩, h12, h13, h14⟩ := h
  refine ⟨⟨hI, k_O_cf hu hI h2, ⟨fun d hd => ?_, ?_, hK.2.2⟩⟩, ⟨hJ, V_mf hv h5, C_mf hv h6⟩, ⟨⟨?_, fun d hd => ?_, fun d a b => q_n_m (m_s_mf hv) (h7.2.2 d a b)⟩, ?_⟩, ⟨hK, hT, ?_⟩, ?_, ?_, ?_⟩
  · have r0 := hu.1 (46 + 6 * d) (cfo_s (k := 0))
    unfold q_y
    rw [r0.1, r0.2, (hu.1 (46 + 6 * d + 4) cfo_s).1, (hu.1 (46 + 6 * d + 5) cfo_s).1]
    exact h3.1 d hd
  · rw [(hu.1 2 rfl).1, (hu.1 3 rfl).2]; exact h3.2.1
  · rw [(hu.1 0 rfl).1, hv.2.2.2.1]; exact h7.1
  · exact q_s_m (fun r a b => hu.1 r (cfo_r a)) (m_s_mf hv) (h7.2.1 d hd)
  · unfold q_H
    rw [(hu.1 2 rfl).1, (hu.1 3 rfl).2, (hu.1 4 rfl).1, (hu.1 5 rfl).1, hv.2.2.2.2.1, (hv.1 32 rfl).2, (hv.1 33 rfl).1, (hv.1 34 rfl).1]
    exact h8
  · unfold q_C
    rw [hu.2.2.1, row7 hu, (hv.1 35 rfl).1]
    exact h11
  · rw [(hu.1 16 rfl).1]; exact h12
  · rw [hu.2.2.2]; exact h13
  · rw [hv.2.2.2.2.2]; exact h14
theorem M_tell {S L : Nat} {u v : Sg} {a b : Int32} {d : Int64} (h : q_M S L u v) : q_M S L (f_X1_tell u a b d) (f_X6_tell v a b d) :=
  M_of h (cf_tell cf.rf) (mf_tell mf.rf) (I_tell h.1.1) (J_tell h.2.1.1) (KR_tell h.2.2.2.1.1) (T_tell2 h.2.2.2.1.2.1)
theorem M_A {S L c : Nat} {u v : Sg} (h : q_M S L u v) (hL : 1 ≤ L) (hl : (L : Int) ≤ (v.1 19 18).toInt) (hc : c < S) (hs : v.1 35 (L - 1) = nI c) : q_A S L c u v := by
  have hj := h.2.1.1.2.2.1
  refine ⟨⟨hc, h.1.1.1.1⟩, ⟨⟨hL, by omega⟩, h.2.2.2.1.2.2.1⟩, ⟨hs, fun p hp => ?_⟩, h.2.2.1.1.2.1 c hc, h.1.2.2.1 c hc, k_Is h.1.1 hc⟩
  rw [← hs]
  exact h.2.1.2.2.2 p (L - 1) hp (by omega)
theorem M_R {S L c : Nat} {u v : Sg} (hK : q_KR L u v) (hA : q_A S L c u v) : k_R (L - 1) (nI c) v := by
  have hR : q_r L (u.1 11) (v.1 39) (v.1 40) (v.1 35) := hK.2.1
  have hL := hA.2.1.1
  intro o ho
  have h2 := (hR o ho).2.1
  have hcl := cnt_le (u.1 11 o).toInt.toNat (L - 1)
  obtain ⟨m, rfl⟩ : ∃ m, L = m + 1 := ⟨L - 1, by omega⟩
  rw [cnt_s] at h2
  by_cases b : (u.1 11 o).toInt.toNat.testBit m = true
  · obtain ⟨r1, r2, r3⟩ := q_r_old hL hR ho b
    rw [b] at h2
    have hcl' : cnt (u.1 11 o).toInt.toNat m ≤ m := hcl
    by_cases e : cnt (u.1 11 o).toInt.toNat m = m
    · refine Or.inr ⟨?_, ?_⟩
      · show (v.1 39 o).toInt = ((m : Nat) : Int) + 1
        rw [h2, e]; rfl
      · rw [r3]; exact hA.2.2.1.1
    · left
      show (v.1 39 o).toInt ≤ ((m : Nat) : Int)
      rw [h2]
      simp only [if_true]
      omega
  · have b' : (u.1 11 o).toInt.toNat.testBit m = false := by simpa using b
    rw [b'] at h2
    left
    show (v.1 39 o).toInt ≤ ((m : Nat) : Int)
    have h2' : (v.1 39 o).toInt = ((cnt (u.1 11 o).toInt.toNat m : Nat) : Int) := h2
    rw [h2']
    have hcl' : cnt (u.1 11 o).toInt.toNat m ≤ m := hcl
    omega
theorem M_rows {S L c : Nat} {u v : Sg} (h : q_M S L u v) (hL : 1 ≤ L) (hl : (L : Int) ≤ (v.1 19 18).toInt) (hc : c < S) (hs : v.1 35 (L - 1) = nI c) : q_M S L (f_X2_readRowsOf u c) (f_X6_readRows v (nI c)) ∧ cf u (f_X2_readRowsOf u c) ∧ mf v (f_X6_readRows v (nI c)) := by
  have hA := M_A h hL hl hc hs
  obtain ⟨a, b, d, e⟩ := sim_rows hA h.2.1.2.1 h.2.2.2.1.1 h.2.2.2.1.2.1
  have hG : k_G S (L - 1) (nI c) v v := ⟨h.2.1.1, M_R h.2.2.2.1.1 hA, h.2.1.2.1, mf.rf⟩
  have hL12 := hA.2.1.1
  have hG2 := G_readRows (by omega) hG
  exact ⟨M_of h a b (I_readRowsOf hc h.1.1) hG2.1 d e, a, b⟩
theorem M_enter {S L d : Nat} {u v : Sg} (h : q_M S L u v) (hL : L < 12) (hd : d < S) (hs : v.1 35 L = nI d) : q_M S (L + 1) (f_X1_enter u d) v ∧ (f_X1_enter u d).1 6 1 = u.1 6 1 + 1 ∧ ((f_X1_enter u d).1 6 1).toInt = (L + 1 : Nat) := by
  obtain ⟨⟨h1, h2, h3⟩, ⟨h4, h5, h6⟩, ⟨h7, h8⟩, ⟨h9, h10, h11⟩, h12, h13, h14⟩ := h
  have hlen := h11.1
  have hI := I_enter hd h1
  have i12 : (12 : Int32).toInt = 12 := rfl
  have e1 := i_p1 (x := u.1 6 1) (m := 12) (by omega) (by omega) (by decide)
  have hcl : (u.1 6 1).toNatClampNeg = L := by rw [clampEq]; omega
  have he : f_X1_enter u d = uI (uO u 7 L (some d)) 6 1 (u.1 6 1 + 1) := by
    unfold f_X1_enter
    rw [if_neg (show ¬ (12 : Int32) ≤ u.1 6 1 by simp only [Int32.le_iff_toInt_le]; omega), hcl]
  have hr : ∀ r, r ≠ 6 → (uI (uO u 7 L (some d)) 6 1 (u.1 6 1 + 1)).1 r = u.1 r := fun r hr => by rw [uI_r hr]; rfl
  have hj : (uI (uO u 7 L (some d)) 6 1 (u.1 6 1 + 1)).2.1 = u.2.1 := rfl
  have e6 : ∀ k, k ≠ 1 → (uI (uO u 7 L (some d)) 6 1 (u.1 6 1 + 1)).1 6 k = u.1 6 k := fun k hk => by
    rw [uI_s, upd_ne hk]; rfl
  have e61 : (uI (uO u 7 L (some d)) 6 1 (u.1 6 1 + 1)).1 6 1 = u.1 6 1 + 1 := by rw [uI_s, upd_eq]
  have hn : ((uI (uO u 7 L (some d)) 6 1 (u.1 6 1 + 1)).1 6 1).toInt = (L + 1 : Nat) := by
    rw [e61, e1]; omega
  rw [he] at hI ⊢
  refine ⟨⟨⟨hI, fun r i c hc => ?_, ⟨fun e he => ?_, ?_, ?_⟩⟩, ⟨h4, h5, h6⟩, ⟨⟨?_, fun e he => ?_, h7.2.2⟩, ?_⟩, ⟨⟨?_, ?_, ?_⟩, ?_, ⟨hn, fun i hi => ?_⟩⟩, ?_, ?_, h14⟩, e61, hn⟩
  · have hc : va_up u.2.2 7 (va_up (u.2.2 7) L (some d)) r i = some c := hc
    unfold va_up at hc
    by_cases a : r = 7
    · rw [if_pos a] at hc
      by_cases b : i = L
      · rw [if_pos b] at hc
        cases hc
        exact hd
      · rw [if_neg b] at hc
        exact h2 7 i c hc
    · rw [if_neg a] at hc
      exact h2 r i c hc
  · unfold q_y
    rw [hr (46 + 6 * e) (by omega), hr (46 + 6 * e + 4) (by omega), hr (46 + 6 * e + 5) (by omega), hj]
    exact h3.1 e he
  · rw [hr 2 (by decide), hj]; exact h3.2.1
  · rw [hr 8 (by decide)]; exact h3.2.2
  · rw [hr 0 (by decide)]; exact h7.1
  · exact q_s_m (fun r a b => ⟨hr r (by omega), by rw [hj]⟩) ⟨⟨rfl, rfl, rfl, rfl, rfl, rfl⟩, ⟨rfl, rfl, rfl⟩, fun _ _ => rfl, fun _ _ => ⟨rfl, rfl⟩, fun _ _ => ⟨rfl, rfl⟩⟩ (h7.2.1 e he)
  · unfold q_H
    rw [hr 2 (by decide), hr 4 (by decide), hr 5 (by decide), hj]
    exact h8
  · unfold q_K
    rw [hr 8 (by decide), hj]
    exact h9.1
  · unfold q_R
    rw [hr 11 (by decide)]
    intro o ho
    have hR : q_r L (u.1 11) (v.1 39) (v.1 40) (v.1 35) := h9.2.1
    have ht := q_r_t hR ho
    obtain ⟨g1, g2, g3⟩ := hR o ho
    have e2L : ((2 ^ L : Nat) : Int) = (2 : Int) ^ L := by simp
    have e2L1 : (2 : Int) ^ (L + 1) = 2 * (2 : Int) ^ L := by rw [Int.pow_succ, Int.mul_comm]
    have hbit : (u.1 11 o).toInt.toNat.testBit L = false := Nat.testBit_lt_two_pow ht
    refine ⟨⟨g1.1, by omega⟩, ?_, fun p hp hb => ?_⟩
    · rw [cnt_s, hbit]; exact g2
    · by_cases e : p = L
      · rw [e, hbit] at hb; cases hb
      · exact g3 p (by omega) hb
  · rw [hr 8 (by decide)]; exact h9.2.2
  · unfold q_T
    rw [hr 12 (by decide), hr 13 (by decide), e6 9 (by decide), hj]
    exact h10
  · show ∃ c, c < S ∧ va_up u.2.2 7 (va_up (u.2.2 7) L (some d)) 7 i = some c ∧ v.1 35 i = nI c
    unfold va_up
    rw [if_pos rfl]
    by_cases b : i = L
    · rw [if_pos b, b]; exact ⟨d, hd, rfl, hs⟩
    · rw [if_neg b]; exact h11.2 i (by omega)
  · rw [hr 16 (by decide)]; exact h12
  · rw [e6 12 (by decide)]; exact h13
/-- one more in the reference's chain -/
theorem M_push {S L d : Nat} {u v : Sg} (h : q_M S L u v) (hd : d < S) (hl : (v.1 19 18).toInt = L) (hL : L < 12) (hC : k_C S (uI (uI v 35 L (nI d)) 19 18 (v.1 19 18 + 1))) : q_M S L u (uI (uI v 35 L (nI d)) 19 18 (v.1 19 18 + 1)) ∧ ((uI (uI v 35 L (nI d)) 19 18 (v.1 19 18 + 1)).1 19 18).toInt = (L + 1 : Nat) ∧ (uI (uI v 35 L (nI d)) 19 18 (v.1 19 18 + 1)).1 35 L = nI d ∧ (∀ p, p < L → (uI (uI v 35 L (nI d)) 19 18 (v.1 19 18 + 1)).1 35 p = v.1 35 p) := by
  obtain ⟨⟨h1, h2, h3⟩, ⟨h4, h5, h6⟩, ⟨h7, h8⟩, ⟨h9, h10, h11⟩, h12, h13, h14⟩ := h
  have hS := h1.1.1
  have e1 := i_p1 (x := v.1 19 18) (m := 12) (by omega) (by omega) (by decide)
  have hdI : (nI d).toInt = d := nI_toInt (by omega)
  have hp : ∀ p, p < L → (uI (uI v 35 L (nI d)) 19 18 (v.1 19 18 + 1)).1 35 p = v.1 35 p := fun p hp => by
    show upd (v.1 35) L (nI d) p = v.1 35 p
    exact upd_ne (by omega)
  refine ⟨⟨⟨h1, h2, h3⟩, ⟨k_J_c (by rw [e1]; omega) (k_J_ch (by rw [hdI]; omega) h4), h5, hC⟩, ⟨h7, h8⟩, ⟨⟨h9.1, fun o ho => ?_, h9.2.2⟩, h10, ⟨h11.1, fun i hi => ?_⟩⟩, h12, h13, h14⟩, ?_, ?_, hp⟩
  · obtain ⟨g1, g2, g3⟩ := h9.2.1 o ho
    refine ⟨g1, g2, fun p hpL hb => ?_⟩
    rw [hp p hpL]
    exact g3 p hpL hb
  · rw [hp i hi]; exact h11.2 i hi
  · show (v.1 19 18 + 1).toInt = (L + 1 : Nat)
    rw [e1]; omega
  · show upd (v.1 35) L (nI d) L = nI d
    exact upd_eq
theorem sim_holds {S L d : Nat} {u v : Sg} (hC : q_C S L u v) (hS : S ≤ 12) (hL : L ≤ 12) (hl : v.1 19 18 = u.1 6 1) (hd : d < S) : ∀ (k : Nat) (i : Int32), 0 ≤ i.toInt → 12 - i.toInt.toNat < k → f_X1_holds_L2 u d k i = f_X6_isInChain_L2 v (nI d) k i := by
  intro k
  induction k with
  | zero => intro i _ g; omega
  | succ k ih =>
    intro i h0 hk
    rw [f_X1_holds_L2, f_X6_isInChain_L2, hl]
    by_cases g : u.1 6 1 ≤ i
    · rw [if_pos g, if_pos g]
    · rw [if_neg g, if_neg g]
      have e1 := i_add1 g
      have hlen := hC.1
      simp only [Int32.le_iff_toInt_le] at g
      obtain ⟨c, a, b, e⟩ := hC.2 i.toNatClampNeg (by rw [clampEq]; omega)
      rw [b, e]
      dsimp only
      rw [ih (i + 1) (by rw [e1]; omega) (by rw [e1]; omega)]
      by_cases x : c = d
      · rw [if_pos x, if_pos (by rw [x])]
      · rw [if_neg x, if_neg (fun y => x ((nI_eq (by omega) (by omega)).mp y))]
theorem find_M {S L : Nat} {u v : Sg} (h : q_M S L u v) (p : Int64) : (f_X5_sectionAt u p = none ∧ f_X6_find v p = -1) ∨ ∃ c, c < S ∧ f_X5_sectionAt u p = some c ∧ f_X6_find v p = nI c :=
  sim_find h.2.1.1.1.2 h.1.1.1.1 h.2.2.1.1.1 (fun c hc => (h.2.2.1.1.2.1 c hc).2.1) p
theorem opt_eta {α : Type} (x : Option Nat × α) : (match x.1 with | none => (none, x.2) | some c => (some c, x.2)) = x := by
  obtain ⟨a, b⟩ := x
  cases a <;> rfl
theorem bef_eq (u : Sg) (c : Nat) : f_X5_beforeToGoTo u c = match (f_X5_sectionAt u (u.2.1 (46 + 6 * c) 3)) with
    | none => f_X5_goOrTell_n u c (u.2.1 (46 + 6 * c) 3)
    | some c2 => f_X5_goOrTell_s u c (u.2.1 (46 + 6 * c) 3) c2 := by
  unfold f_X5_beforeToGoTo
  cases f_X5_sectionAt u (u.2.1 (46 + 6 * c) 3) with
  | none => exact opt_eta _
  | some d => exact opt_eta _
theorem bes_eq (u : Sg) (c : Nat) : f_X5_besideToGoTo u c = match (f_X5_sectionAt u (u.2.1 (46 + 6 * c) 4)) with
    | none => f_X5_goOrTell_n u c (u.2.1 (46 + 6 * c) 4)
    | some c2 => if u.1 (46 + 6 * c2) 1 = 1 then f_X5_goOrTell_s u c (u.2.1 (46 + 6 * c) 4) c2 else f_X5_goOrTell_n u c (u.2.1 (46 + 6 * c) 4) := by
  unfold f_X5_besideToGoTo
  cases f_X5_sectionAt u (u.2.1 (46 + 6 * c) 4) with
  | none => exact opt_eta _
  | some d =>
    dsimp only
    split
    · exact opt_eta _
    · exact opt_eta _
theorem go_m1 {u : Sg} {c : Nat} {p : Int64} (hp : p = -1) : f_X5_goOrTell_n u c p = (none, u) ∧ ∀ d, f_X5_goOrTell_s u c p d = (none, u) := by
  refine ⟨?_, fun d => ?_⟩
  · unfold f_X5_goOrTell_n
    rw [if_pos hp]
  · unfold f_X5_goOrTell_s
    rw [if_pos hp]
theorem m1_iff {p : Int64} (h : -1 ≤ p.toInt) : (p < 0 ↔ p = -1) := by
  have e0 : (0 : Int64).toInt = 0 := rfl
  have e1 : (-1 : Int64).toInt = -1 := rfl
  rw [← Int64.toInt_inj]
  simp only [Int64.lt_iff_toInt_lt]
  omega
/-- where one goes on to: nowhere, and it is told, or to a section that isn't in the chain -/
def q_go (S L c : Nat) (u v : Sg) (p : Int64) (R : Option Nat × Sg) (T : Int32 × Sg) : Prop :=
  (∃ k : Int32, R = (none, f_X1_tell u k (nI c) p) ∧ T = (-1, f_X6_tell v k (nI c) p)) ∨ ∃ d, d < S ∧ R = (some d, u) ∧ T = (nI d, uI (uI v 35 L (nI d)) 19 18 (v.1 19 18 + 1))
theorem go_s {S L c d : Nat} {u v : Sg} {p : Int64} (h : q_M S L u v) (hl : v.1 19 18 = u.1 6 1) (hc : c < S) (hd : d < S) (hp : ¬ p = -1) : q_go S L c u v p (f_X5_goOrTell_s u c p d) (if (f_X6_isInChain v (nI d)) = 0 then (nI d, (uI (uI v 35 ((v.1 19 18).toNatClampNeg) (nI d)) 19 18 ((v.1 19 18) + 1))) else (-1, f_X6_tell v 1 (nI c) p)) := by
  have hlen := h.2.2.2.1.2.2.1
  have hj := h.2.1.1.2.2.1
  have hh : f_X1_holds u d = f_X6_isInChain v (nI d) := sim_holds h.2.2.2.1.2.2 h.1.1.1.1 (by rw [hl] at hj; omega) hl hd 13 0 (by decide) (by decide)
  have hcl : (v.1 19 18).toNatClampNeg = L := by rw [hl, clampEq]; omega
  unfold f_X5_goOrTell_s
  rw [if_neg hp, hh, hcl, (k_Is h.1.1 hc).1]
  by_cases a : f_X6_isInChain v (nI d) = 0
  · rw [if_pos a, if_pos a]; exact Or.inr ⟨d, hd, rfl, rfl⟩
  · rw [if_neg a, if_neg a]; exact Or.inl ⟨1, rfl, rfl⟩
theorem go_n {S L c : Nat} {u v : Sg} {p : Int64} (h : q_M S L u v) (hc : c < S) (hp : ¬ p = -1) : q_go S L c u v p (f_X5_goOrTell_n u c p) (-1, f_X6_tell v 2 (nI c) p) := by
  unfold f_X5_goOrTell_n
  rw [if_neg hp, (k_Is h.1.1 hc).1]
  exact Or.inl ⟨2, rfl, rfl⟩
theorem sim_before {S L c : Nat} {u v : Sg} (h : q_M S L u v) (hl : v.1 19 18 = u.1 6 1) (hc : c < S) : (v.2.1 22 c < 0 ∧ f_X5_beforeToGoTo u c = (none, u)) ∨ (¬ v.2.1 22 c < 0 ∧ q_go S L c u v (v.2.1 22 c) (f_X5_beforeToGoTo u c) (f_X6_goOn v (nI c) (v.2.1 22 c) 0)) := by
  have e : u.2.1 (46 + 6 * c) 3 = v.2.1 22 c := (h.2.2.1.1.2.1 c hc).2.2.1
  have hb := (h.1.2.2.1 c hc).2.1
  rw [e] at hb
  have hi := m1_iff hb
  rw [bef_eq, e]
  by_cases a : v.2.1 22 c < 0
  · left
    refine ⟨a, ?_⟩
    have g := go_m1 (u := u) (c := c) (hi.mp a)
    cases f_X5_sectionAt u (v.2.1 22 c) with
    | none => exact g.1
    | some d => exact g.2 d
  · right
    refine ⟨a, ?_⟩
    have hp : ¬ v.2.1 22 c = -1 := fun e => a (hi.mpr e)
    rcases find_M h (v.2.1 22 c) with ⟨f1, f2⟩ | ⟨d, fd, f1, f2⟩
    · rw [f1]
      unfold f_X6_goOn
      rw [f2, if_pos (by decide)]
      exact go_n h hc hp
    · rw [f1]
      unfold f_X6_goOn
      have h12 := h.1.1.1.1
      rw [f2, if_neg (nI_pos (by omega)), if_pos rfl]
      exact go_s h hl hc fd hp
theorem sim_beside2 {S L c : Nat} {u v : Sg} (h : q_M S L u v) (hl : v.1 19 18 = u.1 6 1) (hc : c < S) : (¬ (v.1 20 c = 0 ∧ ¬ v.2.1 23 c < 0) ∧ f_X5_besideToGoTo u c = (none, u)) ∨ ((v.1 20 c = 0 ∧ ¬ v.2.1 23 c < 0) ∧ q_go S L c u v (v.2.1 23 c) (f_X5_besideToGoTo u c) (f_X6_goOn v (nI c) (v.2.1 23 c) 1)) := by
  have hs := h.2.2.1.1.2.1 c hc
  have e : u.2.1 (46 + 6 * c) 4 = v.2.1 23 c := hs.2.2.2.1
  have hy := h.1.2.2.1 c hc
  have hb := hy.2.2.1
  have hkk := hy.2.2.2.1
  rw [hs.1, e] at hkk
  rw [e] at hb
  have hi := m1_iff hb
  rw [bes_eq, e]
  by_cases a : v.2.1 23 c = -1
  · left
    refine ⟨fun x => x.2 (hi.mpr a), ?_⟩
    have g := go_m1 (u := u) (c := c) a
    cases f_X5_sectionAt u (v.2.1 23 c) with
    | none => exact g.1
    | some d =>
      dsimp only
      split
      · exact g.2 d
      · exact g.1
  · right
    have k0 : v.1 20 c = 0 := Classical.byContradiction fun x => a (hkk x)
    refine ⟨⟨k0, fun x => a (hi.mp x)⟩, ?_⟩
    rcases find_M h (v.2.1 23 c) with ⟨f1, f2⟩ | ⟨d, fd, f1, f2⟩
    · rw [f1]
      unfold f_X6_goOn
      rw [f2, if_pos (by decide)]
      exact go_n h hc a
    · rw [f1]
      unfold f_X6_goOn
      have h12 := h.1.1.1.1
      have hsd := h.2.2.1.1.2.1 d fd
      rw [f2, if_neg (nI_pos (by omega)), if_neg (by decide), nI_clamp (by omega)]
      dsimp only
      rw [hsd.1]
      by_cases x : v.1 20 d = 0
      · rw [if_pos x, if_neg (by rw [x]; decide)]
        exact go_n h hc a
      · have x1 : v.1 20 d = 1 := by
          rcases (k_Is h.1.1 fd).2.1 with y | y
          · rw [hsd.1] at y; exact absurd y x
          · rw [hsd.1] at y; exact y
        rw [if_neg x, if_pos x1]
        exact go_s h hl hc fd a
