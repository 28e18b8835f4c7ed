theorem judge_ind {P : Sg → Prop} {z : Sg} {p : Int32} (h0 : P z) (hU : ∀ w, P w → P (uI w 36 p.toNatClampNeg 4)) (hT : ∀ w a b d, P w → P (f_X6_tell w a b d)) : ∀ (k : Nat) (a : Int64) (i : Int32), P (f_X6_judge_L7 z p k a i) := by
  intro k
  induction k with
  | zero => intro a i; rw [f_X6_judge_L7]; exact h0
  | succ k ih =>
    intro a i
    rw [f_X6_judge_L7]
    repeat' (first | with_reducible exact h0 | with_reducible exact ih _ _ | with_reducible refine hT _ _ _ _ ?_ | with_reducible refine hU _ ?_ | split | dsimp only)
theorem JM_judge_L7 {S : Nat} {z0 z : Sg} {p : Int32} (hI : k_J S z) (hm : mf z0 z) (k : Nat) (a : Int64) (i : Int32) : k_J S (f_X6_judge_L7 z p k a i) ∧ mf z0 (f_X6_judge_L7 z p k a i) :=
  judge_ind (P := fun w => k_J S w ∧ mf z0 w) ⟨hI, hm⟩ (fun w h => ⟨k_J_u (by decide) h.1, mf_uI ⟨rfl, by decide⟩ h.2⟩) (fun w a b d h => ⟨J_tell h.1, mf_tell h.2⟩) k a i
theorem J_judge {S : Nat} {z : Sg} {p : Int32} (hI : k_J S z) : k_J S (f_X6_judge z p) := (JM_judge_L7 hI mf.rf _ _ _).1
theorem mf_judge {S : Nat} {z0 z : Sg} {p : Int32} (hI : k_J S z) (hm : mf z0 z) : mf z0 (f_X6_judge z p) := (JM_judge_L7 hI hm _ _ _).2
theorem k_J_39 {S k : Nat} {z : Sg} (hI : k_J S z) : k_J S (uI z 39 k 0) := by
  refine ⟨hI.1, hI.2.1, hI.2.2.1, hI.2.2.2.1, hI.2.2.2.2.1, hI.2.2.2.2.2.1, hI.2.2.2.2.2.2.1, hI.2.2.2.2.2.2.2.1, hI.2.2.2.2.2.2.2.2.1, hI.2.2.2.2.2.2.2.2.2.1, fun j => ?_⟩
  show 0 ≤ (upd (z.1 39) k 0 j).toInt ∧ (upd (z.1 39) k 0 j).toInt ≤ 12
  unfold upd
  split
  · decide
  · exact hI.2.2.2.2.2.2.2.2.2.2 j
theorem J_start {S : Nat} {z : Sg} (hI : k_J S z) : k_J S (uI (uI (uI z 19 0 0) 19 18 0) 19 25 0) := k_J_t (by decide) (k_J_c (by decide) (k_J_f hI))
theorem cl0_back {w : Sg} {i : Int32} (h0 : 0 ≤ i.toInt) (h : ∀ o, o < i.toInt.toNat → w.1 39 o = 0) (hi : ¬ (100 : Int32) ≤ i) : ∀ o, o < (i + 1).toInt.toNat → (uI (uI w 36 i.toNatClampNeg 0) 39 i.toNatClampNeg 0).1 39 o = 0 := by
  intro o ho
  rw [i_add1 hi] at ho
  show upd (w.1 39) i.toInt.toNat 0 o = 0
  unfold upd
  split
  · rfl
  · exact h o (by omega)
theorem P_start {S : Nat} {w : Sg} {i : Int32} {p : Int64} (hI : k_J S w) (hV : k_V w) (hi : (100 : Int32) ≤ i) (h : ∀ o, o < i.toInt.toNat → w.1 39 o = 0) (hf : 0 ≤ (f_X6_find w p).toInt ∧ (f_X6_find w p).toInt < S) : k_P S (f_X6_find w p) (uI (uI w 35 ((0 : Int32).toNatClampNeg) (f_X6_find w p)) 19 18 1) := by
  generalize f_X6_find w p = q at hf ⊢
  have e3 : (uI (uI w 35 ((0 : Int32).toNatClampNeg) q) 19 18 1).1 19 18 = 1 := by rw [uI_s]; simp [upd]
  have e4 : (uI (uI w 35 ((0 : Int32).toNatClampNeg) q) 19 18 1).1 35 = upd (w.1 35) 0 q := by rw [uI_r (by decide), uI_s]; rfl
  have hS := hI.1.1
  have h1 : (1 : Int32).toInt = 1 := rfl
  refine ⟨k_J_c (by decide) (k_J_ch (by omega) hI), ⟨fun j hj => ?_, fun a b hab hb => ?_⟩, hV, hf, fun o ho => ?_⟩
  · rw [e3, h1] at hj
    have : j = 0 := by omega
    rw [e4, this]
    simp only [upd, if_pos]
    exact hf.2
  · rw [e3, h1] at hb; omega
  · rw [e3]
    simp only [Int32.le_iff_toInt_le] at hi
    have h100 : (100 : Int32).toInt = 100 := rfl
    have e5 : (uI (uI w 35 ((0 : Int32).toNatClampNeg) q) 19 18 1).1 39 = w.1 39 := by rw [uI_r (by decide), uI_r (by decide)]
    rw [e5, h o (by omega)]
    decide
theorem nn_ge {x : Int32} (h : (0 : Int32) ≤ x) : ¬ x < 0 := by
  simp only [Int32.lt_iff_toInt_lt, Int32.le_iff_toInt_le] at *
  omega
theorem ge_nn {x : Int32} (h : ¬ x < 0) : 0 ≤ x.toInt := nn_of h

def f_X6_read_L113 (p0 : Int64) : Nat → Sg → Int32 → Int32 → Int32 × Sg
  | 0, w, _, _ => (0, w)
  | k + 1, w, many, i =>
    if (100 : Int32) ≤ i then
      (many, w)
    else
      let z3 := (f_X6_judge w i)
      if (z3.1 36 i.toNatClampNeg) ≤ 0 then
        f_X6_read_L113 p0 k z3 many (i + 1)
      else
        f_X6_read_L113 p0 k z3 (many + 1) (i + 1)
termination_by k9 => k9
def f_X6_read_L67 (p0 : Int64) : Nat → Sg → Int32 → Int32 × Sg
  | 0, w, _ => (0, w)
  | k + 1, w, s1 =>
    if s1 < 0 then
      f_X6_read_L113 p0 101 w 0 0
    else
      let z7 := (f_X6_readWhole w s1)
      if (z7.2.1 22 s1.toNatClampNeg) < 0 then
        f_X6_read_L67 p0 k z7 (-1)
      else
        let z10 := (f_X6_goOn z7 s1 (z7.2.1 22 s1.toNatClampNeg) 0).2
        f_X6_read_L67 p0 k z10 ((f_X6_goOn z7 s1 (z7.2.1 22 s1.toNatClampNeg) 0).1)
termination_by k9 => k9
def f_X6_read_L17 (p0 : Int64) : Nat → Sg → Int32 → Int32 × Sg
  | 0, w, _ => (0, w)
  | k + 1, w, i =>
    if (100 : Int32) ≤ i then
      if (0 : Int32) ≤ (f_X6_find w p0) then
        f_X6_read_L67 p0 14 (uI (uI w 35 ((0 : Int32).toNatClampNeg) (f_X6_find w p0)) 19 18 1) (f_X6_find w p0)
      else
        ((-1), w)
    else
      f_X6_read_L17 p0 k (uI (uI w 36 i.toNatClampNeg 0) 39 i.toNatClampNeg 0) (i + 1)
termination_by k9 => k9
def f_X6_read (z : Sg) (p0 : Int64) : Int32 × Sg :=
  f_X6_read_L17 p0 101 (uI (uI (uI z 19 0 0) 19 18 0) 19 25 0) 0
set_option maxHeartbeats 4000000 in
set_option maxRecDepth 100000 in
theorem c_X6_read (l : Launch) (E : Ev) (S sz : Nat) (z : Sg) (p0 : Int64) (hV : k_V z) (hI : k_J S z) : k_Met l yX6_read cX6_read 6 (some .int) ({ frames := 5, cells := 0, slots := 0, locals := 117 }) [.ref (E.2.2 19), .long p0] E (46 + 6 * S) z sz (fun v u => v = some (.int ((f_X6_read z p0).1)) ∧ u = (f_X6_read z p0).2) 0 0 := by
  refine k_body (by decide +kernel) (Nat.le_of_ble_eq_true rfl) ?_
  intro p e s m below meth cd ls hx hb hr hml hown hlocks hts hW hl
  have L113 : ∀ (k : Nat) (w : Sg) (many : Int32) (i : Int32) (H : Heap) (locs : List Loc) (ls : Array Slot), (k_J S w) → (0 ≤ i.toInt) → 100 - i.toInt.toNat < k → k_W E (46 + 6 * S) w (k_A E (46 + 6 * S) z s.heap.size) s H locs → lv_has ls 6 [(0, .ref (E.2.2 19)), (1, .long p0), (4, .int many), (5, .int i)] → f_X6_read_L113 p0 k w many i = (f_X6_read z p0) → W p l e ({ frames := 5, cells := 0, slots := 0, locals := 117 }) s m ([.ref (E.2.2 19), .long p0] : List Value).toArray below meth cd H locs 0 0 (MQ below (k_Q (fun v u => v = some (.int ((f_X6_read z p0).1)) ∧ u = (f_X6_read z p0).2) E (46 + 6 * S) z s.heap.size) ([.ref (E.2.2 19), .long p0] : List Value).toArray s 0 0 (k_A E (46 + 6 * S) z s.heap.size)) (F0 m 113 ls []) := by
    intro k
    induction k with
    | zero =>
      intro w many i H locs ls hi0 hi1 hm
      exact absurd hm (Nat.not_lt_zero _)
    | succ k ih =>
      intro w many i H locs ls hi0 hi1 hm hW hl hG
      refine lv_iload hx hb dX6_read_113 (lv_at hl 3 rfl) ?_
      refine lv_bipush (v := 100) hx hb dX6_read_115 (by decide) ?_
      refine lv_icmp_ge (tgt := 153) hx hb dX6_read_117 (by decide) (fun h1 => ?_) (fun h1 => ?_)
      · refine lv_iload hx hb dX6_read_153 (lv_at hl 2 rfl) ?_
        have hR : (f_X6_read z p0) = (many, w) := (hG.symm.trans (by simp only [f_X6_read_L113, if_pos h1]))
        exact k_iret hx hb hr rfl hlocks hW ⟨by rw [hR], by rw [hR]⟩ dX6_read_155
      · refine lv_aload_n hx hb dX6_read_120 rfl (lv_at hl 0 rfl) ?_
        refine lv_iload hx hb dX6_read_121 (lv_at hl 3 rfl) ?_
        refine k_callV (As := [.int i]) (rest := []) hx hb hml hown hts (c_X6_judge l E S _ w i (in_lt hi1 h1 rfl) hi0) lm_RX6_194 ln_X6_judge le_X6_judge li_X6 lk_X6_judge (show k_nm yX6_judge 1 by decide +kernel) ⟨Nat.le_of_ble_eq_true rfl, Nat.le_of_ble_eq_true rfl⟩ rfl rfl ⟨Nat.le_of_ble_eq_true rfl, Nat.le_of_ble_eq_true rfl⟩ hl.1 rfl (Nat.le_of_ble_eq_true rfl) dX6_read_123 (by omega) (k_c19 _ _ _) rfl hW (fun v z1 H locs hp hW => ?_)
        obtain ⟨rfl, hz1⟩ := hp
        rw [hz1] at hW
        obtain ⟨z3, ez3⟩ : ∃ y9 : Sg, y9 = (f_X6_judge w i) := ⟨_, rfl⟩
        rw [← ez3] at hW
        have Jz3 : k_J S z3 := by rw [ez3]; exact J_judge hi0
        refine W.eq (g2 := F0 m 126 ls []) rfl ?_
        refine lv_aload_n hx hb dX6_read_126 rfl (lv_at hl 0 rfl) ?_
        refine k_get hx hb hts inlX6 hown hW 19 (by omega) k_c19 rfl 20 (by decide) lf_RX6_61 rfl (v := .ref (E.2.2 36)) rfl dX6_read_127 ?_
        refine lv_iload hx hb dX6_read_130 (lv_at hl 3 rfl) ?_
        refine k_iald hx hb hW 36 100 (by omega) k_c36 (v := (z3.1 36 i.toNatClampNeg)) (by exact in_lt hi1 h1 rfl) rfl dX6_read_132 ?_
        refine lv_if_le (tgt := 143) hx hb dX6_read_133 (by decide) (fun h4 => ?_) (fun h4 => ?_)
        · refine lv_iload hx hb dX6_read_143 (lv_at hl 2 rfl) ?_
          refine lv_istore (lv' := [(4, .int many), (0, .ref (E.2.2 19)), (1, .long p0), (5, .int i)]) hx hb dX6_read_145 hl (by decide) rfl (fun ls hl => ?_)
          refine lv_iinc (v := i + 1) (lv' := [(5, .int (i + 1)), (4, .int many), (0, .ref (E.2.2 19)), (1, .long p0)]) hx hb dX6_read_147 hl (k := 3) rfl rfl (by decide) rfl (fun ls hl => ?_)
          refine lv_goto (tgt := 113) hx hb dX6_read_150 (by decide) ?_
          exact ih z3 many (i + 1) _ _ _ (Jz3) (in_s0 (m := 100) (n := 100) hi1 h1 (by decide)) (in_sm (m := 100) hi1 h1 (by decide) hm) hW (lv_sub hl [2, 3, 1, 0] rfl) (Eq.symm (hG.symm.trans (by subst ez3; simp only [f_X6_read_L113, if_neg h1, if_pos h4])))
        · refine lv_iload hx hb dX6_read_136 (lv_at hl 2 rfl) ?_
          refine lv_iconst (v := 1) hx hb dX6_read_138 (by decide) ?_
          refine lv_iadd hx hb dX6_read_139 ?_
          refine lv_goto (tgt := 145) hx hb dX6_read_140 (by decide) ?_
          refine lv_istore (lv' := [(4, .int (many + 1)), (0, .ref (E.2.2 19)), (1, .long p0), (5, .int i)]) hx hb dX6_read_145 hl (by decide) rfl (fun ls hl => ?_)
          refine lv_iinc (v := i + 1) (lv' := [(5, .int (i + 1)), (4, .int (many + 1)), (0, .ref (E.2.2 19)), (1, .long p0)]) hx hb dX6_read_147 hl (k := 3) rfl rfl (by decide) rfl (fun ls hl => ?_)
          refine lv_goto (tgt := 113) hx hb dX6_read_150 (by decide) ?_
          exact ih z3 (many + 1) (i + 1) _ _ _ (Jz3) (in_s0 (m := 100) (n := 100) hi1 h1 (by decide)) (in_sm (m := 100) hi1 h1 (by decide) hm) hW (lv_sub hl [2, 3, 1, 0] rfl) (Eq.symm (hG.symm.trans (by subst ez3; simp only [f_X6_read_L113, if_neg h1, if_neg h4])))
  have L67 : ∀ (k : Nat) (w : Sg) (s1 : Int32) (H : Heap) (locs : List Loc) (ls : Array Slot), (k_J S w) → (k_C S w) → (k_V w) → (0 ≤ s1.toInt → k_P S s1 w) → (if s1 < 0 then 0 else 13 - (w.1 19 18).toInt.toNat) < k → k_W E (46 + 6 * S) w (k_A E (46 + 6 * S) z s.heap.size) s H locs → lv_has ls 6 [(0, .ref (E.2.2 19)), (1, .long p0), (3, .int s1)] → f_X6_read_L67 p0 k w s1 = (f_X6_read z p0) → W p l e ({ frames := 5, cells := 0, slots := 0, locals := 117 }) s m ([.ref (E.2.2 19), .long p0] : List Value).toArray below meth cd H locs 0 0 (MQ below (k_Q (fun v u => v = some (.int ((f_X6_read z p0).1)) ∧ u = (f_X6_read z p0).2) E (46 + 6 * S) z s.heap.size) ([.ref (E.2.2 19), .long p0] : List Value).toArray s 0 0 (k_A E (46 + 6 * S) z s.heap.size)) (F0 m 67 ls []) := by
    intro k
    induction k with
    | zero =>
      intro w s1 H locs ls hi0 hi1 hi2 hi3 hm
      exact absurd hm (Nat.not_lt_zero _)
    | succ k ih =>
      intro w s1 H locs ls hi0 hi1 hi2 hi3 hm hW hl hG
      refine lv_iload_n hx hb dX6_read_67 rfl (lv_at hl 2 rfl) ?_
      refine lv_if_lt (tgt := 107) hx hb dX6_read_68 (by decide) (fun h5 => ?_) (fun h5 => ?_)
      · refine lv_iconst (v := 0) hx hb dX6_read_107 (by decide) ?_
        refine lv_istore (lv' := [(4, .int 0), (0, .ref (E.2.2 19)), (1, .long p0), (3, .int s1)]) hx hb dX6_read_108 hl (by decide) rfl (fun ls hl => ?_)
        refine lv_iconst (v := 0) hx hb dX6_read_110 (by decide) ?_
        refine lv_istore (lv' := [(5, .int 0), (4, .int 0), (0, .ref (E.2.2 19)), (1, .long p0), (3, .int s1)]) hx hb dX6_read_111 hl (by decide) rfl (fun ls hl => ?_)
        exact L113 101 w 0 0 _ _ _ (hi0) (by decide) (by decide) hW (lv_sub hl [2, 3, 1, 0] rfl) (Eq.symm (hG.symm.trans (by simp only [f_X6_read_L67, if_pos h5])))
      · refine lv_aload_n hx hb dX6_read_71 rfl (lv_at hl 0 rfl) ?_
        refine lv_iload_n hx hb dX6_read_72 rfl (lv_at hl 2 rfl) ?_
        refine k_callV (As := [.int s1]) (rest := []) hx hb hml hown hts (c_X6_readWhole l E S _ w s1 (hi3 (ge_nn h5)) hi0) lm_RX6_191 ln_X6_readWhole le_X6_readWhole li_X6 lk_X6_readWhole (show k_nm yX6_readWhole 1 by decide +kernel) ⟨Nat.le_of_ble_eq_true rfl, Nat.le_of_ble_eq_true rfl⟩ rfl rfl ⟨Nat.le_of_ble_eq_true rfl, Nat.le_of_ble_eq_true rfl⟩ hl.1 rfl (Nat.le_of_ble_eq_true rfl) dX6_read_73 (by omega) (k_c19 _ _ _) rfl hW (fun v z1 H locs hp hW => ?_)
        obtain ⟨rfl, hz1⟩ := hp
        rw [hz1] at hW
        obtain ⟨z7, ez7⟩ : ∃ y9 : Sg, y9 = (f_X6_readWhole w s1) := ⟨_, rfl⟩
        rw [← ez7] at hW
        have Jz7 : k_J S z7 := by rw [ez7]; exact (b_readWhole (hi3 (ge_nn h5))).1
        have Rz7 : k_Y S z7 := by rw [ez7]; exact (b_readWhole (hi3 (ge_nn h5))).2.1
        have Tz7 : (w.1 19 18).toInt ≤ (z7.1 19 18).toInt := by rw [ez7]; exact (b_readWhole (hi3 (ge_nn h5))).2.2
        refine W.eq (g2 := F0 m 76 ls []) rfl ?_
        refine lv_aload_n hx hb dX6_read_76 rfl (lv_at hl 0 rfl) ?_
        refine k_get hx hb hts inlX6 hown hW 19 (by omega) k_c19 rfl 4 (by decide) lf_RX6_17 rfl (v := .ref (E.2.2 22)) rfl dX6_read_77 ?_
        refine lv_iload_n hx hb dX6_read_80 rfl (lv_at hl 2 rfl) ?_
        refine k_lald hx hb hW 22 12 (by omega) k_c22 (v := (z7.2.1 22 s1.toNatClampNeg)) (by exact in12 (lt_of12 hi0.1.1 (hi3 (ge_nn h5)).2.2.2.1)) rfl dX6_read_81 ?_
        refine lv_lconst (v := 0) hx hb dX6_read_82 (by decide) ?_
        refine k_lif_lt (tgt := 102) hx hb dX6_read_83 dX6_read_84 (by decide) (fun h8 => ?_) (fun h8 => ?_)
        · refine lv_iconst (v := (-1)) hx hb dX6_read_102 (by decide) ?_
          refine lv_istore_n (lv' := [(3, .int (-1)), (0, .ref (E.2.2 19)), (1, .long p0)]) hx hb dX6_read_103 rfl hl (by decide) rfl (fun ls hl => ?_)
          refine lv_goto (tgt := 67) hx hb dX6_read_104 (by decide) ?_
          exact ih z7 (-1) _ _ _ (Jz7) ((Rz7).1) ((Rz7).2.1) (fun h9 => by first | exact absurd h9 (by decide) | (rw [ez7]; exact P_goOn (by assumption) (by assumption) h9)) (by first | exact mb_m1 hm h5 hi0 | (rw [ez7]; exact mb_goOn hm h5 (by assumption) (by assumption) (by assumption))) hW (lv_sub hl [1, 2, 0] rfl) (Eq.symm (hG.symm.trans (by subst ez7; simp only [f_X6_read_L67, if_neg h5, if_pos h8])))
        · refine lv_aload_n hx hb dX6_read_87 rfl (lv_at hl 0 rfl) ?_
          refine lv_iload_n hx hb dX6_read_88 rfl (lv_at hl 2 rfl) ?_
          refine lv_aload_n hx hb dX6_read_89 rfl (lv_at hl 0 rfl) ?_
          refine k_get hx hb hts inlX6 hown hW 19 (by omega) k_c19 rfl 4 (by decide) lf_RX6_17 rfl (v := .ref (E.2.2 22)) rfl dX6_read_90 ?_
          refine lv_iload_n hx hb dX6_read_93 rfl (lv_at hl 2 rfl) ?_
          refine k_lald hx hb hW 22 12 (by omega) k_c22 (v := (z7.2.1 22 s1.toNatClampNeg)) (by exact in12 (lt_of12 hi0.1.1 (hi3 (ge_nn h5)).2.2.2.1)) rfl dX6_read_94 ?_
          refine lv_iconst (v := 0) hx hb dX6_read_95 (by decide) ?_
          refine k_callV (As := [.int s1, .long (z7.2.1 22 s1.toNatClampNeg), .int 0]) (rest := []) hx hb hml hown hts (c_X6_goOn l E S _ z7 s1 (z7.2.1 22 s1.toNatClampNeg) 0 ((Rz7).1) Jz7) lm_RX6_184 ln_X6_goOn le_X6_goOn li_X6 lk_X6_goOn (show k_nm yX6_goOn 3 by decide +kernel) ⟨Nat.le_of_ble_eq_true rfl, Nat.le_of_ble_eq_true rfl⟩ rfl rfl ⟨Nat.le_of_ble_eq_true rfl, Nat.le_of_ble_eq_true rfl⟩ hl.1 rfl (Nat.le_of_ble_eq_true rfl) dX6_read_96 (by omega) (k_c19 _ _ _) rfl hW (fun v z1 H locs hp hW => ?_)
          obtain ⟨rfl, hz1⟩ := hp
          rw [hz1] at hW
          obtain ⟨z10, ez10⟩ : ∃ y9 : Sg, y9 = (f_X6_goOn z7 s1 (z7.2.1 22 s1.toNatClampNeg) 0).2 := ⟨_, rfl⟩
          rw [← ez10] at hW
          have Jz10 : k_J S z10 := by rw [ez10]; exact (goOn_all Jz7 ((Rz7).1) (Rz7).2.1).1
          have Rz10 : k_Y S z10 := by rw [ez10]; exact Y_goOn Jz7 (Rz7)
          refine W.eq (g2 := F0 m 99 ls [.int ((f_X6_goOn z7 s1 (z7.2.1 22 s1.toNatClampNeg) 0).1)]) rfl ?_
          refine lv_goto (tgt := 103) hx hb dX6_read_99 (by decide) ?_
          refine lv_istore_n (lv' := [(3, .int ((f_X6_goOn z7 s1 (z7.2.1 22 s1.toNatClampNeg) 0).1)), (0, .ref (E.2.2 19)), (1, .long p0)]) hx hb dX6_read_103 rfl hl (by decide) rfl (fun ls hl => ?_)
          refine lv_goto (tgt := 67) hx hb dX6_read_104 (by decide) ?_
          exact ih z10 ((f_X6_goOn z7 s1 (z7.2.1 22 s1.toNatClampNeg) 0).1) _ _ _ (Jz10) ((Rz10).1) ((Rz10).2.1) (fun h9 => by first | exact absurd h9 (by decide) | (rw [ez10]; exact P_goOn (by assumption) (by assumption) h9)) (by first | exact mb_m1 hm h5 hi0 | (rw [ez10]; exact mb_goOn hm h5 (by assumption) (by assumption) (by assumption))) hW (lv_sub hl [1, 2, 0] rfl) (Eq.symm (hG.symm.trans (by subst ez10 ez7; simp only [f_X6_read_L67, if_neg h5, if_neg h8])))
  have L17 : ∀ (k : Nat) (w : Sg) (i : Int32) (H : Heap) (locs : List Loc) (ls : Array Slot), (k_J S w) → (k_V w) → (w.1 19 18 = 0) → (0 ≤ i.toInt) → (∀ o, o < i.toInt.toNat → w.1 39 o = 0) → 100 - i.toInt.toNat < k → k_W E (46 + 6 * S) w (k_A E (46 + 6 * S) z s.heap.size) s H locs → lv_has ls 6 [(0, .ref (E.2.2 19)), (1, .long p0), (3, .int i)] → f_X6_read_L17 p0 k w i = (f_X6_read z p0) → W p l e ({ frames := 5, cells := 0, slots := 0, locals := 117 }) s m ([.ref (E.2.2 19), .long p0] : List Value).toArray below meth cd H locs 0 0 (MQ below (k_Q (fun v u => v = some (.int ((f_X6_read z p0).1)) ∧ u = (f_X6_read z p0).2) E (46 + 6 * S) z s.heap.size) ([.ref (E.2.2 19), .long p0] : List Value).toArray s 0 0 (k_A E (46 + 6 * S) z s.heap.size)) (F0 m 17 ls []) := by
    intro k
    induction k with
    | zero =>
      intro w i H locs ls hi0 hi1 hi2 hi3 hi4 hm
      exact absurd hm (Nat.not_lt_zero _)
    | succ k ih =>
      intro w i H locs ls hi0 hi1 hi2 hi3 hi4 hm hW hl hG
      refine lv_iload_n hx hb dX6_read_17 rfl (lv_at hl 2 rfl) ?_
      refine lv_bipush (v := 100) hx hb dX6_read_18 (by decide) ?_
      refine lv_icmp_ge (tgt := 43) hx hb dX6_read_20 (by decide) (fun h11 => ?_) (fun h11 => ?_)
      · refine lv_aload_n hx hb dX6_read_43 rfl (lv_at hl 0 rfl) ?_
        refine lv_lload_n hx hb dX6_read_44 rfl (lv_at hl 1 rfl) ?_
        refine k_callV (As := [.long p0]) (rest := []) hx hb hml hown hts (c_X6_find l E S _ w p0 hi0) lm_RX6_101 ln_X6_find le_X6_find li_X6 lk_X6_find (show k_nm yX6_find 1 by decide +kernel) ⟨Nat.le_of_ble_eq_true rfl, Nat.le_of_ble_eq_true rfl⟩ rfl rfl ⟨Nat.le_of_ble_eq_true rfl, Nat.le_of_ble_eq_true rfl⟩ hl.1 rfl (Nat.le_of_ble_eq_true rfl) dX6_read_45 (by omega) (k_c19 _ _ _) rfl hW (fun v z1 H locs hp hW => ?_)
        obtain ⟨rfl, hz1⟩ := hp
        rw [hz1] at hW
        refine W.eq (g2 := F0 m 48 ls [.int (f_X6_find w p0)]) rfl ?_
        refine lv_istore_n (lv' := [(3, .int (f_X6_find w p0)), (0, .ref (E.2.2 19)), (1, .long p0)]) hx hb dX6_read_48 rfl hl (by decide) rfl (fun ls hl => ?_)
        refine lv_iload_n hx hb dX6_read_49 rfl (lv_at hl 0 rfl) ?_
        refine lv_if_ge (tgt := 55) hx hb dX6_read_50 (by decide) (fun h12 => ?_) (fun h12 => ?_)
        · refine lv_aload_n hx hb dX6_read_55 rfl (lv_at hl 1 rfl) ?_
          refine k_get hx hb hts inlX6 hown hW 19 (by omega) k_c19 rfl 19 (by decide) lf_RX6_58 rfl (v := .ref (E.2.2 35)) rfl dX6_read_56 ?_
          refine lv_iconst (v := 0) hx hb dX6_read_59 (by decide) ?_
          refine lv_iload_n hx hb dX6_read_60 rfl (lv_at hl 0 rfl) ?_
          refine k_iast hx hb hW 35 12 (by omega) k_c35 (by exact vp_in_iff.mpr (by decide)) dX6_read_61 (fun H locs hW => ?_)
          refine lv_aload_n hx hb dX6_read_62 rfl (lv_at hl 1 rfl) ?_
          refine lv_iconst (v := 1) hx hb dX6_read_63 (by decide) ?_
          refine k_putI hx hb hts inlX6 tyX6_ok nmX6 hown hW 19 (by omega) k_c19 rfl 18 (by decide) lf_RX6_178 rfl rfl (tyX6_ok 18 (by decide)) (Nat.le_of_ble_eq_true rfl) ks_X6_18 dX6_read_64 (fun H locs hW => ?_)
          exact L67 14 (uI (uI w 35 ((0 : Int32).toNatClampNeg) (f_X6_find w p0)) 19 18 1) (f_X6_find w p0) _ _ _ ((P_start hi0 hi1 h11 hi4 (b_find hi0 (nn_ge h12))).1) ((P_start hi0 hi1 h11 hi4 (b_find hi0 (nn_ge h12))).2.1) (hi1) (fun _ => P_start hi0 hi1 h11 hi4 (b_find hi0 (nn_ge h12))) (by split <;> omega) hW (lv_sub hl [1, 2, 0] rfl) (Eq.symm (hG.symm.trans (by simp only [f_X6_read_L17, if_pos h11, if_pos h12])))
        · refine lv_iconst (v := (-1)) hx hb dX6_read_53 (by decide) ?_
          have hR : (f_X6_read z p0) = ((-1), w) := (hG.symm.trans (by simp only [f_X6_read_L17, if_pos h11, if_neg h12]))
          exact k_iret hx hb hr rfl hlocks hW ⟨by rw [hR], by rw [hR]⟩ dX6_read_54
      · refine lv_aload_n hx hb dX6_read_23 rfl (lv_at hl 0 rfl) ?_
        refine k_get hx hb hts inlX6 hown hW 19 (by omega) k_c19 rfl 20 (by decide) lf_RX6_61 rfl (v := .ref (E.2.2 36)) rfl dX6_read_24 ?_
        refine lv_iload_n hx hb dX6_read_27 rfl (lv_at hl 2 rfl) ?_
        refine lv_iconst (v := 0) hx hb dX6_read_28 (by decide) ?_
        refine k_iast hx hb hW 36 100 (by omega) k_c36 (by exact in_lt hi3 h11 rfl) dX6_read_29 (fun H locs hW => ?_)
        refine lv_aload_n hx hb dX6_read_30 rfl (lv_at hl 0 rfl) ?_
        refine k_get hx hb hts inlX6 hown hW 19 (by omega) k_c19 rfl 23 (by decide) lf_RX6_70 rfl (v := .ref (E.2.2 39)) rfl dX6_read_31 ?_
        refine lv_iload_n hx hb dX6_read_34 rfl (lv_at hl 2 rfl) ?_
        refine lv_iconst (v := 0) hx hb dX6_read_35 (by decide) ?_
        refine k_iast hx hb hW 39 100 (by omega) k_c39 (by exact in_lt hi3 h11 rfl) dX6_read_36 (fun H locs hW => ?_)
        refine lv_iinc (v := i + 1) (lv' := [(3, .int (i + 1)), (0, .ref (E.2.2 19)), (1, .long p0)]) hx hb dX6_read_37 hl (k := 2) rfl rfl (by decide) rfl (fun ls hl => ?_)
        refine lv_goto (tgt := 17) hx hb dX6_read_40 (by decide) ?_
        exact ih (uI (uI w 36 i.toNatClampNeg 0) 39 i.toNatClampNeg 0) (i + 1) _ _ _ (k_J_39 (k_J_u (by decide) hi0)) (hi1) (hi2) (in_s0 (m := 100) (n := 100) hi3 h11 (by decide)) (cl0_back hi3 hi4 h11) (in_sm (m := 100) hi3 h11 (by decide) hm) hW (lv_sub hl [1, 2, 0] rfl) (Eq.symm (hG.symm.trans (by simp only [f_X6_read_L17, if_neg h11])))
  have hl : lv_has ls 6 [(0, .ref (E.2.2 19)), (1, .long p0)] := hl
  refine lv_aload_n hx hb dX6_read_0 rfl (lv_at hl 0 rfl) ?_
  refine lv_iconst (v := 0) hx hb dX6_read_1 (by decide) ?_
  refine k_putI hx hb hts inlX6 tyX6_ok nmX6 hown hW 19 (by omega) k_c19 rfl 0 (by decide) lf_RX6_88 rfl rfl (tyX6_ok 0 (by decide)) (Nat.le_of_ble_eq_true rfl) ks_X6_0 dX6_read_2 (fun H locs hW => ?_)
  refine lv_aload_n hx hb dX6_read_5 rfl (lv_at hl 0 rfl) ?_
  refine lv_iconst (v := 0) hx hb dX6_read_6 (by decide) ?_
  refine k_putI hx hb hts inlX6 tyX6_ok nmX6 hown hW 19 (by omega) k_c19 rfl 18 (by decide) lf_RX6_178 rfl rfl (tyX6_ok 18 (by decide)) (Nat.le_of_ble_eq_true rfl) ks_X6_18 dX6_read_7 (fun H locs hW => ?_)
  refine lv_aload_n hx hb dX6_read_10 rfl (lv_at hl 0 rfl) ?_
  refine lv_iconst (v := 0) hx hb dX6_read_11 (by decide) ?_
  refine k_putI hx hb hts inlX6 tyX6_ok nmX6 hown hW 19 (by omega) k_c19 rfl 25 (by decide) lf_RX6_129 rfl rfl (tyX6_ok 25 (by decide)) (Nat.le_of_ble_eq_true rfl) ks_X6_25 dX6_read_12 (fun H locs hW => ?_)
  refine lv_iconst (v := 0) hx hb dX6_read_15 (by decide) ?_
  refine lv_istore_n (lv' := [(3, .int 0), (0, .ref (E.2.2 19)), (1, .long p0)]) hx hb dX6_read_16 rfl hl (by decide) rfl (fun ls hl => ?_)
  exact L17 101 (uI (uI (uI z 19 0 0) 19 18 0) 19 25 0) 0 _ _ _ (J_start hI) (hV) (rfl) (by decide) (fun o h => absurd h (Nat.not_lt_zero _)) (by decide) hW (lv_sub hl [1, 2, 0] rfl) (Eq.symm (by simp only [f_X6_read]))
