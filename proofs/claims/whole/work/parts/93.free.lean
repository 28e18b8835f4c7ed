/-! ===== the reference's free ones; revisions ===== -/
theorem fr_in {p0 many : Int32} {next : Int64} {K : Int32 → Sg → Int32 × Sg} (hm : 0 ≤ many.toInt ∧ many.toInt ≤ 100) : ∀ (k : Nat) (u : Sg) (goes i : Int32), 0 ≤ i.toInt → 100 - i.toInt.toNat < k → ∃ g : Int32, f_X6_free_L78 p0 many next K k u goes i = K g u ∧ (g = 0 ↔ (goes = 0 ∨ ∃ j, i.toInt.toNat ≤ j ∧ j < many.toInt.toNat ∧ (u.1 44 j).toInt64 = next)) := by
  intro k
  induction k with
  | zero => intro u goes i _ g; omega
  | succ k ih =>
    intro u goes i h0 hk
    rw [f_X6_free_L78]
    by_cases g : many ≤ i
    · rw [if_pos g]
      simp only [Int32.le_iff_toInt_le] at g
      refine ⟨goes, rfl, fun x => Or.inl x, fun x => ?_⟩
      rcases x with x | ⟨j, a, b, _⟩
      · exact x
      · omega
    · rw [if_neg g]
      have e1 := i_add1 g
      simp only [Int32.le_iff_toInt_le] at g
      have en : (i + 1).toInt.toNat = i.toInt.toNat + 1 := by rw [e1]; omega
      by_cases g0 : goes = 0
      · rw [if_pos g0]
        obtain ⟨x, x1, x2⟩ := ih u 0 (i + 1) (by rw [e1]; omega) (by rw [e1]; omega)
        exact ⟨x, x1, fun _ => Or.inl g0, fun _ => x2.mpr (Or.inl rfl)⟩
      · rw [if_neg g0]
        by_cases e : (u.1 44 i.toNatClampNeg).toInt64 = next
        · rw [if_pos e]
          obtain ⟨x, x1, x2⟩ := ih u 0 (i + 1) (by rw [e1]; omega) (by rw [e1]; omega)
          exact ⟨x, x1, fun _ => Or.inr ⟨i.toInt.toNat, Nat.le_refl _, by omega, e⟩, fun _ => x2.mpr (Or.inl rfl)⟩
        · rw [if_neg e]
          obtain ⟨x, x1, x2⟩ := ih u 1 (i + 1) (by rw [e1]; omega) (by rw [e1]; omega)
          refine ⟨x, x1, fun y => ?_, fun y => x2.mpr ?_⟩
          · rcases x2.mp y with y | ⟨j, a, b, c⟩
            · exact absurd y (by decide)
            · exact Or.inr ⟨j, by omega, b, c⟩
          · rcases y with y | ⟨j, a, b, c⟩
            · exact absurd y g0
            · refine Or.inr ⟨j, ?_, b, c⟩
              by_cases ej : j = i.toInt.toNat
              · exfalso; apply e; rw [clampEq, ← ej]; exact c
              · omega
/-- what the list answers -/
def fan (r : List Int32) (p0 : Int32) : Int32 := if p0 = -1 then nI r.length else if nI r.length ≤ p0 then -1 else (r[p0.toNatClampNeg]?).getD 0
theorem fr_0 {p0 : Int32} {k : Nat} {w : Sg} {next : Int64} {acc : List Int32} (hp : ¬ p0 < -1) (hl : acc.length ≤ 100) (h : ∀ j, j < acc.length → acc[j]? = some (w.1 44 j)) : f_X6_free_L49 p0 (k + 1) w (nI acc.length) next 0 = (fan acc p0, w) := by
  rw [f_X6_free_L49, if_pos rfl]
  unfold fan
  by_cases a : p0 = -1
  · rw [if_pos a, if_pos a]
  · rw [if_neg a, if_neg a]
    by_cases b : nI acc.length ≤ p0
    · rw [if_pos b, if_pos b]
    · rw [if_neg b, if_neg b]
      have e1 : (-1 : Int32).toInt = -1 := rfl
      rw [← Int32.toInt_inj] at a
      simp only [Int32.lt_iff_toInt_lt] at hp
      simp only [Int32.le_iff_toInt_le] at b
      rw [nI_toInt (by omega)] at b
      rw [h p0.toNatClampNeg (by rw [clampEq]; omega)]
      rfl
theorem fr_out {kd : Nat → Int32} {pl : Nat → Int64} {p0 : Int32} (hp : ¬ p0 < -1) : ∀ (k : Nat) (w : Sg) (next : Int64) (acc : List Int32), k_F w (nI acc.length) → acc.length ≤ 100 → (∀ j, j < acc.length → acc[j]? = some (w.1 44 j)) → 100 - acc.length < k → w.1 36 = kd → w.2.1 37 = pl → ∃ w' : Sg, f_X6_free_L49 p0 k w (nI acc.length) next 1 = (fan (frl kd pl (100 - acc.length) acc next) p0, w') ∧ w'.2 = w.2 ∧ ∀ q, q ≠ 44 → w'.1 q = w.1 q := by
  intro k
  induction k with
  | zero => intro w next acc _ _ _ g; omega
  | succ k ih =>
    intro w next acc hF hl hacc hk h36 h37
    have h99 := fo_99 hF
    rw [nI_toInt (by omega)] at h99
    obtain ⟨k', rfl⟩ : ∃ k', k = k' + 1 := ⟨k - 1, by omega⟩
    obtain ⟨m, em⟩ : ∃ m, 100 - acc.length = m + 1 := ⟨99 - acc.length, by omega⟩
    have hmI : (nI acc.length).toInt = acc.length := nI_toInt (by omega)
    have hk1 : 100 - (acc.length + 1) < k' + 1 := by omega
    have hk2 : 100 - (acc.length + 1) = m := by omega
    have stop : ∃ w' : Sg, f_X6_free_L49 p0 (k' + 1) w (nI acc.length) next 0 = (fan acc p0, w') ∧ w'.2 = w.2 ∧ ∀ q, q ≠ 44 → w'.1 q = w.1 q := ⟨w, fr_0 hp hl hacc, rfl, fun _ _ => rfl⟩
    have e0 : (0 : Int64).toInt = 0 := rfl
    have e100 : (100 : Int64).toInt = 100 := rfl
    rw [f_X6_free_L49, if_neg (show ¬ (1 : Int32) = 0 by decide), em, frl_s]
    have stop0 : ∀ {K : Int32 → Sg → Int32 × Sg}, (∀ g : Int32, g = 0 → K g w = f_X6_free_L49 p0 (k' + 1) w (nI acc.length) next 0) → ∃ w' : Sg, f_X6_free_L78 p0 (nI acc.length) next K 101 w 0 0 = (fan acc p0, w') ∧ w'.2 = w.2 ∧ ∀ q, q ≠ 44 → w'.1 q = w.1 q := by
      intro K hK
      obtain ⟨g, g1, g2⟩ := fr_in (p0 := p0) (many := nI acc.length) (next := next) (K := K) ⟨by omega, by omega⟩ 101 w 0 0 (by decide) (by decide)
      rw [g1, hK g (g2.mpr (Or.inl rfl))]
      exact stop
    by_cases n0 : next ≤ 0
    · rw [if_pos n0, if_neg (fun x => by
        have := x.1.1
        simp only [Int64.le_iff_toInt_le] at n0
        omega)]
      exact stop0 (fun g hg => by rw [if_pos hg])
    · rw [if_neg n0]
      by_cases n1 : (100 : Int64) ≤ next
      · rw [if_pos n1, if_neg (fun x => by
          have := x.1.2
          simp only [Int64.le_iff_toInt_le] at n1
          omega)]
        exact stop0 (fun g hg => by rw [if_pos hg])
      · rw [if_neg n1]
        have hn := fo_n0 n0 n1
        obtain ⟨t1, t2⟩ := t32 (a := next) ⟨by omega, by omega⟩
        have hmem : (∃ j, (0 : Int32).toInt.toNat ≤ j ∧ j < (nI acc.length).toInt.toNat ∧ (w.1 44 j).toInt64 = next) ↔ next.toInt32 ∈ acc := by
          constructor
          · rintro ⟨j, -, j2, j3⟩
            have hj : j < acc.length := by rw [hmI] at j2; omega
            have e : next.toInt32 = w.1 44 j := by rw [← j3, Int32.toInt32_toInt64]
            rw [e]
            exact List.mem_of_getElem? (hacc j hj)
          · intro hx
            obtain ⟨j, hj⟩ := List.getElem?_of_mem hx
            have hlt : j < acc.length := (List.getElem?_eq_some_iff.mp hj).1
            have e := hacc j hlt
            rw [hj] at e
            have e2 : next.toInt32 = w.1 44 j := Option.some.inj e
            refine ⟨j, Nat.zero_le _, by rw [hmI]; omega, ?_⟩
            apply Int64.toInt_inj.mp
            rw [← e2, i_2l, l2i_small (by omega) (by omega)]
        obtain ⟨g, g1, g2⟩ := fr_in (p0 := p0) (many := nI acc.length) (next := next) (K := fun goes2 w2 =>
              if goes2 = 0 then
                f_X6_free_L49 p0 (k' + 1) w2 (nI acc.length) next 0
              else
                if (w2.1 36 (((next : Int64).toInt32).toNatClampNeg)) = 1 then
                  f_X6_free_L49 p0 (k' + 1) (uI w2 44 (nI acc.length).toNatClampNeg ((next : Int64).toInt32)) (nI acc.length + 1) (w2.2.1 37 (((next : Int64).toInt32).toNatClampNeg)) 1
                else
                  f_X6_free_L49 p0 (k' + 1) w2 (nI acc.length) next 0) ⟨by omega, by omega⟩ 101 w 1 0 (by decide) (by decide)
        rw [g1]
        by_cases gz : g = 0
        · rw [if_pos gz]
          have : next.toInt32 ∈ acc := by
            rcases g2.mp gz with x | x
            · exact absurd x (by decide)
            · exact hmem.mp x
          rw [if_neg (fun x => x.2.2 this)]
          exact stop
        · rw [if_neg gz, t2, h36]
          have hnm : next.toInt32 ∉ acc := fun x => gz (g2.mpr (Or.inr (hmem.mpr x)))
          by_cases w1 : kd next.toInt.toNat = 1
          · rw [if_pos w1, if_pos ⟨hn, w1, hnm⟩, h37, nI_clamp (by omega), nI_1]
            have hF2 := fo_add (n := next) hF ⟨hn, fun j hj e => hnm (hmem.mp ⟨j, Nat.zero_le _, hj, e⟩)⟩
            rw [nI_clamp (by omega), nI_1] at hF2
            have hlen : (acc ++ [next.toInt32]).length = acc.length + 1 := by rw [List.length_append]; rfl
            have hh := ih (uI w 44 acc.length next.toInt32) (pl next.toInt.toNat) (acc ++ [next.toInt32]) (by rw [hlen]; exact hF2) (by rw [hlen]; omega) (fun j hj => by
              rw [hlen] at hj
              show (acc ++ [next.toInt32])[j]? = some (upd (w.1 44) acc.length next.toInt32 j)
              by_cases e : j = acc.length
              · rw [e, upd_eq]; simp
              · rw [upd_ne e, List.getElem?_append_left (by omega)]
                exact hacc j (by omega)) (by rw [hlen]; exact hk1) h36 h37
            rw [hlen, hk2] at hh
            obtain ⟨w', a, b, c⟩ := hh
            exact ⟨w', a, b, fun q hq => by rw [c q hq, uI_r hq]⟩
          · rw [if_neg w1, if_neg (fun x => w1 x.2.1)]
            exact stop
theorem sim_free {S : Nat} {z w : Sg} (h : q_I S z w) (p0 : Int32) : ∃ w' : Sg, f_X6_free w p0 = ((f_X5_free z p0).2, w') ∧ w'.1 19 0 = (if (f_X5_free z p0).1 = 0 then 0 else 1) ∧ w'.2 = w.2 ∧ (∀ q, q ≠ 44 → q ≠ 19 → w'.1 q = w.1 q) ∧ ∀ k, k ≠ 0 → w'.1 19 k = w.1 19 k := by
  have hK : q_K z w := h.2.2.2.2.1
  have hF : q_F z := h.2.2.2.2.2.2.2
  have e1 : (-1 : Int32).toInt = -1 := rfl
  unfold f_X6_free f_X5_free
  by_cases a : p0 < -1
  · have a2 : ¬ (-1 : Int32) ≤ p0 := by
      simp only [Int32.lt_iff_toInt_lt, Int32.le_iff_toInt_le] at a ⊢; omega
    rw [if_pos a, if_neg a2]
    exact ⟨uI w 19 0 1, rfl, rfl, rfl, fun q _ hq => uI_r hq, fun k hk => by rw [uI_s, upd_ne hk]⟩
  · have a2 : (-1 : Int32) ≤ p0 := by
      simp only [Int32.lt_iff_toInt_lt, Int32.le_iff_toInt_le] at a ⊢; omega
    have ez : (0 : Int32).toNatClampNeg = 0 := rfl
    rw [if_neg a, if_pos a2, ez]
    have hlr : (frs (z.1 8) (z.2.1 9)).length ≤ 100 := by
      have := h.1.1.2.2.2.2.1.2
      have := hF.1
      omega
    have hfan : fan (frs (z.1 8) (z.2.1 9)) p0 = (if p0 = -1 then ((0 : Nat), (z.1 6 12)) else if (z.1 6 12) ≤ p0 then (0, (-1)) else (0, (z.1 15 p0.toNatClampNeg))).2 ∧ (if p0 = -1 then ((0 : Nat), (z.1 6 12)) else if (z.1 6 12) ≤ p0 then (0, (-1)) else (0, (z.1 15 p0.toNatClampNeg))).1 = 0 := by
      have hn : nI (frs (z.1 8) (z.2.1 9)).length = z.1 6 12 := by
        apply Int32.toInt_inj.mp
        rw [nI_toInt (by omega), hF.1]
      unfold fan
      rw [hn]
      by_cases b : p0 = -1
      · rw [if_pos b, if_pos b]; exact ⟨rfl, rfl⟩
      · rw [if_neg b, if_neg b]
        by_cases d : z.1 6 12 ≤ p0
        · rw [if_pos d, if_pos d]; exact ⟨rfl, rfl⟩
        · rw [if_neg d, if_neg d]
          refine ⟨?_, rfl⟩
          rw [← Int32.toInt_inj] at b
          simp only [Int32.lt_iff_toInt_lt] at a
          simp only [Int32.le_iff_toInt_le] at d
          have := hF.1
          rw [hF.2 p0.toNatClampNeg (by rw [clampEq]; omega)]
          rfl
    have key : ∀ n : Int64, ∃ w' : Sg, f_X6_free_L49 p0 101 (uI w 19 0 0) 0 n 1 = (fan (frl (w.1 36) (w.2.1 37) 100 [] n) p0, w') ∧ w'.2 = w.2 ∧ ∀ q, q ≠ 44 → w'.1 q = (uI w 19 0 0).1 q := fun n =>
      fr_out (kd := w.1 36) (pl := w.2.1 37) a 101 (uI w 19 0 0) n [] ⟨by decide, fun i hi => absurd hi (Nat.not_lt_zero _), fun i j _ hj => absurd hj (Nat.not_lt_zero _)⟩ (by decide) (fun j hj => absurd hj (Nat.not_lt_zero _)) (by decide) rfl rfl
    have hn : frs (z.1 8) (z.2.1 9) = frl (w.1 36) (w.2.1 37) 100 [] (if w.1 36 0 = 1 then w.2.1 37 0 else 0) := by
      unfold frs
      rw [hK.1, hK.2.1]
    obtain ⟨w', k1, k2, k3⟩ := key (if w.1 36 0 = 1 then w.2.1 37 0 else 0)
    rw [← hn, hfan.1] at k1
    refine ⟨w', ?_, ?_, k2, fun q hq hq2 => ?_, fun k hk => ?_⟩
    · rw [← k1]
      split <;> rfl
    · rw [hfan.2, if_pos rfl, k3 19 (by decide)]; rfl
    · rw [k3 q hq, uI_r hq2]
    · rw [k3 19 (by decide), uI_s, upd_ne hk]
/-! revisions -/
def z_0 : Sg := (fun _ _ => 0, fun _ _ => 0, fun _ _ => none)
theorem bc_all : (List.range 4096).all (fun t => f_J6_bitCount_0f7a4 z_0 (nI t) == nI (cnt t 12)) = true := by decide +kernel
theorem bc_eq {z : Sg} {t : Nat} (h : t < 4096) : f_J6_bitCount_0f7a4 z (nI t) = nI (cnt t 12) := by
  have h1 := List.all_eq_true.mp bc_all t (List.mem_range.mpr h)
  have h2 : f_J6_bitCount_0f7a4 z_0 (nI t) = nI (cnt t 12) := by simpa using h1
  exact h2
theorem sh_am : ∀ p, p < 12 → ((nI p &&& 31).toBitVec.smod 32).toNat = p := by decide +kernel
theorem bt_iff {t p : Nat} (ht : t < 4096) (hp : p < 12) : (nI t >>> (nI p &&& 31)) &&& 1 = 1 ↔ t.testBit p = true := by
  have hm : (BitVec.ofNat 32 t).msb = false := by
    rw [BitVec.msb_eq_false_iff_two_mul_lt, BitVec.toNat_ofNat]
    omega
  have e : ((nI t >>> (nI p &&& 31)) &&& 1).toBitVec = (BitVec.ofNat 32 t >>> p) &&& 1#32 := by
    show ((BitVec.ofNat 32 t).sshiftRight ((nI p &&& 31).toBitVec.smod 32).toNat) &&& 1#32 = _
    rw [sh_am p hp, BitVec.sshiftRight_eq_of_msb_false hm]
  have e2 : ((nI t >>> (nI p &&& 31)) &&& 1).toBitVec.toNat = t / 2 ^ p % 2 := by
    rw [e, BitVec.toNat_and, BitVec.toNat_ushiftRight, BitVec.toNat_ofNat, Nat.mod_eq_of_lt (by omega), Nat.shiftRight_eq_div_pow]
    show t / 2 ^ p &&& 1 = _
    rw [Nat.and_one_is_mod]
  rw [Nat.testBit_eq_decide_div_mod_eq, decide_eq_true_iff, ← e2, ← Int32.toBitVec_inj, ← BitVec.toNat_inj]
  exact Iff.rfl
theorem te_L {S : Nat} {z w : Sg} (h : q_I S z w) {o p1 : Int32} (ho : 0 ≤ o.toInt ∧ o.toInt < (100 : Nat)) (hp : 0 ≤ p1.toInt) : ∀ (k i : Nat), i ≤ 12 → 12 - i < k → cnt (z.1 11 o.toNatClampNeg).toInt.toNat i ≤ p1.toInt.toNat → f_X1_tellerOf_L15 z o p1 k (nI (cnt (z.1 11 o.toNatClampNeg).toInt.toNat i)) (nI i) = if w.1 39 o.toNatClampNeg ≤ p1 then -1 else w.1 40 ((12 * o) + p1).toNatClampNeg := by
  have hZ := h.2.2.2.2.2.2.1
  have hR : q_r (z.1 6 1).toInt.toNat (z.1 11) (w.1 39) (w.1 40) (w.1 35) := hZ.2.2.1
  have hlen := hZ.2.1.1
  have hb := h.1.1.2.2.1
  have hoc : o.toNatClampNeg < 100 := by rw [clampEq]; omega
  obtain ⟨r1, r2, r3⟩ := hR _ hoc
  have rt := q_r_t hR hoc
  have h12 := q_12 h
  have hL12 : (z.1 6 1).toInt.toNat ≤ 12 := by omega
  have ht : (z.1 11 o.toNatClampNeg).toInt.toNat < 4096 := Nat.lt_of_lt_of_le rt (show 2 ^ (z.1 6 1).toInt.toNat ≤ 2 ^ 12 from Nat.pow_le_pow_right (by decide) hL12)
  have hnI : z.1 11 o.toNatClampNeg = nI (z.1 11 o.toNatClampNeg).toInt.toNat := nI_tn r1.1
  have hl1 : z.1 6 1 = nI (z.1 6 1).toInt.toNat := nI_tn hb.1
  intro k
  induction k with
  | zero => intro i _ g; omega
  | succ k ih =>
    intro i hi hk hle
    rw [f_X1_tellerOf_L15]
    have hcl := cnt_le (z.1 11 o.toNatClampNeg).toInt.toNat (z.1 6 1).toInt.toNat
    by_cases g : (z.1 6 1).toInt.toNat ≤ i
    · have g1 : z.1 6 1 ≤ nI i := by
        simp only [Int32.le_iff_toInt_le]; rw [nI_toInt (by omega)]; omega
      have hm := cnt_mono (t := (z.1 11 o.toNatClampNeg).toInt.toNat) g
      rw [if_pos g1, if_pos (show w.1 39 o.toNatClampNeg ≤ p1 by simp only [Int32.le_iff_toInt_le]; omega)]
    · have g1 : ¬ z.1 6 1 ≤ nI i := by
        simp only [Int32.le_iff_toInt_le]; rw [nI_toInt (by omega)]; omega
      rw [if_neg g1, nI_clamp (show i < 2 ^ 31 by omega)]
      obtain ⟨c, c1, c2, c3⟩ := hZ.2.1.2 i (by omega)
      rw [c2]
      dsimp only
      have hcs := cnt_s (z.1 11 o.toNatClampNeg).toInt.toNat i
      have hci := cnt_le (z.1 11 o.toNatClampNeg).toInt.toNat i
      have hbt := bt_iff (t := (z.1 11 o.toNatClampNeg).toInt.toNat) (p := i) ht (by omega)
      rw [← hnI] at hbt
      rw [nI_1 i, nI_1]
      by_cases b : (z.1 11 o.toNatClampNeg).toInt.toNat.testBit i = true
      · rw [if_pos (hbt.mpr b)]
        rw [b] at hcs
        have hcs' : cnt (z.1 11 o.toNatClampNeg).toInt.toNat (i + 1) = cnt (z.1 11 o.toNatClampNeg).toInt.toNat i + 1 := hcs
        by_cases e : nI (cnt (z.1 11 o.toNatClampNeg).toInt.toNat i) = p1
        · rw [if_pos e]
          have e2 : p1.toInt = (cnt (z.1 11 o.toNatClampNeg).toInt.toNat i : Nat) := by rw [← e, nI_toInt (by omega)]
          have hm := cnt_lt (show i < (z.1 6 1).toInt.toNat by omega) b
          rw [if_neg (show ¬ w.1 39 o.toNatClampNeg ≤ p1 by simp only [Int32.le_iff_toInt_le]; omega), rvx1 ho ⟨hp, by omega⟩, e2, Int.toNat_natCast, r3 i (by omega) b, c3, (k_Is h.1.1 c1).1]
        · rw [if_neg e, ← hcs']
          refine ih (i + 1) (by omega) (by omega) ?_
          have : ¬ p1.toInt.toNat = cnt (z.1 11 o.toNatClampNeg).toInt.toNat i := fun x => e (by
            apply Int32.toInt_inj.mp
            rw [nI_toInt (by omega)]; omega)
          omega
      · have b' : (z.1 11 o.toNatClampNeg).toInt.toNat.testBit i = false := by simpa using b
        rw [if_neg (fun x => b (hbt.mp x))]
        rw [b'] at hcs
        have hcs' : cnt (z.1 11 o.toNatClampNeg).toInt.toNat (i + 1) = cnt (z.1 11 o.toNatClampNeg).toInt.toNat i := hcs
        rw [← hcs']
        exact ih (i + 1) (by omega) (by omega) (by omega)
theorem sim_revision {S : Nat} {z w : Sg} (h : q_I S z w) (p0 p1 : Int32) : f_X6_revision w p0 p1 = ((f_X5_revision z p0 p1).2, uI w 19 0 (if (f_X5_revision z p0 p1).1 = 0 then 0 else 1)) := by
  have e1 : (-1 : Int32).toInt = -1 := rfl
  unfold f_X6_revision f_X5_revision
  rcases obj_cases z w p0 with ⟨h1, h2⟩ | ⟨h1, h2, h3⟩
  · rw [if_pos h1, if_pos h2]; rfl
  · rw [if_neg h1, if_neg h2]
    by_cases a : p1 < -1
    · rw [if_pos a, if_neg (show ¬ (-1 : Int32) ≤ p1 by simp only [Int32.lt_iff_toInt_lt, Int32.le_iff_toInt_le] at a ⊢; omega)]; rfl
    · rw [if_neg a, if_pos (show (-1 : Int32) ≤ p1 by simp only [Int32.lt_iff_toInt_lt, Int32.le_iff_toInt_le] at a ⊢; omega)]
      have hZ := h.2.2.2.2.2.2.1
      have hR : q_r (z.1 6 1).toInt.toNat (z.1 11) (w.1 39) (w.1 40) (w.1 35) := hZ.2.2.1
      have hb := h.1.1.2.2.1
      have hoc : p0.toNatClampNeg < 100 := by rw [clampEq]; omega
      obtain ⟨r1, r2, r3⟩ := hR _ hoc
      have rt := q_r_t hR hoc
      have hL12 : (z.1 6 1).toInt.toNat ≤ 12 := by omega
      have ht : (z.1 11 p0.toNatClampNeg).toInt.toNat < 4096 := Nat.lt_of_lt_of_le rt (show 2 ^ (z.1 6 1).toInt.toNat ≤ 2 ^ 12 from Nat.pow_le_pow_right (by decide) hL12)
      by_cases b : p1 = -1
      · rw [if_pos b, if_pos b]
        have hc : f_X1_countTellers z p0 = w.1 39 p0.toNatClampNeg := by
          unfold f_X1_countTellers
          rw [if_neg h1, nI_tn r1.1, bc_eq ht]
          apply Int32.toInt_inj.mp
          have hcl := cnt_le (z.1 11 p0.toNatClampNeg).toInt.toNat 12
          rw [nI_toInt (by omega), r2, ← cnt_hi rt (12 - (z.1 6 1).toInt.toNat), show (z.1 6 1).toInt.toNat + (12 - (z.1 6 1).toInt.toNat) = 12 by omega]
        rw [hc]; rfl
      · rw [if_neg b, if_neg b]
        have hp : 0 ≤ p1.toInt := by
          rw [← Int32.toInt_inj] at b
          simp only [Int32.lt_iff_toInt_lt] at a
          omega
        have ht2 : f_X1_tellerOf z p0 p1 = if w.1 39 p0.toNatClampNeg ≤ p1 then -1 else w.1 40 ((12 * p0) + p1).toNatClampNeg := by
          unfold f_X1_tellerOf
          rw [if_neg h1]
          exact te_L h h3 hp 13 0 (by decide) (by decide) (Nat.zero_le _)
        rw [ht2]
        by_cases d : w.1 39 p0.toNatClampNeg ≤ p1
        · rw [if_pos d, if_pos d]; rfl
        · rw [if_neg d, if_neg d]; rfl
