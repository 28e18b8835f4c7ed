section KM
variable {p : Program} {l : Launch} {e : Env} {R : Room} {s : State} {m : MethodId} {args : Array Value} {below : List Frame} {meth : Method} {c : Code} {H : Heap} {locs : List Loc} {cells slots : Nat} {Q : State → Prop}
variable {cc : ByteArray} {pc : Nat} {ls : Array Slot} {rest st0 : List Value} {E : Ev} {n : Nat} {z z0 : Sg} {A : Nat → Prop}
theorem k_acmp_ne (hexec : p.tables.exec = Jvm.exec) (hb : c.code = cc) {c1 c2 : Nat} (h1 : 46 + 6 * c1 < n) (h2 : 46 + 6 * c2 < n) (hW : k_W E n z A s H locs) {off : Int} {tgt : Nat} (hdg : decode cc pc = .ok (.if_acmp .ne off, 3)) (ht : (pc : Int) + off = (tgt : Int))
    (kt : ¬ c1 = c2 → W p l e R s m args below meth c H locs cells slots Q (F0 m tgt ls rest)) (kf : c1 = c2 → W p l e R s m args below meth c H locs cells slots Q (F0 m (pc + 3) ls rest)) : W p l e R s m args below meth c H locs cells slots Q (F0 m pc ls (.ref (E.2.2 (46 + 6 * c2)) :: .ref (E.2.2 (46 + 6 * c1)) :: rest)) := by
  refine lv_acmp_ne (rx := some (E.2.2 (46 + 6 * c1))) (ry := some (E.2.2 (46 + 6 * c2))) hexec hb hdg ht (fun h => kt (fun g => h (by rw [g]))) (fun h => kf ?_)
  have e1 := hW.2.1.1 _ _ _ _ (k_wl_at h1 rfl) (k_wl_at h2 rfl) (Option.some.inj h)
  omega
end KM
/-! ===== what always holds of the class's own state ===== -/
def k_IS (z : Sg) (c : Nat) : Prop := z.1 (46 + 6 * c) 0 = nI c ∧ (z.1 (46 + 6 * c) 1 = 0 ∨ z.1 (46 + 6 * c) 1 = 1) ∧ (0 ≤ (z.1 (46 + 6 * c) 6).toInt ∧ (z.1 (46 + 6 * c) 6).toInt ≤ 300) ∧ (0 ≤ (z.1 (46 + 6 * c) 12).toInt ∧ (z.1 (46 + 6 * c) 12).toInt ≤ 6) ∧ (∀ k, (z.1 (46 + 6 * c + 1) k).toInt8.toInt32 = z.1 (46 + 6 * c + 1) k) ∧ (∀ k, (z.1 (46 + 6 * c + 3) k).toInt ≤ 100)
def k_T (z : Sg) : Prop := (0 ≤ (z.1 18 1).toInt ∧ (z.1 18 1).toInt ≤ 300) ∧ 0 ≤ (z.1 18 2).toInt ∧ (z.1 18 2).toInt ≤ 300
def k_I (S : Nat) (z : Sg) : Prop :=
  (S ≤ 12 ∧ (z.1 0 1).toInt = S) ∧
  (0 ≤ (z.1 2 3).toInt ∧ (z.1 2 3).toInt ≤ 60) ∧
  (0 ≤ (z.1 6 1).toInt ∧ (z.1 6 1).toInt ≤ 12) ∧
  (0 ≤ (z.1 6 9).toInt ∧ (z.1 6 9).toInt ≤ 200) ∧
  (0 ≤ (z.1 6 12).toInt ∧ (z.1 6 12).toInt ≤ 100) ∧
  (∀ i, i < S → z.2.2 1 i = some i) ∧
  (∀ i c, z.2.2 7 i = some c → c < S) ∧
  (∀ c, z.2.2 18 0 = some c → c < S) ∧
  (∀ c, c < S → k_IS z c) ∧
  k_T z
theorem vp_cl {x : Int32} {n : Nat} (h : vp_in x n) : x.toNatClampNeg < n := Nat.not_le.mp fun q => h (Or.inr q)
theorem in_clS {x m : Int32} {S : Nat} (h0 : 0 ≤ x.toInt) (h1 : ¬ m ≤ x) (hm : m.toInt = S) : x.toNatClampNeg < S := vp_cl (in_lt h0 h1 hm)
theorem k_I_of {S : Nat} {z w : Sg} (hI : k_I S z) (hi : ∀ q, (q = 0 ∨ q = 2 ∨ 46 ≤ q) → w.1 q = z.1 q) (h1 : 0 ≤ (w.1 6 1).toInt ∧ (w.1 6 1).toInt ≤ 12) (h2 : 0 ≤ (w.1 6 9).toInt ∧ (w.1 6 9).toInt ≤ 200) (h3 : 0 ≤ (w.1 6 12).toInt ∧ (w.1 6 12).toInt ≤ 100) (ho : w.2.2 1 = z.2.2 1) (h7 : ∀ i c, w.2.2 7 i = some c → c < S) (h8 : ∀ c, w.2.2 18 0 = some c → c < S) (hT : k_T w) : k_I S w := by
  obtain ⟨a1, a2, -, -, -, a6, -, -, a9, -⟩ := hI
  refine ⟨by rw [hi 0 (Or.inl rfl)]; exact a1, by rw [hi 2 (Or.inr (Or.inl rfl))]; exact a2, h1, h2, h3, by rw [ho]; exact a6, h7, h8, fun c hc => ?_, hT⟩
  have e1 := hi (46 + 6 * c) (Or.inr (Or.inr (by omega)))
  have e2 := hi (46 + 6 * c + 1) (Or.inr (Or.inr (by omega)))
  have e3 := hi (46 + 6 * c + 3) (Or.inr (Or.inr (by omega)))
  unfold k_IS
  rw [e1, e2, e3]
  exact a9 c hc
/-- of the ints only rows of R have changed, of the references nothing -/
def ag (R : Nat → Prop) (z w : Sg) : Prop := (∀ q, ¬ R q → w.1 q = z.1 q) ∧ w.2.2 = z.2.2
theorem ag.rf {R : Nat → Prop} {z : Sg} : ag R z z := ⟨fun _ _ => rfl, rfl⟩
theorem ag.trans {R : Nat → Prop} {x y w : Sg} (h : ag R x y) (g : ag R y w) : ag R x w := ⟨fun q hq => (g.1 q hq).trans (h.1 q hq), g.2.trans h.2⟩
theorem ag.uI {R : Nat → Prop} {z w : Sg} {r k : Nat} {x : Int32} (h : ag R z w) (hr : R r) : ag R z (uI w r k x) := ⟨fun q hq => (uI_r (q := q) (r := r) (fun e => hq (by rw [e]; exact hr))).trans (h.1 q hq), h.2⟩
theorem ag.uJ {R : Nat → Prop} {z w : Sg} {r k : Nat} {x : Int64} (h : ag R z w) : ag R z (uJ w r k x) := ⟨h.1, h.2⟩
theorem k_I_ag {R : Nat → Prop} {S : Nat} {z w : Sg} (hR : ∀ q, R q → (2 < q ∧ q ≠ 6 ∧ q < 46)) (h : ag R z w) (hT : k_T w) (hI : k_I S z) : k_I S w := by
  have n6 : ¬ R 6 := fun h => (hR 6 h).2.1 rfl
  refine k_I_of hI (fun q hq => h.1 q (fun g => ?_)) (by rw [h.1 6 n6]; exact hI.2.2.1) (by rw [h.1 6 n6]; exact hI.2.2.2.1) (by rw [h.1 6 n6]; exact hI.2.2.2.2.1) (by rw [h.2]) (by rw [h.2]; exact hI.2.2.2.2.2.2.1) (by rw [h.2]; exact hI.2.2.2.2.2.2.2.1) hT
  have := hR q g
  omega
theorem k_IT {S : Nat} {z : Sg} (hI : k_I S z) : k_T z := hI.2.2.2.2.2.2.2.2.2
theorem k_Is {S c : Nat} {z : Sg} (hI : k_I S z) (h : c < S) : k_IS z c := hI.2.2.2.2.2.2.2.2.1 c h
/-- rows of ints that the invariant does not speak of -/
theorem k_I_u {S r k : Nat} {x : Int32} {z : Sg} (hr : 2 < r ∧ r ≠ 6 ∧ r ≠ 18 ∧ r < 46) (hI : k_I S z) : k_I S (uI z r k x) :=
  k_I_ag (R := fun q => q = r) (fun q e => by subst e; exact ⟨hr.1, hr.2.1, hr.2.2.2⟩) (ag.rf.uI rfl) (by unfold k_T; rw [uI_r (show 18 ≠ r from fun e => hr.2.2.1 e.symm)]; exact k_IT hI) hI
theorem k_I_uJ {S r k : Nat} {x : Int64} {z : Sg} (hI : k_I S z) : k_I S (uJ z r k x) := hI
theorem k_I_b {S : Nat} {x : Int32} {z : Sg} (h0 : 0 ≤ x.toInt) (h1 : x.toInt ≤ 300) (hI : k_I S z) : k_I S (uI z 18 1 x) :=
  k_I_ag (R := fun q => q = 18) (fun q e => by subst e; decide) (ag.rf.uI rfl) ⟨⟨h0, h1⟩, (k_IT hI).2⟩ hI
theorem k_I_e {S : Nat} {x : Int32} {z : Sg} (h0 : 0 ≤ x.toInt) (h1 : x.toInt ≤ 300) (hI : k_I S z) : k_I S (uI z 18 2 x) :=
  k_I_ag (R := fun q => q = 18) (fun q e => by subst e; decide) (ag.rf.uI rfl) ⟨(k_IT hI).1, h0, h1⟩ hI
theorem k_I_tab {S c : Nat} {z : Sg} (hc : c < S) (hI : k_I S z) : k_I S (uO z 18 0 (some c)) := by
  refine ⟨hI.1, hI.2.1, hI.2.2.1, hI.2.2.2.1, hI.2.2.2.2.1, hI.2.2.2.2.2.1, hI.2.2.2.2.2.2.1, fun c' h => ?_, hI.2.2.2.2.2.2.2.2⟩
  have h : some c = some c' := h
  cases h
  exact hc
theorem nar_b {v : Int32} (h : v.toInt8.toInt32 = v) : narrow .byte (.int v) = .int v := by
  rw [← h]; exact pk_nb _
theorem in_ge {x m : Int32} {n : Nat} (h0 : ¬ x < 0) (h1 : ¬ m ≤ x) (hm : m.toInt ≤ n) : vp_in x n := by
  refine in_lt3 ?_ h1 hm
  simp only [Int32.lt_iff_toInt_lt] at h0
  have e1 : (0 : Int32).toInt = 0 := rfl
  omega
theorem nn_of {x : Int32} (h0 : ¬ x < 0) : 0 ≤ x.toInt := by
  simp only [Int32.lt_iff_toInt_lt] at h0
  have e1 : (0 : Int32).toInt = 0 := rfl
  omega
theorem in_le1 {x m : Int32} {n : Nat} (h1 : ¬ m ≤ x) (hm : m.toInt ≤ n) : (x + 1).toInt ≤ n := by
  rw [i_add1 h1]
  simp only [Int32.le_iff_toInt_le] at h1
  omega
theorem l2i_small {x : Int64} (h0 : 0 ≤ x.toInt) (h1 : x.toInt < 2 ^ 31) : x.toInt32.toInt = x.toInt := by
  rw [Int64.toInt_toInt32]
  exact Int.bmod_eq_of_le_mul_two (by simp; omega) (by simp; omega)
theorem i_2l (x : Int32) : x.toInt64.toInt = x.toInt := Int32.toInt_toInt64 x
theorem uI_s {z : Sg} {r k : Nat} {x : Int32} : (uI z r k x).1 r = upd (z.1 r) k x := by simp [uI, va_up]
theorem uJ_s {z : Sg} {r k : Nat} {x : Int64} : (uJ z r k x).2.1 r = vp_updL (z.2.1 r) k x := by simp [uJ, va_up]
theorem uO_s {z : Sg} {r k : Nat} {x : Option Nat} : (uO z r k x).2.2 r = va_up (z.2.2 r) k x := by simp [uO, va_up]
theorem in_ltp2 {x m : Int32} {n : Nat} (h0 : ¬ x < 0) (h1 : x < m) (hm : m.toInt ≤ n) : vp_in x n := by
  refine vp_in_iff.mpr ⟨nn_of h0, ?_⟩
  simp only [Int32.lt_iff_toInt_lt] at h1
  omega
theorem in_told {x m : Int32} {n : Nat} (h1 : ¬ x = -1) (h2 : ¬ x < -1) (h3 : x < m) (hm : m.toInt ≤ n) : vp_in x n := by
  simp only [Int32.lt_iff_toInt_lt, ← Int32.toInt_inj] at h1 h2 h3
  have e1 : (-1 : Int32).toInt = -1 := rfl
  refine vp_in_iff.mpr ⟨?_, ?_⟩ <;> omega
