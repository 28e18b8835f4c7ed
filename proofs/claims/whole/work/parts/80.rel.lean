/-! ===== class and reference: the relation between the class's rows of z and the reference's rows of w ===== -/
theorem uIa (z : Sg) (r k : Nat) (x : Int32) (q j : Nat) : (uI z r k x).1 q j = if q = r then (if j = k then x else z.1 r j) else z.1 q j := by
  show va_up z.1 r (upd (z.1 r) k x) q j = _
  unfold va_up upd
  split <;> rfl
theorem uJa (z : Sg) (r k : Nat) (x : Int64) (q j : Nat) : (uJ z r k x).2.1 q j = if q = r then (if j = k then x else z.2.1 r j) else z.2.1 q j := by
  show va_up z.2.1 r (vp_updL (z.2.1 r) k x) q j = _
  unfold va_up vp_updL
  split <;> rfl
theorem uI2 (z : Sg) (r k : Nat) (x : Int32) : (uI z r k x).2 = z.2 := rfl
theorem uJ1 (z : Sg) (r k : Nat) (x : Int64) : (uJ z r k x).1 = z.1 := rfl
theorem uJ2 (z : Sg) (r k : Nat) (x : Int64) : (uJ z r k x).2.2 = z.2.2 := rfl
/-- one section -/
def q_s (z w : Sg) (c : Nat) : Prop :=
  z.1 (46 + 6 * c) 1 = w.1 20 c ∧ z.2.1 (46 + 6 * c) 2 = w.2.1 21 c ∧ z.2.1 (46 + 6 * c) 3 = w.2.1 22 c ∧ z.2.1 (46 + 6 * c) 4 = w.2.1 23 c ∧ z.1 (46 + 6 * c) 6 = w.1 24 c ∧
  (z.1 (46 + 6 * c) 7 = w.1 26 (3 * c) ∧ z.1 (46 + 6 * c) 8 = w.1 26 (3 * c + 1) ∧ z.1 (46 + 6 * c) 9 = w.1 26 (3 * c + 2)) ∧ z.1 (46 + 6 * c) 12 = w.1 27 c ∧
  (∀ k, k < 300 → z.1 (46 + 6 * c + 1) k = w.1 25 (300 * c + k)) ∧ (∀ k, k < 6 → z.1 (46 + 6 * c + 2) k = w.1 28 (6 * c + k)) ∧ (∀ k, k < 6 → z.1 (46 + 6 * c + 3) k = w.1 29 (6 * c + k)) ∧
  (∀ k, k < 10 → z.1 (46 + 6 * c + 4) k = w.1 31 (10 * c + k)) ∧ (∀ k, k < 10 → z.1 (46 + 6 * c + 5) k = w.1 30 (10 * c + k))
/-- a place where no section is yet -/
def q_n (w : Sg) (c : Nat) : Prop := w.1 24 c = 0 ∧ w.1 27 c = 0 ∧ (∀ k, k < 300 → w.1 25 (300 * c + k) = 0) ∧ (∀ k, k < 6 → w.1 28 (6 * c + k) = 0 ∧ w.1 29 (6 * c + k) = 0) ∧ (∀ k, k < 10 → w.1 30 (10 * c + k) = 0 ∧ w.1 31 (10 * c + k) = 0)
def q_S (S : Nat) (z w : Sg) : Prop := z.1 0 1 = w.1 19 1 ∧ (∀ c, c < S → q_s z w c) ∧ ∀ c, S ≤ c → c < 12 → q_n w c
def q_H (z w : Sg) : Prop := z.1 2 3 = w.1 19 14 ∧ z.2.1 3 = w.2.1 32 ∧ z.1 4 = w.1 33 ∧ z.1 5 = w.1 34
def q_K (z w : Sg) : Prop := z.1 8 = w.1 36 ∧ z.2.1 9 = w.2.1 37 ∧ z.2.1 10 = w.2.1 38
def q_T (z w : Sg) : Prop := z.1 6 9 = w.1 19 25 ∧ z.1 12 = w.1 41 ∧ z.1 13 = w.1 42 ∧ z.2.1 14 = w.2.1 43
/-- the first L of the chain -/
def q_C (S L : Nat) (z w : Sg) : Prop := (z.1 6 1).toInt = L ∧ ∀ i, i < L → ∃ c, c < S ∧ z.2.2 7 i = some c ∧ w.1 35 i = nI c
/-- how many of the bits below p are set -/
def cnt (t : Nat) : Nat → Nat
  | 0 => 0
  | p + 1 => cnt t p + if t.testBit p then 1 else 0
/-- which sections tell of an object: a bit for each, or a list of them -/
def q_R (L : Nat) (z w : Sg) : Prop := ∀ o, o < 100 → (0 ≤ (z.1 11 o).toInt ∧ (z.1 11 o).toInt < 2 ^ L) ∧ (w.1 39 o).toInt = cnt (z.1 11 o).toInt.toNat L ∧ ∀ p, p < L → (z.1 11 o).toInt.toNat.testBit p = true → w.1 40 (12 * o + cnt (z.1 11 o).toInt.toNat p) = w.1 35 p
/-- the list of free ones, from what is known of the objects -/
def frl (kd : Nat → Int32) (pl : Nat → Int64) : Nat → List Int32 → Int64 → List Int32
  | 0, acc, _ => acc
  | k + 1, acc, n => if (0 < n.toInt ∧ n.toInt < 100) ∧ kd n.toInt.toNat = 1 ∧ n.toInt32 ∉ acc then frl kd pl k (acc ++ [n.toInt32]) (pl n.toInt.toNat) else acc
def frs (kd : Nat → Int32) (pl : Nat → Int64) : List Int32 := frl kd pl 100 [] (if kd 0 = 1 then pl 0 else 0)
def q_F (z : Sg) : Prop := (z.1 6 12).toInt = (frs (z.1 8) (z.2.1 9)).length ∧ ∀ i, i < (frs (z.1 8) (z.2.1 9)).length → (frs (z.1 8) (z.2.1 9))[i]? = some (z.1 15 i)
/-- the class alone -/
def q_y (z : Sg) (c : Nat) : Prop := (∀ k, k < 10 → z.1 (46 + 6 * c + 5) k = 0 → z.1 (46 + 6 * c + 4) k = 0) ∧ -1 ≤ (z.2.1 (46 + 6 * c) 3).toInt ∧ -1 ≤ (z.2.1 (46 + 6 * c) 4).toInt ∧ (¬ z.1 (46 + 6 * c) 1 = 0 → z.2.1 (46 + 6 * c) 4 = -1) ∧ (0 ≤ (z.1 (46 + 6 * c) 7).toInt ∧ (z.1 (46 + 6 * c) 7).toInt ≤ 4) ∧ (0 ≤ (z.1 (46 + 6 * c) 8).toInt ∧ (z.1 (46 + 6 * c) 8).toInt ≤ 4) ∧ (0 ≤ (z.1 (46 + 6 * c) 9).toInt ∧ (z.1 (46 + 6 * c) 9).toInt ≤ 4)
def q_Y (S : Nat) (z : Sg) : Prop := (∀ c, c < S → q_y z c) ∧ (∀ k, k < (z.1 2 3).toInt.toNat → 0 ≤ (z.2.1 3 k).toInt) ∧ ∀ o, 0 ≤ (z.1 8 o).toInt ∧ (z.1 8 o).toInt ≤ 4
/-- all but the sections -/
def q_Z (S : Nat) (z w : Sg) : Prop := q_H z w ∧ q_K z w ∧ q_T z w ∧ (z.1 6 1 = w.1 19 18 ∧ q_C S (z.1 6 1).toInt.toNat z w ∧ q_R (z.1 6 1).toInt.toNat z w ∧ k_C S w) ∧ q_F z
def q_I (S : Nat) (z w : Sg) : Prop := (k_I S z ∧ k_O S z ∧ q_Y S z) ∧ (k_J S w ∧ k_V w) ∧ q_S S z w ∧ q_Z S z w
/-- rows of the class are the same -/
def cls (z z' : Sg) : Prop := (∀ r, r < 19 ∨ 46 ≤ r → z'.1 r = z.1 r ∧ z'.2.1 r = z.2.1 r) ∧ z'.2.2 = z.2.2
/-- rows of the reference are the same -/
def rfs (w w' : Sg) : Prop := ∀ r, 19 ≤ r → r ≤ 43 → w'.1 r = w.1 r ∧ w'.2.1 r = w.2.1 r
theorem q_I_of {S : Nat} {z z' w w' : Sg} (hz : cls z z') (hw : rfs w w') (h : q_I S z w) : q_I S z' w' := by
  have hc : ∀ r, r < 19 ∨ 46 ≤ r → z'.1 r = z.1 r := fun r h => (hz.1 r h).1
  have hj : ∀ r, r < 19 ∨ 46 ≤ r → z'.2.1 r = z.2.1 r := fun r h => (hz.1 r h).2
  have ho := hz.2
  have mi : ∀ r, 19 ≤ r → r ≤ 43 → w'.1 r = w.1 r := fun r a b => (hw r a b).1
  have mj : ∀ r, 19 ≤ r → r ≤ 43 → w'.2.1 r = w.2.1 r := fun r a b => (hw r a b).2
  obtain ⟨⟨h1, h2, h3⟩, ⟨h4, h5⟩, h6, h7⟩ := h
  refine ⟨⟨?_, ?_, ?_⟩, ⟨?_, ?_⟩, ?_, ?_⟩
  · refine k_I_of h1 (fun q hq => hc q (by omega)) ?_ ?_ ?_ (by rw [ho]) (by rw [ho]; exact h1.2.2.2.2.2.2.1) (by rw [ho]; exact h1.2.2.2.2.2.2.2.1) ?_
    · rw [hc 6 (by omega)]; exact h1.2.2.1
    · rw [hc 6 (by omega)]; exact h1.2.2.2.1
    · rw [hc 6 (by omega)]; exact h1.2.2.2.2.1
    · unfold k_T; rw [hc 18 (by omega)]; exact k_IT h1
  · intro r i c; rw [ho]; exact h2 r i c
  · refine ⟨fun c hcS => ?_, ?_, ?_⟩
    · unfold q_y
      rw [hc (46 + 6 * c + 5) (by omega), hc (46 + 6 * c + 4) (by omega), hc (46 + 6 * c) (by omega), hj (46 + 6 * c) (by omega)]
      exact h3.1 c hcS
    · rw [hc 2 (by omega), hj 3 (by omega)]; exact h3.2.1
    · rw [hc 8 (by omega)]; exact h3.2.2
  · exact k_J_of h4 (mi 19 (by decide) (by decide)) (mi 24 (by decide) (by decide)) (mi 25 (by decide) (by decide)) (mi 27 (by decide) (by decide)) (mi 35 (by decide) (by decide)) (mi 39 (by decide) (by decide))
  · unfold k_V
    rw [mi 26 (by decide) (by decide), mi 28 (by decide) (by decide), mi 29 (by decide) (by decide)]
    exact h5
  · refine ⟨?_, fun c hcS => ?_, fun c a b => ?_⟩
    · rw [hc 0 (by omega), mi 19 (by decide) (by decide)]; exact h6.1
    · unfold q_s
      rw [hc (46 + 6 * c) (by omega), hc (46 + 6 * c + 1) (by omega), hc (46 + 6 * c + 2) (by omega), hc (46 + 6 * c + 3) (by omega), hc (46 + 6 * c + 4) (by omega), hc (46 + 6 * c + 5) (by omega), hj (46 + 6 * c) (by omega), mi 20 (by decide) (by decide), mi 24 (by decide) (by decide), mi 25 (by decide) (by decide), mi 26 (by decide) (by decide), mi 27 (by decide) (by decide), mi 28 (by decide) (by decide), mi 29 (by decide) (by decide), mi 30 (by decide) (by decide), mi 31 (by decide) (by decide), mj 21 (by decide) (by decide), mj 22 (by decide) (by decide), mj 23 (by decide) (by decide)]
      exact h6.2.1 c hcS
    · unfold q_n
      rw [mi 24 (by decide) (by decide), mi 25 (by decide) (by decide), mi 27 (by decide) (by decide), mi 28 (by decide) (by decide), mi 29 (by decide) (by decide), mi 30 (by decide) (by decide), mi 31 (by decide) (by decide)]
      exact h6.2.2 c a b
  · unfold q_Z q_H q_K q_T q_C q_R q_F k_C
    rw [ho, hc 2 (by omega), hc 4 (by omega), hc 5 (by omega), hc 6 (by omega), hc 8 (by omega), hc 11 (by omega), hc 12 (by omega), hc 13 (by omega), hc 15 (by omega), hj 3 (by omega), hj 9 (by omega), hj 10 (by omega), hj 14 (by omega), mi 19 (by decide) (by decide), mi 33 (by decide) (by decide), mi 34 (by decide) (by decide), mi 35 (by decide) (by decide), mi 36 (by decide) (by decide), mi 39 (by decide) (by decide), mi 40 (by decide) (by decide), mi 41 (by decide) (by decide), mi 42 (by decide) (by decide), mj 32 (by decide) (by decide), mj 37 (by decide) (by decide), mj 38 (by decide) (by decide), mj 43 (by decide) (by decide)]
    exact h7
theorem cls.rf {z : Sg} : cls z z := ⟨fun _ _ => ⟨rfl, rfl⟩, rfl⟩
theorem rfs.rf {z : Sg} : rfs z z := fun _ _ _ => ⟨rfl, rfl⟩
theorem cls_uI {z w : Sg} {r k : Nat} {x : Int32} (hr : 19 ≤ r ∧ r ≤ 45) (h : cls z w) : cls z (uI w r k x) := ⟨fun q hq => ⟨(uI_r (by omega)).trans (h.1 q hq).1, (h.1 q hq).2⟩, h.2⟩
theorem cls_uJ {z w : Sg} {r k : Nat} {x : Int64} (hr : 19 ≤ r ∧ r ≤ 45) (h : cls z w) : cls z (uJ w r k x) := ⟨fun q hq => ⟨(h.1 q hq).1, (uJ_r (by omega)).trans (h.1 q hq).2⟩, h.2⟩
theorem rfs_uI {z w : Sg} {r k : Nat} {x : Int32} (hr : r < 19 ∨ 44 ≤ r) (h : rfs z w) : rfs z (uI w r k x) := fun q a b => ⟨(uI_r (by omega)).trans (h q a b).1, (h q a b).2⟩
theorem rfs_uJ {z w : Sg} {r k : Nat} {x : Int64} (hr : r < 19 ∨ 44 ≤ r) (h : rfs z w) : rfs z (uJ w r k x) := fun q a b => ⟨(h q a b).1, (uJ_r (by omega)).trans (h q a b).2⟩
theorem rfs_uO {z w : Sg} {r k : Nat} {x : Option Nat} (h : rfs z w) : rfs z (uO w r k x) := h
/-- the step of the law: the class's call, then the reference's -/
theorem q_step {S S' : Nat} {z zc zm : Sg} (h : q_I S z z) (hc : rfs z zc) (hs : q_I S z zc → q_I S' zc zm) (hm : cls zc zm) : k_J S zc ∧ k_V zc ∧ q_I S' zm zm := by
  have h1 : q_I S z zc := q_I_of cls.rf hc h
  exact ⟨h1.2.1.1, h1.2.1.2, q_I_of hm rfs.rf (hs h1)⟩
