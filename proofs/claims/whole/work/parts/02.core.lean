/-! ===== the world by roles: one memory for the class, the reference and the law's row ===== -/
/-- ints, longs and references of each role, by field or place -/
abbrev Sg : Type := (Nat → Nat → Int32) × (Nat → Nat → Int64) × (Nat → Nat → Option Nat)
/-- class numbers and slots; array classes (0 byte, 1 int, 2 long, 3 boolean, 4 sections); the roles' addresses -/
abbrev Ev : Type := va_G × (Nat → ClassId) × (Nat → Nat)
def uI (z : Sg) (r k : Nat) (x : Int32) : Sg := (va_up z.1 r (upd (z.1 r) k x), z.2.1, z.2.2)
def uJ (z : Sg) (r k : Nat) (x : Int64) : Sg := (z.1, va_up z.2.1 r (vp_updL (z.2.1 r) k x), z.2.2)
def uO (z : Sg) (r k : Nat) (x : Option Nat) : Sg := (z.1, z.2.1, va_up z.2.2 r (va_up (z.2.2 r) k x))
def k_aI (E : Ev) (t n : Nat) (i : Nat → Int32) : va_E := .inl (E.2.1 t, n, .inl i)
def k_aJ (E : Ev) (t n : Nat) (j : Nat → Int64) : va_E := .inl (E.2.1 t, n, .inr (.inl j))
def k_aO (E : Ev) (t n : Nat) (o : Nat → Option Nat) : va_E := .inl (E.2.1 t, n, .inr (.inr (.inr (.inr (fun k => (o k).map (fun c => E.2.2 (46 + 6 * c)))))))
def k_f (E : Ev) (r : Nat) : Value := .ref (E.2.2 r)
def k_o (E : Ev) (o : Option Nat) : Value := va_rf (o.map (fun c => E.2.2 (46 + 6 * c)))
def k_oX5 (E : Ev) (i : Nat → Int32) (j : Nat → Int64) (o : Nat → Option Nat) : List Value := [.ref (E.2.2 1), .int (i 1), .ref (E.2.2 2), .ref (E.2.2 6), .ref (E.2.2 17)]
def k_oX0 (E : Ev) (i : Nat → Int32) (j : Nat → Int64) (o : Nat → Option Nat) : List Value := [.ref (E.2.2 3), .ref (E.2.2 4), .ref (E.2.2 5), .int (i 3)]
def k_oX1 (E : Ev) (i : Nat → Int32) (j : Nat → Int64) (o : Nat → Option Nat) : List Value := [.ref (E.2.2 7), .int (i 1), .ref (E.2.2 8), .ref (E.2.2 9), .ref (E.2.2 10), .ref (E.2.2 11), .ref (E.2.2 12), .ref (E.2.2 13), .ref (E.2.2 14), .int (i 9), .ref (E.2.2 15), .ref (E.2.2 16), .int (i 12)]
def k_oX2 (E : Ev) (i : Nat → Int32) (j : Nat → Int64) (o : Nat → Option Nat) : List Value := [.ref (E.2.2 6), .ref (E.2.2 18), .int (i 2), .long (j 3), .long (j 4), .int (i 5), .long (j 6), .long (j 7), .int (i 8)]
def k_oX4 (E : Ev) (i : Nat → Int32) (j : Nat → Int64) (o : Nat → Option Nat) : List Value := [k_o E (o 0), .int (i 1), .int (i 2)]
def k_oX6 (E : Ev) (i : Nat → Int32) (j : Nat → Int64) (o : Nat → Option Nat) : List Value := [.int (i 0), .int (i 1), .ref (E.2.2 20), .ref (E.2.2 21), .ref (E.2.2 22), .ref (E.2.2 23), .ref (E.2.2 24), .ref (E.2.2 25), .ref (E.2.2 26), .ref (E.2.2 27), .ref (E.2.2 28), .ref (E.2.2 29), .ref (E.2.2 30), .ref (E.2.2 31), .int (i 14), .ref (E.2.2 32), .ref (E.2.2 33), .ref (E.2.2 34), .int (i 18), .ref (E.2.2 35), .ref (E.2.2 36), .ref (E.2.2 37), .ref (E.2.2 38), .ref (E.2.2 39), .ref (E.2.2 40), .int (i 25), .ref (E.2.2 41), .ref (E.2.2 42), .ref (E.2.2 43), .ref (E.2.2 44), .int (i 30), .int (i 31)]
def k_oX3 (r : Nat) (E : Ev) (i : Nat → Int32) (j : Nat → Int64) (_o : Nat → Option Nat) : List Value := [.int (i 0), .int (i 1), .long (j 2), .long (j 3), .long (j 4), .ref (E.2.2 (r + 1)), .int (i 6), .int (i 7), .int (i 8), .int (i 9), .ref (E.2.2 (r + 2)), .ref (E.2.2 (r + 3)), .int (i 12), .ref (E.2.2 (r + 4)), .ref (E.2.2 (r + 5))]
/-- the cells of the fixed roles -/
def k_fix (E : Ev) (i : Nat → Int32) (j : Nat → Int64) (o : Nat → Option Nat) : List va_E := [
  .inr (7, k_oX5 E i j o),
  k_aO E 4 12 o,
  .inr (2, k_oX0 E i j o),
  k_aJ E 2 60 j, k_aI E 1 60 i, k_aI E 1 60 i,
  .inr (3, k_oX1 E i j o),
  k_aO E 4 12 o, k_aI E 1 100 i, k_aJ E 2 100 j, k_aJ E 2 100 j, k_aI E 1 100 i, k_aI E 1 200 i, k_aI E 1 200 i, k_aJ E 2 200 j, k_aI E 1 100 i, k_aI E 3 100 i,
  .inr (4, k_oX2 E i j o),
  .inr (6, k_oX4 E i j o),
  .inr (8, k_oX6 E i j o),
  k_aI E 1 12 i, k_aJ E 2 12 j, k_aJ E 2 12 j, k_aJ E 2 12 j, k_aI E 1 12 i, k_aI E 0 3600 i, k_aI E 1 36 i, k_aI E 1 12 i, k_aI E 1 72 i, k_aI E 1 72 i, k_aI E 3 120 i, k_aI E 1 120 i,
  k_aJ E 2 60 j, k_aI E 1 60 i, k_aI E 1 60 i, k_aI E 1 12 i, k_aI E 1 100 i, k_aJ E 2 100 j, k_aJ E 2 100 j, k_aI E 1 100 i, k_aI E 1 1200 i, k_aI E 1 200 i, k_aI E 1 200 i, k_aJ E 2 200 j, k_aI E 1 100 i,
  k_aJ E 2 1 j]
/-- the cells of a section, from role 46 on, six each -/
def k_sm (t : Nat) (E : Ev) (r : Nat) (i : Nat → Int32) (j : Nat → Int64) (_o : Nat → Option Nat) : va_E := match t with
  | 0 => .inr (5, k_oX3 r E i j _o)
  | 1 => k_aI E 0 300 i
  | 2 => k_aI E 1 6 i
  | 3 => k_aI E 1 6 i
  | 4 => k_aI E 1 10 i
  | _ => k_aI E 3 10 i
def k_sec (E : Ev) (r : Nat) (i : Nat → Int32) (j : Nat → Int64) (o : Nat → Option Nat) : va_E := k_sm ((r - 46) % 6) E r i j o
def k_cell (E : Ev) (r : Nat) (i : Nat → Int32) (j : Nat → Int64) (o : Nat → Option Nat) : va_E := if r < 46 then (k_fix E i j o).getD r (.inr (0, [])) else k_sec E r i j o
def k_at (E : Ev) (z : Sg) (r : Nat) : va_E := k_cell E r (z.1 r) (z.2.1 r) (z.2.2 r)
def k_wl (E : Ev) (n : Nat) (z : Sg) : va_W := (List.range n).map (fun r => (E.2.2 r, k_at E z r))
theorem k_wl_at {E : Ev} {n r : Nat} {z : Sg} {x : va_E} (h : r < n) (hc : k_at E z r = x) : (k_wl E n z)[r]? = some (E.2.2 r, x) := by
  unfold k_wl
  rw [List.getElem?_map, List.getElem?_range h]
  simp [hc]
theorem k_wl_set {E : Ev} {n r : Nat} {z z' : Sg} {x : va_E} (hz : ∀ q, q ≠ r → k_at E z' q = k_at E z q) (hx : k_at E z' r = x) : (k_wl E n z).set r (E.2.2 r, x) = k_wl E n z' := by
  apply List.ext_getElem?
  intro q
  by_cases hq : q = r
  · subst hq
    by_cases hn : q < n
    · rw [List.getElem?_set_self (by simpa [k_wl] using hn), k_wl_at hn hx]
    · rw [List.getElem?_eq_none (by simp [k_wl]; omega), List.getElem?_eq_none (by simp [k_wl]; omega)]
  · rw [List.getElem?_set_ne (Ne.symm hq)]
    by_cases hn : q < n
    · rw [k_wl_at hn rfl, k_wl_at hn rfl, hz q hq]
    · rw [List.getElem?_eq_none (by simp [k_wl]; omega), List.getElem?_eq_none (by simp [k_wl]; omega)]
theorem k_at_uI {E : Ev} {z : Sg} {r k : Nat} {x : Int32} (q : Nat) (h : q ≠ r) : k_at E (uI z r k x) q = k_at E z q := by simp [k_at, uI, va_up, h]
theorem k_at_uJ {E : Ev} {z : Sg} {r k : Nat} {x : Int64} (q : Nat) (h : q ≠ r) : k_at E (uJ z r k x) q = k_at E z q := by simp [k_at, uJ, va_up, h]
theorem k_at_uO {E : Ev} {z : Sg} {r k : Nat} {x : Option Nat} (q : Nat) (h : q ≠ r) : k_at E (uO z r k x) q = k_at E z q := by simp [k_at, uO, va_up, h]
theorem k_at_uIs {E : Ev} {z : Sg} {r k : Nat} {x : Int32} : k_at E (uI z r k x) r = k_cell E r (upd (z.1 r) k x) (z.2.1 r) (z.2.2 r) := by simp [k_at, uI, va_up]
theorem k_at_uJs {E : Ev} {z : Sg} {r k : Nat} {x : Int64} : k_at E (uJ z r k x) r = k_cell E r (z.1 r) (vp_updL (z.2.1 r) k x) (z.2.2 r) := by simp [k_at, uJ, va_up]
theorem k_at_uOs {E : Ev} {z : Sg} {r k : Nat} {x : Option Nat} : k_at E (uO z r k x) r = k_cell E r (z.1 r) (z.2.1 r) (va_up (z.2.2 r) k x) := by simp [k_at, uO, va_up]
theorem k_cell_s (r t : Nat) {E : Ev} (i : Nat → Int32) (j : Nat → Int64) (o : Nat → Option Nat) (hr : ¬ r < 46) (ht : (r - 46) % 6 = t) : k_cell E r i j o = k_sm t E r i j o := by
  unfold k_cell
  rw [if_neg hr, k_sec, ht]
theorem k_cell_sec {E : Ev} (c : Nat) (i : Nat → Int32) (j : Nat → Int64) (o : Nat → Option Nat) : k_cell E (46 + 6 * c) i j o = .inr (5, k_oX3 (46 + 6 * c) E i j o) := (k_cell_s (46 + 6 * c) 0 i j o (by omega) (by omega)).trans rfl
theorem k_cell_sb {E : Ev} (c : Nat) (i : Nat → Int32) (j : Nat → Int64) (o : Nat → Option Nat) : k_cell E (46 + 6 * c + 1) i j o = k_aI E 0 300 i := (k_cell_s (46 + 6 * c + 1) 1 i j o (by omega) (by omega)).trans rfl
theorem k_cell_sf {E : Ev} (c : Nat) (i : Nat → Int32) (j : Nat → Int64) (o : Nat → Option Nat) : k_cell E (46 + 6 * c + 2) i j o = k_aI E 1 6 i := (k_cell_s (46 + 6 * c + 2) 2 i j o (by omega) (by omega)).trans rfl
theorem k_cell_sm {E : Ev} (c : Nat) (i : Nat → Int32) (j : Nat → Int64) (o : Nat → Option Nat) : k_cell E (46 + 6 * c + 3) i j o = k_aI E 1 6 i := (k_cell_s (46 + 6 * c + 3) 3 i j o (by omega) (by omega)).trans rfl
theorem k_cell_sv {E : Ev} (c : Nat) (i : Nat → Int32) (j : Nat → Int64) (o : Nat → Option Nat) : k_cell E (46 + 6 * c + 4) i j o = k_aI E 1 10 i := (k_cell_s (46 + 6 * c + 4) 4 i j o (by omega) (by omega)).trans rfl
theorem k_cell_sh {E : Ev} (c : Nat) (i : Nat → Int32) (j : Nat → Int64) (o : Nat → Option Nat) : k_cell E (46 + 6 * c + 5) i j o = k_aI E 3 10 i := (k_cell_s (46 + 6 * c + 5) 5 i j o (by omega) (by omega)).trans rfl
theorem k_c1 {E : Ev} (i : Nat → Int32) (j : Nat → Int64) (o : Nat → Option Nat) : k_cell E 1 i j o = k_aO E 4 12 o := rfl
theorem k_c3 {E : Ev} (i : Nat → Int32) (j : Nat → Int64) (o : Nat → Option Nat) : k_cell E 3 i j o = k_aJ E 2 60 j := rfl
theorem k_c4 {E : Ev} (i : Nat → Int32) (j : Nat → Int64) (o : Nat → Option Nat) : k_cell E 4 i j o = k_aI E 1 60 i := rfl
theorem k_c5 {E : Ev} (i : Nat → Int32) (j : Nat → Int64) (o : Nat → Option Nat) : k_cell E 5 i j o = k_aI E 1 60 i := rfl
theorem k_c7 {E : Ev} (i : Nat → Int32) (j : Nat → Int64) (o : Nat → Option Nat) : k_cell E 7 i j o = k_aO E 4 12 o := rfl
theorem k_c8 {E : Ev} (i : Nat → Int32) (j : Nat → Int64) (o : Nat → Option Nat) : k_cell E 8 i j o = k_aI E 1 100 i := rfl
theorem k_c9 {E : Ev} (i : Nat → Int32) (j : Nat → Int64) (o : Nat → Option Nat) : k_cell E 9 i j o = k_aJ E 2 100 j := rfl
theorem k_c10 {E : Ev} (i : Nat → Int32) (j : Nat → Int64) (o : Nat → Option Nat) : k_cell E 10 i j o = k_aJ E 2 100 j := rfl
theorem k_c11 {E : Ev} (i : Nat → Int32) (j : Nat → Int64) (o : Nat → Option Nat) : k_cell E 11 i j o = k_aI E 1 100 i := rfl
theorem k_c12 {E : Ev} (i : Nat → Int32) (j : Nat → Int64) (o : Nat → Option Nat) : k_cell E 12 i j o = k_aI E 1 200 i := rfl
theorem k_c13 {E : Ev} (i : Nat → Int32) (j : Nat → Int64) (o : Nat → Option Nat) : k_cell E 13 i j o = k_aI E 1 200 i := rfl
theorem k_c14 {E : Ev} (i : Nat → Int32) (j : Nat → Int64) (o : Nat → Option Nat) : k_cell E 14 i j o = k_aJ E 2 200 j := rfl
theorem k_c15 {E : Ev} (i : Nat → Int32) (j : Nat → Int64) (o : Nat → Option Nat) : k_cell E 15 i j o = k_aI E 1 100 i := rfl
theorem k_c16 {E : Ev} (i : Nat → Int32) (j : Nat → Int64) (o : Nat → Option Nat) : k_cell E 16 i j o = k_aI E 3 100 i := rfl
theorem k_c20 {E : Ev} (i : Nat → Int32) (j : Nat → Int64) (o : Nat → Option Nat) : k_cell E 20 i j o = k_aI E 1 12 i := rfl
theorem k_c21 {E : Ev} (i : Nat → Int32) (j : Nat → Int64) (o : Nat → Option Nat) : k_cell E 21 i j o = k_aJ E 2 12 j := rfl
theorem k_c22 {E : Ev} (i : Nat → Int32) (j : Nat → Int64) (o : Nat → Option Nat) : k_cell E 22 i j o = k_aJ E 2 12 j := rfl
theorem k_c23 {E : Ev} (i : Nat → Int32) (j : Nat → Int64) (o : Nat → Option Nat) : k_cell E 23 i j o = k_aJ E 2 12 j := rfl
theorem k_c24 {E : Ev} (i : Nat → Int32) (j : Nat → Int64) (o : Nat → Option Nat) : k_cell E 24 i j o = k_aI E 1 12 i := rfl
theorem k_c25 {E : Ev} (i : Nat → Int32) (j : Nat → Int64) (o : Nat → Option Nat) : k_cell E 25 i j o = k_aI E 0 3600 i := rfl
theorem k_c26 {E : Ev} (i : Nat → Int32) (j : Nat → Int64) (o : Nat → Option Nat) : k_cell E 26 i j o = k_aI E 1 36 i := rfl
theorem k_c27 {E : Ev} (i : Nat → Int32) (j : Nat → Int64) (o : Nat → Option Nat) : k_cell E 27 i j o = k_aI E 1 12 i := rfl
theorem k_c28 {E : Ev} (i : Nat → Int32) (j : Nat → Int64) (o : Nat → Option Nat) : k_cell E 28 i j o = k_aI E 1 72 i := rfl
theorem k_c29 {E : Ev} (i : Nat → Int32) (j : Nat → Int64) (o : Nat → Option Nat) : k_cell E 29 i j o = k_aI E 1 72 i := rfl
theorem k_c30 {E : Ev} (i : Nat → Int32) (j : Nat → Int64) (o : Nat → Option Nat) : k_cell E 30 i j o = k_aI E 3 120 i := rfl
theorem k_c31 {E : Ev} (i : Nat → Int32) (j : Nat → Int64) (o : Nat → Option Nat) : k_cell E 31 i j o = k_aI E 1 120 i := rfl
theorem k_c32 {E : Ev} (i : Nat → Int32) (j : Nat → Int64) (o : Nat → Option Nat) : k_cell E 32 i j o = k_aJ E 2 60 j := rfl
theorem k_c33 {E : Ev} (i : Nat → Int32) (j : Nat → Int64) (o : Nat → Option Nat) : k_cell E 33 i j o = k_aI E 1 60 i := rfl
theorem k_c34 {E : Ev} (i : Nat → Int32) (j : Nat → Int64) (o : Nat → Option Nat) : k_cell E 34 i j o = k_aI E 1 60 i := rfl
theorem k_c35 {E : Ev} (i : Nat → Int32) (j : Nat → Int64) (o : Nat → Option Nat) : k_cell E 35 i j o = k_aI E 1 12 i := rfl
theorem k_c36 {E : Ev} (i : Nat → Int32) (j : Nat → Int64) (o : Nat → Option Nat) : k_cell E 36 i j o = k_aI E 1 100 i := rfl
theorem k_c37 {E : Ev} (i : Nat → Int32) (j : Nat → Int64) (o : Nat → Option Nat) : k_cell E 37 i j o = k_aJ E 2 100 j := rfl
theorem k_c38 {E : Ev} (i : Nat → Int32) (j : Nat → Int64) (o : Nat → Option Nat) : k_cell E 38 i j o = k_aJ E 2 100 j := rfl
theorem k_c39 {E : Ev} (i : Nat → Int32) (j : Nat → Int64) (o : Nat → Option Nat) : k_cell E 39 i j o = k_aI E 1 100 i := rfl
theorem k_c40 {E : Ev} (i : Nat → Int32) (j : Nat → Int64) (o : Nat → Option Nat) : k_cell E 40 i j o = k_aI E 1 1200 i := rfl
theorem k_c41 {E : Ev} (i : Nat → Int32) (j : Nat → Int64) (o : Nat → Option Nat) : k_cell E 41 i j o = k_aI E 1 200 i := rfl
theorem k_c42 {E : Ev} (i : Nat → Int32) (j : Nat → Int64) (o : Nat → Option Nat) : k_cell E 42 i j o = k_aI E 1 200 i := rfl
theorem k_c43 {E : Ev} (i : Nat → Int32) (j : Nat → Int64) (o : Nat → Option Nat) : k_cell E 43 i j o = k_aJ E 2 200 j := rfl
theorem k_c44 {E : Ev} (i : Nat → Int32) (j : Nat → Int64) (o : Nat → Option Nat) : k_cell E 44 i j o = k_aI E 1 100 i := rfl
theorem k_c45 {E : Ev} (i : Nat → Int32) (j : Nat → Int64) (o : Nat → Option Nat) : k_cell E 45 i j o = k_aJ E 2 1 j := rfl
theorem k_c0 {E : Ev} (i : Nat → Int32) (j : Nat → Int64) (o : Nat → Option Nat) : k_cell E 0 i j o = .inr (7, k_oX5 E i j o) := rfl
theorem k_c2 {E : Ev} (i : Nat → Int32) (j : Nat → Int64) (o : Nat → Option Nat) : k_cell E 2 i j o = .inr (2, k_oX0 E i j o) := rfl
theorem k_c6 {E : Ev} (i : Nat → Int32) (j : Nat → Int64) (o : Nat → Option Nat) : k_cell E 6 i j o = .inr (3, k_oX1 E i j o) := rfl
theorem k_c17 {E : Ev} (i : Nat → Int32) (j : Nat → Int64) (o : Nat → Option Nat) : k_cell E 17 i j o = .inr (4, k_oX2 E i j o) := rfl
theorem k_c18 {E : Ev} (i : Nat → Int32) (j : Nat → Int64) (o : Nat → Option Nat) : k_cell E 18 i j o = .inr (6, k_oX4 E i j o) := rfl
theorem k_c19 {E : Ev} (i : Nat → Int32) (j : Nat → Int64) (o : Nat → Option Nat) : k_cell E 19 i j o = .inr (8, k_oX6 E i j o) := rfl
theorem uI_r {z : Sg} {r k q : Nat} {x : Int32} (h : q ≠ r) : (uI z r k x).1 q = z.1 q := by simp [uI, va_up, h]
theorem uJ_r {z : Sg} {r k q : Nat} {x : Int64} (h : q ≠ r) : (uJ z r k x).2.1 q = z.2.1 q := by simp [uJ, va_up, h]
theorem uO_r {z : Sg} {r k q : Nat} {x : Option Nat} (h : q ≠ r) : (uO z r k x).2.2 q = z.2.2 q := by simp [uO, va_up, h]
/-! ===== words, tables, statics ===== -/
theorem k_good : ∀ w ∈ wsL_law, (w.onTables && w.keeps) = true ∨ ∃ ty, w = .arrayClass ty := fun w h => (g_wsL_law w h).2
theorem k_gi {a b : Cond} (hb : b ∈ wsL_law) : GoodIn (a :: wsL_law) (b :: wsL_law) := fun w h => (List.mem_cons.mp h).elim (fun e => by rw [e]; exact ⟨List.mem_cons_of_mem _ hb, k_good _ hb⟩) (fun h => ⟨List.mem_cons_of_mem _ h, k_good _ h⟩)
theorem k_gl {b : Cond} (hb : b ∈ wsL_law) : GoodIn wsL_law (b :: wsL_law) := fun w h => (List.mem_cons.mp h).elim (fun e => by rw [e]; exact ⟨hb, k_good _ hb⟩) (fun h => ⟨h, k_good _ h⟩)
def k_tys (E : Ev) : List (ClassId × FieldType) := [(E.2.1 0, .byte), (E.2.1 1, .int), (E.2.1 2, .long), (E.2.1 3, .boolean), (E.2.1 4, .object "CrossTables$Section")]
def k_st : List (Nat × String) := [(101, "the section is a table"), (107, "a width is not 0 .. 4"), (122, "first is not 0 .. 999"), (124, "many is not 1 .. 100"), (129, "the stream has 6 runs"), (141, "key is not 0 .. 9"), (153, "object is not 0 .. 99"), (156, "generation is not 0 .. 99999"), (161, "there are 60 heads"), (192, "what is not 0, 1"), (203, "i is below -1"), (216, "so many were not told"), (227, "what is not 0 .. 2"), (244, "there is no such section"), (44, "kind is not 0, 1"), (57, "place is out of range, or another section's"), (62, "before is out of range"), (66, "there are 12 sections"), (79, "the section has 300 bytes"), (87, "the section has no such byte"), (93, "the section is a stream"), (95, "place is out of range")]
def xI : String := "java/lang/IllegalArgumentException"
def xU : String := "java/lang/UnsupportedOperationException"
def xB : String := "java/lang/IndexOutOfBoundsException"
def xA : String := "java/lang/ArrayIndexOutOfBoundsException"
def k_dec : List MethodName := [Bundle.initS "java/lang/RuntimeException", Bundle.initS "java/lang/Exception", Bundle.initS Bundle.tN, Bundle.initS xB]
def k_cas : List (String × String) := [(xI, xI), (xU, xU), (xB, xB), (xA, xA), (nx_N, nx_N)]
/-- thrown, and the handlers ahead that don't take it -/
def k_nc : List (String × String) := [(xU, xI), (xU, nx_N), (xA, nx_N), (xI, nx_N)]
def k_K (E : Ev) (U : State) : Prop := va_K E.1 vwCl (k_tys E) U ∧ (va_Nw (.methodLinkNest RX2 17 yX4_init RX5) U ∧ va_Nw (.methodLinkNest RX1 57 yX5_isObject RX5) U ∧ va_Nw (.methodLinkNest RX1 73 yX5_isKey RX5) U) ∧ (∀ q ∈ k_st, ∃ a : Nat, vk_R RX5 q.1 q.2 a U) ∧ (∀ x ∈ k_dec, va_Nw (.declares x) U) ∧ (∀ q ∈ k_cas, va_Nw (.castable q.1 q.2) U) ∧ (∀ q ∈ k_nc, va_Nc q.1 q.2 U)
theorem k_K.warm {E : Ev} {s U : State} (hW : s.WarmedH U.vm) (h : k_K E s) : k_K E U := ⟨va_K.moved hW.alike h.1, ⟨va_Nw.warmM hW h.2.1.1, va_Nw.warmM hW h.2.1.2.1, va_Nw.warmM hW h.2.1.2.2⟩, fun q hq => by
  obtain ⟨a, ha⟩ := h.2.2.1 q hq
  exact ⟨a, vk_R.warm hW ha⟩, fun x hx => va_Nw.warmD hW (h.2.2.2.1 x hx), fun q hq => va_Nw.warmC hW (h.2.2.2.2.1 q hq), fun q hq => (h.2.2.2.2.2 q hq).moved hW.alike⟩
def k_Z (A : Nat → Prop) (s : State) (H : Heap) : Prop := vx_Zq Bundle.tN "UNASSIGNED_STACK" Bundle.steD A s H ∧ vx_Zq Bundle.tN "SUPPRESSED_SENTINEL" Bundle.listD A s H
/-- which cells a method may change -/
def k_A (E : Ev) (n : Nat) (z : Sg) (sz : Nat) : Nat → Prop := va_A (k_wl E n z) sz
theorem k_A_eq {E : Ev} {n sz : Nat} {z z' : Sg} (q : Nat) (h : k_A E n z sz q) : k_A E n z' sz q := by
  rcases h with ⟨k, x, h⟩ | h
  · have hk : k < n := by simpa [k_wl] using (List.getElem?_eq_some_iff.mp h).1
    rw [k_wl_at hk rfl] at h
    cases h
    exact Or.inl ⟨k, k_at E z' k, k_wl_at hk rfl⟩
  · exact Or.inr h
/-- a method's start, and the world behind it -/
def k_Pre (E : Ev) (n : Nat) (z : Sg) (sz : Nat) (U : State) : Prop := U.heap.size = sz ∧ va_P E.1 vwCl (k_wl E n z) U.heap ∧ va_D (fun _ => True) (k_wl E n z) ∧ k_K E U ∧ k_Z (k_A E n z sz) U U.heap
def k_B (E : Ev) (n : Nat) (z : Sg) (sz : Nat) (z' : Sg) (t : State) : Prop := va_P E.1 vwCl (k_wl E n z') t.heap ∧ va_D (k_A E n z sz) (k_wl E n z')
def k_Q (post : Option Value → Sg → Prop) (E : Ev) (n : Nat) (z : Sg) (sz : Nat) : Array Value → State → Outcome → State → Prop := fun _ st oc t => (∃ (v : Option Value) (u : Sg), oc = .returned v ∧ post v u ∧ k_B E n z sz u t) ∧ va_F (k_A E n z sz) st t
def k_X (xp : String → Prop) (E : Ev) (n : Nat) (z : Sg) (sz : Nat) : String → State → State → Prop := fun X st t => xp X ∧ k_B E n z sz z t ∧ va_F (k_A E n z sz) st t
/-- the world inside a body -/
def k_W (E : Ev) (n : Nat) (z : Sg) (A : Nat → Prop) (s : State) (H : Heap) (locs : List Loc) : Prop := va_P E.1 vwCl (k_wl E n z) H ∧ va_D A (k_wl E n z) ∧ va_S A s.heap H locs ∧ k_K E s ∧ (∀ q, s.heap.size ≤ q → A q) ∧ k_Z A s s.heap
theorem k_blind {E : Ev} {n sz : Nat} {z : Sg} {av : List Value} : FrameBlind (va_Pc av (k_Pre E n z sz)) := by
  intro a U g mk h
  obtain ⟨h1, h2, h3, h4, h5, h6⟩ := h
  exact ⟨h1, h2, h3, h4, h5.warm (State.WarmedH.refl U), ⟨vx_Zq.moved (Vm.Alike.refl U.vm) h6.1, vx_Zq.moved (Vm.Alike.refl U.vm) h6.2⟩⟩
theorem k_pre {E : Ev} {n : Nat} {z : Sg} {A : Nat → Prop} {s U : State} {H : Heap} {locs : List Loc} (h : k_W E n z A s H locs) (hU : U.heap = H) (hW : s.WarmedH U.vm) : k_Pre E n z H.size U := by
  obtain ⟨h1, h2, h3, h4, h5, h6⟩ := h
  have hn : ∀ q, k_A E n z H.size q → A q := fun q hq => by
    rcases hq with ⟨k, x, hq⟩ | hq
    · exact h2.2 k _ hq
    · exact h5 q (Nat.le_trans h3.1 hq)
  refine ⟨by rw [hU], by rw [hU]; exact h1, h2.weaken (fun _ _ _ _ => trivial), h4.warm hW, ?_⟩
  rw [hU]
  exact ⟨vx_Zq.moved hW.alike ((h6.1.kept h3.2.1).narrow hn), vx_Zq.moved hW.alike ((h6.2.kept h3.2.1).narrow hn)⟩
theorem k_start {E : Ev} {n : Nat} {z : Sg} {s : State} (h : k_Pre E n z s.heap.size s) : k_W E n z (k_A E n z s.heap.size) s s.heap [] := by
  obtain ⟨h1, h2, h3, h4, h5⟩ := h
  exact ⟨h2, h3.self, va_S.rf, h4, fun q hq => Or.inr hq, h5⟩
