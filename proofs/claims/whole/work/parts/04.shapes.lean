theorem ks_X0_3 {E : Ev} {i : Nat → Int32} {j : Nat → Int64} {o : Nat → Option Nat} {x : Int32} : k_oX0 E (upd i 3 x) j o = (k_oX0 E i j o).set 3 (.int x) := rfl
theorem ks_X1_1 {E : Ev} {i : Nat → Int32} {j : Nat → Int64} {o : Nat → Option Nat} {x : Int32} : k_oX1 E (upd i 1 x) j o = (k_oX1 E i j o).set 1 (.int x) := rfl
theorem ks_X1_9 {E : Ev} {i : Nat → Int32} {j : Nat → Int64} {o : Nat → Option Nat} {x : Int32} : k_oX1 E (upd i 9 x) j o = (k_oX1 E i j o).set 9 (.int x) := rfl
theorem ks_X1_12 {E : Ev} {i : Nat → Int32} {j : Nat → Int64} {o : Nat → Option Nat} {x : Int32} : k_oX1 E (upd i 12 x) j o = (k_oX1 E i j o).set 12 (.int x) := rfl
theorem ks_X2_2 {E : Ev} {i : Nat → Int32} {j : Nat → Int64} {o : Nat → Option Nat} {x : Int32} : k_oX2 E (upd i 2 x) j o = (k_oX2 E i j o).set 2 (.int x) := rfl
theorem ks_X2_3 {E : Ev} {i : Nat → Int32} {j : Nat → Int64} {o : Nat → Option Nat} {x : Int64} : k_oX2 E i (vp_updL j 3 x) o = (k_oX2 E i j o).set 3 (.long x) := rfl
theorem ks_X2_4 {E : Ev} {i : Nat → Int32} {j : Nat → Int64} {o : Nat → Option Nat} {x : Int64} : k_oX2 E i (vp_updL j 4 x) o = (k_oX2 E i j o).set 4 (.long x) := rfl
theorem ks_X2_5 {E : Ev} {i : Nat → Int32} {j : Nat → Int64} {o : Nat → Option Nat} {x : Int32} : k_oX2 E (upd i 5 x) j o = (k_oX2 E i j o).set 5 (.int x) := rfl
theorem ks_X2_6 {E : Ev} {i : Nat → Int32} {j : Nat → Int64} {o : Nat → Option Nat} {x : Int64} : k_oX2 E i (vp_updL j 6 x) o = (k_oX2 E i j o).set 6 (.long x) := rfl
theorem ks_X2_7 {E : Ev} {i : Nat → Int32} {j : Nat → Int64} {o : Nat → Option Nat} {x : Int64} : k_oX2 E i (vp_updL j 7 x) o = (k_oX2 E i j o).set 7 (.long x) := rfl
theorem ks_X2_8 {E : Ev} {i : Nat → Int32} {j : Nat → Int64} {o : Nat → Option Nat} {x : Int32} : k_oX2 E (upd i 8 x) j o = (k_oX2 E i j o).set 8 (.int x) := rfl
theorem ks_X3_0 {r : Nat} {E : Ev} {i : Nat → Int32} {j : Nat → Int64} {o : Nat → Option Nat} {x : Int32} : k_oX3 r E (upd i 0 x) j o = (k_oX3 r E i j o).set 0 (.int x) := rfl
theorem ks_X3_1 {r : Nat} {E : Ev} {i : Nat → Int32} {j : Nat → Int64} {o : Nat → Option Nat} {x : Int32} : k_oX3 r E (upd i 1 x) j o = (k_oX3 r E i j o).set 1 (.int x) := rfl
theorem ks_X3_2 {r : Nat} {E : Ev} {i : Nat → Int32} {j : Nat → Int64} {o : Nat → Option Nat} {x : Int64} : k_oX3 r E i (vp_updL j 2 x) o = (k_oX3 r E i j o).set 2 (.long x) := rfl
theorem ks_X3_3 {r : Nat} {E : Ev} {i : Nat → Int32} {j : Nat → Int64} {o : Nat → Option Nat} {x : Int64} : k_oX3 r E i (vp_updL j 3 x) o = (k_oX3 r E i j o).set 3 (.long x) := rfl
theorem ks_X3_4 {r : Nat} {E : Ev} {i : Nat → Int32} {j : Nat → Int64} {o : Nat → Option Nat} {x : Int64} : k_oX3 r E i (vp_updL j 4 x) o = (k_oX3 r E i j o).set 4 (.long x) := rfl
theorem ks_X3_6 {r : Nat} {E : Ev} {i : Nat → Int32} {j : Nat → Int64} {o : Nat → Option Nat} {x : Int32} : k_oX3 r E (upd i 6 x) j o = (k_oX3 r E i j o).set 6 (.int x) := rfl
theorem ks_X3_7 {r : Nat} {E : Ev} {i : Nat → Int32} {j : Nat → Int64} {o : Nat → Option Nat} {x : Int32} : k_oX3 r E (upd i 7 x) j o = (k_oX3 r E i j o).set 7 (.int x) := rfl
theorem ks_X3_8 {r : Nat} {E : Ev} {i : Nat → Int32} {j : Nat → Int64} {o : Nat → Option Nat} {x : Int32} : k_oX3 r E (upd i 8 x) j o = (k_oX3 r E i j o).set 8 (.int x) := rfl
theorem ks_X3_9 {r : Nat} {E : Ev} {i : Nat → Int32} {j : Nat → Int64} {o : Nat → Option Nat} {x : Int32} : k_oX3 r E (upd i 9 x) j o = (k_oX3 r E i j o).set 9 (.int x) := rfl
theorem ks_X3_12 {r : Nat} {E : Ev} {i : Nat → Int32} {j : Nat → Int64} {o : Nat → Option Nat} {x : Int32} : k_oX3 r E (upd i 12 x) j o = (k_oX3 r E i j o).set 12 (.int x) := rfl
theorem ks_X4_0 {E : Ev} {i : Nat → Int32} {j : Nat → Int64} {o : Nat → Option Nat} {x : Nat} : k_oX4 E i j (va_up o 0 (some x)) = (k_oX4 E i j o).set 0 (.ref (E.2.2 (46 + 6 * x))) := rfl
theorem ks_X4_1 {E : Ev} {i : Nat → Int32} {j : Nat → Int64} {o : Nat → Option Nat} {x : Int32} : k_oX4 E (upd i 1 x) j o = (k_oX4 E i j o).set 1 (.int x) := rfl
theorem ks_X4_2 {E : Ev} {i : Nat → Int32} {j : Nat → Int64} {o : Nat → Option Nat} {x : Int32} : k_oX4 E (upd i 2 x) j o = (k_oX4 E i j o).set 2 (.int x) := rfl
theorem ks_X5_1 {E : Ev} {i : Nat → Int32} {j : Nat → Int64} {o : Nat → Option Nat} {x : Int32} : k_oX5 E (upd i 1 x) j o = (k_oX5 E i j o).set 1 (.int x) := rfl
theorem ks_X6_0 {E : Ev} {i : Nat → Int32} {j : Nat → Int64} {o : Nat → Option Nat} {x : Int32} : k_oX6 E (upd i 0 x) j o = (k_oX6 E i j o).set 0 (.int x) := rfl
theorem ks_X6_1 {E : Ev} {i : Nat → Int32} {j : Nat → Int64} {o : Nat → Option Nat} {x : Int32} : k_oX6 E (upd i 1 x) j o = (k_oX6 E i j o).set 1 (.int x) := rfl
theorem ks_X6_14 {E : Ev} {i : Nat → Int32} {j : Nat → Int64} {o : Nat → Option Nat} {x : Int32} : k_oX6 E (upd i 14 x) j o = (k_oX6 E i j o).set 14 (.int x) := rfl
theorem ks_X6_18 {E : Ev} {i : Nat → Int32} {j : Nat → Int64} {o : Nat → Option Nat} {x : Int32} : k_oX6 E (upd i 18 x) j o = (k_oX6 E i j o).set 18 (.int x) := rfl
theorem ks_X6_25 {E : Ev} {i : Nat → Int32} {j : Nat → Int64} {o : Nat → Option Nat} {x : Int32} : k_oX6 E (upd i 25 x) j o = (k_oX6 E i j o).set 25 (.int x) := rfl
theorem ks_X6_30 {E : Ev} {i : Nat → Int32} {j : Nat → Int64} {o : Nat → Option Nat} {x : Int32} : k_oX6 E (upd i 30 x) j o = (k_oX6 E i j o).set 30 (.int x) := rfl
theorem ks_X6_31 {E : Ev} {i : Nat → Int32} {j : Nat → Int64} {o : Nat → Option Nat} {x : Int32} : k_oX6 E (upd i 31 x) j o = (k_oX6 E i j o).set 31 (.int x) := rfl
