/-- behind a token's search from x on: it begins there or later, and ends behind its beginning -/
def p19 (x : Int32) (z : Sg) : Prop := x.toInt ≤ (z.1 19 30).toInt ∧ (z.1 19 30).toInt ≤ (z.1 19 31).toInt
theorem p19_row {x : Int32} {z : Sg} {s b : Int32} {p d e : Int64} (h : p19 x z) : p19 x (f_X6_row z s p b d e) := by
  unfold p19
  rw [row19]
  exact h
theorem p19_tell {x : Int32} {z : Sg} {a b : Int32} {d : Int64} (h : p19 x z) : p19 x (f_X6_tell z a b d) := by
  unfold p19
  rw [tell19.1, tell19.2]
  exact h
theorem num_nn {z : Sg} {p : Int32} (h : (0 : Int64) ≤ f_X6_number z p) : 0 ≤ (f_X6_number z p).toInt := by
  simp only [Int64.le_iff_toInt_le] at h
  exact h
theorem num_end {z : Sg} {p : Int32} (hT : (z.1 19 30).toInt ≤ (z.1 19 31).toInt) (h : (0 : Int64) ≤ f_X6_number z p) : (z.1 19 30).toInt + 1 ≤ (z.1 19 31).toInt := by
  have h2 : ¬ f_X6_number z p < 0 := by
    simp only [Int64.lt_iff_toInt_lt, Int64.le_iff_toInt_le] at *
    omega
  have h1 : ¬ (z.1 19 31).toInt = (z.1 19 30).toInt := fun e => num_ne h2 (Int32.toInt_inj.mp e)
  omega
theorem l_add1 {a : Int64} (h : 0 ≤ a.toInt ∧ a.toInt < 20000000000) : (a + 1).toInt = a.toInt + 1 := by
  have e1 : (1 : Int64).toInt = 1 := rfl
  rw [Int64.toInt_add, e1]
  exact Int.bmod_eq_of_le_mul_two (by simp; omega) (by simp; omega)
theorem bo_b {z y : Sg} {p : Int32} (h : (0 : Int64) ≤ f_X6_number z p) (h2 : (f_X6_number z p).toInt < 10000000000) (h3 : 0 ≤ (y.1 19 30).toInt) : 0 ≤ (f_X6_number z p).toInt ∧ (f_X6_number z p).toInt ≤ 10000000000 + (y.1 19 30).toInt := by
  have := num_nn h
  omega
theorem bo_r {w y : Sg} {ob : Int64} (h : 0 ≤ ob.toInt ∧ ob.toInt ≤ 10000000000 + (w.1 19 30).toInt) (hb : (w.1 19 30).toInt ≤ 300) (h2 : (w.1 19 30).toInt + 1 ≤ (y.1 19 30).toInt) : 0 ≤ (ob + 1).toInt ∧ (ob + 1).toInt ≤ 10000000000 + (y.1 19 30).toInt := by
  rw [l_add1 ⟨h.1, by omega⟩]
  omega

def f_X6_readTable_L11 (p0 : Int32) : Nat → Sg → Int64 → Int64 → Sg
  | 0, w, _, _ => w
  | k + 1, w, ob, du =>
    if (w.1 24 p0.toNatClampNeg) ≤ (w.1 19 30) then
      if du ≤ 0 then
        w
      else
        let z4 := (f_X6_tell w 4 p0 (((w.1 24 p0.toNatClampNeg) : Int32).toInt64))
        z4
    else
      if (0 : Int64) ≤ (f_X6_number w p0) then
        let z7 := (f_X6_token w p0 (w.1 19 31))
        if (0 : Int64) ≤ (f_X6_number z7 p0) then
          let z10 := (f_X6_token z7 p0 (z7.1 19 31))
          if (f_X6_isByte z10 p0 110) = 0 then
            if (f_X6_isByte z10 p0 102) = 0 then
              if (0 : Int64) < du then
                let z29 := (f_X6_tell z10 4 p0 (((w.1 19 30) : Int32).toInt64))
                z29
              else
                if (f_X6_number z7 p0) ≤ 100 then
                  f_X6_readTable_L11 p0 k z10 (f_X6_number w p0) (f_X6_number z7 p0)
                else
                  let z33 := (f_X6_tell z10 4 p0 (((w.1 19 30) : Int32).toInt64))
                  z33
            else
              if du = 0 then
                let z46 := (f_X6_tell z10 4 p0 (((w.1 19 30) : Int32).toInt64))
                z46
              else
                let z38 := (f_X6_token z10 p0 (z10.1 19 31))
                let z41 := (f_X6_row z38 p0 ob 1 (f_X6_number w p0) (f_X6_number z7 p0))
                if (z41.1 19 30) - (w.1 19 30) = 20 then
                  f_X6_readTable_L11 p0 k z41 (ob + 1) (du - 1)
                else
                  let z44 := (f_X6_tell z41 3 p0 (((w.1 19 30) : Int32).toInt64))
                  f_X6_readTable_L11 p0 k z44 (ob + 1) (du - 1)
          else
            if du = 0 then
              let z24 := (f_X6_tell z10 4 p0 (((w.1 19 30) : Int32).toInt64))
              z24
            else
              let z16 := (f_X6_token z10 p0 (z10.1 19 31))
              let z19 := (f_X6_row z16 p0 ob 2 (f_X6_number w p0) (f_X6_number z7 p0))
              if (z19.1 19 30) - (w.1 19 30) = 20 then
                f_X6_readTable_L11 p0 k z19 (ob + 1) (du - 1)
              else
                let z22 := (f_X6_tell z19 3 p0 (((w.1 19 30) : Int32).toInt64))
                f_X6_readTable_L11 p0 k z22 (ob + 1) (du - 1)
        else
          let z48 := (f_X6_tell z7 4 p0 (((z7.1 19 30) : Int32).toInt64))
          z48
      else
        let z50 := (f_X6_tell w 4 p0 (((w.1 19 30) : Int32).toInt64))
        z50
termination_by k9 => k9
def f_X6_readTable (z : Sg) (p0 : Int32) : Sg :=
  let z52 := (f_X6_token z p0 0)
  f_X6_readTable_L11 p0 301 z52 0 0
set_option maxHeartbeats 4000000 in
set_option maxRecDepth 100000 in
theorem c_X6_readTable (l : Launch) (E : Ev) (S sz : Nat) (z : Sg) (p0 : Int32) (hs : 0 ≤ p0.toInt ∧ p0.toInt < (12 : Nat)) (t : Nat) (ht : t ≤ 11) (hR : k_R t p0 z) (hI : k_J S z) : k_Met l yX6_readTable cX6_readTable 13 none ({ frames := 2, cells := 0, slots := 0, locals := 42 }) [.ref (E.2.2 19), .int p0] E (46 + 6 * S) z sz (fun v u => v = none ∧ u = (f_X6_readTable z p0)) 0 0 := by
  refine k_body (by decide +kernel) (Nat.le_of_ble_eq_true rfl) ?_
  intro p e s m below meth cd ls hx hb hr hml hown hlocks hts hW hl
  have L11 : ∀ (k : Nat) (w : Sg) (ob : Int64) (du : Int64) (H : Heap) (locs : List Loc) (ls : Array Slot), (k_J S w) → (k_R t p0 w) → (0 ≤ ob.toInt ∧ ob.toInt ≤ 10000000000 + (w.1 19 30).toInt) → ((w.1 19 30).toInt ≤ (w.1 19 31).toInt) → 300 - (w.1 19 30).toInt.toNat < k → k_W E (46 + 6 * S) w (k_A E (46 + 6 * S) z s.heap.size) s H locs → lv_has ls 13 [(0, .ref (E.2.2 19)), (1, .int p0), (2, .long ob), (4, .long du)] → f_X6_readTable_L11 p0 k w ob du = (f_X6_readTable z p0) → W p l e ({ frames := 2, cells := 0, slots := 0, locals := 42 }) s m ([.ref (E.2.2 19), .int p0] : List Value).toArray below meth cd H locs 0 0 (MQ below (k_Q (fun v u => v = none ∧ u = (f_X6_readTable z p0)) E (46 + 6 * S) z s.heap.size) ([.ref (E.2.2 19), .int p0] : List Value).toArray s 0 0 (k_A E (46 + 6 * S) z s.heap.size)) (F0 m 11 ls []) := by
    intro k
    induction k with
    | zero =>
      intro w ob du H locs ls hi0 hi1 hi2 hi3 hm
      exact absurd hm (Nat.not_lt_zero _)
    | succ k ih =>
      intro w ob du H locs ls hi0 hi1 hi2 hi3 hm hW hl hG
      refine lv_aload_n hx hb dX6_readTable_11 rfl (lv_at hl 0 rfl) ?_
      refine k_get hx hb hts inlX6 hown hW 19 (by omega) k_c19 rfl 30 (by decide) lf_RX6_132 rfl (v := .int (w.1 19 30)) rfl dX6_readTable_12 ?_
      refine lv_aload_n hx hb dX6_readTable_15 rfl (lv_at hl 0 rfl) ?_
      refine k_get hx hb hts inlX6 hown hW 19 (by omega) k_c19 rfl 6 (by decide) lf_RX6_23 rfl (v := .ref (E.2.2 24)) rfl dX6_readTable_16 ?_
      refine lv_iload_n hx hb dX6_readTable_19 rfl (lv_at hl 1 rfl) ?_
      refine k_iald hx hb hW 24 12 (by omega) k_c24 (v := (w.1 24 p0.toNatClampNeg)) (by exact in12 hs) rfl dX6_readTable_20 ?_
      refine lv_icmp_ge (tgt := 248) hx hb dX6_readTable_21 (by decide) (fun h1 => ?_) (fun h1 => ?_)
      · refine lv_lload hx hb dX6_readTable_248 (lv_at hl 3 rfl) ?_
        refine lv_lconst (v := 0) hx hb dX6_readTable_250 (by decide) ?_
        refine k_lif_le (tgt := 268) hx hb dX6_readTable_251 dX6_readTable_252 (by decide) (fun h2 => ?_) (fun h2 => ?_)
        · have hR : (f_X6_readTable z p0) = w := (hG.symm.trans (by simp only [f_X6_readTable_L11, if_pos h1, if_pos h2]))
          exact k_vret hx hb hr hlocks hW ⟨rfl, by rw [hR]⟩ dX6_readTable_268
        · refine lv_aload_n hx hb dX6_readTable_255 rfl (lv_at hl 0 rfl) ?_
          refine lv_iconst (v := 4) hx hb dX6_readTable_256 (by decide) ?_
          refine lv_iload_n hx hb dX6_readTable_257 rfl (lv_at hl 1 rfl) ?_
          refine lv_aload_n hx hb dX6_readTable_258 rfl (lv_at hl 0 rfl) ?_
          refine k_get hx hb hts inlX6 hown hW 19 (by omega) k_c19 rfl 6 (by decide) lf_RX6_23 rfl (v := .ref (E.2.2 24)) rfl dX6_readTable_259 ?_
          refine lv_iload_n hx hb dX6_readTable_262 rfl (lv_at hl 1 rfl) ?_
          refine k_iald hx hb hW 24 12 (by omega) k_c24 (v := (w.1 24 p0.toNatClampNeg)) (by exact in12 hs) rfl dX6_readTable_263 ?_
          refine lv_i2l (v := ((w.1 24 p0.toNatClampNeg) : Int32).toInt64) hx hb dX6_readTable_264 rfl ?_
          refine k_callV (As := [.int 4, .int p0, .long (((w.1 24 p0.toNatClampNeg) : Int32).toInt64)]) (rest := []) hx hb hml hown hts (c_X6_tell l E S _ w 4 p0 (((w.1 24 p0.toNatClampNeg) : Int32).toInt64) hi0) lm_RX6_151 ln_X6_tell le_X6_tell li_X6 lk_X6_tell (show k_nm yX6_tell 3 by decide +kernel) ⟨Nat.le_of_ble_eq_true rfl, Nat.le_of_ble_eq_true rfl⟩ rfl rfl ⟨Nat.le_of_ble_eq_true rfl, Nat.le_of_ble_eq_true rfl⟩ hl.1 rfl (Nat.le_of_ble_eq_true rfl) dX6_readTable_265 (by omega) (k_c19 _ _ _) rfl hW (fun v z1 H locs hp hW => ?_)
          obtain ⟨rfl, hz1⟩ := hp
          rw [hz1] at hW
          obtain ⟨z4, ez4⟩ : ∃ y9 : Sg, y9 = (f_X6_tell w 4 p0 (((w.1 24 p0.toNatClampNeg) : Int32).toInt64)) := ⟨_, rfl⟩
          rw [← ez4] at hW
          have Jz4 : k_J S z4 := by rw [ez4]; exact J_tell hi0
          have Rz4 : k_R t p0 z4 := by rw [ez4]; exact R_tell hi1
          refine W.eq (g2 := F0 m 268 ls []) rfl ?_
          have hR : (f_X6_readTable z p0) = z4 := (hG.symm.trans (by subst ez4; simp only [f_X6_readTable_L11, if_pos h1, if_neg h2]))
          exact k_vret hx hb hr hlocks hW ⟨rfl, by rw [hR]⟩ dX6_readTable_268
      · refine lv_aload_n hx hb dX6_readTable_24 rfl (lv_at hl 0 rfl) ?_
        refine k_get hx hb hts inlX6 hown hW 19 (by omega) k_c19 rfl 30 (by decide) lf_RX6_132 rfl (v := .int (w.1 19 30)) rfl dX6_readTable_25 ?_
        refine lv_istore (lv' := [(6, .int (w.1 19 30)), (0, .ref (E.2.2 19)), (1, .int p0), (2, .long ob), (4, .long du)]) hx hb dX6_readTable_28 hl (by decide) rfl (fun ls hl => ?_)
        refine lv_aload_n hx hb dX6_readTable_30 rfl (lv_at hl 1 rfl) ?_
        refine lv_iload_n hx hb dX6_readTable_31 rfl (lv_at hl 2 rfl) ?_
        refine k_callV (As := [.int p0]) (rest := []) hx hb hml hown hts (c_X6_number l E S _ w p0 hs hi0) lm_RX6_147 ln_X6_number le_X6_number li_X6 lk_X6_number (show k_nm yX6_number 1 by decide +kernel) ⟨Nat.le_of_ble_eq_true rfl, Nat.le_of_ble_eq_true rfl⟩ rfl rfl ⟨Nat.le_of_ble_eq_true rfl, Nat.le_of_ble_eq_true rfl⟩ hl.1 rfl (Nat.le_of_ble_eq_true rfl) dX6_readTable_32 (by omega) (k_c19 _ _ _) rfl hW (fun v z1 H locs hp hW => ?_)
        obtain ⟨rfl, hz1⟩ := hp
        rw [hz1] at hW
        refine W.eq (g2 := F0 m 35 ls [.long (f_X6_number w p0)]) rfl ?_
        refine lv_lstore (lv' := [(7, .long (f_X6_number w p0)), (6, .int (w.1 19 30)), (0, .ref (E.2.2 19)), (1, .int p0), (2, .long ob), (4, .long du)]) hx hb dX6_readTable_35 hl (by decide) rfl (fun ls hl => ?_)
        refine lv_lload hx hb dX6_readTable_37 (lv_at hl 0 rfl) ?_
        refine lv_lconst (v := 0) hx hb dX6_readTable_39 (by decide) ?_
        refine k_lif_ge (tgt := 54) hx hb dX6_readTable_40 dX6_readTable_41 (by decide) (fun h5 => ?_) (fun h5 => ?_)
        · refine lv_aload_n hx hb dX6_readTable_54 rfl (lv_at hl 2 rfl) ?_
          refine lv_iload_n hx hb dX6_readTable_55 rfl (lv_at hl 3 rfl) ?_
          refine lv_aload_n hx hb dX6_readTable_56 rfl (lv_at hl 2 rfl) ?_
          refine k_get hx hb hts inlX6 hown hW 19 (by omega) k_c19 rfl 31 (by decide) lf_RX6_138 rfl (v := .int (w.1 19 31)) rfl dX6_readTable_57 ?_
          refine k_callV (As := [.int p0, .int (w.1 19 31)]) (rest := []) hx hb hml hown hts (c_X6_token l E S _ w p0 (w.1 19 31) hs ((hi0).2.2.2.2.2.1) hi0) lm_RX6_143 ln_X6_token le_X6_token li_X6 lk_X6_token (show k_nm yX6_token 2 by decide +kernel) ⟨Nat.le_of_ble_eq_true rfl, Nat.le_of_ble_eq_true rfl⟩ rfl rfl ⟨Nat.le_of_ble_eq_true rfl, Nat.le_of_ble_eq_true rfl⟩ hl.1 rfl (Nat.le_of_ble_eq_true rfl) dX6_readTable_60 (by omega) (k_c19 _ _ _) rfl hW (fun v z1 H locs hp hW => ?_)
          obtain ⟨rfl, hz1⟩ := hp
          rw [hz1] at hW
          obtain ⟨z7, ez7⟩ : ∃ y9 : Sg, y9 = (f_X6_token w p0 (w.1 19 31)) := ⟨_, rfl⟩
          rw [← ez7] at hW
          have Jz7 : k_J S z7 := by rw [ez7]; exact J_token ((hi0).2.2.2.2.2.1) hi0
          have Rz7 : k_R t p0 z7 := by rw [ez7]; exact R_token hi1
          have Tz7 : p19 (w.1 19 31) z7 := by rw [ez7]; exact T_token ((hi0).2.2.2.2.2.1) hi0
          refine W.eq (g2 := F0 m 63 ls []) rfl ?_
          refine lv_aload_n hx hb dX6_readTable_63 rfl (lv_at hl 2 rfl) ?_
          refine lv_iload_n hx hb dX6_readTable_64 rfl (lv_at hl 3 rfl) ?_
          refine k_callV (As := [.int p0]) (rest := []) hx hb hml hown hts (c_X6_number l E S _ z7 p0 hs Jz7) lm_RX6_147 ln_X6_number le_X6_number li_X6 lk_X6_number (show k_nm yX6_number 1 by decide +kernel) ⟨Nat.le_of_ble_eq_true rfl, Nat.le_of_ble_eq_true rfl⟩ rfl rfl ⟨Nat.le_of_ble_eq_true rfl, Nat.le_of_ble_eq_true rfl⟩ hl.1 rfl (Nat.le_of_ble_eq_true rfl) dX6_readTable_65 (by omega) (k_c19 _ _ _) rfl hW (fun v z1 H locs hp hW => ?_)
          obtain ⟨rfl, hz1⟩ := hp
          rw [hz1] at hW
          refine W.eq (g2 := F0 m 68 ls [.long (f_X6_number z7 p0)]) rfl ?_
          refine lv_lstore (lv' := [(9, .long (f_X6_number z7 p0)), (7, .long (f_X6_number w p0)), (6, .int (w.1 19 30)), (0, .ref (E.2.2 19)), (1, .int p0), (2, .long ob), (4, .long du)]) hx hb dX6_readTable_68 hl (by decide) rfl (fun ls hl => ?_)
          refine lv_lload hx hb dX6_readTable_70 (lv_at hl 0 rfl) ?_
          refine lv_lconst (v := 0) hx hb dX6_readTable_72 (by decide) ?_
          refine k_lif_ge (tgt := 89) hx hb dX6_readTable_73 dX6_readTable_74 (by decide) (fun h8 => ?_) (fun h8 => ?_)
          · refine lv_aload_n hx hb dX6_readTable_89 rfl (lv_at hl 3 rfl) ?_
            refine lv_iload_n hx hb dX6_readTable_90 rfl (lv_at hl 4 rfl) ?_
            refine lv_aload_n hx hb dX6_readTable_91 rfl (lv_at hl 3 rfl) ?_
            refine k_get hx hb hts inlX6 hown hW 19 (by omega) k_c19 rfl 31 (by decide) lf_RX6_138 rfl (v := .int (z7.1 19 31)) rfl dX6_readTable_92 ?_
            refine k_callV (As := [.int p0, .int (z7.1 19 31)]) (rest := []) hx hb hml hown hts (c_X6_token l E S _ z7 p0 (z7.1 19 31) hs ((Jz7).2.2.2.2.2.1) Jz7) lm_RX6_143 ln_X6_token le_X6_token li_X6 lk_X6_token (show k_nm yX6_token 2 by decide +kernel) ⟨Nat.le_of_ble_eq_true rfl, Nat.le_of_ble_eq_true rfl⟩ rfl rfl ⟨Nat.le_of_ble_eq_true rfl, Nat.le_of_ble_eq_true rfl⟩ hl.1 rfl (Nat.le_of_ble_eq_true rfl) dX6_readTable_95 (by omega) (k_c19 _ _ _) rfl hW (fun v z1 H locs hp hW => ?_)
            obtain ⟨rfl, hz1⟩ := hp
            rw [hz1] at hW
            obtain ⟨z10, ez10⟩ : ∃ y9 : Sg, y9 = (f_X6_token z7 p0 (z7.1 19 31)) := ⟨_, rfl⟩
            rw [← ez10] at hW
            have Jz10 : k_J S z10 := by rw [ez10]; exact J_token ((Jz7).2.2.2.2.2.1) Jz7
            have Rz10 : k_R t p0 z10 := by rw [ez10]; exact R_token Rz7
            have Tz10 : p19 (z7.1 19 31) z10 := by rw [ez10]; exact T_token ((Jz7).2.2.2.2.2.1) Jz7
            refine W.eq (g2 := F0 m 98 ls []) rfl ?_
            refine lv_aload_n hx hb dX6_readTable_98 rfl (lv_at hl 3 rfl) ?_
            refine lv_iload_n hx hb dX6_readTable_99 rfl (lv_at hl 4 rfl) ?_
            refine lv_bipush (v := 110) hx hb dX6_readTable_100 (by decide) ?_
            refine k_callV (As := [.int p0, .int 110]) (rest := []) hx hb hml hown hts (c_X6_isByte l E S _ z10 p0 110 hs Jz10) lm_RX6_155 ln_X6_isByte le_X6_isByte li_X6 lk_X6_isByte (show k_nm yX6_isByte 2 by decide +kernel) ⟨Nat.le_of_ble_eq_true rfl, Nat.le_of_ble_eq_true rfl⟩ rfl rfl ⟨Nat.le_of_ble_eq_true rfl, Nat.le_of_ble_eq_true rfl⟩ hl.1 rfl (Nat.le_of_ble_eq_true rfl) dX6_readTable_102 (by omega) (k_c19 _ _ _) rfl hW (fun v z1 H locs hp hW => ?_)
            obtain ⟨rfl, hz1⟩ := hp
            rw [hz1] at hW
            refine W.eq (g2 := F0 m 105 ls [.int (f_X6_isByte z10 p0 110)]) rfl ?_
            refine lv_istore (lv' := [(11, .int (f_X6_isByte z10 p0 110)), (9, .long (f_X6_number z7 p0)), (7, .long (f_X6_number w p0)), (6, .int (w.1 19 30)), (0, .ref (E.2.2 19)), (1, .int p0), (2, .long ob), (4, .long du)]) hx hb dX6_readTable_105 hl (by decide) rfl (fun ls hl => ?_)
            refine lv_iload hx hb dX6_readTable_107 (lv_at hl 0 rfl) ?_
            refine lv_if_ne (tgt := 122) hx hb dX6_readTable_109 (by decide) (fun h11 => ?_) (fun h11 => ?_)
            · refine lv_iconst (v := 1) hx hb dX6_readTable_122 (by decide) ?_
              refine lv_goto (tgt := 127) hx hb dX6_readTable_123 (by decide) ?_
              refine lv_istore (lv' := [(12, .int 1), (11, .int (f_X6_isByte z10 p0 110)), (9, .long (f_X6_number z7 p0)), (7, .long (f_X6_number w p0)), (6, .int (w.1 19 30)), (0, .ref (E.2.2 19)), (1, .int p0), (2, .long ob), (4, .long du)]) hx hb dX6_readTable_127 hl (by decide) rfl (fun ls hl => ?_)
              refine lv_iload hx hb dX6_readTable_129 (lv_at hl 0 rfl) ?_
              refine lv_if_eq (tgt := 144) hx hb dX6_readTable_131 (by decide) (fun h12 => absurd h12 (by decide)) (fun _ => ?_)
              refine lv_lload hx hb dX6_readTable_134 (lv_at hl 8 rfl) ?_
              refine lv_lconst (v := 0) hx hb dX6_readTable_136 (by decide) ?_
              refine k_lif_ne (tgt := 170) hx hb dX6_readTable_137 dX6_readTable_138 (by decide) (fun h13 => ?_) (fun h13 => ?_)
              · refine lv_iload hx hb dX6_readTable_170 (lv_at hl 0 rfl) ?_
                refine lv_if_eq (tgt := 238) hx hb dX6_readTable_172 (by decide) (fun h14 => absurd h14 (by decide)) (fun _ => ?_)
                refine lv_aload_n hx hb dX6_readTable_175 rfl (lv_at hl 5 rfl) ?_
                refine lv_iload_n hx hb dX6_readTable_176 rfl (lv_at hl 6 rfl) ?_
                refine lv_aload_n hx hb dX6_readTable_177 rfl (lv_at hl 5 rfl) ?_
                refine k_get hx hb hts inlX6 hown hW 19 (by omega) k_c19 rfl 31 (by decide) lf_RX6_138 rfl (v := .int (z10.1 19 31)) rfl dX6_readTable_178 ?_
                refine k_callV (As := [.int p0, .int (z10.1 19 31)]) (rest := []) hx hb hml hown hts (c_X6_token l E S _ z10 p0 (z10.1 19 31) hs ((Jz10).2.2.2.2.2.1) Jz10) lm_RX6_143 ln_X6_token le_X6_token li_X6 lk_X6_token (show k_nm yX6_token 2 by decide +kernel) ⟨Nat.le_of_ble_eq_true rfl, Nat.le_of_ble_eq_true rfl⟩ rfl rfl ⟨Nat.le_of_ble_eq_true rfl, Nat.le_of_ble_eq_true rfl⟩ hl.1 rfl (Nat.le_of_ble_eq_true rfl) dX6_readTable_181 (by omega) (k_c19 _ _ _) rfl hW (fun v z1 H locs hp hW => ?_)
                obtain ⟨rfl, hz1⟩ := hp
                rw [hz1] at hW
                obtain ⟨z16, ez16⟩ : ∃ y9 : Sg, y9 = (f_X6_token z10 p0 (z10.1 19 31)) := ⟨_, rfl⟩
                rw [← ez16] at hW
                have Jz16 : k_J S z16 := by rw [ez16]; exact J_token ((Jz10).2.2.2.2.2.1) Jz10
                have Rz16 : k_R t p0 z16 := by rw [ez16]; exact R_token Rz10
                have Tz16 : p19 (z10.1 19 31) z16 := by rw [ez16]; exact T_token ((Jz10).2.2.2.2.2.1) Jz10
                refine W.eq (g2 := F0 m 184 ls []) rfl ?_
                refine lv_aload_n hx hb dX6_readTable_184 rfl (lv_at hl 5 rfl) ?_
                refine lv_iload_n hx hb dX6_readTable_185 rfl (lv_at hl 6 rfl) ?_
                refine lv_lload_n hx hb dX6_readTable_186 rfl (lv_at hl 7 rfl) ?_
                refine lv_iload hx hb dX6_readTable_187 (lv_at hl 1 rfl) ?_
                refine lv_if_eq (tgt := 196) hx hb dX6_readTable_189 (by decide) (fun h9 => absurd h9 h11) (fun _ => ?_)
                refine lv_iconst (v := 2) hx hb dX6_readTable_192 (by decide) ?_
                refine lv_goto (tgt := 197) hx hb dX6_readTable_193 (by decide) ?_
                refine lv_lload hx hb dX6_readTable_197 (lv_at hl 3 rfl) ?_
                refine lv_lload hx hb dX6_readTable_199 (lv_at hl 2 rfl) ?_
                refine k_callV (As := [.int p0, .long ob, .int 2, .long (f_X6_number w p0), .long (f_X6_number z7 p0)]) (rest := []) hx hb hml hown hts (c_X6_row l E S _ z16 p0 ob 2 (f_X6_number w p0) (f_X6_number z7 p0) t ht Rz16 hi2.1 Jz16) lm_RX6_159 ln_X6_row le_X6_row li_X6 lk_X6_row (show k_nm yX6_row 5 by decide +kernel) ⟨Nat.le_of_ble_eq_true rfl, Nat.le_of_ble_eq_true rfl⟩ rfl rfl ⟨Nat.le_of_ble_eq_true rfl, Nat.le_of_ble_eq_true rfl⟩ hl.1 rfl (Nat.le_of_ble_eq_true rfl) dX6_readTable_201 (by omega) (k_c19 _ _ _) rfl hW (fun v z1 H locs hp hW => ?_)
                obtain ⟨rfl, hz1⟩ := hp
                rw [hz1] at hW
                obtain ⟨z19, ez19⟩ : ∃ y9 : Sg, y9 = (f_X6_row z16 p0 ob 2 (f_X6_number w p0) (f_X6_number z7 p0)) := ⟨_, rfl⟩
                rw [← ez19] at hW
                have Jz19 : k_J S z19 := by rw [ez19]; exact (JR_row ht Rz16 hi2.1 Jz16).1
                have Rz19 : k_R t p0 z19 := by rw [ez19]; exact (JR_row ht Rz16 hi2.1 Jz16).2
                have Tz19 : p19 (z10.1 19 31) z19 := by rw [ez19]; exact p19_row Tz16
                refine W.eq (g2 := F0 m 204 ls []) rfl ?_
                refine lv_lload_n hx hb dX6_readTable_204 rfl (lv_at hl 7 rfl) ?_
                refine lv_lconst (v := 1) hx hb dX6_readTable_205 (by decide) ?_
                refine lv_ladd hx hb dX6_readTable_206 ?_
                refine lv_lstore_n (lv' := [(2, .long (ob + 1)), (12, .int 1), (11, .int (f_X6_isByte z10 p0 110)), (9, .long (f_X6_number z7 p0)), (7, .long (f_X6_number w p0)), (6, .int (w.1 19 30)), (0, .ref (E.2.2 19)), (1, .int p0), (4, .long du)]) hx hb dX6_readTable_207 rfl hl (by decide) rfl (fun ls hl => ?_)
                refine lv_lload hx hb dX6_readTable_208 (lv_at hl 8 rfl) ?_
                refine lv_lconst (v := 1) hx hb dX6_readTable_210 (by decide) ?_
                refine lv_lsub hx hb dX6_readTable_211 ?_
                refine lv_lstore (lv' := [(4, .long (du - 1)), (2, .long (ob + 1)), (12, .int 1), (11, .int (f_X6_isByte z10 p0 110)), (9, .long (f_X6_number z7 p0)), (7, .long (f_X6_number w p0)), (6, .int (w.1 19 30)), (0, .ref (E.2.2 19)), (1, .int p0)]) hx hb dX6_readTable_212 hl (by decide) rfl (fun ls hl => ?_)
                refine lv_aload_n hx hb dX6_readTable_214 rfl (lv_at hl 7 rfl) ?_
                refine k_get hx hb hts inlX6 hown hW 19 (by omega) k_c19 rfl 30 (by decide) lf_RX6_132 rfl (v := .int (z19.1 19 30)) rfl dX6_readTable_215 ?_
                refine lv_iload hx hb dX6_readTable_218 (lv_at hl 6 rfl) ?_
                refine lv_isub hx hb dX6_readTable_220 ?_
                refine lv_bipush (v := 20) hx hb dX6_readTable_221 (by decide) ?_
                refine lv_icmp_eq (tgt := 245) hx hb dX6_readTable_223 (by decide) (fun h20 => ?_) (fun h20 => ?_)
                · refine lv_goto (tgt := 11) hx hb dX6_readTable_245 (by decide) ?_
                  exact ih z19 (ob + 1) (du - 1) _ _ _ (Jz19) (Rz19) (bo_r hi2 hi0.2.2.2.2.1.2 (by have q0 := num_end hi3 h5; have q1 : p19 (w.1 19 31) z7 := Tz7; have q2 : p19 (z7.1 19 31) z10 := Tz10; have q3 := Tz19; have q4 := (Jz19).2.2.2.2.1; have q5 := hi0.2.2.2.2.1; unfold p19 at q1 q2 q3; omega)) ((Tz19).2) (by have q0 := num_end hi3 h5; have q1 : p19 (w.1 19 31) z7 := Tz7; have q2 : p19 (z7.1 19 31) z10 := Tz10; have q3 := Tz19; have q4 := (Jz19).2.2.2.2.1; have q5 := hi0.2.2.2.2.1; unfold p19 at q1 q2 q3; omega) hW (lv_sub hl [7, 8, 1, 0] rfl) (Eq.symm (hG.symm.trans (by subst ez19 ez16 ez10 ez7; simp only [f_X6_readTable_L11, if_neg h1, if_pos h5, if_pos h8, if_neg h11, if_neg h13, if_pos h20])))
                · refine lv_aload_n hx hb dX6_readTable_226 rfl (lv_at hl 7 rfl) ?_
                  refine lv_iconst (v := 3) hx hb dX6_readTable_227 (by decide) ?_
                  refine lv_iload_n hx hb dX6_readTable_228 rfl (lv_at hl 8 rfl) ?_
                  refine lv_iload hx hb dX6_readTable_229 (lv_at hl 6 rfl) ?_
                  refine lv_i2l (v := ((w.1 19 30) : Int32).toInt64) hx hb dX6_readTable_231 rfl ?_
                  refine k_callV (As := [.int 3, .int p0, .long (((w.1 19 30) : Int32).toInt64)]) (rest := []) hx hb hml hown hts (c_X6_tell l E S _ z19 3 p0 (((w.1 19 30) : Int32).toInt64) Jz19) lm_RX6_151 ln_X6_tell le_X6_tell li_X6 lk_X6_tell (show k_nm yX6_tell 3 by decide +kernel) ⟨Nat.le_of_ble_eq_true rfl, Nat.le_of_ble_eq_true rfl⟩ rfl rfl ⟨Nat.le_of_ble_eq_true rfl, Nat.le_of_ble_eq_true rfl⟩ hl.1 rfl (Nat.le_of_ble_eq_true rfl) dX6_readTable_232 (by omega) (k_c19 _ _ _) rfl hW (fun v z1 H locs hp hW => ?_)
                  obtain ⟨rfl, hz1⟩ := hp
                  rw [hz1] at hW
                  obtain ⟨z22, ez22⟩ : ∃ y9 : Sg, y9 = (f_X6_tell z19 3 p0 (((w.1 19 30) : Int32).toInt64)) := ⟨_, rfl⟩
                  rw [← ez22] at hW
                  have Jz22 : k_J S z22 := by rw [ez22]; exact J_tell Jz19
                  have Rz22 : k_R t p0 z22 := by rw [ez22]; exact R_tell Rz19
                  have Tz22 : p19 (z10.1 19 31) z22 := by rw [ez22]; exact p19_tell Tz19
                  refine W.eq (g2 := F0 m 235 ls []) rfl ?_
                  refine lv_goto (tgt := 245) hx hb dX6_readTable_235 (by decide) ?_
                  refine lv_goto (tgt := 11) hx hb dX6_readTable_245 (by decide) ?_
                  exact ih z22 (ob + 1) (du - 1) _ _ _ (Jz22) (Rz22) (bo_r hi2 hi0.2.2.2.2.1.2 (by have q0 := num_end hi3 h5; have q1 : p19 (w.1 19 31) z7 := Tz7; have q2 : p19 (z7.1 19 31) z10 := Tz10; have q3 := Tz22; have q4 := (Jz22).2.2.2.2.1; have q5 := hi0.2.2.2.2.1; unfold p19 at q1 q2 q3; omega)) ((Tz22).2) (by have q0 := num_end hi3 h5; have q1 : p19 (w.1 19 31) z7 := Tz7; have q2 : p19 (z7.1 19 31) z10 := Tz10; have q3 := Tz22; have q4 := (Jz22).2.2.2.2.1; have q5 := hi0.2.2.2.2.1; unfold p19 at q1 q2 q3; omega) hW (lv_sub hl [7, 8, 1, 0] rfl) (Eq.symm (hG.symm.trans (by subst ez22 ez19 ez16 ez10 ez7; simp only [f_X6_readTable_L11, if_neg h1, if_pos h5, if_pos h8, if_neg h11, if_neg h13, if_neg h20])))
              · refine lv_goto (tgt := 160) hx hb dX6_readTable_141 (by decide) ?_
                refine lv_aload_n hx hb dX6_readTable_160 rfl (lv_at hl 5 rfl) ?_
                refine lv_iconst (v := 4) hx hb dX6_readTable_161 (by decide) ?_
                refine lv_iload_n hx hb dX6_readTable_162 rfl (lv_at hl 6 rfl) ?_
                refine lv_iload hx hb dX6_readTable_163 (lv_at hl 4 rfl) ?_
                refine lv_i2l (v := ((w.1 19 30) : Int32).toInt64) hx hb dX6_readTable_165 rfl ?_
                refine k_callV (As := [.int 4, .int p0, .long (((w.1 19 30) : Int32).toInt64)]) (rest := []) hx hb hml hown hts (c_X6_tell l E S _ z10 4 p0 (((w.1 19 30) : Int32).toInt64) Jz10) lm_RX6_151 ln_X6_tell le_X6_tell li_X6 lk_X6_tell (show k_nm yX6_tell 3 by decide +kernel) ⟨Nat.le_of_ble_eq_true rfl, Nat.le_of_ble_eq_true rfl⟩ rfl rfl ⟨Nat.le_of_ble_eq_true rfl, Nat.le_of_ble_eq_true rfl⟩ hl.1 rfl (Nat.le_of_ble_eq_true rfl) dX6_readTable_166 (by omega) (k_c19 _ _ _) rfl hW (fun v z1 H locs hp hW => ?_)
                obtain ⟨rfl, hz1⟩ := hp
                rw [hz1] at hW
                obtain ⟨z24, ez24⟩ : ∃ y9 : Sg, y9 = (f_X6_tell z10 4 p0 (((w.1 19 30) : Int32).toInt64)) := ⟨_, rfl⟩
                rw [← ez24] at hW
                have Jz24 : k_J S z24 := by rw [ez24]; exact J_tell Jz10
                have Rz24 : k_R t p0 z24 := by rw [ez24]; exact R_tell Rz10
                have Tz24 : p19 (z7.1 19 31) z24 := by rw [ez24]; exact p19_tell Tz10
                refine W.eq (g2 := F0 m 169 ls []) rfl ?_
                have hR : (f_X6_readTable z p0) = z24 := (hG.symm.trans (by subst ez24 ez10 ez7; simp only [f_X6_readTable_L11, if_neg h1, if_pos h5, if_pos h8, if_neg h11, if_pos h13]))
                exact k_vret hx hb hr hlocks hW ⟨rfl, by rw [hR]⟩ dX6_readTable_169
            · refine lv_aload_n hx hb dX6_readTable_112 rfl (lv_at hl 4 rfl) ?_
              refine lv_iload_n hx hb dX6_readTable_113 rfl (lv_at hl 5 rfl) ?_
              refine lv_bipush (v := 102) hx hb dX6_readTable_114 (by decide) ?_
              refine k_callV (As := [.int p0, .int 102]) (rest := []) hx hb hml hown hts (c_X6_isByte l E S _ z10 p0 102 hs Jz10) lm_RX6_155 ln_X6_isByte le_X6_isByte li_X6 lk_X6_isByte (show k_nm yX6_isByte 2 by decide +kernel) ⟨Nat.le_of_ble_eq_true rfl, Nat.le_of_ble_eq_true rfl⟩ rfl rfl ⟨Nat.le_of_ble_eq_true rfl, Nat.le_of_ble_eq_true rfl⟩ hl.1 rfl (Nat.le_of_ble_eq_true rfl) dX6_readTable_116 (by omega) (k_c19 _ _ _) rfl hW (fun v z1 H locs hp hW => ?_)
              obtain ⟨rfl, hz1⟩ := hp
              rw [hz1] at hW
              refine W.eq (g2 := F0 m 119 ls [.int (f_X6_isByte z10 p0 102)]) rfl ?_
              refine lv_if_eq (tgt := 126) hx hb dX6_readTable_119 (by decide) (fun h25 => ?_) (fun h25 => ?_)
              · refine lv_iconst (v := 0) hx hb dX6_readTable_126 (by decide) ?_
                refine lv_istore (lv' := [(12, .int 0), (11, .int (f_X6_isByte z10 p0 110)), (9, .long (f_X6_number z7 p0)), (7, .long (f_X6_number w p0)), (6, .int (w.1 19 30)), (0, .ref (E.2.2 19)), (1, .int p0), (2, .long ob), (4, .long du)]) hx hb dX6_readTable_127 hl (by decide) rfl (fun ls hl => ?_)
                refine lv_iload hx hb dX6_readTable_129 (lv_at hl 0 rfl) ?_
                refine lv_if_eq (tgt := 144) hx hb dX6_readTable_131 (by decide) (fun _ => ?_) (fun h26 => absurd h26 (by decide))
                refine lv_lload hx hb dX6_readTable_144 (lv_at hl 8 rfl) ?_
                refine lv_lconst (v := 0) hx hb dX6_readTable_146 (by decide) ?_
                refine k_lif_gt (tgt := 160) hx hb dX6_readTable_147 dX6_readTable_148 (by decide) (fun h27 => ?_) (fun h27 => ?_)
                · refine lv_aload_n hx hb dX6_readTable_160 rfl (lv_at hl 5 rfl) ?_
                  refine lv_iconst (v := 4) hx hb dX6_readTable_161 (by decide) ?_
                  refine lv_iload_n hx hb dX6_readTable_162 rfl (lv_at hl 6 rfl) ?_
                  refine lv_iload hx hb dX6_readTable_163 (lv_at hl 4 rfl) ?_
                  refine lv_i2l (v := ((w.1 19 30) : Int32).toInt64) hx hb dX6_readTable_165 rfl ?_
                  refine k_callV (As := [.int 4, .int p0, .long (((w.1 19 30) : Int32).toInt64)]) (rest := []) hx hb hml hown hts (c_X6_tell l E S _ z10 4 p0 (((w.1 19 30) : Int32).toInt64) Jz10) lm_RX6_151 ln_X6_tell le_X6_tell li_X6 lk_X6_tell (show k_nm yX6_tell 3 by decide +kernel) ⟨Nat.le_of_ble_eq_true rfl, Nat.le_of_ble_eq_true rfl⟩ rfl rfl ⟨Nat.le_of_ble_eq_true rfl, Nat.le_of_ble_eq_true rfl⟩ hl.1 rfl (Nat.le_of_ble_eq_true rfl) dX6_readTable_166 (by omega) (k_c19 _ _ _) rfl hW (fun v z1 H locs hp hW => ?_)
                  obtain ⟨rfl, hz1⟩ := hp
                  rw [hz1] at hW
                  obtain ⟨z29, ez29⟩ : ∃ y9 : Sg, y9 = (f_X6_tell z10 4 p0 (((w.1 19 30) : Int32).toInt64)) := ⟨_, rfl⟩
                  rw [← ez29] at hW
                  have Jz29 : k_J S z29 := by rw [ez29]; exact J_tell Jz10
                  have Rz29 : k_R t p0 z29 := by rw [ez29]; exact R_tell Rz10
                  have Tz29 : p19 (z7.1 19 31) z29 := by rw [ez29]; exact p19_tell Tz10
                  refine W.eq (g2 := F0 m 169 ls []) rfl ?_
                  have hR : (f_X6_readTable z p0) = z29 := (hG.symm.trans (by subst ez29 ez10 ez7; simp only [f_X6_readTable_L11, if_neg h1, if_pos h5, if_pos h8, if_pos h11, if_pos h25, if_pos h27]))
                  exact k_vret hx hb hr hlocks hW ⟨rfl, by rw [hR]⟩ dX6_readTable_169
                · refine lv_lload hx hb dX6_readTable_151 (lv_at hl 2 rfl) ?_
                  refine lv_ldc2 (v := 100) hx hb hown (hts _ lc_RX6_115) dX6_readTable_153 ?_
                  refine k_lif_le (tgt := 170) hx hb dX6_readTable_156 dX6_readTable_157 (by decide) (fun h30 => ?_) (fun h30 => ?_)
                  · refine lv_iload hx hb dX6_readTable_170 (lv_at hl 0 rfl) ?_
                    refine lv_if_eq (tgt := 238) hx hb dX6_readTable_172 (by decide) (fun _ => ?_) (fun h31 => absurd h31 (by decide))
                    refine lv_lload hx hb dX6_readTable_238 (lv_at hl 3 rfl) ?_
                    refine lv_lstore_n (lv' := [(2, .long (f_X6_number w p0)), (12, .int 0), (11, .int (f_X6_isByte z10 p0 110)), (9, .long (f_X6_number z7 p0)), (7, .long (f_X6_number w p0)), (6, .int (w.1 19 30)), (0, .ref (E.2.2 19)), (1, .int p0), (4, .long du)]) hx hb dX6_readTable_240 rfl hl (by decide) rfl (fun ls hl => ?_)
                    refine lv_lload hx hb dX6_readTable_241 (lv_at hl 3 rfl) ?_
                    refine lv_lstore (lv' := [(4, .long (f_X6_number z7 p0)), (2, .long (f_X6_number w p0)), (12, .int 0), (11, .int (f_X6_isByte z10 p0 110)), (9, .long (f_X6_number z7 p0)), (7, .long (f_X6_number w p0)), (6, .int (w.1 19 30)), (0, .ref (E.2.2 19)), (1, .int p0)]) hx hb dX6_readTable_243 hl (by decide) rfl (fun ls hl => ?_)
                    refine lv_goto (tgt := 11) hx hb dX6_readTable_245 (by decide) ?_
                    exact ih z10 (f_X6_number w p0) (f_X6_number z7 p0) _ _ _ (Jz10) (Rz10) (bo_b h5 (num_le hi0).2 (Jz10).2.2.2.2.1.1) ((Tz10).2) (by have q0 := num_end hi3 h5; have q1 : p19 (w.1 19 31) z7 := Tz7; have q2 : p19 (z7.1 19 31) z10 := Tz10; have q3 := Tz10; have q4 := (Jz10).2.2.2.2.1; have q5 := hi0.2.2.2.2.1; unfold p19 at q1 q2 q3; omega) hW (lv_sub hl [7, 8, 1, 0] rfl) (Eq.symm (hG.symm.trans (by subst ez10 ez7; simp only [f_X6_readTable_L11, if_neg h1, if_pos h5, if_pos h8, if_pos h11, if_pos h25, if_neg h27, if_pos h30])))
                  · refine lv_aload_n hx hb dX6_readTable_160 rfl (lv_at hl 5 rfl) ?_
                    refine lv_iconst (v := 4) hx hb dX6_readTable_161 (by decide) ?_
                    refine lv_iload_n hx hb dX6_readTable_162 rfl (lv_at hl 6 rfl) ?_
                    refine lv_iload hx hb dX6_readTable_163 (lv_at hl 4 rfl) ?_
                    refine lv_i2l (v := ((w.1 19 30) : Int32).toInt64) hx hb dX6_readTable_165 rfl ?_
                    refine k_callV (As := [.int 4, .int p0, .long (((w.1 19 30) : Int32).toInt64)]) (rest := []) hx hb hml hown hts (c_X6_tell l E S _ z10 4 p0 (((w.1 19 30) : Int32).toInt64) Jz10) lm_RX6_151 ln_X6_tell le_X6_tell li_X6 lk_X6_tell (show k_nm yX6_tell 3 by decide +kernel) ⟨Nat.le_of_ble_eq_true rfl, Nat.le_of_ble_eq_true rfl⟩ rfl rfl ⟨Nat.le_of_ble_eq_true rfl, Nat.le_of_ble_eq_true rfl⟩ hl.1 rfl (Nat.le_of_ble_eq_true rfl) dX6_readTable_166 (by omega) (k_c19 _ _ _) rfl hW (fun v z1 H locs hp hW => ?_)
                    obtain ⟨rfl, hz1⟩ := hp
                    rw [hz1] at hW
                    obtain ⟨z33, ez33⟩ : ∃ y9 : Sg, y9 = (f_X6_tell z10 4 p0 (((w.1 19 30) : Int32).toInt64)) := ⟨_, rfl⟩
                    rw [← ez33] at hW
                    have Jz33 : k_J S z33 := by rw [ez33]; exact J_tell Jz10
                    have Rz33 : k_R t p0 z33 := by rw [ez33]; exact R_tell Rz10
                    have Tz33 : p19 (z7.1 19 31) z33 := by rw [ez33]; exact p19_tell Tz10
                    refine W.eq (g2 := F0 m 169 ls []) rfl ?_
                    have hR : (f_X6_readTable z p0) = z33 := (hG.symm.trans (by subst ez33 ez10 ez7; simp only [f_X6_readTable_L11, if_neg h1, if_pos h5, if_pos h8, if_pos h11, if_pos h25, if_neg h27, if_neg h30]))
                    exact k_vret hx hb hr hlocks hW ⟨rfl, by rw [hR]⟩ dX6_readTable_169
              · refine lv_iconst (v := 1) hx hb dX6_readTable_122 (by decide) ?_
                refine lv_goto (tgt := 127) hx hb dX6_readTable_123 (by decide) ?_
                refine lv_istore (lv' := [(12, .int 1), (11, .int (f_X6_isByte z10 p0 110)), (9, .long (f_X6_number z7 p0)), (7, .long (f_X6_number w p0)), (6, .int (w.1 19 30)), (0, .ref (E.2.2 19)), (1, .int p0), (2, .long ob), (4, .long du)]) hx hb dX6_readTable_127 hl (by decide) rfl (fun ls hl => ?_)
                refine lv_iload hx hb dX6_readTable_129 (lv_at hl 0 rfl) ?_
                refine lv_if_eq (tgt := 144) hx hb dX6_readTable_131 (by decide) (fun h34 => absurd h34 (by decide)) (fun _ => ?_)
                refine lv_lload hx hb dX6_readTable_134 (lv_at hl 8 rfl) ?_
                refine lv_lconst (v := 0) hx hb dX6_readTable_136 (by decide) ?_
                refine k_lif_ne (tgt := 170) hx hb dX6_readTable_137 dX6_readTable_138 (by decide) (fun h35 => ?_) (fun h35 => ?_)
                · refine lv_iload hx hb dX6_readTable_170 (lv_at hl 0 rfl) ?_
                  refine lv_if_eq (tgt := 238) hx hb dX6_readTable_172 (by decide) (fun h36 => absurd h36 (by decide)) (fun _ => ?_)
                  refine lv_aload_n hx hb dX6_readTable_175 rfl (lv_at hl 5 rfl) ?_
                  refine lv_iload_n hx hb dX6_readTable_176 rfl (lv_at hl 6 rfl) ?_
                  refine lv_aload_n hx hb dX6_readTable_177 rfl (lv_at hl 5 rfl) ?_
                  refine k_get hx hb hts inlX6 hown hW 19 (by omega) k_c19 rfl 31 (by decide) lf_RX6_138 rfl (v := .int (z10.1 19 31)) rfl dX6_readTable_178 ?_
                  refine k_callV (As := [.int p0, .int (z10.1 19 31)]) (rest := []) hx hb hml hown hts (c_X6_token l E S _ z10 p0 (z10.1 19 31) hs ((Jz10).2.2.2.2.2.1) Jz10) lm_RX6_143 ln_X6_token le_X6_token li_X6 lk_X6_token (show k_nm yX6_token 2 by decide +kernel) ⟨Nat.le_of_ble_eq_true rfl, Nat.le_of_ble_eq_true rfl⟩ rfl rfl ⟨Nat.le_of_ble_eq_true rfl, Nat.le_of_ble_eq_true rfl⟩ hl.1 rfl (Nat.le_of_ble_eq_true rfl) dX6_readTable_181 (by omega) (k_c19 _ _ _) rfl hW (fun v z1 H locs hp hW => ?_)
                  obtain ⟨rfl, hz1⟩ := hp
                  rw [hz1] at hW
                  obtain ⟨z38, ez38⟩ : ∃ y9 : Sg, y9 = (f_X6_token z10 p0 (z10.1 19 31)) := ⟨_, rfl⟩
                  rw [← ez38] at hW
                  have Jz38 : k_J S z38 := by rw [ez38]; exact J_token ((Jz10).2.2.2.2.2.1) Jz10
                  have Rz38 : k_R t p0 z38 := by rw [ez38]; exact R_token Rz10
                  have Tz38 : p19 (z10.1 19 31) z38 := by rw [ez38]; exact T_token ((Jz10).2.2.2.2.2.1) Jz10
                  refine W.eq (g2 := F0 m 184 ls []) rfl ?_
                  refine lv_aload_n hx hb dX6_readTable_184 rfl (lv_at hl 5 rfl) ?_
                  refine lv_iload_n hx hb dX6_readTable_185 rfl (lv_at hl 6 rfl) ?_
                  refine lv_lload_n hx hb dX6_readTable_186 rfl (lv_at hl 7 rfl) ?_
                  refine lv_iload hx hb dX6_readTable_187 (lv_at hl 1 rfl) ?_
                  refine lv_if_eq (tgt := 196) hx hb dX6_readTable_189 (by decide) (fun _ => ?_) (fun h9 => absurd h11 h9)
                  refine lv_iconst (v := 1) hx hb dX6_readTable_196 (by decide) ?_
                  refine lv_lload hx hb dX6_readTable_197 (lv_at hl 3 rfl) ?_
                  refine lv_lload hx hb dX6_readTable_199 (lv_at hl 2 rfl) ?_
                  refine k_callV (As := [.int p0, .long ob, .int 1, .long (f_X6_number w p0), .long (f_X6_number z7 p0)]) (rest := []) hx hb hml hown hts (c_X6_row l E S _ z38 p0 ob 1 (f_X6_number w p0) (f_X6_number z7 p0) t ht Rz38 hi2.1 Jz38) lm_RX6_159 ln_X6_row le_X6_row li_X6 lk_X6_row (show k_nm yX6_row 5 by decide +kernel) ⟨Nat.le_of_ble_eq_true rfl, Nat.le_of_ble_eq_true rfl⟩ rfl rfl ⟨Nat.le_of_ble_eq_true rfl, Nat.le_of_ble_eq_true rfl⟩ hl.1 rfl (Nat.le_of_ble_eq_true rfl) dX6_readTable_201 (by omega) (k_c19 _ _ _) rfl hW (fun v z1 H locs hp hW => ?_)
                  obtain ⟨rfl, hz1⟩ := hp
                  rw [hz1] at hW
                  obtain ⟨z41, ez41⟩ : ∃ y9 : Sg, y9 = (f_X6_row z38 p0 ob 1 (f_X6_number w p0) (f_X6_number z7 p0)) := ⟨_, rfl⟩
                  rw [← ez41] at hW
                  have Jz41 : k_J S z41 := by rw [ez41]; exact (JR_row ht Rz38 hi2.1 Jz38).1
                  have Rz41 : k_R t p0 z41 := by rw [ez41]; exact (JR_row ht Rz38 hi2.1 Jz38).2
                  have Tz41 : p19 (z10.1 19 31) z41 := by rw [ez41]; exact p19_row Tz38
                  refine W.eq (g2 := F0 m 204 ls []) rfl ?_
                  refine lv_lload_n hx hb dX6_readTable_204 rfl (lv_at hl 7 rfl) ?_
                  refine lv_lconst (v := 1) hx hb dX6_readTable_205 (by decide) ?_
                  refine lv_ladd hx hb dX6_readTable_206 ?_
                  refine lv_lstore_n (lv' := [(2, .long (ob + 1)), (12, .int 1), (11, .int (f_X6_isByte z10 p0 110)), (9, .long (f_X6_number z7 p0)), (7, .long (f_X6_number w p0)), (6, .int (w.1 19 30)), (0, .ref (E.2.2 19)), (1, .int p0), (4, .long du)]) hx hb dX6_readTable_207 rfl hl (by decide) rfl (fun ls hl => ?_)
                  refine lv_lload hx hb dX6_readTable_208 (lv_at hl 8 rfl) ?_
                  refine lv_lconst (v := 1) hx hb dX6_readTable_210 (by decide) ?_
                  refine lv_lsub hx hb dX6_readTable_211 ?_
                  refine lv_lstore (lv' := [(4, .long (du - 1)), (2, .long (ob + 1)), (12, .int 1), (11, .int (f_X6_isByte z10 p0 110)), (9, .long (f_X6_number z7 p0)), (7, .long (f_X6_number w p0)), (6, .int (w.1 19 30)), (0, .ref (E.2.2 19)), (1, .int p0)]) hx hb dX6_readTable_212 hl (by decide) rfl (fun ls hl => ?_)
                  refine lv_aload_n hx hb dX6_readTable_214 rfl (lv_at hl 7 rfl) ?_
                  refine k_get hx hb hts inlX6 hown hW 19 (by omega) k_c19 rfl 30 (by decide) lf_RX6_132 rfl (v := .int (z41.1 19 30)) rfl dX6_readTable_215 ?_
                  refine lv_iload hx hb dX6_readTable_218 (lv_at hl 6 rfl) ?_
                  refine lv_isub hx hb dX6_readTable_220 ?_
                  refine lv_bipush (v := 20) hx hb dX6_readTable_221 (by decide) ?_
                  refine lv_icmp_eq (tgt := 245) hx hb dX6_readTable_223 (by decide) (fun h42 => ?_) (fun h42 => ?_)
                  · refine lv_goto (tgt := 11) hx hb dX6_readTable_245 (by decide) ?_
                    exact ih z41 (ob + 1) (du - 1) _ _ _ (Jz41) (Rz41) (bo_r hi2 hi0.2.2.2.2.1.2 (by have q0 := num_end hi3 h5; have q1 : p19 (w.1 19 31) z7 := Tz7; have q2 : p19 (z7.1 19 31) z10 := Tz10; have q3 := Tz41; have q4 := (Jz41).2.2.2.2.1; have q5 := hi0.2.2.2.2.1; unfold p19 at q1 q2 q3; omega)) ((Tz41).2) (by have q0 := num_end hi3 h5; have q1 : p19 (w.1 19 31) z7 := Tz7; have q2 : p19 (z7.1 19 31) z10 := Tz10; have q3 := Tz41; have q4 := (Jz41).2.2.2.2.1; have q5 := hi0.2.2.2.2.1; unfold p19 at q1 q2 q3; omega) hW (lv_sub hl [7, 8, 1, 0] rfl) (Eq.symm (hG.symm.trans (by subst ez41 ez38 ez10 ez7; simp only [f_X6_readTable_L11, if_neg h1, if_pos h5, if_pos h8, if_pos h11, if_neg h25, if_neg h35, if_pos h42])))
                  · refine lv_aload_n hx hb dX6_readTable_226 rfl (lv_at hl 7 rfl) ?_
                    refine lv_iconst (v := 3) hx hb dX6_readTable_227 (by decide) ?_
                    refine lv_iload_n hx hb dX6_readTable_228 rfl (lv_at hl 8 rfl) ?_
                    refine lv_iload hx hb dX6_readTable_229 (lv_at hl 6 rfl) ?_
                    refine lv_i2l (v := ((w.1 19 30) : Int32).toInt64) hx hb dX6_readTable_231 rfl ?_
                    refine k_callV (As := [.int 3, .int p0, .long (((w.1 19 30) : Int32).toInt64)]) (rest := []) hx hb hml hown hts (c_X6_tell l E S _ z41 3 p0 (((w.1 19 30) : Int32).toInt64) Jz41) lm_RX6_151 ln_X6_tell le_X6_tell li_X6 lk_X6_tell (show k_nm yX6_tell 3 by decide +kernel) ⟨Nat.le_of_ble_eq_true rfl, Nat.le_of_ble_eq_true rfl⟩ rfl rfl ⟨Nat.le_of_ble_eq_true rfl, Nat.le_of_ble_eq_true rfl⟩ hl.1 rfl (Nat.le_of_ble_eq_true rfl) dX6_readTable_232 (by omega) (k_c19 _ _ _) rfl hW (fun v z1 H locs hp hW => ?_)
                    obtain ⟨rfl, hz1⟩ := hp
                    rw [hz1] at hW
                    obtain ⟨z44, ez44⟩ : ∃ y9 : Sg, y9 = (f_X6_tell z41 3 p0 (((w.1 19 30) : Int32).toInt64)) := ⟨_, rfl⟩
                    rw [← ez44] at hW
                    have Jz44 : k_J S z44 := by rw [ez44]; exact J_tell Jz41
                    have Rz44 : k_R t p0 z44 := by rw [ez44]; exact R_tell Rz41
                    have Tz44 : p19 (z10.1 19 31) z44 := by rw [ez44]; exact p19_tell Tz41
                    refine W.eq (g2 := F0 m 235 ls []) rfl ?_
                    refine lv_goto (tgt := 245) hx hb dX6_readTable_235 (by decide) ?_
                    refine lv_goto (tgt := 11) hx hb dX6_readTable_245 (by decide) ?_
                    exact ih z44 (ob + 1) (du - 1) _ _ _ (Jz44) (Rz44) (bo_r hi2 hi0.2.2.2.2.1.2 (by have q0 := num_end hi3 h5; have q1 : p19 (w.1 19 31) z7 := Tz7; have q2 : p19 (z7.1 19 31) z10 := Tz10; have q3 := Tz44; have q4 := (Jz44).2.2.2.2.1; have q5 := hi0.2.2.2.2.1; unfold p19 at q1 q2 q3; omega)) ((Tz44).2) (by have q0 := num_end hi3 h5; have q1 : p19 (w.1 19 31) z7 := Tz7; have q2 : p19 (z7.1 19 31) z10 := Tz10; have q3 := Tz44; have q4 := (Jz44).2.2.2.2.1; have q5 := hi0.2.2.2.2.1; unfold p19 at q1 q2 q3; omega) hW (lv_sub hl [7, 8, 1, 0] rfl) (Eq.symm (hG.symm.trans (by subst ez44 ez41 ez38 ez10 ez7; simp only [f_X6_readTable_L11, if_neg h1, if_pos h5, if_pos h8, if_pos h11, if_neg h25, if_neg h35, if_neg h42])))
                · refine lv_goto (tgt := 160) hx hb dX6_readTable_141 (by decide) ?_
                  refine lv_aload_n hx hb dX6_readTable_160 rfl (lv_at hl 5 rfl) ?_
                  refine lv_iconst (v := 4) hx hb dX6_readTable_161 (by decide) ?_
                  refine lv_iload_n hx hb dX6_readTable_162 rfl (lv_at hl 6 rfl) ?_
                  refine lv_iload hx hb dX6_readTable_163 (lv_at hl 4 rfl) ?_
                  refine lv_i2l (v := ((w.1 19 30) : Int32).toInt64) hx hb dX6_readTable_165 rfl ?_
                  refine k_callV (As := [.int 4, .int p0, .long (((w.1 19 30) : Int32).toInt64)]) (rest := []) hx hb hml hown hts (c_X6_tell l E S _ z10 4 p0 (((w.1 19 30) : Int32).toInt64) Jz10) lm_RX6_151 ln_X6_tell le_X6_tell li_X6 lk_X6_tell (show k_nm yX6_tell 3 by decide +kernel) ⟨Nat.le_of_ble_eq_true rfl, Nat.le_of_ble_eq_true rfl⟩ rfl rfl ⟨Nat.le_of_ble_eq_true rfl, Nat.le_of_ble_eq_true rfl⟩ hl.1 rfl (Nat.le_of_ble_eq_true rfl) dX6_readTable_166 (by omega) (k_c19 _ _ _) rfl hW (fun v z1 H locs hp hW => ?_)
                  obtain ⟨rfl, hz1⟩ := hp
                  rw [hz1] at hW
                  obtain ⟨z46, ez46⟩ : ∃ y9 : Sg, y9 = (f_X6_tell z10 4 p0 (((w.1 19 30) : Int32).toInt64)) := ⟨_, rfl⟩
                  rw [← ez46] at hW
                  have Jz46 : k_J S z46 := by rw [ez46]; exact J_tell Jz10
                  have Rz46 : k_R t p0 z46 := by rw [ez46]; exact R_tell Rz10
                  have Tz46 : p19 (z7.1 19 31) z46 := by rw [ez46]; exact p19_tell Tz10
                  refine W.eq (g2 := F0 m 169 ls []) rfl ?_
                  have hR : (f_X6_readTable z p0) = z46 := (hG.symm.trans (by subst ez46 ez10 ez7; simp only [f_X6_readTable_L11, if_neg h1, if_pos h5, if_pos h8, if_pos h11, if_neg h25, if_pos h35]))
                  exact k_vret hx hb hr hlocks hW ⟨rfl, by rw [hR]⟩ dX6_readTable_169
          · refine lv_aload_n hx hb dX6_readTable_77 rfl (lv_at hl 3 rfl) ?_
            refine lv_iconst (v := 4) hx hb dX6_readTable_78 (by decide) ?_
            refine lv_iload_n hx hb dX6_readTable_79 rfl (lv_at hl 4 rfl) ?_
            refine lv_aload_n hx hb dX6_readTable_80 rfl (lv_at hl 3 rfl) ?_
            refine k_get hx hb hts inlX6 hown hW 19 (by omega) k_c19 rfl 30 (by decide) lf_RX6_132 rfl (v := .int (z7.1 19 30)) rfl dX6_readTable_81 ?_
            refine lv_i2l (v := ((z7.1 19 30) : Int32).toInt64) hx hb dX6_readTable_84 rfl ?_
            refine k_callV (As := [.int 4, .int p0, .long (((z7.1 19 30) : Int32).toInt64)]) (rest := []) hx hb hml hown hts (c_X6_tell l E S _ z7 4 p0 (((z7.1 19 30) : Int32).toInt64) Jz7) lm_RX6_151 ln_X6_tell le_X6_tell li_X6 lk_X6_tell (show k_nm yX6_tell 3 by decide +kernel) ⟨Nat.le_of_ble_eq_true rfl, Nat.le_of_ble_eq_true rfl⟩ rfl rfl ⟨Nat.le_of_ble_eq_true rfl, Nat.le_of_ble_eq_true rfl⟩ hl.1 rfl (Nat.le_of_ble_eq_true rfl) dX6_readTable_85 (by omega) (k_c19 _ _ _) rfl hW (fun v z1 H locs hp hW => ?_)
            obtain ⟨rfl, hz1⟩ := hp
            rw [hz1] at hW
            obtain ⟨z48, ez48⟩ : ∃ y9 : Sg, y9 = (f_X6_tell z7 4 p0 (((z7.1 19 30) : Int32).toInt64)) := ⟨_, rfl⟩
            rw [← ez48] at hW
            have Jz48 : k_J S z48 := by rw [ez48]; exact J_tell Jz7
            have Rz48 : k_R t p0 z48 := by rw [ez48]; exact R_tell Rz7
            have Tz48 : p19 (w.1 19 31) z48 := by rw [ez48]; exact p19_tell Tz7
            refine W.eq (g2 := F0 m 88 ls []) rfl ?_
            have hR : (f_X6_readTable z p0) = z48 := (hG.symm.trans (by subst ez48 ez7; simp only [f_X6_readTable_L11, if_neg h1, if_pos h5, if_neg h8]))
            exact k_vret hx hb hr hlocks hW ⟨rfl, by rw [hR]⟩ dX6_readTable_88
        · refine lv_aload_n hx hb dX6_readTable_44 rfl (lv_at hl 2 rfl) ?_
          refine lv_iconst (v := 4) hx hb dX6_readTable_45 (by decide) ?_
          refine lv_iload_n hx hb dX6_readTable_46 rfl (lv_at hl 3 rfl) ?_
          refine lv_iload hx hb dX6_readTable_47 (lv_at hl 1 rfl) ?_
          refine lv_i2l (v := ((w.1 19 30) : Int32).toInt64) hx hb dX6_readTable_49 rfl ?_
          refine k_callV (As := [.int 4, .int p0, .long (((w.1 19 30) : Int32).toInt64)]) (rest := []) hx hb hml hown hts (c_X6_tell l E S _ w 4 p0 (((w.1 19 30) : Int32).toInt64) hi0) lm_RX6_151 ln_X6_tell le_X6_tell li_X6 lk_X6_tell (show k_nm yX6_tell 3 by decide +kernel) ⟨Nat.le_of_ble_eq_true rfl, Nat.le_of_ble_eq_true rfl⟩ rfl rfl ⟨Nat.le_of_ble_eq_true rfl, Nat.le_of_ble_eq_true rfl⟩ hl.1 rfl (Nat.le_of_ble_eq_true rfl) dX6_readTable_50 (by omega) (k_c19 _ _ _) rfl hW (fun v z1 H locs hp hW => ?_)
          obtain ⟨rfl, hz1⟩ := hp
          rw [hz1] at hW
          obtain ⟨z50, ez50⟩ : ∃ y9 : Sg, y9 = (f_X6_tell w 4 p0 (((w.1 19 30) : Int32).toInt64)) := ⟨_, rfl⟩
          rw [← ez50] at hW
          have Jz50 : k_J S z50 := by rw [ez50]; exact J_tell hi0
          have Rz50 : k_R t p0 z50 := by rw [ez50]; exact R_tell hi1
          refine W.eq (g2 := F0 m 53 ls []) rfl ?_
          have hR : (f_X6_readTable z p0) = z50 := (hG.symm.trans (by subst ez50; simp only [f_X6_readTable_L11, if_neg h1, if_neg h5]))
          exact k_vret hx hb hr hlocks hW ⟨rfl, by rw [hR]⟩ dX6_readTable_53
  have hl : lv_has ls 13 [(0, .ref (E.2.2 19)), (1, .int p0)] := hl
  refine lv_lconst (v := 0) hx hb dX6_readTable_0 (by decide) ?_
  refine lv_lstore_n (lv' := [(2, .long 0), (0, .ref (E.2.2 19)), (1, .int p0)]) hx hb dX6_readTable_1 rfl hl (by decide) rfl (fun ls hl => ?_)
  refine lv_lconst (v := 0) hx hb dX6_readTable_2 (by decide) ?_
  refine lv_lstore (lv' := [(4, .long 0), (2, .long 0), (0, .ref (E.2.2 19)), (1, .int p0)]) hx hb dX6_readTable_3 hl (by decide) rfl (fun ls hl => ?_)
  refine lv_aload_n hx hb dX6_readTable_5 rfl (lv_at hl 2 rfl) ?_
  refine lv_iload_n hx hb dX6_readTable_6 rfl (lv_at hl 3 rfl) ?_
  refine lv_iconst (v := 0) hx hb dX6_readTable_7 (by decide) ?_
  refine k_callV (As := [.int p0, .int 0]) (rest := []) hx hb hml hown hts (c_X6_token l E S _ z p0 0 hs (show 0 ≤ (0 : Int32).toInt ∧ (0 : Int32).toInt ≤ 300 by decide) hI) lm_RX6_143 ln_X6_token le_X6_token li_X6 lk_X6_token (show k_nm yX6_token 2 by decide +kernel) ⟨Nat.le_of_ble_eq_true rfl, Nat.le_of_ble_eq_true rfl⟩ rfl rfl ⟨Nat.le_of_ble_eq_true rfl, Nat.le_of_ble_eq_true rfl⟩ hl.1 rfl (Nat.le_of_ble_eq_true rfl) dX6_readTable_8 (by omega) (k_c19 _ _ _) rfl hW (fun v z1 H locs hp hW => ?_)
  obtain ⟨rfl, hz1⟩ := hp
  rw [hz1] at hW
  obtain ⟨z52, ez52⟩ : ∃ y9 : Sg, y9 = (f_X6_token z p0 0) := ⟨_, rfl⟩
  rw [← ez52] at hW
  have Jz52 : k_J S z52 := by rw [ez52]; exact J_token (show 0 ≤ (0 : Int32).toInt ∧ (0 : Int32).toInt ≤ 300 by decide) hI
  have Rz52 : k_R t p0 z52 := by rw [ez52]; exact R_token hR
  have Tz52 : p19 0 z52 := by rw [ez52]; exact T_token (show 0 ≤ (0 : Int32).toInt ∧ (0 : Int32).toInt ≤ 300 by decide) hI
  refine W.eq (g2 := F0 m 11 ls []) rfl ?_
  exact L11 301 z52 0 0 _ _ _ (Jz52) (Rz52) (⟨by decide, by have := (Jz52).2.2.2.2.1.1; show (0 : Int) ≤ _; omega⟩) ((Tz52).2) (by have := (Jz52).2.2.2.2.1; omega) hW (lv_sub hl [2, 3, 1, 0] rfl) (Eq.symm (by subst ez52; simp only [f_X6_readTable]))
