/-! ===== a table on both sides ===== -/
def q_L (L : Nat) (u0 v0 u v : Sg) : Prop := cf u0 u ∧ mf v0 v ∧ q_KR L u v ∧ q_T u v
theorem L_17 {L k : Nat} {u0 v0 u v : Sg} {x : Int32} (h : q_L L u0 v0 u v) : q_L L u0 v0 (uI u 17 k x) v := ⟨cf_uI ⟨rfl, by decide⟩ h.1, h.2.1, h.2.2.1, h.2.2.2⟩
theorem L_18 {L k : Nat} {u0 v0 u v : Sg} {x : Int32} (h : q_L L u0 v0 u v) : q_L L u0 v0 (uI u 18 k x) v := ⟨cf_uI ⟨rfl, by decide⟩ h.1, h.2.1, h.2.2.1, h.2.2.2⟩
theorem L_J17 {L k : Nat} {u0 v0 u v : Sg} {x : Int64} (h : q_L L u0 v0 u v) : q_L L u0 v0 (uJ u 17 k x) v := ⟨cf_uJ rfl h.1, h.2.1, h.2.2.1, h.2.2.2⟩
theorem L_m {L : Nat} {u0 v0 u v : Sg} {x y : Int32} (h : q_L L u0 v0 u v) : q_L L u0 v0 u (uI (uI v 19 30 x) 19 31 y) := ⟨h.1, mf_u19 ⟨by decide, by decide, by decide, by decide⟩ (mf_u19 ⟨by decide, by decide, by decide, by decide⟩ h.2.1), h.2.2.1, h.2.2.2⟩
theorem L_A {S L c : Nat} {u0 v0 u v : Sg} (hA : q_A S L c u0 v0) (h : q_L L u0 v0 u v) : q_A S L c u v := q_A_of hA h.1 h.2.1
theorem L_tell {L : Nat} {u0 v0 u v : Sg} {a b : Int32} {d : Int64} (h : q_L L u0 v0 u v) : q_L L u0 v0 (f_X1_tell u a b d) (f_X6_tell v a b d) := ⟨cf_tell h.1, mf_tell h.2.1, KR_tell h.2.2.1, T_tell2 h.2.2.2⟩
theorem L_row {S L c : Nat} {u0 v0 u v : Sg} {k : Int32} {ob p g : Int64} (hA : q_A S L c u0 v0) (hk : ¬ k = 0) (hk4 : 0 ≤ k.toInt ∧ k.toInt ≤ 4) (ho : 0 ≤ ob.toInt) (h : q_L L u0 v0 u v) : q_L L u0 v0 (f_X1_takeRow u ob k p g) (f_X6_row v (nI c) ob k p g) := by
  have hB := L_A hA h
  exact ⟨cf_row h.1, mf_row h.2.1, KR_row hB.2.1.1 hB.2.1.2 hB.2.2.1.1 hB.2.2.1.2 hk hk4 ho h.2.2.1, T_rowm (T_rowc h.2.2.2)⟩
theorem L_rowtell {S L c : Nat} {u0 v0 u v : Sg} {k a b : Int32} {ob p g d : Int64} (hA : q_A S L c u0 v0) (hk : ¬ k = 0) (hk4 : 0 ≤ k.toInt ∧ k.toInt ≤ 4) (ho : 0 ≤ ob.toInt) (h : q_L L u0 v0 u v) : q_L L u0 v0 (f_X1_takeRow (f_X1_tell u a b d) ob k p g) (f_X6_tell (f_X6_row v (nI c) ob k p g) a b d) := by
  have hB := L_A hA h
  refine ⟨cf_row (cf_tell h.1), mf_tell (mf_row h.2.1), KR_tellm (KR_row hB.2.1.1 ?_ hB.2.2.1.1 hB.2.2.1.2 hk hk4 ho (KR_tellc h.2.2.1)), T_rowc (T_tell2 (T_rowm h.2.2.2))⟩
  rw [(cf_tell (cf.rf (z := u))).2.2.1]
  exact hB.2.1.2
theorem L22_0 {c k : Nat} {w : Sg} {i : Int32} : f_X2_readTable_L22 c k w 0 i = w := by
  cases k with
  | zero => rw [f_X2_readTable_L22]
  | succ k =>
    rw [f_X2_readTable_L22]
    split
    · rfl
    · rw [if_pos rfl]
theorem rowc_k {z : Sg} {b : Int32} {p d e : Int64} : (f_X1_takeRow z p b d e).1 17 = z.1 17 ∧ (f_X1_takeRow z p b d e).1 18 = z.1 18 ∧ (f_X1_takeRow z p b d e).2.1 17 = z.2.1 17 ∧ (f_X1_takeRow z p b d e).2.2 = z.2.2 := by
  unfold f_X1_takeRow
  repeat' (first | exact ⟨rfl, rfl, rfl, rfl⟩ | split)
theorem tellc_k {z : Sg} {a b : Int32} {d : Int64} : (f_X1_tell z a b d).1 17 = z.1 17 ∧ (f_X1_tell z a b d).1 18 = z.1 18 ∧ (f_X1_tell z a b d).2.1 17 = z.2.1 17 ∧ (f_X1_tell z a b d).2.2 = z.2.2 := by
  unfold f_X1_tell
  repeat' (first | exact ⟨rfl, rfl, rfl, rfl⟩ | split)
/-- where the tokens stand -/
def q_N (n : Int) (u v : Sg) : Prop := (u.1 18 1 = v.1 19 30 ∧ u.1 18 2 = v.1 19 31) ∧ 0 ≤ (v.1 19 30).toInt ∧ (v.1 19 30).toInt ≤ (v.1 19 31).toInt ∧ (v.1 19 31).toInt ≤ n ∧ ((v.1 19 30).toInt < n → (v.1 19 30).toInt < (v.1 19 31).toInt)
theorem adv {S L c : Nat} {u0 v0 u v : Sg} (hA : q_A S L c u0 v0) (hL : q_L L u0 v0 u v) (ht : u.2.2 18 0 = some c) (hN : q_N (v0.1 24 c).toInt u v) : ∃ u' v' : Sg, f_X4_step u = u' ∧ f_X6_token v (nI c) (v.1 19 31) = v' ∧ q_L L u0 v0 u' v' ∧ u'.2.2 18 0 = some c ∧ q_N (v0.1 24 c).toInt u' v' ∧ (v.1 19 31).toInt ≤ (v'.1 19 30).toInt ∧ u'.1 17 = u.1 17 ∧ u'.2.1 = u.2.1 := by
  have hB := L_A hA hL
  have hs : v.1 24 = v0.1 24 := (hL.2.1.1 24 rfl).1
  obtain ⟨⟨n1, n2⟩, n3, n4, n5, n6⟩ := hN
  obtain ⟨b, e, s1, s2, s3, s4, s5, s6⟩ := sim_step hB ht n2 ⟨by omega, by rw [hs]; exact n5⟩
  rw [hs] at s5 s6
  refine ⟨_, _, s1, s2, L_m (L_18 (L_18 hL)), ht, ⟨⟨rfl, rfl⟩, ?_, s4, s5, s6⟩, s3, rfl, rfl⟩
  have : 0 ≤ b.toInt := by omega
  exact this
theorem ref_eq (w : Sg) (x : Int32) : f_X2_refuse w x = (0, f_X1_tell w 4 (w.1 17 2) x.toInt64) := rfl
theorem neg_one64 : ¬ (0 : Int64) ≤ -1 := by decide
theorem nn64 {x : Int64} (h : 0 ≤ x.toInt) : (0 : Int64) ≤ x := by
  have e0 : (0 : Int64).toInt = 0 := rfl
  simp only [Int64.le_iff_toInt_le]; omega
theorem sim_table_L {S L c : Nat} {u0 v0 : Sg} (hA : q_A S L c u0 v0) : ∀ (k : Nat) (u v : Sg) (i : Int32) (ob du : Int64), q_L L u0 v0 u v → u.2.2 18 0 = some c → u.1 17 2 = nI c → q_N (v0.1 24 c).toInt u v → u.2.1 17 3 = ob → u.2.1 17 4 = du → (0 ≤ ob.toInt ∧ ob.toInt ≤ 10000000000 + (v.1 19 30).toInt) → (0 ≤ i.toInt ∧ 2 * i.toInt ≤ (v.1 19 30).toInt) → 300 - (v.1 19 30).toInt.toNat < k → q_L L u0 v0 (f_X2_readTable_L22 c k u 1 i) (f_X6_readTable_L11 (nI c) k v ob du) := by
  have hc := q_A_cl hA
  have hz := q_A_sz hA
  intro k
  induction k with
  | zero => intro u v i ob du _ _ _ _ _ _ _ _ g; omega
  | succ k ih =>
    intro u v i ob du hL ht how hN hob hdu hbo hi hk
    have hB := L_A hA hL
    have hs : v.1 24 = v0.1 24 := (hL.2.1.1 24 rfl).1
    have hNN := hN
    obtain ⟨⟨n1, n2⟩, n3, n4, n5, n6⟩ := hN
    have i300 : (300 : Int32).toInt = 300 := rfl
    have hi1 := i_add1' (x := i) ⟨hi.1, by omega⟩
    rw [f_X2_readTable_L22, f_X6_readTable_L11, if_neg (show ¬ (300 : Int32) ≤ i by simp only [Int32.le_iff_toInt_le]; omega), if_neg (show ¬ (1 : Int32) = 0 by decide), hc.1, hs]
    by_cases g : v0.1 24 c ≤ v.1 19 30
    · rw [if_pos g]
      simp only [Int32.le_iff_toInt_le] at g
      have eb : v.1 19 30 = v.1 19 31 := by rw [← Int32.toInt_inj]; omega
      have es : v.1 19 30 = v0.1 24 c := by rw [← Int32.toInt_inj]; omega
      have hend : ∀ x : Int32, ¬ f_X4_atEnd (uI u 17 5 x) = 0 := by
        intro x
        show ¬ (if u.1 18 1 = u.1 18 2 then (1 : Int32) else 0) = 0
        rw [if_pos (by rw [n1, n2, eb])]; decide
      have hend' : ¬ f_X4_atEnd u = 0 := by
        show ¬ (if u.1 18 1 = u.1 18 2 then (1 : Int32) else 0) = 0
        rw [if_pos (by rw [n1, n2, eb])]; decide
      by_cases d : du ≤ 0
      · have d' : ¬ (0 : Int64) < du := by
          simp only [Int64.le_iff_toInt_le, Int64.lt_iff_toInt_lt] at d ⊢; omega
        have hm : f_X2_isMoreToRead u = 0 := by
          unfold f_X2_isMoreToRead
          rw [hdu, if_neg d', if_neg hend']
        rw [if_pos d, if_pos hm]
        exact hL
      · have d' : (0 : Int64) < du := by
          simp only [Int64.le_iff_toInt_le, Int64.lt_iff_toInt_lt] at d ⊢; omega
        have hm : ¬ f_X2_isMoreToRead u = 0 := by
          unfold f_X2_isMoreToRead
          rw [hdu, if_pos d']; decide
        have hnum : f_X4_isNumber (uI u 17 5 (u.1 18 1)) = 0 := by
          unfold f_X4_isNumber
          rw [if_neg (hend _)]
        have hsp : f_X2_scanPair u = (0, f_X1_tell (uI u 17 5 (u.1 18 1)) 4 (nI c) (u.1 18 1).toInt64) := by
          unfold f_X2_scanPair
          rw [if_pos hnum, ref_eq]
          show (0, f_X1_tell (uI u 17 5 (u.1 18 1)) 4 (u.1 17 2) (u.1 18 1).toInt64) = _
          rw [how]
        rw [if_neg d, if_neg hm, hsp]
        dsimp only
        rw [if_pos rfl, L22_0, n1, es]
        exact L_tell (L_17 hL)
    · rw [if_neg g]
      simp only [Int32.le_iff_toInt_le] at g
      have hlt : (v.1 19 30).toInt < (v.1 19 31).toInt := n6 (by omega)
      have hend : f_X4_atEnd u = 0 := by
        show (if u.1 18 1 = u.1 18 2 then (1 : Int32) else 0) = 0
        rw [if_neg (by rw [n1, n2, ← Int32.toInt_inj]; omega)]
      have hm : ¬ f_X2_isMoreToRead u = 0 := by
        unfold f_X2_isMoreToRead
        split
        · decide
        · first | decide | (rw [if_pos hend]; decide)
      rw [if_neg hm]
      have hL1 : q_L L u0 v0 (uI u 17 5 (u.1 18 1)) v := L_17 hL
      rcases sim_num (L_A hA hL1) ht n1 n2 ⟨n3, n4⟩ (by rw [hs]; exact n5) with ⟨a1, a2⟩ | ⟨a1, a2, a3, a4, a5⟩
      · have hsp : f_X2_scanPair u = (0, f_X1_tell (uI u 17 5 (u.1 18 1)) 4 (nI c) (u.1 18 1).toInt64) := by
          unfold f_X2_scanPair
          rw [if_pos a1, ref_eq]
          show (0, f_X1_tell (uI u 17 5 (u.1 18 1)) 4 (u.1 17 2) (u.1 18 1).toInt64) = _
          rw [how]
        rw [hsp, a2, if_neg neg_one64]
        dsimp only
        rw [if_pos rfl, L22_0, n1]
        exact L_tell (by rw [← n1]; exact hL1)
      · rw [if_pos (nn64 a3)]
        generalize hN1 : f_X6_number v (nI c) = N1 at *
        have hL2 : q_L L u0 v0 (uJ (uI u 17 5 (u.1 18 1)) 17 6 N1) v := L_J17 hL1
        obtain ⟨u3, v7, s1, s2, hL3, ht3, hN3, hb3, w3, j3⟩ := adv hA hL2 ht hNN
        rw [s2]
        have hN3' := hN3
        obtain ⟨⟨m1, m2⟩, m3, m4, m5, m6⟩ := hN3
        have hs3 : v7.1 24 = v0.1 24 := (hL3.2.1.1 24 rfl).1
        dsimp only
        rcases sim_num (L_A hA hL3) ht3 m1 m2 ⟨m3, m4⟩ (by rw [hs3]; exact m5) with ⟨b1, b2⟩ | ⟨b1, b2, b3, b4, b5⟩
        · have hsp : f_X2_scanPair u = (0, f_X1_tell u3 4 (nI c) (u3.1 18 1).toInt64) := by
            unfold f_X2_scanPair
            rw [if_neg a1, ← a2, s1]
            dsimp only
            rw [if_pos b1, ref_eq, w3]
            show (0, f_X1_tell u3 4 (u.1 17 2) (u3.1 18 1).toInt64) = _
            rw [how]
          rw [hsp, b2, if_neg neg_one64]
          dsimp only
          rw [if_pos rfl, L22_0, m1]
          exact L_tell hL3
        · rw [if_pos (nn64 b3)]
          generalize hN2 : f_X6_number v7 (nI c) = N2 at *
          have hL4 : q_L L u0 v0 (uJ u3 17 7 N2) v7 := L_J17 hL3
          obtain ⟨u6, v10, t1, t2, hL6, ht6, hN6, hb6, w6, j6⟩ := adv hA hL4 ht3 hN3'
          rw [t2]
          have hN6' := hN6
          obtain ⟨⟨o1, o2⟩, o3, o4, o5, o6⟩ := hN6
          have hs6 : v10.1 24 = v0.1 24 := (hL6.2.1.1 24 rfl).1
          have hsp : f_X2_scanPair u = (1, uI u6 17 8 (f_X2_kindBySign u6)) := by
            unfold f_X2_scanPair
            rw [if_neg a1, ← a2, s1]
            dsimp only
            rw [if_neg b1, ← b2, t1]
          have q1 := sim_only (L_A hA hL6) ht6 o1 o2 ⟨o3, o4⟩ (by rw [hs6]; exact o5) 110
          have q2 := sim_only (L_A hA hL6) ht6 o1 o2 ⟨o3, o4⟩ (by rw [hs6]; exact o5) 102
          have f5 : u6.1 17 5 = v.1 19 30 := by
            rw [w6]
            show u3.1 17 5 = _
            rw [w3]
            exact n1
          have f2 : u6.1 17 2 = nI c := by
            rw [w6]
            show u3.1 17 2 = _
            rw [w3]
            exact how
          have f3 : u6.2.1 17 3 = ob := by
            rw [j6]
            show u3.2.1 17 3 = _
            rw [j3]
            exact hob
          have f4 : u6.2.1 17 4 = du := by
            rw [j6]
            show u3.2.1 17 4 = _
            rw [j3]
            exact hdu
          have f6 : u6.2.1 17 6 = N1 := by
            rw [j6]
            show u3.2.1 17 6 = _
            rw [j3]
            rfl
          have f7 : u6.2.1 17 7 = N2 := by
            rw [j6]
            rfl
          rw [hsp]
          dsimp only
          rw [if_neg (show ¬ (1 : Int32) = 0 by decide)]
          have row : ∀ kk : Int32, ¬ kk = 0 → (0 ≤ kk.toInt ∧ kk.toInt ≤ 4) → f_X2_kindBySign u6 = kk → q_L L u0 v0
              (if ((uI u6 17 8 (f_X2_kindBySign u6)).1 17 8) = 0 then
                (if (f_X2_takeBeginning (uI u6 17 8 (f_X2_kindBySign u6))).1 = 0 then f_X2_readTable_L22 c k (f_X2_takeBeginning (uI u6 17 8 (f_X2_kindBySign u6))).2 0 (i + 1) else f_X2_readTable_L22 c k (f_X2_takeBeginning (uI u6 17 8 (f_X2_kindBySign u6))).2 1 (i + 1))
              else
                (if (f_X2_takeTableRow (uI u6 17 8 (f_X2_kindBySign u6))).1 = 0 then f_X2_readTable_L22 c k (f_X2_takeTableRow (uI u6 17 8 (f_X2_kindBySign u6))).2 0 (i + 1) else f_X2_readTable_L22 c k (f_X2_takeTableRow (uI u6 17 8 (f_X2_kindBySign u6))).2 1 (i + 1)))
              (if du = 0 then f_X6_tell v10 4 (nI c) (v.1 19 30).toInt64 else
                (if ((f_X6_row (f_X6_token v10 (nI c) (v10.1 19 31)) (nI c) ob kk N1 N2).1 19 30) - (v.1 19 30) = 20 then f_X6_readTable_L11 (nI c) k (f_X6_row (f_X6_token v10 (nI c) (v10.1 19 31)) (nI c) ob kk N1 N2) (ob + 1) (du - 1)
                else f_X6_readTable_L11 (nI c) k (f_X6_tell (f_X6_row (f_X6_token v10 (nI c) (v10.1 19 31)) (nI c) ob kk N1 N2) 3 (nI c) (v.1 19 30).toInt64) (ob + 1) (du - 1))) := by
            intro kk k0 k4 hkk
            rw [hkk]
            have hL8 : q_L L u0 v0 (uI u6 17 8 kk) v10 := L_17 hL6
            rw [if_neg (show ¬ (uI u6 17 8 kk).1 17 8 = 0 from k0)]
            by_cases d : du = 0
            · have htr : f_X2_takeTableRow (uI u6 17 8 kk) = (0, f_X1_tell (uI u6 17 8 kk) 4 (nI c) (v.1 19 30).toInt64) := by
                unfold f_X2_takeTableRow
                rw [if_pos (show (uI u6 17 8 kk).2.1 17 4 = 0 from f4.trans d), ref_eq]
                show (0, f_X1_tell (uI u6 17 8 kk) 4 (u6.1 17 2) (u6.1 17 5).toInt64) = _
                rw [f2, f5]
              rw [htr, if_pos d]
              dsimp only
              rw [if_pos rfl, L22_0]
              exact L_tell hL8
            · rw [if_neg d]
              obtain ⟨u9, v16, r1, r2, hL9, ht9, hN9, hb9, w9, j9⟩ := adv hA hL8 ht6 hN6'
              rw [r2]
              have g5 : u9.1 17 5 = v.1 19 30 := by rw [w9]; exact f5
              have g2 : u9.1 17 2 = nI c := by rw [w9]; exact f2
              have g8 : u9.1 17 8 = kk := by rw [w9]; rfl
              have g3 : u9.2.1 17 3 = ob := by rw [j9]; exact f3
              have g4 : u9.2.1 17 4 = du := by rw [j9]; exact f4
              have g6 : u9.2.1 17 6 = N1 := by rw [j9]; exact f6
              have g7 : u9.2.1 17 7 = N2 := by rw [j9]; exact f7
              have hL10 : q_L L u0 v0 (f_X1_takeRow u9 ob kk N1 N2) (f_X6_row v16 (nI c) ob kk N1 N2) := L_row hA k0 k4 hbo.1 hL9
              have hL11 : q_L L u0 v0 (f_X1_takeRow (f_X1_tell u9 3 (nI c) (v.1 19 30).toInt64) ob kk N1 N2) (f_X6_tell (f_X6_row v16 (nI c) ob kk N1 N2) 3 (nI c) (v.1 19 30).toInt64) := L_rowtell hA k0 k4 hbo.1 hL9
              obtain ⟨⟨x1, x2⟩, x3, x4, x5, x6⟩ := hN9
              have e19 : (f_X6_row v16 (nI c) ob kk N1 N2).1 19 = v16.1 19 := row19
              have rk := rowc_k (z := u9) (b := kk) (p := ob) (d := N1) (e := N2)
              have rk2 := rowc_k (z := f_X1_tell u9 3 (nI c) (v.1 19 30).toInt64) (b := kk) (p := ob) (d := N1) (e := N2)
              have tk := tellc_k (z := u9) (a := 3) (b := nI c) (d := (v.1 19 30).toInt64)
              have t19 := tell19 (z := f_X6_row v16 (nI c) ob kk N1 N2) (a := 3) (b := nI c) (d := (v.1 19 30).toInt64)
              have hbn : (v.1 19 30).toInt + 2 ≤ (v16.1 19 30).toInt := by omega
              have hob1 := l_add1 (a := ob) ⟨hbo.1, by omega⟩
              have i20 : (20 : Int32).toInt = 20 := rfl
              have es : ((v16.1 19 30) - (v.1 19 30)).toInt = (v16.1 19 30).toInt - (v.1 19 30).toInt := by
                rw [Int32.toInt_sub]
                exact Int.bmod_eq_of_le_mul_two (by simp; omega) (by simp; omega)
              have ea : ((v.1 19 30) + 20).toInt = (v.1 19 30).toInt + 20 := by
                rw [Int32.toInt_add, i20]
                exact Int.bmod_eq_of_le_mul_two (by simp; omega) (by simp; omega)
              rw [e19]
              by_cases od : v16.1 19 30 - v.1 19 30 = 20
              · have od' : u9.1 18 1 = u9.1 17 5 + 20 := by
                  rw [x1, g5, ← Int32.toInt_inj, ea]
                  rw [← Int32.toInt_inj, es] at od
                  omega
                have htr : f_X2_takeTableRow (uI u6 17 8 kk) = (1, uJ (uJ (f_X1_takeRow u9 ob kk N1 N2) 17 3 (ob + 1)) 17 4 (du - 1)) := by
                  unfold f_X2_takeTableRow
                  rw [if_neg (show ¬ (uI u6 17 8 kk).2.1 17 4 = 0 from fun e => d (f4.symm.trans e)), r1]
                  dsimp only
                  rw [if_pos od', g3, g8, g6, g7, rk.2.2.1, g3, g4]
                rw [htr, if_pos od]
                dsimp only
                rw [if_neg (show ¬ (1 : Int32) = 0 by decide)]
                refine ih _ _ _ _ _ (L_J17 (L_J17 hL10)) ?_ ?_ ?_ rfl rfl ?_ ?_ ?_
                · show (f_X1_takeRow u9 ob kk N1 N2).2.2 18 0 = some c
                  rw [rk.2.2.2]; exact ht9
                · show (f_X1_takeRow u9 ob kk N1 N2).1 17 2 = nI c
                  rw [rk.1]; exact g2
                · unfold q_N
                  rw [e19]
                  show ((f_X1_takeRow u9 ob kk N1 N2).1 18 1 = _ ∧ (f_X1_takeRow u9 ob kk N1 N2).1 18 2 = _) ∧ _
                  rw [rk.2.1]
                  exact ⟨⟨x1, x2⟩, x3, x4, x5, x6⟩
                · rw [e19, hob1]; omega
                · rw [e19, hi1]; omega
                · rw [e19]; omega
              · have od' : ¬ u9.1 18 1 = u9.1 17 5 + 20 := by
                  rw [x1, g5, ← Int32.toInt_inj, ea]
                  rw [← Int32.toInt_inj, es] at od
                  omega
                have htr : f_X2_takeTableRow (uI u6 17 8 kk) = (1, uJ (uJ (f_X1_takeRow (f_X1_tell u9 3 (nI c) (v.1 19 30).toInt64) ob kk N1 N2) 17 3 (ob + 1)) 17 4 (du - 1)) := by
                  unfold f_X2_takeTableRow
                  rw [if_neg (show ¬ (uI u6 17 8 kk).2.1 17 4 = 0 from fun e => d (f4.symm.trans e)), r1]
                  dsimp only
                  rw [if_neg od', g2, g5, tk.2.2.1, tk.1, g3, g8, g6, g7, rk2.2.2.1, tk.2.2.1, g3, g4]
                rw [htr, if_neg od]
                dsimp only
                rw [if_neg (show ¬ (1 : Int32) = 0 by decide)]
                refine ih _ _ _ _ _ (L_J17 (L_J17 hL11)) ?_ ?_ ?_ rfl rfl ?_ ?_ ?_
                · show (f_X1_takeRow (f_X1_tell u9 3 (nI c) (v.1 19 30).toInt64) ob kk N1 N2).2.2 18 0 = some c
                  rw [rk2.2.2.2, tk.2.2.2]; exact ht9
                · show (f_X1_takeRow (f_X1_tell u9 3 (nI c) (v.1 19 30).toInt64) ob kk N1 N2).1 17 2 = nI c
                  rw [rk2.1, tk.1]; exact g2
                · unfold q_N
                  rw [t19.1, t19.2, e19]
                  show ((f_X1_takeRow (f_X1_tell u9 3 (nI c) (v.1 19 30).toInt64) ob kk N1 N2).1 18 1 = _ ∧ (f_X1_takeRow (f_X1_tell u9 3 (nI c) (v.1 19 30).toInt64) ob kk N1 N2).1 18 2 = _) ∧ _
                  rw [rk2.2.1, tk.2.1]
                  exact ⟨⟨x1, x2⟩, x3, x4, x5, x6⟩
                · rw [t19.1, e19, hob1]; omega
                · rw [t19.1, e19, hi1]; omega
                · rw [t19.1, e19]; omega
          by_cases y1 : f_X6_isByte v10 (nI c) 110 = 0
          · by_cases y2 : f_X6_isByte v10 (nI c) 102 = 0
            · have hkk : f_X2_kindBySign u6 = 0 := by
                unfold f_X2_kindBySign
                rw [q1, q2, if_pos y1, if_pos y2]
              rw [hkk, if_pos y1, if_pos y2, if_pos (show (uI u6 17 8 0).1 17 8 = 0 from rfl)]
              have hL8 : q_L L u0 v0 (uI u6 17 8 0) v10 := L_17 hL6
              have hbad : q_L L u0 v0 (f_X1_tell (uI u6 17 8 0) 4 (nI c) (v.1 19 30).toInt64) (f_X6_tell v10 4 (nI c) (v.1 19 30).toInt64) := L_tell hL8
              by_cases d : (0 : Int64) < du
              · have htb : f_X2_takeBeginning (uI u6 17 8 0) = (0, f_X1_tell (uI u6 17 8 0) 4 (nI c) (v.1 19 30).toInt64) := by
                  unfold f_X2_takeBeginning
                  rw [if_pos (show (0 : Int64) < (uI u6 17 8 0).2.1 17 4 by show (0 : Int64) < u6.2.1 17 4; rw [f4]; exact d), ref_eq]
                  show (0, f_X1_tell (uI u6 17 8 0) 4 (u6.1 17 2) (u6.1 17 5).toInt64) = _
                  rw [f2, f5]
                rw [htb, if_pos d]
                dsimp only
                rw [if_pos rfl, L22_0]
                exact hbad
              · rw [if_neg d]
                by_cases d2 : N2 ≤ 100
                · have htb : f_X2_takeBeginning (uI u6 17 8 0) = (1, uJ (uJ (uI u6 17 8 0) 17 3 N1) 17 4 N2) := by
                    unfold f_X2_takeBeginning
                    rw [if_neg (show ¬ (0 : Int64) < (uI u6 17 8 0).2.1 17 4 by show ¬ (0 : Int64) < u6.2.1 17 4; rw [f4]; exact d), if_pos (show (uI u6 17 8 0).2.1 17 7 ≤ 100 by show u6.2.1 17 7 ≤ 100; rw [f7]; exact d2)]
                    show (1, uJ (uJ (uI u6 17 8 0) 17 3 (u6.2.1 17 6)) 17 4 (u6.2.1 17 7)) = _
                    rw [f6, f7]
                  rw [htb, if_pos d2]
                  dsimp only
                  rw [if_neg (show ¬ (1 : Int32) = 0 by decide)]
                  exact ih _ _ _ _ _ (L_J17 (L_J17 hL8)) ht6 f2 hN6' rfl rfl ⟨a3, by omega⟩ ⟨by rw [hi1]; omega, by rw [hi1]; omega⟩ (by omega)
                · have htb : f_X2_takeBeginning (uI u6 17 8 0) = (0, f_X1_tell (uI u6 17 8 0) 4 (nI c) (v.1 19 30).toInt64) := by
                    unfold f_X2_takeBeginning
                    rw [if_neg (show ¬ (0 : Int64) < (uI u6 17 8 0).2.1 17 4 by show ¬ (0 : Int64) < u6.2.1 17 4; rw [f4]; exact d), if_neg (show ¬ (uI u6 17 8 0).2.1 17 7 ≤ 100 by show ¬ u6.2.1 17 7 ≤ 100; rw [f7]; exact d2), ref_eq]
                    show (0, f_X1_tell (uI u6 17 8 0) 4 (u6.1 17 2) (u6.1 17 5).toInt64) = _
                    rw [f2, f5]
                  rw [htb, if_neg d2]
                  dsimp only
                  rw [if_pos rfl, L22_0]
                  exact hbad
            · rw [if_pos y1, if_neg y2]
              refine row 1 (by decide) (by decide) ?_
              unfold f_X2_kindBySign
              rw [q1, q2, if_pos y1, if_neg y2]
          · rw [if_neg y1]
            refine row 2 (by decide) (by decide) ?_
            unfold f_X2_kindBySign
            rw [q1, if_neg y1]
theorem sim_table {S L c : Nat} {u0 v0 u v : Sg} (hA : q_A S L c u0 v0) (h : q_L L u0 v0 u v) (how : u.1 17 2 = nI c) : q_L L u0 v0 (f_X2_readTable u c) (f_X6_readTable v (nI c)) := by
  have hz := q_A_sz hA
  have hL : q_L L u0 v0 (uI (uO (uJ (uJ u 17 3 0) 17 4 0) 18 0 (some c)) 18 2 0) v := L_18 ⟨cf_uO (cf_uJ rfl (cf_uJ rfl h.1)), h.2.1, h.2.2.1, h.2.2.2⟩
  have hs : v.1 24 = v0.1 24 := (h.2.1.1 24 rfl).1
  obtain ⟨b, e, s1, s2, s3, s4, s5, s6⟩ := sim_step (x := 0) (L_A hA hL) rfl rfl ⟨by decide, by rw [hs]; exact hz.2.1⟩
  rw [hs] at s5 s6
  unfold f_X2_readTable f_X6_readTable f_X4_open
  dsimp only
  rw [s1, s2]
  have e0 : (0 : Int32).toInt = 0 := rfl
  refine sim_table_L hA 301 _ _ 0 0 0 (L_m (L_18 (L_18 hL))) rfl how ⟨⟨rfl, rfl⟩, ?_, s4, s5, s6⟩ rfl rfl ⟨by decide, ?_⟩ ⟨by decide, ?_⟩ (by omega)
  · show 0 ≤ b.toInt
    omega
  · show (0 : Int64).toInt ≤ 10000000000 + b.toInt
    have : (0 : Int64).toInt = 0 := rfl
    omega
  · show 2 * (0 : Int32).toInt ≤ b.toInt
    omega
