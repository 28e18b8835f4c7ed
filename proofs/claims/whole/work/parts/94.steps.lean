/-! ===== a call of the law: the class's, then the reference's ===== -/
/-- what the reference's calls leave as it is -/
def cl5 (w w' : Sg) : Prop := cls w w' ∧ w'.2.1 45 = w.2.1 45
theorem cl5.rf {w : Sg} : cl5 w w := ⟨cls.rf, rfl⟩
theorem cl5_uI {z w : Sg} {r k : Nat} {x : Int32} (hr : 19 ≤ r ∧ r ≤ 44) (h : cl5 z w) : cl5 z (uI w r k x) := ⟨cls_uI ⟨hr.1, by omega⟩ h.1, h.2⟩
theorem cl5_uJ {z w : Sg} {r k : Nat} {x : Int64} (hr : 19 ≤ r ∧ r ≤ 44) (h : cl5 z w) : cl5 z (uJ w r k x) := ⟨cls_uJ ⟨hr.1, by omega⟩ h.1, (uJ_r (by omega)).trans h.2⟩
/-- how a call of the law ends: r is what the class's call gave, t the reference's state behind it, x its answer -/
def q_ok (S : Nat) (r : Int32 × Sg) (t : Sg) (x : Int64) : Prop := (k_J S r.2 ∧ k_V r.2) ∧ t.1 19 0 = r.1 ∧ (r.1 = 0 → t.2.1 45 0 = x) ∧ q_I S t t
theorem glU {S cd : Nat} {z z1 : Sg} {x : Int64} {F : Int32} {r : Int32 × Sg} {T : Sg → Sg} (h : q_I S z z) (hr : r = if cd = 0 then (0, uJ z1 45 0 x) else (F, z)) (hF : ¬ cd = 0 → ¬ F = 0) (hz1 : ¬ cd = 0 → z1 = z) (hfr : rfs z z1) (hcl : ∀ w, cl5 w (T w)) (hsim : ∀ w, q_I S z w → (T w).1 19 0 = (if cd = 0 then 0 else F) ∧ q_I S z1 (T w)) : q_ok S r (T r.2) x := by
  by_cases e : cd = 0
  · rw [if_pos e] at hr
    rw [hr]
    have hc : rfs z (uJ z1 45 0 x) := rfs_uJ (by omega) hfr
    have h1 : q_I S z (uJ z1 45 0 x) := q_I_of cls.rf hc h
    obtain ⟨s1, s2⟩ := hsim _ h1
    rw [if_pos e] at s1
    have h2 : q_I S (uJ z1 45 0 x) (T (uJ z1 45 0 x)) := q_I_of (cls_uJ (by omega) cls.rf) rfs.rf s2
    refine ⟨⟨h1.2.1.1, h1.2.1.2⟩, s1, fun _ => ?_, q_I_of (hcl _).1 rfs.rf h2⟩
    rw [(hcl _).2, uJ_s, updL_eq]
  · rw [if_neg e] at hr
    rw [hr]
    obtain ⟨s1, s2⟩ := hsim _ h
    rw [if_neg e] at s1
    rw [hz1 e] at s2
    exact ⟨⟨h.2.1.1, h.2.1.2⟩, s1, fun g => absurd g (hF e), q_I_of (hcl _).1 rfs.rf s2⟩
theorem one_ne : ¬ (1 : Int32) = 0 := by decide
theorem two_ne : ¬ (2 : Int32) = 0 := by decide
theorem three_ne : ¬ (3 : Int32) = 0 := by decide
theorem cl5_octet (w : Sg) (p0 : Int32) (p1 : Int32) : cl5 w (f_X6_octet w p0 p1).2 := by
  unfold f_X6_octet
  (try dsimp only)
  repeat' (first | exact cl5.rf | (refine cl5_uI (by decide) ?_) | (refine cl5_uJ (by decide) ?_) | split)
theorem st_octet {S : Nat} {z : Sg} (h : q_I S z z) (p0 : Int32) (p1 : Int32) : q_ok S (f_L_octet z p0 p1) (f_X6_octet (f_L_octet z p0 p1).2 p0 p1).2 ((f_X6_octet (f_L_octet z p0 p1).2 p0 p1).1).toInt64 := by
  have hr : f_L_octet z p0 p1 = if (f_X5_octet z p0 p1).1 = 0 then (0, uJ z 45 0 ((f_X5_octet z p0 p1).2).toInt64) else ((if (f_X5_octet z p0 p1).1 = 3 then 1 else 2), z) := by
    unfold f_L_octet
    repeat' (first | rfl | split)
  have hF : ¬ (f_X5_octet z p0 p1).1 = 0 → ¬ ((if (f_X5_octet z p0 p1).1 = 3 then 1 else 2) : Int32) = 0 := by
    intro _
    repeat' (first | exact one_ne | exact two_ne | exact three_ne | split)
  have hsim : ∀ w, q_I S z w → (f_X6_octet w p0 p1).2.1 19 0 = (if (f_X5_octet z p0 p1).1 = 0 then 0 else (if (f_X5_octet z p0 p1).1 = 3 then 1 else 2)) ∧ q_I S z (f_X6_octet w p0 p1).2 := by
    intro w hw
    rw [sim_octet hw]
    exact ⟨rfl, q_f hw⟩
  have hk := glU (T := fun w => (f_X6_octet w p0 p1).2) h hr hF (fun _ => rfl) rfs.rf (fun w => cl5_octet w p0 p1) hsim
  have hz : q_I S z (f_L_octet z p0 p1).2 := by
    rw [hr]
    split
    · exact q_I_of cls.rf (rfs_uJ (by omega) rfs.rf) h
    · exact h
  have hv : (f_X6_octet (f_L_octet z p0 p1).2 p0 p1).1 = (f_X5_octet z p0 p1).2 := by rw [sim_octet hz]
  rw [hv]
  exact hk
theorem cl5_value (w : Sg) (p0 : Int32) (p1 : Int32) : cl5 w (f_X6_value w p0 p1).2 := by
  unfold f_X6_value
  (try dsimp only)
  repeat' (first | exact cl5.rf | (refine cl5_uI (by decide) ?_) | (refine cl5_uJ (by decide) ?_) | split)
theorem st_value {S : Nat} {z : Sg} (h : q_I S z z) (p0 : Int32) (p1 : Int32) : q_ok S (f_L_value z p0 p1) (f_X6_value (f_L_value z p0 p1).2 p0 p1).2 ((f_X6_value (f_L_value z p0 p1).2 p0 p1).1).toInt64 := by
  have hr : f_L_value z p0 p1 = if (f_X5_value z p0 p1).1 = 0 then (0, uJ z 45 0 ((f_X5_value z p0 p1).2).toInt64) else ((if (f_X5_value z p0 p1).1 = 3 then 1 else 2), z) := by
    unfold f_L_value
    repeat' (first | rfl | split)
  have hF : ¬ (f_X5_value z p0 p1).1 = 0 → ¬ ((if (f_X5_value z p0 p1).1 = 3 then 1 else 2) : Int32) = 0 := by
    intro _
    repeat' (first | exact one_ne | exact two_ne | exact three_ne | split)
  have hsim : ∀ w, q_I S z w → (f_X6_value w p0 p1).2.1 19 0 = (if (f_X5_value z p0 p1).1 = 0 then 0 else (if (f_X5_value z p0 p1).1 = 3 then 1 else 2)) ∧ q_I S z (f_X6_value w p0 p1).2 := by
    intro w hw
    rw [sim_value hw]
    exact ⟨rfl, q_f hw⟩
  have hk := glU (T := fun w => (f_X6_value w p0 p1).2) h hr hF (fun _ => rfl) rfs.rf (fun w => cl5_value w p0 p1) hsim
  have hz : q_I S z (f_L_value z p0 p1).2 := by
    rw [hr]
    split
    · exact q_I_of cls.rf (rfs_uJ (by omega) rfs.rf) h
    · exact h
  have hv : (f_X6_value (f_L_value z p0 p1).2 p0 p1).1 = (f_X5_value z p0 p1).2 := by rw [sim_value hz]
  rw [hv]
  exact hk
theorem cl5_kind (w : Sg) (p0 : Int32) : cl5 w (f_X6_kind w p0).2 := by
  unfold f_X6_kind
  (try dsimp only)
  repeat' (first | exact cl5.rf | (refine cl5_uI (by decide) ?_) | (refine cl5_uJ (by decide) ?_) | split)
theorem st_kind {S : Nat} {z : Sg} (h : q_I S z z) (p0 : Int32) : q_ok S (f_L_kind z p0) (f_X6_kind (f_L_kind z p0).2 p0).2 ((f_X6_kind (f_L_kind z p0).2 p0).1).toInt64 := by
  have hr : f_L_kind z p0 = if (f_X5_kind z p0).1 = 0 then (0, uJ z 45 0 ((f_X5_kind z p0).2).toInt64) else (1, z) := by
    unfold f_L_kind
    repeat' (first | rfl | split)
  have hF : ¬ (f_X5_kind z p0).1 = 0 → ¬ (1 : Int32) = 0 := by
    intro _
    repeat' (first | exact one_ne | exact two_ne | exact three_ne | split)
  have hsim : ∀ w, q_I S z w → (f_X6_kind w p0).2.1 19 0 = (if (f_X5_kind z p0).1 = 0 then 0 else 1) ∧ q_I S z (f_X6_kind w p0).2 := by
    intro w hw
    rw [sim_kind hw]
    exact ⟨rfl, q_f hw⟩
  have hk := glU (T := fun w => (f_X6_kind w p0).2) h hr hF (fun _ => rfl) rfs.rf (fun w => cl5_kind w p0) hsim
  have hz : q_I S z (f_L_kind z p0).2 := by
    rw [hr]
    split
    · exact q_I_of cls.rf (rfs_uJ (by omega) rfs.rf) h
    · exact h
  have hv : (f_X6_kind (f_L_kind z p0).2 p0).1 = (f_X5_kind z p0).2 := by rw [sim_kind hz]
  rw [hv]
  exact hk
theorem cl5_place (w : Sg) (p0 : Int32) (p1 : Int32) : cl5 w (f_X6_place w p0 p1).2 := by
  unfold f_X6_place
  (try dsimp only)
  repeat' (first | exact cl5.rf | (refine cl5_uI (by decide) ?_) | (refine cl5_uJ (by decide) ?_) | split)
theorem st_place {S : Nat} {z : Sg} (h : q_I S z z) (p0 : Int32) (p1 : Int32) : q_ok S (f_L_place z p0 p1) (f_X6_place (f_L_place z p0 p1).2 p0 p1).2 (f_X6_place (f_L_place z p0 p1).2 p0 p1).1 := by
  have hr : f_L_place z p0 p1 = if (f_X5_place z p0 p1).1 = 0 then (0, uJ z 45 0 (f_X5_place z p0 p1).2) else (1, z) := by
    unfold f_L_place
    repeat' (first | rfl | split)
  have hF : ¬ (f_X5_place z p0 p1).1 = 0 → ¬ (1 : Int32) = 0 := by
    intro _
    repeat' (first | exact one_ne | exact two_ne | exact three_ne | split)
  have hsim : ∀ w, q_I S z w → (f_X6_place w p0 p1).2.1 19 0 = (if (f_X5_place z p0 p1).1 = 0 then 0 else 1) ∧ q_I S z (f_X6_place w p0 p1).2 := by
    intro w hw
    rw [sim_place hw]
    exact ⟨rfl, q_f hw⟩
  have hk := glU (T := fun w => (f_X6_place w p0 p1).2) h hr hF (fun _ => rfl) rfs.rf (fun w => cl5_place w p0 p1) hsim
  have hz : q_I S z (f_L_place z p0 p1).2 := by
    rw [hr]
    split
    · exact q_I_of cls.rf (rfs_uJ (by omega) rfs.rf) h
    · exact h
  have hv : (f_X6_place (f_L_place z p0 p1).2 p0 p1).1 = (f_X5_place z p0 p1).2 := by rw [sim_place hz]
  rw [hv]
  exact hk
theorem cl5_told (w : Sg) (p0 : Int32) (p1 : Int32) : cl5 w (f_X6_told w p0 p1).2 := by
  unfold f_X6_told
  (try dsimp only)
  repeat' (first | exact cl5.rf | (refine cl5_uI (by decide) ?_) | (refine cl5_uJ (by decide) ?_) | split)
theorem st_told {S : Nat} {z : Sg} (h : q_I S z z) (p0 : Int32) (p1 : Int32) : q_ok S (f_L_told z p0 p1) (f_X6_told (f_L_told z p0 p1).2 p0 p1).2 (f_X6_told (f_L_told z p0 p1).2 p0 p1).1 := by
  have hr : f_L_told z p0 p1 = if (f_X5_told z p0 p1).1 = 0 then (0, uJ z 45 0 (f_X5_told z p0 p1).2) else (1, z) := by
    unfold f_L_told
    repeat' (first | rfl | split)
  have hF : ¬ (f_X5_told z p0 p1).1 = 0 → ¬ (1 : Int32) = 0 := by
    intro _
    repeat' (first | exact one_ne | exact two_ne | exact three_ne | split)
  have hsim : ∀ w, q_I S z w → (f_X6_told w p0 p1).2.1 19 0 = (if (f_X5_told z p0 p1).1 = 0 then 0 else 1) ∧ q_I S z (f_X6_told w p0 p1).2 := by
    intro w hw
    rw [sim_told hw]
    exact ⟨rfl, q_f hw⟩
  have hk := glU (T := fun w => (f_X6_told w p0 p1).2) h hr hF (fun _ => rfl) rfs.rf (fun w => cl5_told w p0 p1) hsim
  have hz : q_I S z (f_L_told z p0 p1).2 := by
    rw [hr]
    split
    · exact q_I_of cls.rf (rfs_uJ (by omega) rfs.rf) h
    · exact h
  have hv : (f_X6_told (f_L_told z p0 p1).2 p0 p1).1 = (f_X5_told z p0 p1).2 := by rw [sim_told hz]
  rw [hv]
  exact hk
theorem cl5_revision (w : Sg) (p0 : Int32) (p1 : Int32) : cl5 w (f_X6_revision w p0 p1).2 := by
  unfold f_X6_revision
  (try dsimp only)
  repeat' (first | exact cl5.rf | (refine cl5_uI (by decide) ?_) | (refine cl5_uJ (by decide) ?_) | split)
theorem st_revision {S : Nat} {z : Sg} (h : q_I S z z) (p0 : Int32) (p1 : Int32) : q_ok S (f_L_revision z p0 p1) (f_X6_revision (f_L_revision z p0 p1).2 p0 p1).2 ((f_X6_revision (f_L_revision z p0 p1).2 p0 p1).1).toInt64 := by
  have hr : f_L_revision z p0 p1 = if (f_X5_revision z p0 p1).1 = 0 then (0, uJ z 45 0 ((f_X5_revision z p0 p1).2).toInt64) else (1, z) := by
    unfold f_L_revision
    repeat' (first | rfl | split)
  have hF : ¬ (f_X5_revision z p0 p1).1 = 0 → ¬ (1 : Int32) = 0 := by
    intro _
    repeat' (first | exact one_ne | exact two_ne | exact three_ne | split)
  have hsim : ∀ w, q_I S z w → (f_X6_revision w p0 p1).2.1 19 0 = (if (f_X5_revision z p0 p1).1 = 0 then 0 else 1) ∧ q_I S z (f_X6_revision w p0 p1).2 := by
    intro w hw
    rw [sim_revision hw]
    exact ⟨rfl, q_f hw⟩
  have hk := glU (T := fun w => (f_X6_revision w p0 p1).2) h hr hF (fun _ => rfl) rfs.rf (fun w => cl5_revision w p0 p1) hsim
  have hz : q_I S z (f_L_revision z p0 p1).2 := by
    rw [hr]
    split
    · exact q_I_of cls.rf (rfs_uJ (by omega) rfs.rf) h
    · exact h
  have hv : (f_X6_revision (f_L_revision z p0 p1).2 p0 p1).1 = (f_X5_revision z p0 p1).2 := by rw [sim_revision hz]
  rw [hv]
  exact hk
theorem cl5_trailer (w : Sg) (p0 : Int32) : cl5 w (f_X6_trailer w p0).2 := by
  have key : ∀ (k : Nat) (w : Sg) (i : Int32), (f_X6_trailer_L23 p0 k w i).2 = w := by
    intro k
    induction k with
    | zero => intro w i; rw [f_X6_trailer_L23]
    | succ k ih =>
      intro w i
      rw [f_X6_trailer_L23]
      repeat' (first | rfl | exact ih _ _ | split)
  unfold f_X6_trailer
  split
  · rw [key]; exact cl5_uI (by decide) cl5.rf
  · rw [key]; exact cl5_uI (by decide) cl5.rf
theorem st_trailer {S : Nat} {z : Sg} (h : q_I S z z) (p0 : Int32) : q_ok S (f_L_trailer z p0) (f_X6_trailer (f_L_trailer z p0).2 p0).2 ((f_X6_trailer (f_L_trailer z p0).2 p0).1).toInt64 := by
  have hr : f_L_trailer z p0 = if (f_X5_trailer z p0).1 = 0 then (0, uJ z 45 0 ((f_X5_trailer z p0).2).toInt64) else (1, z) := by
    unfold f_L_trailer
    repeat' (first | rfl | split)
  have hF : ¬ (f_X5_trailer z p0).1 = 0 → ¬ (1 : Int32) = 0 := by
    intro _
    repeat' (first | exact one_ne | exact two_ne | exact three_ne | split)
  have hsim : ∀ w, q_I S z w → (f_X6_trailer w p0).2.1 19 0 = (if (f_X5_trailer z p0).1 = 0 then 0 else 1) ∧ q_I S z (f_X6_trailer w p0).2 := by
    intro w hw
    rw [sim_trailer hw]
    exact ⟨rfl, q_f hw⟩
  have hk := glU (T := fun w => (f_X6_trailer w p0).2) h hr hF (fun _ => rfl) rfs.rf (fun w => cl5_trailer w p0) hsim
  have hz : q_I S z (f_L_trailer z p0).2 := by
    rw [hr]
    split
    · exact q_I_of cls.rf (rfs_uJ (by omega) rfs.rf) h
    · exact h
  have hv : (f_X6_trailer (f_L_trailer z p0).2 p0).1 = (f_X5_trailer z p0).2 := by rw [sim_trailer hz]
  rw [hv]
  exact hk
theorem st_free {S : Nat} {z : Sg} (h : q_I S z z) (p0 : Int32) : q_ok S (f_L_free z p0) (f_X6_free (f_L_free z p0).2 p0).2 ((f_X6_free (f_L_free z p0).2 p0).1).toInt64 := by
  have hr : f_L_free z p0 = if (f_X5_free z p0).1 = 0 then (0, uJ z 45 0 ((f_X5_free z p0).2).toInt64) else (1, z) := by
    unfold f_L_free
    repeat' (first | rfl | split)
  have hF : ¬ (f_X5_free z p0).1 = 0 → ¬ (1 : Int32) = 0 := by
    intro _
    repeat' (first | exact one_ne | exact two_ne | exact three_ne | split)
  have hall : ∀ w, q_I S z w → (f_X6_free w p0).1 = (f_X5_free z p0).2 ∧ (f_X6_free w p0).2.1 19 0 = (if (f_X5_free z p0).1 = 0 then 0 else 1) ∧ q_I S z (f_X6_free w p0).2 ∧ cl5 w (f_X6_free w p0).2 := by
    intro w hw
    obtain ⟨w', e, a, b, c, d⟩ := sim_free hw p0
    rw [e]
    refine ⟨rfl, a, ?_, ⟨fun r hr => ⟨c r (by omega) (by omega), by show w'.2.1 r = w.2.1 r; rw [b]⟩, by show w'.2.2 = w.2.2; rw [b]⟩, by show w'.2.1 45 = w.2.1 45; rw [b]⟩
    refine q_I_of cls.rf (fun r r1 r2 => ⟨?_, by rw [b]; rfl⟩) (q_f (x := w'.1 19 0) hw)
    by_cases e19 : r = 19
    · rw [e19]
      funext k
      by_cases k0 : k = 0
      · rw [k0, uI_s, upd_eq]
      · rw [d k k0, uI_s, upd_ne k0]
    · rw [c r (by omega) e19, uI_r e19]
  have hz : q_I S z (f_L_free z p0).2 := by
    rw [hr]
    split
    · exact q_I_of cls.rf (rfs_uJ (by omega) rfs.rf) h
    · exact h
  rw [(hall _ hz).1]
  by_cases e : (f_X5_free z p0).1 = 0
  · rw [if_pos e] at hr
    rw [hr] at hz ⊢
    obtain ⟨a, b, c, d⟩ := hall _ hz
    rw [if_pos e] at b
    refine ⟨⟨hz.2.1.1, hz.2.1.2⟩, b, fun _ => ?_, q_I_of d.1 rfs.rf (q_I_of (cls_uJ (by omega) cls.rf) rfs.rf c)⟩
    rw [d.2, uJ_s, updL_eq]
  · rw [if_neg e] at hr
    rw [hr] at hz ⊢
    obtain ⟨a, b, c, d⟩ := hall _ hz
    rw [if_neg e] at b
    exact ⟨⟨hz.2.1.1, hz.2.1.2⟩, b, fun g => absurd g one_ne, q_I_of d.1 rfs.rf c⟩
theorem cl5_add (w : Sg) (p0 : Int32) (p1 : Int32) : cl5 w (f_X6_add w p0 p1).2 := by
  unfold f_X6_add
  (try dsimp only)
  repeat' (first | exact cl5.rf | (refine cl5_uI (by decide) ?_) | (refine cl5_uJ (by decide) ?_) | split)
theorem rfs_add (z : Sg) (p0 : Int32) (p1 : Int32) : rfs z (f_X5_add z p0 p1).2.2 := by
  unfold f_X5_add
  (try dsimp only)
  repeat' (first | exact rfs.rf | (refine rfs_uI (by omega) ?_) | (refine rfs_uJ (by omega) ?_) | split)
theorem zne_add (z : Sg) (p0 : Int32) (p1 : Int32) : ¬ (f_X5_add z p0 p1).1 = 0 → (f_X5_add z p0 p1).2.2 = z := by
  unfold f_X5_add
  (try dsimp only)
  repeat' (first | (intro g; exact absurd rfl g) | (intro _; rfl) | split)
theorem st_add {S : Nat} {z : Sg} (h : q_I S z z) (p0 : Int32) (p1 : Int32) : q_ok S (f_L_add z p0 p1) (f_X6_add (f_L_add z p0 p1).2 p0 p1).2 ((f_X6_add (f_L_add z p0 p1).2 p0 p1).1).toInt64 := by
  have hr : f_L_add z p0 p1 = if (f_X5_add z p0 p1).1 = 0 then (0, uJ (f_X5_add z p0 p1).2.2 45 0 ((f_X5_add z p0 p1).2.1).toInt64) else ((if (f_X5_add z p0 p1).1 = 3 then 1 else 2), z) := by
    unfold f_L_add
    repeat' (first | rfl | split)
  have hF : ¬ (f_X5_add z p0 p1).1 = 0 → ¬ ((if (f_X5_add z p0 p1).1 = 3 then 1 else 2) : Int32) = 0 := by
    intro _
    repeat' (first | exact one_ne | exact two_ne | exact three_ne | split)
  have hsim : ∀ w, q_I S z w → (f_X6_add w p0 p1).2.1 19 0 = (if (f_X5_add z p0 p1).1 = 0 then 0 else (if (f_X5_add z p0 p1).1 = 3 then 1 else 2)) ∧ q_I S (f_X5_add z p0 p1).2.2 (f_X6_add w p0 p1).2 := fun w hw => ⟨(sim_add hw p0 p1).2.1, (sim_add hw p0 p1).2.2⟩
  have hk := glU (T := fun w => (f_X6_add w p0 p1).2) h hr hF (zne_add z p0 p1) (rfs_add z p0 p1) (fun w => cl5_add w p0 p1) hsim
  have hz : q_I S z (f_L_add z p0 p1).2 := by
    rw [hr]
    split
    · exact q_I_of cls.rf (rfs_uJ (by omega) (rfs_add z p0 p1)) h
    · exact h
  have hv : (f_X6_add (f_L_add z p0 p1).2 p0 p1).1 = (f_X5_add z p0 p1).2.1 := (sim_add hz p0 p1).1
  rw [hv]
  exact hk
theorem cl5_beside (w : Sg) (p0 : Int32) (p1 : Int64) : cl5 w (f_X6_beside w p0 p1).2 := by
  unfold f_X6_beside
  (try dsimp only)
  repeat' (first | exact cl5.rf | (refine cl5_uI (by decide) ?_) | (refine cl5_uJ (by decide) ?_) | split)
theorem rfs_beside (z : Sg) (p0 : Int32) (p1 : Int64) : rfs z (f_X5_beside z p0 p1).2.2 := by
  unfold f_X5_beside
  (try dsimp only)
  repeat' (first | exact rfs.rf | (refine rfs_uI (by omega) ?_) | (refine rfs_uJ (by omega) ?_) | split)
theorem zne_beside (z : Sg) (p0 : Int32) (p1 : Int64) : ¬ (f_X5_beside z p0 p1).1 = 0 → (f_X5_beside z p0 p1).2.2 = z := by
  unfold f_X5_beside
  (try dsimp only)
  repeat' (first | (intro g; exact absurd rfl g) | (intro _; rfl) | split)
theorem st_beside {S : Nat} {z : Sg} (h : q_I S z z) (p0 : Int32) (p1 : Int64) : q_ok S (f_L_beside z p0 p1) (f_X6_beside (f_L_beside z p0 p1).2 p0 p1).2 (f_X6_beside (f_L_beside z p0 p1).2 p0 p1).1 := by
  have hr : f_L_beside z p0 p1 = if (f_X5_beside z p0 p1).1 = 0 then (0, uJ (f_X5_beside z p0 p1).2.2 45 0 (f_X5_beside z p0 p1).2.1) else ((if (f_X5_beside z p0 p1).1 = 3 then 1 else 2), z) := by
    unfold f_L_beside
    repeat' (first | rfl | split)
  have hF : ¬ (f_X5_beside z p0 p1).1 = 0 → ¬ ((if (f_X5_beside z p0 p1).1 = 3 then 1 else 2) : Int32) = 0 := by
    intro _
    repeat' (first | exact one_ne | exact two_ne | exact three_ne | split)
  have hsim : ∀ w, q_I S z w → (f_X6_beside w p0 p1).2.1 19 0 = (if (f_X5_beside z p0 p1).1 = 0 then 0 else (if (f_X5_beside z p0 p1).1 = 3 then 1 else 2)) ∧ q_I S (f_X5_beside z p0 p1).2.2 (f_X6_beside w p0 p1).2 := fun w hw => ⟨(sim_beside hw p0 p1).2.1, (sim_beside hw p0 p1).2.2⟩
  have hk := glU (T := fun w => (f_X6_beside w p0 p1).2) h hr hF (zne_beside z p0 p1) (rfs_beside z p0 p1) (fun w => cl5_beside w p0 p1) hsim
  have hz : q_I S z (f_L_beside z p0 p1).2 := by
    rw [hr]
    split
    · exact q_I_of cls.rf (rfs_uJ (by omega) (rfs_beside z p0 p1)) h
    · exact h
  have hv : (f_X6_beside (f_L_beside z p0 p1).2 p0 p1).1 = (f_X5_beside z p0 p1).2.1 := (sim_beside hz p0 p1).1
  rw [hv]
  exact hk
theorem cl5_widths (w : Sg) (p0 : Int32) (p1 : Int32) (p2 : Int32) (p3 : Int32) : cl5 w (f_X6_widths w p0 p1 p2 p3).2 := by
  unfold f_X6_widths
  (try dsimp only)
  repeat' (first | exact cl5.rf | (refine cl5_uI (by decide) ?_) | (refine cl5_uJ (by decide) ?_) | split)
theorem rfs_widths (z : Sg) (p0 : Int32) (p1 : Int32) (p2 : Int32) (p3 : Int32) : rfs z (f_X5_widths z p0 p1 p2 p3).2.2 := by
  unfold f_X5_widths
  (try dsimp only)
  repeat' (first | exact rfs.rf | (refine rfs_uI (by omega) ?_) | (refine rfs_uJ (by omega) ?_) | split)
theorem zne_widths (z : Sg) (p0 : Int32) (p1 : Int32) (p2 : Int32) (p3 : Int32) : ¬ (f_X5_widths z p0 p1 p2 p3).1 = 0 → (f_X5_widths z p0 p1 p2 p3).2.2 = z := by
  unfold f_X5_widths
  (try dsimp only)
  repeat' (first | (intro g; exact absurd rfl g) | (intro _; rfl) | split)
theorem st_widths {S : Nat} {z : Sg} (h : q_I S z z) (p0 : Int32) (p1 : Int32) (p2 : Int32) (p3 : Int32) : q_ok S (f_L_widths z p0 p1 p2 p3) (f_X6_widths (f_L_widths z p0 p1 p2 p3).2 p0 p1 p2 p3).2 ((f_X6_widths (f_L_widths z p0 p1 p2 p3).2 p0 p1 p2 p3).1).toInt64 := by
  have hr : f_L_widths z p0 p1 p2 p3 = if (f_X5_widths z p0 p1 p2 p3).1 = 0 then (0, uJ (f_X5_widths z p0 p1 p2 p3).2.2 45 0 ((f_X5_widths z p0 p1 p2 p3).2.1).toInt64) else ((if (f_X5_widths z p0 p1 p2 p3).1 = 3 then 1 else 2), z) := by
    unfold f_L_widths
    repeat' (first | rfl | split)
  have hF : ¬ (f_X5_widths z p0 p1 p2 p3).1 = 0 → ¬ ((if (f_X5_widths z p0 p1 p2 p3).1 = 3 then 1 else 2) : Int32) = 0 := by
    intro _
    repeat' (first | exact one_ne | exact two_ne | exact three_ne | split)
  have hsim : ∀ w, q_I S z w → (f_X6_widths w p0 p1 p2 p3).2.1 19 0 = (if (f_X5_widths z p0 p1 p2 p3).1 = 0 then 0 else (if (f_X5_widths z p0 p1 p2 p3).1 = 3 then 1 else 2)) ∧ q_I S (f_X5_widths z p0 p1 p2 p3).2.2 (f_X6_widths w p0 p1 p2 p3).2 := fun w hw => ⟨(sim_widths hw p0 p1 p2 p3).2.1, (sim_widths hw p0 p1 p2 p3).2.2⟩
  have hk := glU (T := fun w => (f_X6_widths w p0 p1 p2 p3).2) h hr hF (zne_widths z p0 p1 p2 p3) (rfs_widths z p0 p1 p2 p3) (fun w => cl5_widths w p0 p1 p2 p3) hsim
  have hz : q_I S z (f_L_widths z p0 p1 p2 p3).2 := by
    rw [hr]
    split
    · exact q_I_of cls.rf (rfs_uJ (by omega) (rfs_widths z p0 p1 p2 p3)) h
    · exact h
  have hv : (f_X6_widths (f_L_widths z p0 p1 p2 p3).2 p0 p1 p2 p3).1 = (f_X5_widths z p0 p1 p2 p3).2.1 := (sim_widths hz p0 p1 p2 p3).1
  rw [hv]
  exact hk
theorem cl5_run (w : Sg) (p0 : Int32) (p1 : Int32) (p2 : Int32) : cl5 w (f_X6_run w p0 p1 p2).2 := by
  unfold f_X6_run
  (try dsimp only)
  repeat' (first | exact cl5.rf | (refine cl5_uI (by decide) ?_) | (refine cl5_uJ (by decide) ?_) | split)
theorem rfs_run (z : Sg) (p0 : Int32) (p1 : Int32) (p2 : Int32) : rfs z (f_X5_run z p0 p1 p2).2.2 := by
  unfold f_X5_run
  (try dsimp only)
  repeat' (first | exact rfs.rf | (refine rfs_uI (by omega) ?_) | (refine rfs_uJ (by omega) ?_) | split)
theorem zne_run (z : Sg) (p0 : Int32) (p1 : Int32) (p2 : Int32) : ¬ (f_X5_run z p0 p1 p2).1 = 0 → (f_X5_run z p0 p1 p2).2.2 = z := by
  unfold f_X5_run
  (try dsimp only)
  repeat' (first | (intro g; exact absurd rfl g) | (intro _; rfl) | split)
theorem st_run {S : Nat} {z : Sg} (h : q_I S z z) (p0 : Int32) (p1 : Int32) (p2 : Int32) : q_ok S (f_L_run z p0 p1 p2) (f_X6_run (f_L_run z p0 p1 p2).2 p0 p1 p2).2 ((f_X6_run (f_L_run z p0 p1 p2).2 p0 p1 p2).1).toInt64 := by
  have hr : f_L_run z p0 p1 p2 = if (f_X5_run z p0 p1 p2).1 = 0 then (0, uJ (f_X5_run z p0 p1 p2).2.2 45 0 ((f_X5_run z p0 p1 p2).2.1).toInt64) else ((if (f_X5_run z p0 p1 p2).1 = 3 then 1 else if (f_X5_run z p0 p1 p2).1 = 1 then 2 else 3), z) := by
    unfold f_L_run
    repeat' (first | rfl | split)
  have hF : ¬ (f_X5_run z p0 p1 p2).1 = 0 → ¬ ((if (f_X5_run z p0 p1 p2).1 = 3 then 1 else if (f_X5_run z p0 p1 p2).1 = 1 then 2 else 3) : Int32) = 0 := by
    intro _
    repeat' (first | exact one_ne | exact two_ne | exact three_ne | split)
  have hsim : ∀ w, q_I S z w → (f_X6_run w p0 p1 p2).2.1 19 0 = (if (f_X5_run z p0 p1 p2).1 = 0 then 0 else (if (f_X5_run z p0 p1 p2).1 = 3 then 1 else if (f_X5_run z p0 p1 p2).1 = 1 then 2 else 3)) ∧ q_I S (f_X5_run z p0 p1 p2).2.2 (f_X6_run w p0 p1 p2).2 := fun w hw => ⟨(sim_run hw p0 p1 p2).2.1, (sim_run hw p0 p1 p2).2.2⟩
  have hk := glU (T := fun w => (f_X6_run w p0 p1 p2).2) h hr hF (zne_run z p0 p1 p2) (rfs_run z p0 p1 p2) (fun w => cl5_run w p0 p1 p2) hsim
  have hz : q_I S z (f_L_run z p0 p1 p2).2 := by
    rw [hr]
    split
    · exact q_I_of cls.rf (rfs_uJ (by omega) (rfs_run z p0 p1 p2)) h
    · exact h
  have hv : (f_X6_run (f_L_run z p0 p1 p2).2 p0 p1 p2).1 = (f_X5_run z p0 p1 p2).2.1 := (sim_run hz p0 p1 p2).1
  rw [hv]
  exact hk
theorem cl5_key (w : Sg) (p0 : Int32) (p1 : Int32) (p2 : Int32) : cl5 w (f_X6_key w p0 p1 p2).2 := by
  unfold f_X6_key
  (try dsimp only)
  repeat' (first | exact cl5.rf | (refine cl5_uI (by decide) ?_) | (refine cl5_uJ (by decide) ?_) | split)
theorem rfs_key (z : Sg) (p0 : Int32) (p1 : Int32) (p2 : Int32) : rfs z (f_X5_key z p0 p1 p2).2.2 := by
  unfold f_X5_key
  (try dsimp only)
  repeat' (first | exact rfs.rf | (refine rfs_uI (by omega) ?_) | (refine rfs_uJ (by omega) ?_) | split)
theorem zne_key (z : Sg) (p0 : Int32) (p1 : Int32) (p2 : Int32) : ¬ (f_X5_key z p0 p1 p2).1 = 0 → (f_X5_key z p0 p1 p2).2.2 = z := by
  unfold f_X5_key
  (try dsimp only)
  repeat' (first | (intro g; exact absurd rfl g) | (intro _; rfl) | split)
theorem st_key {S : Nat} {z : Sg} (h : q_I S z z) (p0 : Int32) (p1 : Int32) (p2 : Int32) : q_ok S (f_L_key z p0 p1 p2) (f_X6_key (f_L_key z p0 p1 p2).2 p0 p1 p2).2 ((f_X6_key (f_L_key z p0 p1 p2).2 p0 p1 p2).1).toInt64 := by
  have hr : f_L_key z p0 p1 p2 = if (f_X5_key z p0 p1 p2).1 = 0 then (0, uJ (f_X5_key z p0 p1 p2).2.2 45 0 ((f_X5_key z p0 p1 p2).2.1).toInt64) else ((if (f_X5_key z p0 p1 p2).1 = 3 then 1 else 2), z) := by
    unfold f_L_key
    repeat' (first | rfl | split)
  have hF : ¬ (f_X5_key z p0 p1 p2).1 = 0 → ¬ ((if (f_X5_key z p0 p1 p2).1 = 3 then 1 else 2) : Int32) = 0 := by
    intro _
    repeat' (first | exact one_ne | exact two_ne | exact three_ne | split)
  have hsim : ∀ w, q_I S z w → (f_X6_key w p0 p1 p2).2.1 19 0 = (if (f_X5_key z p0 p1 p2).1 = 0 then 0 else (if (f_X5_key z p0 p1 p2).1 = 3 then 1 else 2)) ∧ q_I S (f_X5_key z p0 p1 p2).2.2 (f_X6_key w p0 p1 p2).2 := fun w hw => ⟨(sim_key hw p0 p1 p2).2.1, (sim_key hw p0 p1 p2).2.2⟩
  have hk := glU (T := fun w => (f_X6_key w p0 p1 p2).2) h hr hF (zne_key z p0 p1 p2) (rfs_key z p0 p1 p2) (fun w => cl5_key w p0 p1 p2) hsim
  have hz : q_I S z (f_L_key z p0 p1 p2).2 := by
    rw [hr]
    split
    · exact q_I_of cls.rf (rfs_uJ (by omega) (rfs_key z p0 p1 p2)) h
    · exact h
  have hv : (f_X6_key (f_L_key z p0 p1 p2).2 p0 p1 p2).1 = (f_X5_key z p0 p1 p2).2.1 := (sim_key hz p0 p1 p2).1
  rw [hv]
  exact hk
theorem cl5_head (w : Sg) (p0 : Int64) (p1 : Int32) (p2 : Int32) : cl5 w (f_X6_head w p0 p1 p2).2 := by
  unfold f_X6_head
  (try dsimp only)
  repeat' (first | exact cl5.rf | (refine cl5_uI (by decide) ?_) | (refine cl5_uJ (by decide) ?_) | split)
theorem rfs_head (z : Sg) (p0 : Int64) (p1 : Int32) (p2 : Int32) : rfs z (f_X5_head z p0 p1 p2).2.2 := by
  unfold f_X5_head f_X0_put
  (try dsimp only)
  repeat' (first | exact rfs.rf | (refine rfs_uI (by omega) ?_) | (refine rfs_uJ (by omega) ?_) | split)
theorem zne_head (z : Sg) (p0 : Int64) (p1 : Int32) (p2 : Int32) : ¬ (f_X5_head z p0 p1 p2).1 = 0 → (f_X5_head z p0 p1 p2).2.2 = z := by
  unfold f_X5_head
  (try dsimp only)
  repeat' (first | (intro g; exact absurd rfl g) | (intro _; rfl) | split)
theorem st_head {S : Nat} {z : Sg} (h : q_I S z z) (p0 : Int64) (p1 : Int32) (p2 : Int32) : q_ok S (f_L_head z p0 p1 p2) (f_X6_head (f_L_head z p0 p1 p2).2 p0 p1 p2).2 ((f_X6_head (f_L_head z p0 p1 p2).2 p0 p1 p2).1).toInt64 := by
  have hr : f_L_head z p0 p1 p2 = if (f_X5_head z p0 p1 p2).1 = 0 then (0, uJ (f_X5_head z p0 p1 p2).2.2 45 0 ((f_X5_head z p0 p1 p2).2.1).toInt64) else ((if (f_X5_head z p0 p1 p2).1 = 1 then 1 else 2), z) := by
    unfold f_L_head
    repeat' (first | rfl | split)
  have hF : ¬ (f_X5_head z p0 p1 p2).1 = 0 → ¬ ((if (f_X5_head z p0 p1 p2).1 = 1 then 1 else 2) : Int32) = 0 := by
    intro _
    repeat' (first | exact one_ne | exact two_ne | exact three_ne | split)
  have hsim : ∀ w, q_I S z w → (f_X6_head w p0 p1 p2).2.1 19 0 = (if (f_X5_head z p0 p1 p2).1 = 0 then 0 else (if (f_X5_head z p0 p1 p2).1 = 1 then 1 else 2)) ∧ q_I S (f_X5_head z p0 p1 p2).2.2 (f_X6_head w p0 p1 p2).2 := fun w hw => ⟨(sim_head hw p0 p1 p2).2.1, (sim_head hw p0 p1 p2).2.2⟩
  have hk := glU (T := fun w => (f_X6_head w p0 p1 p2).2) h hr hF (zne_head z p0 p1 p2) (rfs_head z p0 p1 p2) (fun w => cl5_head w p0 p1 p2) hsim
  have hz : q_I S z (f_L_head z p0 p1 p2).2 := by
    rw [hr]
    split
    · exact q_I_of cls.rf (rfs_uJ (by omega) (rfs_head z p0 p1 p2)) h
    · exact h
  have hv : (f_X6_head (f_L_head z p0 p1 p2).2 p0 p1 p2).1 = (f_X5_head z p0 p1 p2).2.1 := (sim_head hz p0 p1 p2).1
  rw [hv]
  exact hk
theorem st_read {S : Nat} {z : Sg} (h : q_I S z z) (p0 : Int64) : (k_J S (f_X5_read z p0).2 ∧ k_V (f_X5_read z p0).2) ∧ (f_X5_read z p0).1 = (f_X6_read (f_X5_read z p0).2 p0).1 ∧ q_I S (f_X6_read (f_X5_read z p0).2 p0).2 (f_X6_read (f_X5_read z p0).2 p0).2 := by
  have hr := (sim_read h p0).2.2.1
  have h1 : q_I S z (f_X5_read z p0).2 := q_I_of cls.rf hr h
  obtain ⟨a, b, c, d⟩ := sim_read h1 p0
  exact ⟨⟨h1.2.1.1, h1.2.1.2⟩, a.symm, q_I_of d rfs.rf b⟩
theorem cl5_section (w : Sg) (p0 : Int32) (p1 p2 : Int64) : cl5 w (f_X6_section w p0 p1 p2).2 := by
  unfold f_X6_section
  (try dsimp only)
  repeat' (first | exact cl5.rf | (refine cl5_uI (by decide) ?_) | (refine cl5_uJ (by decide) ?_) | split)
theorem rfs_ns {z : Sg} {S : Nat} {a b : Int32} {d f : Int64} {x : Int32} {m : Nat} : rfs z (uI (uO (k_ns z S a b d f) 1 m (some S)) 0 1 x) := rfs_uI (by omega) (rfs_uO (fun r _ _ => ⟨(ns_lo (by omega)).1, (ns_lo (by omega)).2.1⟩))
theorem rfs_section (S : Nat) (z : Sg) (p0 : Int32) (p1 p2 : Int64) : rfs z (f_X5_section S z p0 p1 p2).2.2 := by
  unfold f_X5_section
  repeat' (first | exact rfs.rf | exact rfs_ns | split)
theorem st_section {S : Nat} {z : Sg} (h : q_I S z z) (p0 : Int32) (p1 p2 : Int64) : ((f_L_section S z p0 p1 p2).1 = 0 ∧ (k_J S (f_L_section S z p0 p1 p2).2 ∧ k_V (f_L_section S z p0 p1 p2).2) ∧ (f_X6_section (f_L_section S z p0 p1 p2).2 p0 p1 p2).2.1 19 0 = (f_L_section S z p0 p1 p2).1 ∧ (f_X6_section (f_L_section S z p0 p1 p2).2 p0 p1 p2).2.2.1 45 0 = ((f_X6_section (f_L_section S z p0 p1 p2).2 p0 p1 p2).1).toInt64 ∧ q_I (S + 1) (f_X6_section (f_L_section S z p0 p1 p2).2 p0 p1 p2).2 (f_X6_section (f_L_section S z p0 p1 p2).2 p0 p1 p2).2) ∨ (¬ (f_L_section S z p0 p1 p2).1 = 0 ∧ (k_J S z ∧ k_V z) ∧ (f_X6_section z p0 p1 p2).2.1 19 0 = (f_L_section S z p0 p1 p2).1 ∧ q_I S (f_X6_section z p0 p1 p2).2 (f_X6_section z p0 p1 p2).2) := by
  have hr : f_L_section S z p0 p1 p2 = if (f_X5_section S z p0 p1 p2).1 = 0 then (0, uJ (f_X5_section S z p0 p1 p2).2.2 45 0 ((f_X5_section S z p0 p1 p2).2.1).toInt64) else ((if (f_X5_section S z p0 p1 p2).1 = 1 then 1 else 2), z) := by
    unfold f_L_section
    repeat' (first | rfl | split)
  by_cases e : (f_X5_section S z p0 p1 p2).1 = 0
  · left
    rw [if_pos e] at hr
    rw [hr]
    have h1 : q_I S z (uJ (f_X5_section S z p0 p1 p2).2.2 45 0 ((f_X5_section S z p0 p1 p2).2.1).toInt64) := q_I_of cls.rf (rfs_uJ (by omega) (rfs_section S z p0 p1 p2)) h
    obtain ⟨a, b, c, -⟩ := sim_section h1 p0 p1 p2
    rw [if_pos e] at b
    refine ⟨rfl, ⟨h1.2.1.1, h1.2.1.2⟩, b, ?_, q_I_of (cl5_section _ _ _ _).1 rfs.rf (q_I_of (cls_uJ (by omega) cls.rf) rfs.rf (c e))⟩
    rw [(cl5_section _ _ _ _).2, uJ_s, updL_eq, a]
  · right
    rw [if_neg e] at hr
    obtain ⟨a, b, -, c⟩ := sim_section h p0 p1 p2
    rw [if_neg e] at b
    rw [hr]
    refine ⟨?_, ⟨h.2.1.1, h.2.1.2⟩, b, q_I_of (cl5_section _ _ _ _).1 rfs.rf (c e).2⟩
    show ¬ (if (f_X5_section S z p0 p1 p2).1 = 1 then (1 : Int32) else 2) = 0
    split
    · exact one_ne
    · exact two_ne
