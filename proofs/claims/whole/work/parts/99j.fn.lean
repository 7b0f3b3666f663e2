/-! the pairs function, clear, put, press -/
theorem am_st_cg {sz sz' : Nat → Nat} : ∀ {f : Nat}, (∀ g, g < f → sz' g = sz g) → am_st sz' f = am_st sz f
  | 0, _ => rfl
  | f + 1, h => by
    show am_st sz' f + sz' f = am_st sz f + sz f
    rw [am_st_cg (f := f) (fun g hg => h g (by omega)), h f (by omega)]
/-- after a change what was folded is not up to date -/
theorem in_fc {X X' : Nat → Nat → Int32} {m : Nat} (hm : m < 1000) (h7 : X' 7 5 = X 7 5) (h17 : X' 1 7 = nI (m + 1)) (sn : X 7 5 = -1 ∨ ∃ k, k ≤ m ∧ X 7 5 = nI k) {P : Prop} : X' 7 5 = X' 1 7 → P := by
  intro z
  rw [h7, h17] at z
  rcases sn with s | ⟨k, hk, s⟩
  · rw [s] at z
    exact absurd z.symm (am_m1n (by omega))
  · rw [s] at z
    have := (nI_eq (by omega) (by omega)).mp z
    omega
theorem in_sn {X X' : Nat → Nat → Int32} {m : Nat} (h7 : X' 7 5 = X 7 5) (sn : X 7 5 = -1 ∨ ∃ k, k ≤ m ∧ X 7 5 = nI k) : X' 7 5 = -1 ∨ ∃ k, k ≤ m + 1 ∧ X' 7 5 = nI k := by
  rw [h7]
  rcases sn with s | ⟨k, hk, s⟩
  · exact Or.inl s
  · exact Or.inr ⟨k, by omega, s⟩
section PFN
variable {X : Nat → Nat → Int32} {e : am_E} {Q : am_Q} {kc ks n : Nat}
theorem p_function (hn : n < 900) (hA : in_A X n) (hw : 109 ≤ e.2.1) (K : ∀ v X', md mX12_function [] v X' e (n + 1) → Q (some (.int v)) (hp X' e)) : am_Go (mX11_function, 0, am_ent mX11_function [.ref 0], [], hp X e, kc, ks, Q) := by
  have hA2 := hA.s
  obtain ⟨F, sz, m, hm, hB⟩ := hA
  have hP := hB.pg
  have hF := hP.hF
  refine c_X11_function (by rw [hP.c5]; exact nI_pos (by omega)) ?_
  by_cases hF4 : F = 24
  · have e1 : am_adF X = (-1, X) := by
      unfold am_adF
      rw [hP.c5, if_neg (show ¬ nI F < (24 : Int32) from nI_nlt (a := F) (b := 24) (by omega) (by omega))]
    have e2 : am_mfn X = (-1, X) := by
      unfold am_mfn
      rw [hP.m1, if_pos (by rw [hF4]; rfl)]
    rw [e1]
    refine K _ _ (fun Q' q' => c_X12_function (fun z => absurd (show X 69 1 = 24 by rw [hP.m1, hF4]; rfl) z) ?_)
    rw [e2]
    exact q' X e hA2 hw rfl
  · have hF23 : F < 24 := by omega
    have e1 : am_adF X = (nI F, am_u (am_u (am_u X 6 (F + 1) (nI (am_st sz F))) 1 5 (nI (F + 1))) 1 7 (nI (m + 1))) := by
      unfold am_adF
      rw [hP.c5, hB.ch, if_pos (show nI F < (24 : Int32) from nI_lt (a := F) (b := 24) hF23 (by decide)), nI_1, nI_1, nI_pred, nI_clamp (by omega), nI_clamp (by omega), hP.c6 F (Nat.le_refl _)]
    rw [e1]
    dsimp only
    have f1 : ∀ c j, c ≠ 6 → (c ≠ 1 ∨ (j ≠ 5 ∧ j ≠ 7)) → am_u (am_u (am_u X 6 (F + 1) (nI (am_st sz F))) 1 5 (nI (F + 1))) 1 7 (nI (m + 1)) c j = X c j := fun c j h1 h2 => by
      unfold am_u
      rw [if_neg (by omega), if_neg (by omega), if_neg (by omega)]
    have g6 : ∀ j, j ≠ F + 1 → am_u (am_u (am_u X 6 (F + 1) (nI (am_st sz F))) 1 5 (nI (F + 1))) 1 7 (nI (m + 1)) 6 j = X 6 j := fun j h => by
      rw [am_u_ne (by decide), am_u_ne (by decide), am_u_nj h]
    have g6' : am_u (am_u (am_u X 6 (F + 1) (nI (am_st sz F))) 1 5 (nI (F + 1))) 1 7 (nI (m + 1)) 6 (F + 1) = nI (am_st sz F) := by
      rw [am_u_ne (by decide), am_u_ne (by decide), am_u_eq]
    have g5 : am_u (am_u (am_u X 6 (F + 1) (nI (am_st sz F))) 1 5 (nI (F + 1))) 1 7 (nI (m + 1)) 1 5 = nI (F + 1) := by
      rw [am_u_nj (by decide), am_u_eq]
    have g7 : am_u (am_u (am_u X 6 (F + 1) (nI (am_st sz F))) 1 5 (nI (F + 1))) 1 7 (nI (m + 1)) 1 7 = nI (m + 1) := am_u_eq
    generalize am_u (am_u (am_u X 6 (F + 1) (nI (am_st sz F))) 1 5 (nI (F + 1))) 1 7 (nI (m + 1)) = X1 at f1 g6 g6' g5 g7 ⊢
    have m1 : X1 69 1 = nI F := (f1 69 1 (by decide) (Or.inl (by decide))).trans hP.m1
    refine K _ _ (fun Q' q' => c_X12_function (fun _ => by rw [m1]; exact vp_in_nI hF23 (by decide)) ?_)
    have e2 : am_mfn X1 = (nI F, am_u (am_u X1 70 F 0) 69 1 (nI (F + 1))) := by
      unfold am_mfn
      rw [m1, if_neg (show ¬ nI F = (24 : Int32) from fun z => hF4 ((nI_eq (b := 24) (by omega) (by decide)).mp z)), nI_1, nI_pred, nI_clamp (by omega)]
    rw [e2]
    dsimp only
    have f2 : ∀ c j, c ≠ 70 → (c ≠ 69 ∨ j ≠ 1) → am_u (am_u X1 70 F 0) 69 1 (nI (F + 1)) c j = X1 c j := fun c j h1 h2 => by
      unfold am_u
      rw [if_neg (by omega), if_neg (by omega)]
    have h70 : ∀ j, j ≠ F → am_u (am_u X1 70 F 0) 69 1 (nI (F + 1)) 70 j = X1 70 j := fun j h => by rw [am_u_ne (by decide), am_u_nj h]
    have h70' : am_u (am_u X1 70 F 0) 69 1 (nI (F + 1)) 70 F = 0 := by rw [am_u_ne (by decide), am_u_eq]
    have h691 : am_u (am_u X1 70 F 0) 69 1 (nI (F + 1)) 69 1 = nI (F + 1) := am_u_eq
    generalize am_u (am_u X1 70 F 0) 69 1 (nI (F + 1)) = X2 at f2 h70 h70' h691 ⊢
    have fX : ∀ c j, c ≠ 6 → c ≠ 70 → (c ≠ 1 ∨ (j ≠ 5 ∧ j ≠ 7)) → (c ≠ 69 ∨ j ≠ 1) → X2 c j = X c j := fun c j a1 a2 a3 a4 => (f2 c j a2 a4).trans (f1 c j a1 a3)
    obtain ⟨sz', hsz⟩ : ∃ s : Nat → Nat, s = fun f => if f = F then 0 else sz f := ⟨_, rfl⟩
    have szl : ∀ f, f < F → sz' f = sz f := fun f hf => by rw [hsz]; exact if_neg (by omega)
    have szF : sz' F = 0 := by rw [hsz]; exact if_pos rfl
    have stl : ∀ f, f ≤ F → am_st sz' f = am_st sz f := fun f hf => am_st_cg (fun g hg => szl g (by omega))
    have stF : am_st sz' (F + 1) = am_st sz F := by
      show am_st sz' F + sz' F = _
      rw [szF, stl F (Nat.le_refl _)]
      rfl
    have hP2 : am_PG X2 X2 (F + 1) sz' := by
      refine ⟨hF23, (f2 1 5 (by decide) (Or.inl (by decide))).trans g5, h691, fun f hf => ?_, fun f hf => ?_, fun f hf => ?_, by rw [stF]; exact hP.t300, ?_, ?_, fun f p hf hq => ?_⟩
      · by_cases e : f = F
        · rw [e, szF]; omega
        · rw [szl f (by omega)]; exact hP.s40 f (by omega)
      · by_cases e : f = F
        · rw [e, szF, h70']; rfl
        · rw [h70 f e, szl f (by omega), f1 70 f (by decide) (Or.inl (by decide))]; exact hP.m70 f (by omega)
      · by_cases e : f = F + 1
        · rw [e, stF, f2 6 _ (by decide) (Or.inl (by decide)), g6']
        · rw [f2 6 _ (by decide) (Or.inl (by decide)), g6 f e, stl f (by omega)]; exact hP.c6 f (by omega)
      · rw [stF, fX 1 6 (by decide) (by decide) (by decide) (by decide)]; exact hP.cS
      · rw [stF, fX 69 2 (by decide) (by decide) (by decide) (by decide)]; exact hP.mS
      · by_cases e : f = F
        · rw [e, szF] at hq; omega
        · rw [szl f (by omega)] at hq
          have := hP.ins f p (by omega) hq
          rw [stl f (by omega)]
          unfold am_IN at this ⊢
          rw [fX 2 _ (by decide) (by decide) (Or.inl (by decide)) (Or.inl (by decide)), fX 3 _ (by decide) (by decide) (Or.inl (by decide)) (Or.inl (by decide)), fX 4 _ (by decide) (by decide) (Or.inl (by decide)) (Or.inl (by decide)), fX 5 _ (by decide) (by decide) (Or.inl (by decide)) (Or.inl (by decide)), fX 71 _ (by decide) (by decide) (Or.inl (by decide)) (Or.inl (by decide)), fX 72 _ (by decide) (by decide) (Or.inl (by decide)) (Or.inl (by decide)), fX 73 _ (by decide) (by decide) (Or.inl (by decide)) (Or.inl (by decide)), fX 74 _ (by decide) (by decide) (Or.inl (by decide)) (Or.inl (by decide))]
          exact this
    refine q' X2 e ⟨F + 1, sz', m + 1, by omega, hP2, hB.im.fr (fun c j h1 h2 => fX c j (by omega) (by omega) (by omega) (by omega)) (fun j h1 h2 => fX 69 j (by decide) (by decide) (Or.inl (by decide)) (by omega)) (fun c j h1 h2 => fX c j (by omega) (by omega) (by omega) (by omega)), hB.mi.fr (fun c j h1 h2 => fX c j (by omega) (by omega) (by omega) (by omega)) (fun c h1 h2 => fX c 1 (by omega) (by omega) (by omega) (by omega)) (fun c j h1 => fX c j (by omega) (by omega) (by omega) (by omega)), hB.mt.fr (fun c j h1 h2 => fX c j (by omega) (by omega) (by omega) (by omega)) (fun c h1 h2 => fX c 0 (by omega) (by omega) (by omega) (by omega)) (fun c j h1 => fX c j (by omega) (by omega) (by omega) (by omega)), in_fc (X := X) (by omega) (fX 7 5 (by decide) (by decide) (by decide) (by decide)) ((f2 1 7 (by decide) (by decide)).trans g7) hB.sn, (f2 1 7 (by decide) (by decide)).trans g7, in_sn (fX 7 5 (by decide) (by decide) (by decide) (by decide)) hB.sn, by rw [fX 69 12 (by decide) (by decide) (by decide) (by decide)]; exact hB.wd⟩ hw rfl
theorem p_clear (hn : n < 900) (hA : in_A X n) (hw : 109 ≤ e.2.1) (K : ∀ v X', md mX12_clear [] v X' e (n + 1) → Q (some (.int v)) (hp X' e)) : am_Go (mX11_clear, 0, am_ent mX11_clear [.ref 0], [], hp X e, kc, ks, Q) := by
  obtain ⟨F, sz, m, hm, hB⟩ := hA
  have hP := hB.pg
  refine c_X11_clear ?_
  have c1 : ∀ c j, c ≠ 25 → c ≠ 15 → (c ≠ 11 ∨ (j ≠ 3 ∧ j ≠ 4)) → am_cl1 X c j = X c j := fun c j h1 h2 h3 => by
    unfold am_cl1
    rw [am_u_ne h2, am_u_ne h2, am_fil_ne h1]
    unfold am_u
    rw [if_neg (by omega), if_neg (by omega)]
  have c113 : am_cl1 X 11 3 = 0 := by
    unfold am_cl1
    rw [am_u_ne (by decide), am_u_ne (by decide), am_fil_ne (by decide), am_u_nj (by decide), am_u_eq]
  have c114 : am_cl1 X 11 4 = 0 := by
    unfold am_cl1
    rw [am_u_ne (by decide), am_u_ne (by decide), am_fil_ne (by decide), am_u_eq]
  have c1510 : am_cl1 X 15 10 = 0 := by
    unfold am_cl1
    rw [am_u_nj (by decide), am_u_eq]
  have c1511 : am_cl1 X 15 11 = 0 := by
    unfold am_cl1
    rw [am_u_eq]
  generalize am_cl1 X = Y at c1 c113 c114 c1510 c1511 ⊢
  rw [c1 1 5 (by decide) (by decide) (by decide), c1 1 7 (by decide) (by decide) (by decide), hP.c5, hB.ch, nI_1]
  have f1 : ∀ c j, (c ≠ 1 ∨ (j ≠ 5 ∧ j ≠ 6 ∧ j ≠ 7)) → am_u (am_u (am_u Y 1 5 0) 1 6 0) 1 7 (nI (m + 1)) c j = Y c j := fun c j h => by
    unfold am_u
    rw [if_neg (by omega), if_neg (by omega), if_neg (by omega)]
  have g5 : am_u (am_u (am_u Y 1 5 0) 1 6 0) 1 7 (nI (m + 1)) 1 5 = 0 := by rw [am_u_nj (by decide), am_u_nj (by decide), am_u_eq]
  have g6 : am_u (am_u (am_u Y 1 5 0) 1 6 0) 1 7 (nI (m + 1)) 1 6 = 0 := by rw [am_u_nj (by decide), am_u_eq]
  have g7 : am_u (am_u (am_u Y 1 5 0) 1 6 0) 1 7 (nI (m + 1)) 1 7 = nI (m + 1) := am_u_eq
  generalize am_u (am_u (am_u Y 1 5 0) 1 6 0) 1 7 (nI (m + 1)) = Z at f1 g5 g6 g7 ⊢
  have fZ : ∀ c j, c ≠ 25 → c ≠ 15 → (c ≠ 11 ∨ (j ≠ 3 ∧ j ≠ 4)) → (c ≠ 1 ∨ (j ≠ 5 ∧ j ≠ 6 ∧ j ≠ 7)) → Z c j = X c j := fun c j h1 h2 h3 h4 => (f1 c j h4).trans (c1 c j h1 h2 h3)
  refine K _ Z (fun Q' q' => c_X12_clear ?_)
  rw [fZ 69 1 (by decide) (by decide) (by decide) (by decide), hP.m1]
  have f2 : ∀ c j, (c ≠ 69 ∨ (j ≠ 1 ∧ j ≠ 2 ∧ j ≠ 10)) → am_u (am_u (am_u Z 69 1 0) 69 2 0) 69 10 0 c j = Z c j := fun c j h => by
    unfold am_u
    rw [if_neg (by omega), if_neg (by omega), if_neg (by omega)]
  have h1 : am_u (am_u (am_u Z 69 1 0) 69 2 0) 69 10 0 69 1 = 0 := by rw [am_u_nj (by decide), am_u_nj (by decide), am_u_eq]
  have h2 : am_u (am_u (am_u Z 69 1 0) 69 2 0) 69 10 0 69 2 = 0 := by rw [am_u_nj (by decide), am_u_eq]
  have h10 : am_u (am_u (am_u Z 69 1 0) 69 2 0) 69 10 0 69 10 = 0 := am_u_eq
  generalize am_u (am_u (am_u Z 69 1 0) 69 2 0) 69 10 0 = X2 at f2 h1 h2 h10 ⊢
  have fX : ∀ c j, c ≠ 25 → c ≠ 15 → (c ≠ 11 ∨ (j ≠ 3 ∧ j ≠ 4)) → (c ≠ 1 ∨ (j ≠ 5 ∧ j ≠ 6 ∧ j ≠ 7)) → (c ≠ 69 ∨ (j ≠ 1 ∧ j ≠ 2 ∧ j ≠ 10)) → X2 c j = X c j := fun c j a1 a2 a3 a4 a5 => (f2 c j a5).trans (fZ c j a1 a2 a3 a4)
  refine q' X2 e ⟨0, sz, m + 1, by omega, ⟨Nat.zero_le _, (f2 1 5 (by decide)).trans g5, h1, fun f hf => absurd hf (Nat.not_lt_zero _), fun f hf => absurd hf (Nat.not_lt_zero _), fun f hf => ?_, Nat.zero_le _, (f2 1 6 (by decide)).trans g6, h2, fun f p hf => absurd hf (Nat.not_lt_zero _)⟩, Or.inl ⟨h10, ?_, ?_, ?_, ?_⟩, hB.mi.fr (fun c j a1 a2 => fX c j (by omega) (by omega) (by omega) (by omega) (by omega)) (fun c a1 a2 => fX c 1 (by omega) (by omega) (by omega) (by omega) (by omega)) (fun c j a1 => fX c j (by omega) (by omega) (by omega) (by omega) (by omega)), hB.mt.fr (fun c j a1 a2 => fX c j (by omega) (by omega) (by omega) (by omega) (by omega)) (fun c a1 a2 => fX c 0 (by omega) (by omega) (by omega) (by omega) (by omega)) (fun c j a1 => fX c j (by omega) (by omega) (by omega) (by omega) (by omega)), in_fc (X := X) (by omega) (fX 7 5 (by decide) (by decide) (by decide) (by decide) (by decide)) ((f2 1 7 (by decide)).trans g7) hB.sn, (f2 1 7 (by decide)).trans g7, in_sn (fX 7 5 (by decide) (by decide) (by decide) (by decide) (by decide)) hB.sn, by rw [fX 69 12 (by decide) (by decide) (by decide) (by decide) (by decide)]; exact hB.wd⟩ hw rfl
  · have ef : f = 0 := by omega
    subst ef
    rw [fX 6 0 (by decide) (by decide) (by decide) (by decide) (by decide)]
    exact hP.c6 0 (Nat.zero_le _)
  · rw [f2 11 3 (by decide), f1 11 3 (by decide)]; exact c113
  · rw [f2 11 4 (by decide), f1 11 4 (by decide)]; exact c114
  · rw [f2 15 10 (by decide), f1 15 10 (by decide)]; exact c1510
  · rw [f2 15 11 (by decide), f1 15 11 (by decide)]; exact c1511
end PFN
