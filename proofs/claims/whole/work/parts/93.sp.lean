section LYW
variable (C D : Nat → Nat → Int32) (F : Nat) (sz : Nat → Nat) (B : Nat → Prop) (bo : Nat → Nat) (sm : Nat → Nat → Prop) (ln sp : Nat → Nat) (K : Nat)
/-- where a spot's words begin; where a routine's do -/
noncomputable def ly_W (s : Nat) : Nat := am_st (ly_w (ly_bd F sz B) (sq_U (am_st sz F) (am_op D F sz B) (am_en D F sz B) sm ln sp K) (ly_bg (am_st sz F) (am_op D F sz B) (am_en D F sz B) sm ln sp K) (fun t => C 2 t = 32)) s
noncomputable def ly_R (k : Nat) : Nat := ly_W C D F sz B sm ln sp K (am_st sz F) + am_st (fun i => ln i + 1) k
noncomputable def ly_n (t : Nat) : Nat := ly_w (ly_bd F sz B) (sq_U (am_st sz F) (am_op D F sz B) (am_en D F sz B) sm ln sp K) (ly_bg (am_st sz F) (am_op D F sz B) (am_en D F sz B) sm ln sp K) (fun t => C 2 t = 32) t
noncomputable def ly_ow (t : Nat) : Nat := @dite _ (ly_bg (am_st sz F) (am_op D F sz B) (am_en D F sz B) sm ln sp K t) (Classical.propDecidable _) (fun h => Classical.choose h) (fun _ => 0)
noncomputable def ly_cd (f t : Nat) : Int32 := if C 2 t = 28 then am_jw 0 (4 * (nI (ly_W C D F sz B sm ln sp K (am_st sz f + (C 3 t).toNatClampNeg)) - nI (ly_W C D F sz B sm ln sp K t))) else if C 2 t = 29 then am_jw 1 (4 * (nI (ly_W C D F sz B sm ln sp K (am_st sz (bo (C 3 t).toNatClampNeg))) - nI (ly_W C D F sz B sm ln sp K t))) else if C 2 t = 30 then am_jw 0 (4 * (nI (ly_W C D F sz B sm ln sp K (am_st sz (bo (C 3 t).toNatClampNeg))) - nI (ly_W C D F sz B sm ln sp K t))) else if C 2 t = 31 then am_jr 0 1 else if C 2 t = 33 then am_jr 1 (C 3 t) else if zb (¬ C 2 t < 22 ∧ ¬ 27 < C 2 t) = 0 then am_pw (C 2 t) (C 3 t) (C 4 t) (C 5 t) else am_bw (C 2 t) (C 3 t) (C 4 t) (4 * (nI (ly_W C D F sz B sm ln sp K (am_st sz f + (C 5 t).toNatClampNeg)) - nI (ly_W C D F sz B sm ln sp K t)))
noncomputable def ly_ad (t : Nat) : Int32 := 4096 + 4 * nI (ly_W C D F sz B sm ln sp K (am_st sz (bo (C 4 t).toNatClampNeg)))
/-- the r-th word of a spot; of a routine -/
noncomputable def ly_v (f t r : Nat) : Int32 := @ite _ (ly_bg (am_st sz F) (am_op D F sz B) (am_en D F sz B) sm ln sp K t) (Classical.propDecidable _) (am_jw 5 (4 * (nI (ly_R C D F sz B sm ln sp K (ly_ow D F sz B sm ln sp K t)) - nI (ly_W C D F sz B sm ln sp K t)))) (if C 2 t = 32 then (if r = 0 then am_uw (C 3 t) (am_aup (ly_ad C D F sz B bo sm ln sp K t)) else am_iw 10 (C 3 t) (C 3 t) (am_alo (ly_ad C D F sz B bo sm ln sp K t))) else ly_cd C D F sz B bo sm ln sp K f t)
def ly_rv (k r : Nat) : Int32 := if r < ln k then am_pw (C 2 (sp k + r)) (C 3 (sp k + r)) (C 4 (sp k + r)) (C 5 (sp k + r)) else am_jr 0 5
end LYW
theorem ly_W_e {C D : Nat → Nat → Int32} {F : Nat} {sz : Nat → Nat} {B : Nat → Prop} {sm : Nat → Nat → Prop} {ln sp : Nat → Nat} {K : Nat} {s : Nat} : am_st (ly_w (ly_bd F sz B) (sq_U (am_st sz F) (am_op D F sz B) (am_en D F sz B) sm ln sp K) (ly_bg (am_st sz F) (am_op D F sz B) (am_en D F sz B) sm ln sp K) (fun t => C 2 t = 32)) s = ly_W C D F sz B sm ln sp K s := rfl
theorem ly_W_s {C D : Nat → Nat → Int32} {F : Nat} {sz : Nat → Nat} {B : Nat → Prop} {sm : Nat → Nat → Prop} {ln sp : Nat → Nat} {K : Nat} {s : Nat} : ly_W C D F sz B sm ln sp K (s + 1) = ly_W C D F sz B sm ln sp K s + ly_n C D F sz B sm ln sp K s := rfl
theorem ly_W_le {C D : Nat → Nat → Int32} {F : Nat} {sz : Nat → Nat} {B : Nat → Prop} {sm : Nat → Nat → Prop} {ln sp : Nat → Nat} {K : Nat} {s t : Nat} (h : s ≤ t) : ly_W C D F sz B sm ln sp K s ≤ ly_W C D F sz B sm ln sp K t := am_st_le h
theorem ly_ow_e {D : Nat → Nat → Int32} {F : Nat} {sz : Nat → Nat} {B : Nat → Prop} {sm : Nat → Nat → Prop} {ln sp : Nat → Nat} {K : Nat} {k t : Nat} (hl : ∀ k, k < K → 1 ≤ ln k) (hk : k < K) (h : sq_ok (am_st sz F) (am_op D F sz B) (am_en D F sz B) sm ln sp k t) : ly_ow D F sz B sm ln sp K t = k := by
  have hb : ly_bg (am_st sz F) (am_op D F sz B) (am_en D F sz B) sm ln sp K t := ⟨k, hk, h⟩
  have e : ly_ow D F sz B sm ln sp K t = Classical.choose hb := by
    unfold ly_ow
    exact dif_pos hb
  rw [e]
  obtain ⟨h1, h2⟩ := Classical.choose_spec hb
  exact (ly_uq (t := t) (hl _ h1) h2 h (Nat.le_refl _) (by have := hl _ h1; omega) (Nat.le_refl _) (by have := hl _ hk; omega)).1
theorem ly_v_bg {C D : Nat → Nat → Int32} {F : Nat} {sz : Nat → Nat} {B : Nat → Prop} {bo : Nat → Nat} {sm : Nat → Nat → Prop} {ln sp : Nat → Nat} {K : Nat} {f k t r : Nat} (hl : ∀ k, k < K → 1 ≤ ln k) (hk : k < K) (h : sq_ok (am_st sz F) (am_op D F sz B) (am_en D F sz B) sm ln sp k t) : ly_v C D F sz B bo sm ln sp K f t r = am_jw 5 (4 * (nI (ly_R C D F sz B sm ln sp K k) - nI (ly_W C D F sz B sm ln sp K t))) := by
  have e := ly_ow_e (D := D) (B := B) hl hk h
  unfold ly_v
  rw [e]
  exact if_pos ⟨k, hk, h⟩
theorem ly_v_nb {C D : Nat → Nat → Int32} {F : Nat} {sz : Nat → Nat} {B : Nat → Prop} {bo : Nat → Nat} {sm : Nat → Nat → Prop} {ln sp : Nat → Nat} {K : Nat} {f t r : Nat} (h : ¬ ly_bg (am_st sz F) (am_op D F sz B) (am_en D F sz B) sm ln sp K t) (h2 : ¬ C 2 t = 32) : ly_v C D F sz B bo sm ln sp K f t r = ly_cd C D F sz B bo sm ln sp K f t := by
  unfold ly_v
  rw [if_neg h, if_neg h2]
theorem ly_v_0 {C D : Nat → Nat → Int32} {F : Nat} {sz : Nat → Nat} {B : Nat → Prop} {bo : Nat → Nat} {sm : Nat → Nat → Prop} {ln sp : Nat → Nat} {K : Nat} {f t : Nat} (h : ¬ ly_bg (am_st sz F) (am_op D F sz B) (am_en D F sz B) sm ln sp K t) (h2 : C 2 t = 32) : ly_v C D F sz B bo sm ln sp K f t 0 = am_uw (C 3 t) (am_aup (ly_ad C D F sz B bo sm ln sp K t)) := by
  unfold ly_v
  rw [if_neg h, if_pos h2, if_pos rfl]
theorem ly_v_1 {C D : Nat → Nat → Int32} {F : Nat} {sz : Nat → Nat} {B : Nat → Prop} {bo : Nat → Nat} {sm : Nat → Nat → Prop} {ln sp : Nat → Nat} {K : Nat} {f t : Nat} (h : ¬ ly_bg (am_st sz F) (am_op D F sz B) (am_en D F sz B) sm ln sp K t) (h2 : C 2 t = 32) : ly_v C D F sz B bo sm ln sp K f t 1 = am_iw 10 (C 3 t) (C 3 t) (am_alo (ly_ad C D F sz B bo sm ln sp K t)) := by
  unfold ly_v
  rw [if_neg h, if_pos h2, if_neg (by decide)]
/-- what the linker starts from, all of it -/
def ly_E2 (C D : Nat → Nat → Int32) (F : Nat) (sz : Nat → Nat) (B : Nat → Prop) (bo : Nat → Nat) (sm : Nat → Nat → Prop) (ln sp : Nat → Nat) (K : Nat) : Prop := (ly_E C D F sz B sm ln sp K) ∧ (∀ f p, f < F → p < sz f → ¬ am_Np D (40 * f + p) (sz f)) ∧ (∀ f p, f < F → p < sz f → ¬ am_Nf D (40 * f + p) F) ∧ (∀ f, f < F → bo f < F ∧ B (bo f) ∧ C 13 f = nI (bo f))
theorem ly_E2.e {C D : Nat → Nat → Int32} {F : Nat} {sz : Nat → Nat} {B : Nat → Prop} {bo : Nat → Nat} {sm : Nat → Nat → Prop} {ln sp : Nat → Nat} {K : Nat} (h : ly_E2 C D F sz B bo sm ln sp K) : ly_E C D F sz B sm ln sp K := h.1
theorem ly_E2.np {C D : Nat → Nat → Int32} {F : Nat} {sz : Nat → Nat} {B : Nat → Prop} {bo : Nat → Nat} {sm : Nat → Nat → Prop} {ln sp : Nat → Nat} {K : Nat} (h : ly_E2 C D F sz B bo sm ln sp K) : ∀ f p, f < F → p < sz f → ¬ am_Np D (40 * f + p) (sz f) := h.2.1
theorem ly_E2.nf {C D : Nat → Nat → Int32} {F : Nat} {sz : Nat → Nat} {B : Nat → Prop} {bo : Nat → Nat} {sm : Nat → Nat → Prop} {ln sp : Nat → Nat} {K : Nat} (h : ly_E2 C D F sz B bo sm ln sp K) : ∀ f p, f < F → p < sz f → ¬ am_Nf D (40 * f + p) F := h.2.2.1
theorem ly_E2.bo {C D : Nat → Nat → Int32} {F : Nat} {sz : Nat → Nat} {B : Nat → Prop} {bo : Nat → Nat} {sm : Nat → Nat → Prop} {ln sp : Nat → Nat} {K : Nat} (h : ly_E2 C D F sz B bo sm ln sp K) : ∀ f, f < F → bo f < F ∧ B (bo f) ∧ C 13 f = nI (bo f) := h.2.2.2
theorem ly_E2.R6 {C D : Nat → Nat → Int32} {F : Nat} {sz : Nat → Nat} {B : Nat → Prop} {bo : Nat → Nat} {sm : Nat → Nat → Prop} {ln sp : Nat → Nat} {K : Nat} (h : ly_E2 C D F sz B bo sm ln sp K) {k : Nat} (hk : k ≤ K) : ly_R C D F sz B sm ln sp K k ≤ 600 := by
  have a := ly_bound (bd := ly_bd F sz B) (o2 := fun t => C 2 t = 32) h.e.qq
  have b : am_st (fun i => ln i + 1) k ≤ am_st (fun i => ln i + 1) K := am_st_le hk
  have c := h.e.pg.t300
  have a2 : ly_W C D F sz B sm ln sp K (am_st sz F) + am_st (fun i => ln i + 1) K ≤ 2 * am_st sz F := a
  unfold ly_R
  omega
theorem ly_E2.W6 {C D : Nat → Nat → Int32} {F : Nat} {sz : Nat → Nat} {B : Nat → Prop} {bo : Nat → Nat} {sm : Nat → Nat → Prop} {ln sp : Nat → Nat} {K : Nat} (h : ly_E2 C D F sz B bo sm ln sp K) {s : Nat} (hs : s ≤ am_st sz F) : ly_W C D F sz B sm ln sp K s ≤ 600 := h.e.W6 hs
theorem ly_R_s {C D : Nat → Nat → Int32} {F : Nat} {sz : Nat → Nat} {B : Nat → Prop} {sm : Nat → Nat → Prop} {ln sp : Nat → Nat} {K : Nat} {k : Nat} : ly_R C D F sz B sm ln sp K (k + 1) = ly_R C D F sz B sm ln sp K k + (ln k + 1) := (Nat.add_assoc _ _ _).symm
theorem ly_R_0 {C D : Nat → Nat → Int32} {F : Nat} {sz : Nat → Nat} {B : Nat → Prop} {sm : Nat → Nat → Prop} {ln sp : Nat → Nat} {K : Nat} : ly_R C D F sz B sm ln sp K 0 = ly_W C D F sz B sm ln sp K (am_st sz F) := rfl
theorem ly_R_le {C D : Nat → Nat → Int32} {F : Nat} {sz : Nat → Nat} {B : Nat → Prop} {sm : Nat → Nat → Prop} {ln sp : Nat → Nat} {K : Nat} {k l : Nat} (h : k ≤ l) : ly_R C D F sz B sm ln sp K k ≤ ly_R C D F sz B sm ln sp K l := by
  have b : am_st (fun i => ln i + 1) k ≤ am_st (fun i => ln i + 1) l := am_st_le h
  unfold ly_R
  omega
/-- a told place is never inside a routine's row -/
theorem ly_en_cv {D : Nat → Nat → Int32} {F : Nat} {sz : Nat → Nat} {B : Nat → Prop} {sm : Nat → Nat → Prop} {ln sp : Nat → Nat} {K : Nat} {f q : Nat} (h1 : ∀ k, k < K → 1 ≤ ln k) (he : am_en D F sz B (am_st sz f + q)) : ¬ ly_cv (am_st sz F) (am_op D F sz B) (am_en D F sz B) sm ln sp K (am_st sz f + q) := by
  rintro ⟨k, j, a1, a2, a3, a4⟩
  have := (a2.1.1.2 (am_st sz f + q - j) (by omega)).2.2
  rw [show j + (am_st sz f + q - j) = am_st sz f + q by omega] at this
  rcases this with z | z
  · omega
  · exact z he
theorem ly_W_nb {C D : Nat → Nat → Int32} {F : Nat} {sz : Nat → Nat} {B : Nat → Prop} {sm : Nat → Nat → Prop} {ln sp : Nat → Nat} {K : Nat} {f : Nat} (hf : f < F) (hB : ¬ B f) : ∀ p, p ≤ sz f → ly_W C D F sz B sm ln sp K (am_st sz f + p) = ly_W C D F sz B sm ln sp K (am_st sz f)
  | 0, _ => rfl
  | p + 1, h => by
    show ly_W C D F sz B sm ln sp K (am_st sz f + p + 1) = _
    rw [ly_W_s, ly_W_nb hf hB p (by omega)]
    have : ly_n C D F sz B sm ln sp K (am_st sz f + p) = 0 := ly_w_nb (fun z => hB ((ly_bd_i hf (by omega)).mp z))
    omega
theorem ly_ok_B {D : Nat → Nat → Int32} {F : Nat} {sz : Nat → Nat} {B : Nat → Prop} {sm : Nat → Nat → Prop} {ln sp : Nat → Nat} {f p k : Nat} (h1 : 1 ≤ ln k) (hf : f < F) (hp : p < sz f) (h : sq_ok (am_st sz F) (am_op D F sz B) (am_en D F sz B) sm ln sp k (am_st sz f + p)) : B f := by
  have := (h.1.1.2 0 h1).1
  rw [Nat.add_zero] at this
  exact ((am_op_i hf hp).mp this).1
