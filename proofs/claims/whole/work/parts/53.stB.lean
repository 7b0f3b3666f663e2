theorem nI_mul (a b : Nat) : nI a * nI b = nI (a * b) := (Int32.ofNat_mul a b).symm
theorem am_spoP {C D : Nat → Nat → Int32} {F : Nat} {sz : Nat → Nat} (h : am_PG C D F sz) {f p : Nat} (hf : f < 24) (hp : p < 64) : (f < F ∧ p < sz f ∧ am_spo C (nI f) (nI p) = nI (am_st sz f + p)) ∨ (¬ (f < F ∧ p < sz f) ∧ am_spo C (nI f) (nI p) = -1) := by
  have hF := h.hF
  have ht := h.t300
  by_cases hfF : f < F
  · have e1 := h.c6 f (by omega)
    have e2 := h.c6 (f + 1) (by omega)
    have l1 : am_st sz f + sz f ≤ am_st sz F := am_st_le (sz := sz) (show f + 1 ≤ F by omega)
    have t : am_st sz (f + 1) = am_st sz f + sz f := rfl
    unfold am_spo
    rw [nI_1, nI_clamp (by omega), nI_clamp (by omega), e1, e2, nI_add, h.c5, t]
    by_cases hps : p < sz f
    · refine Or.inl ⟨hfF, hps, if_pos ⟨nI_pos (by omega), nI_lt hfF (by omega), nI_pos (by omega), nI_lt (by omega) (by omega)⟩⟩
    · refine Or.inr ⟨fun z => hps z.2, if_neg (fun z => hps ?_)⟩
      have := (nI_ltI (by omega) (by omega)).mp z.2.2.2
      omega
  · refine Or.inr ⟨fun z => hfF z.1, ?_⟩
    unfold am_spo
    rw [h.c5]
    exact if_neg (fun z => nI_nlt (by omega) (by omega) z.2.1)
theorem am_PG.ic {C D : Nat → Nat → Int32} {F : Nat} {sz : Nat → Nat} (h : am_PG C D F sz) {f p : Nat} (hf : f < F) (hp : p < sz f) : ∃ k, am_IC C D (nI (am_st sz f + p)) (40 * f + p) k ∧ am_num C (nI (am_st sz f + p)) = nI k := by
  have ht := h.t300
  have l1 : am_st sz f + sz f ≤ am_st sz F := am_st_le (sz := sz) (show f + 1 ≤ F by omega)
  have hi := h.ins f p hf hp
  have g : 0 ≤ nI (am_st sz f + p) ∧ nI (am_st sz f + p) < C 1 6 := ⟨nI_pos' (by omega), by rw [h.cS]; exact nI_lt (by omega) (by omega)⟩
  have hcl := nI_clamp (show am_st sz f + p < 2 ^ 31 by omega)
  generalize am_st sz f + p = s at *
  generalize 40 * f + p = x at *
  obtain ⟨i1, i2, i3, i4, i5⟩ := hi
  obtain ⟨k, hk, e⟩ := am_gd_n i5
  rw [e] at i1 i2 i3 i4 i5
  refine ⟨k, ⟨hk, e, ?_, ?_, ?_, i5⟩, ?_⟩
  · unfold am_fa
    rw [if_pos g, hcl]; exact i2
  · unfold am_fb
    rw [if_pos g, hcl]; exact i3
  · unfold am_fc
    rw [if_pos g, hcl]; exact i4
  · unfold am_num
    rw [if_pos g, hcl]; exact i1
theorem am_mst_ne {D : Nat → Nat → Int32} {r s v : Int32} {c j : Nat} (h1 : c ≠ 102) (h2 : c ≠ 107) : am_mst D r s v c j = D c j := by
  unfold am_mst
  split
  · rfl
  · rw [am_u_ne h2, am_u_ne h1]
theorem am_itf {p : Prop} [Decidable p] {a b : Int32 × (Nat → Nat → Int32)} {c j : Nat} {v : Int32} (ha : a.2 c j = v) (hb : b.2 c j = v) : (if p then a else b).2 c j = v := by
  split
  · exact ha
  · exact hb
theorem am_mdo_fr {D : Nat → Nat → Int32} {x c j : Nat} (h1 : c ≠ 99) (h2 : c ≠ 102) (h3 : c ≠ 105) (h4 : c ≠ 107) (h5 : c ≠ 108) (h6 : c = 95 → j ≠ 0) (h7 : c = 69 → j ≠ 40) : (am_mdo D x).2 c j = D c j := by
  have e1 : ∀ v, am_mpn D 0 99 v c j = D c j := fun v => by
    by_cases e : c = 95
    · subst e; exact am_mpn_95 (by decide) (h6 rfl)
    · exact am_mpn_ne e h1
  have e2 : ∀ v, am_u D 69 40 v c j = D c j := fun v => by
    unfold am_u
    rw [if_neg (fun z => h7 z.1 z.2)]
  have e3 : ∀ r s v, am_mst D r s v c j = D c j := fun r s v => am_mst_ne h2 h4
  have e4 : ∀ a b v w, am_u (am_u D 105 a v) 108 b w c j = D c j := fun a b v w => by rw [am_u_ne h5, am_u_ne h3]
  unfold am_mdo
  repeat' refine am_itf ?_ ?_
  all_goals first | rfl | exact e1 _ | exact e2 _ | exact e3 _ _ _ | exact e4 _ _ _ _
theorem am_stB {C D : Nat → Nat → Int32} {s : Int32} {x k : Nat} (h : am_IC C D s x k) (hR : am_RT C D) (hk : 22 ≤ k) (hk2 : k < 28) : (am_mdo D x = (0, D) ∧ am_tsn C s (nI k) = (2, C)) ∨ ∃ v, (v = 0 ∨ v = 1) ∧ am_mdo D x = (1, am_u D 69 40 v) ∧ am_tsn C s (nI k) = (if v = 0 then (3, am_go C) else (3, am_u (am_u C 59 10 (C 59 10)) 59 11 (D 74 x))) := by
  have ga := h.ga (by omega)
  obtain ⟨a1, a2, a3⟩ := hR.srt ga
  obtain ⟨b1, b2, b3⟩ := hR.srt (h.gb (by omega) (by omega))
  have T : ∀ k, k < 28 → 22 ≤ k → am_sel (nI k) = nI k - (if nI k < 24 then 22 else 20) := by decide +kernel
  have T2 : ∀ k, k < 28 → 22 ≤ k → ((nI k = 22 ∨ nI k = 23) ↔ nI k < 24) := by decide +kernel
  have u : am_mdo D x = (if (nI k < 24 ∧ D 107 (D 72 x).toNatClampNeg = 1 ∧ D 107 (D 73 x).toNatClampNeg = 1) ∨ (D 107 (D 72 x).toNatClampNeg = 0 ∧ D 107 (D 73 x).toNatClampNeg = 0) then (1, am_u D 69 40 (am_hd (nI k - (if nI k < 24 then 22 else 20)) (D 102 (D 72 x).toNatClampNeg) (D 102 (D 73 x).toNatClampNeg))) else (0, D)) := by
    unfold am_mdo
    rw [h.n, if_pos (show (9 : Int32) < nI k from nI_lt (a := 9) (b := k) (by omega) (by omega)), if_pos (show (18 : Int32) < nI k from nI_lt (a := 18) (b := k) (by omega) (by omega)), if_neg (show ¬ nI k = 19 from fun z => absurd ((nI_eq (b := 19) (by omega) (by decide)).mp z) (by omega)), if_pos (show (21 : Int32) < nI k from nI_lt (a := 21) (b := k) (by omega) (by omega)), if_neg (zb_ne.mpr ⟨nI_nlt (a := k) (b := 22) (by omega) (by omega), nI_nlt (a := 27) (b := k) (by omega) (by decide)⟩)]
    by_cases e1 : nI k < 24 <;> by_cases e2 : D 107 (D 72 x).toNatClampNeg = 1 <;> by_cases e3 : D 107 (D 73 x).toNatClampNeg = 1 <;> by_cases e4 : D 107 (D 72 x).toNatClampNeg = 0 <;> by_cases e5 : D 107 (D 73 x).toNatClampNeg = 0 <;> simp [e1, e2, e3, e4, e5, zb]
  have v : am_tsn C s (nI k) = am_tbr C s (nI k) := by
    unfold am_tsn
    rw [if_pos (show (18 : Int32) < nI k from nI_lt (a := 18) (b := k) (by omega) (by omega)), if_pos ⟨nI_nlt (a := k) (b := 22) (by omega) (by omega), nI_nlt (a := 27) (b := k) (by omega) (by decide)⟩]
  rw [u, v]
  unfold am_tbr
  rw [h.fa (by omega) (by omega), h.fb (by omega), h.fc (by omega) (by omega), a1, a2, b1, b2, am_brsm (Or.inr trivial), T k hk2 hk]
  generalize hV : am_hd (nI k - (if nI k < 24 then 22 else 20)) (D 102 (D 72 x).toNatClampNeg) (D 102 (D 73 x).toNatClampNeg) = V
  have hV2 : V = 0 ∨ V = 1 := by rw [← hV]; exact am_hd_01 _ _ _
  have T2 := T2 k hk2 hk
  by_cases g : (nI k < 24 ∧ D 107 (D 72 x).toNatClampNeg = 1 ∧ D 107 (D 73 x).toNatClampNeg = 1) ∨ (D 107 (D 72 x).toNatClampNeg = 0 ∧ D 107 (D 73 x).toNatClampNeg = 0)
  · refine Or.inr ⟨V, hV2, if_pos g, ?_⟩
    rw [if_pos]
    rcases g with g | g
    · exact Or.inr ⟨⟨g.2.1, g.2.2⟩, T2.mpr g.1⟩
    · exact Or.inl g
  · refine Or.inl ⟨if_neg g, ?_⟩
    rw [if_neg]
    intro z
    rcases z with z | z
    · exact g (Or.inr z)
    · exact g (Or.inl ⟨T2.mp z.2, z.1.1, z.1.2⟩)
theorem am_tsn_fr {D : Nat → Nat → Int32} {s n : Int32} {c j : Nat} (h59 : c ≠ 59) (h60 : c ≠ 60) (h61 : c ≠ 61) (h62 : c ≠ 62) (h63 : c ≠ 63) (h64 : c ≠ 64) : (am_tsn D s n).2 c j = D c j := by
  have g : ∀ X : Nat → Nat → Int32, am_go X c j = X c j := fun X => am_go_ne h59
  have w : ∀ (X : Nat → Nat → Int32) a b v, am_wr X a b v c j = X c j := fun X a b v => am_wr_ne h61 h62
  have u9 : ∀ (X : Nat → Nat → Int32) a v, am_u X 59 a v c j = X c j := fun X a v => am_u_ne h59
  have u3 : ∀ (X : Nat → Nat → Int32) a v, am_u X 63 a v c j = X c j := fun X a v => am_u_ne h63
  have u4 : ∀ (X : Nat → Nat → Int32) a v, am_u X 64 a v c j = X c j := fun X a v => am_u_ne h64
  have kp : ∀ (X : Nat → Nat → Int32) v, am_kp X v c j = X c j := fun X v => am_kp_ne h60 (Or.inl h59)
  unfold am_tsn am_tca am_tbr am_tld am_tst am_tgb am_tpr
  repeat' refine am_itf ?_ ?_
  all_goals first | rfl | exact (g _).trans (w _ _ _ _) | exact g _ | exact (u9 _ _ _).trans (u9 _ _ _) | exact (u9 _ _ _).trans ((u9 _ _ _).trans (w _ _ _ _)) | exact (g _).trans ((u4 _ _ _).trans (u3 _ _ _)) | exact (g _).trans (kp _ _)
theorem am_tsp_fr {D : Nat → Nat → Int32} {c j : Nat} (h59 : c ≠ 59) (h60 : c ≠ 60) (h61 : c ≠ 61) (h62 : c ≠ 62) (h63 : c ≠ 63) (h64 : c ≠ 64) : (am_tsp D).2 c j = D c j := by
  unfold am_tsp
  split
  · rfl
  · exact am_tsn_fr h59 h60 h61 h62 h63 h64
