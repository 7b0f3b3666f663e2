def am_FV (C : Nat → Nat → Int32) (F : Nat) (E : Nat → Nat → Prop) : Prop := ∀ f, f < F → ∃ l, C 9 f = nI l ∧ am_lst E f l
theorem am_FV.eq {C : Nat → Nat → Int32} {F : Nat} {E : Nat → Nat → Prop} (hF : F ≤ 24) (he : am_eqv E) (h : am_FV C F E) {a b : Nat} (ha : a < F) (hb : b < F) : C 9 a = C 9 b ↔ E a b := by
  obtain ⟨l, e1, hl⟩ := h a ha
  obtain ⟨m, e2, hm⟩ := h b hb
  have l1 := hl.1
  have m1 := hm.1
  rw [e1, e2, nI_eq (by omega) (by omega)]
  exact am_lst_eq he hl hm
theorem am_fT_i {C D : Nat → Nat → Int32} {F : Nat} {sz : Nat → Nat} {E : Nat → Nat → Prop} {u v : Int32} (hP : am_PG C D F sz) (hL : ∀ a b, a < F → b < F → (C 9 a = C 9 b ↔ E a b)) : (u = v ∨ ((0 ≤ u ∧ u < C 1 5) ∧ (0 ≤ v ∧ v < C 1 5) ∧ C 9 u.toNatClampNeg = C 9 v.toNatClampNeg)) ↔ am_fT F E u v := by
  have hF := hP.hF
  unfold am_fT
  constructor
  · rintro (h | ⟨h1, h2, h3⟩)
    · exact Or.inl h
    · obtain ⟨a, ha, rfl⟩ := nI_of (Int32.not_lt.mpr h1.1)
      obtain ⟨b, hb, rfl⟩ := nI_of (Int32.not_lt.mpr h2.1)
      rw [hP.c5] at h1 h2
      have a1 := (nI_ltI ha (by omega)).mp h1.2
      have b1 := (nI_ltI hb (by omega)).mp h2.2
      rw [nI_clamp ha, nI_clamp hb] at h3
      exact Or.inr ⟨a, b, a1, b1, rfl, rfl, (hL a b a1 b1).mp h3⟩
  · rintro (h | ⟨a, b, h1, h2, rfl, rfl, h5⟩)
    · exact Or.inl h
    · refine Or.inr ⟨hP.inF h1, hP.inF h2, ?_⟩
      rw [nI_clamp (by omega), nI_clamp (by omega)]
      exact (hL a b h1 h2).mpr h5
theorem am_fS_i {C D : Nat → Nat → Int32} {F : Nat} {sz : Nat → Nat} {f g p r : Nat} (hP : am_PG C D F sz) (hf : f < F) (hg : g < F) (hpf : p < sz f) (hpg : r < sz g) : ((0 ≤ nI (am_st sz f + p) ∧ nI (am_st sz f + p) < C 1 6) ∧ (0 ≤ nI (am_st sz g + r) ∧ nI (am_st sz g + r) < C 1 6) ∧ C 2 (nI (am_st sz f + p)).toNatClampNeg = C 2 (nI (am_st sz g + r)).toNatClampNeg ∧ C 3 (nI (am_st sz f + p)).toNatClampNeg = C 3 (nI (am_st sz g + r)).toNatClampNeg ∧ C 4 (nI (am_st sz f + p)).toNatClampNeg = C 4 (nI (am_st sz g + r)).toNatClampNeg ∧ C 5 (nI (am_st sz f + p)).toNatClampNeg = C 5 (nI (am_st sz g + r)).toNatClampNeg) ↔ am_fS D (40 * f + p) (40 * g + r) := by
  have ht := hP.t300
  have h1 := hP.lt hf hpf
  have h2 := hP.lt hg hpg
  obtain ⟨a1, a2, a3, a4, _⟩ := hP.ins f p hf hpf
  obtain ⟨b1, b2, b3, b4, _⟩ := hP.ins g r hg hpg
  rw [nI_clamp (by omega), nI_clamp (by omega), a1, a2, a3, a4, b1, b2, b3, b4]
  exact ⟨fun h => h.2.2, fun h => ⟨hP.inS h1, hP.inS h2, h⟩⟩
theorem c_X0_standTogether {C D : Nat → Nat → Int32} {F : Nat} {sz : Nat → Nat} {e : am_E} {kc ks : Nat} {Q : am_Q} (hP : am_PG C D F sz) {u v : Int32} (q : ∀ r, am_bz r (u = v ∨ ((0 ≤ u ∧ u < C 1 5) ∧ (0 ≤ v ∧ v < C 1 5) ∧ C 9 u.toNatClampNeg = C 9 v.toNatClampNeg)) → Q (some (.int r)) (hp C e)) : am_Go (mX0_standTogether, 0, am_ent mX0_standTogether [.ref 7, .int u, .int v], [], hp C e, kc, ks, Q) := by
  refine go_s 3 rfl ?_
  refine go_if (fun c2 => ?_) (fun c2 => ?_)
  · refine go_s 2 rfl ?_
    exact go_retz rfl rfl (Or.inr rfl) (q 1 (Or.inr ⟨rfl, Or.inl c2⟩))
  · refine go_s 3 rfl ?_
    refine go_v kX0_standTogether_10 okX5_hasFunction rfl rfl rfl rfl (Nat.zero_le _) (Nat.zero_le _) ?_
    refine c_X5_hasFunction ?_
    refine go_s 1 rfl ?_
    refine go_if (fun c13 => ?_) (fun c13 => ?_)
    · refine go_s 1 rfl ?_
      exact go_retz rfl rfl (Or.inl rfl) (q 0 (Or.inl ⟨rfl, fun z => z.elim c2 (fun z => zb_0.mp c13 z.1)⟩))
    · refine go_s 3 rfl ?_
      refine go_v kX0_standTogether_21 okX5_hasFunction rfl rfl rfl rfl (Nat.zero_le _) (Nat.zero_le _) ?_
      refine c_X5_hasFunction ?_
      refine go_s 1 rfl ?_
      refine go_if (fun c24 => ?_) (fun c24 => ?_)
      · refine go_s 1 rfl ?_
        exact go_retz rfl rfl (Or.inl rfl) (q 0 (Or.inl ⟨rfl, fun z => z.elim c2 (fun z => zb_0.mp c24 z.2.1)⟩))
      · refine go_s 3 rfl ?_
        refine go_m rfl rfl (vpl c13 hP.h5) ?_
        refine go_s 3 rfl ?_
        refine go_m rfl rfl (vpl c24 hP.h5) ?_
        refine go_s 1 rfl ?_
        refine go_if (fun c39 => ?_) (fun c39 => ?_)
        · refine go_s 2 rfl ?_
          exact go_retz rfl rfl (Or.inr rfl) (q 1 (Or.inr ⟨rfl, Or.inr ⟨zb_ne.mp c13, zb_ne.mp c24, c39⟩⟩))
        · refine go_s 1 rfl ?_
          exact go_retz rfl rfl (Or.inl rfl) (q 0 (Or.inl ⟨rfl, fun z => z.elim c2 (fun z => c39 z.2.2)⟩))
theorem c_X0_areAlikeSpots {C D : Nat → Nat → Int32} {F : Nat} {sz : Nat → Nat} {e : am_E} {kc ks : Nat} {Q : am_Q} (hP : am_PG C D F sz) {E : Nat → Nat → Prop} (hL : ∀ a b, a < F → b < F → (C 9 a = C 9 b ↔ E a b)) {f g : Nat} (hf : f < F) (hg : g < F) {p : Nat} (hpf : p < sz f) (hpg : p < sz g) (q : ∀ r, am_bz r (am_fA D F E (40 * f + p) (40 * g + p)) → Q (some (.int r)) (hp C e)) : am_Go (mX0_areAlikeSpots, 0, am_ent mX0_areAlikeSpots [.ref 7, .int (nI (am_st sz f + p)), .int (nI (am_st sz g + p))], [], hp C e, kc, ks, Q) := by
  have n1 := hP.num hf hpf
  have n2 := hP.num hg hpg
  refine go_s 3 rfl ?_
  refine go_v kX0_areAlikeSpots_5 okX5_numberAt rfl rfl rfl rfl (Nat.zero_le _) (Nat.zero_le _) ?_
  refine c_X5_numberAt hP.h6 ?_
  refine go_s 2 rfl ?_
  refine go_st kX0_areAlikeSpots_10 okX9_isCallOrTail rfl rfl rfl (Nat.zero_le _) (Nat.zero_le _) ?_
  refine c_X9_isCallOrTail ?_
  refine go_s 1 rfl ?_
  refine go_if (fun c13 => ?_) (fun c13 => ?_)
  · refine go_s 4 rfl ?_
    refine go_v kX0_areAlikeSpots_63 okX5_isSame rfl rfl rfl rfl (Nat.zero_le _) (Nat.zero_le _) ?_
    refine c_X5_isSame hP.h6 ?_
    have c13 : zb (am_num C (nI (am_st sz f + p)) = 29 ∨ am_num C (nI (am_st sz f + p)) = 30) = 0 := c13
    rw [n1] at c13
    exact go_retz rfl rfl zb_01 (q _ (am_bz_iff am_bz_z ((am_fS_i hP hf hg hpf hpg).trans ⟨fun z => Or.inr ⟨zb_0.mp c13, z⟩, fun z => z.elim (fun z => absurd z.1 (zb_0.mp c13)) (fun z => z.2)⟩)))
  · refine go_s 4 rfl ?_
    refine go_v kX0_areAlikeSpots_22 okX5_numberAt rfl rfl rfl rfl (Nat.zero_le _) (Nat.zero_le _) ?_
    refine c_X5_numberAt hP.h6 ?_
    refine go_s 1 rfl ?_
    refine go_if (fun c25 => ?_) (fun c25 => ?_)
    · refine go_s 4 rfl ?_
      refine go_v kX0_areAlikeSpots_34 okX5_aAt rfl rfl rfl rfl (Nat.zero_le _) (Nat.zero_le _) ?_
      refine c_X5_aAt hP.h6 ?_
      refine go_s 3 rfl ?_
      refine go_v kX0_areAlikeSpots_42 okX5_aAt rfl rfl rfl rfl (Nat.zero_le _) (Nat.zero_le _) ?_
      refine c_X5_aAt hP.h6 ?_
      refine go_v kX0_areAlikeSpots_45 okX0_standTogether rfl rfl rfl rfl (Nat.zero_le _) (Nat.zero_le _) ?_
      refine c_X0_standTogether hP (fun r hr => ?_)
      refine go_s 1 rfl ?_
      refine go_if (fun c48 => ?_) (fun c48 => ?_)
      · refine go_s 1 rfl ?_
        have c13 : ¬ zb (am_num C (nI (am_st sz f + p)) = 29 ∨ am_num C (nI (am_st sz f + p)) = 30) = 0 := c13
        rw [n1] at c13
        have c25 : am_num C (nI (am_st sz f + p)) = am_num C (nI (am_st sz g + p)) := c25
        rw [n1, n2] at c25
        have a1 : am_fa C (nI (am_st sz f + p)) = D 72 (40 * f + p) := (hP.fa hf hpf).trans (am_kA_br (Or.inr (zb_ne.mp c13)) _)
        have a2 : am_fa C (nI (am_st sz g + p)) = D 72 (40 * g + p) := (hP.fa hg hpg).trans (am_kA_br (Or.inr (by rw [← c25]; exact zb_ne.mp c13)) _)
        rw [a1, a2] at hr
        have hr := am_bz_iff hr (am_fT_i hP hL)
        exact go_retz rfl rfl (Or.inl rfl) (q 0 (Or.inl ⟨rfl, fun z => z.elim (fun z => am_bz_0 hr c48 z.2.2) (fun z => z.1 (zb_ne.mp c13))⟩))
      · refine go_s 2 rfl ?_
        have c13 : ¬ zb (am_num C (nI (am_st sz f + p)) = 29 ∨ am_num C (nI (am_st sz f + p)) = 30) = 0 := c13
        rw [n1] at c13
        have c25 : am_num C (nI (am_st sz f + p)) = am_num C (nI (am_st sz g + p)) := c25
        rw [n1, n2] at c25
        have a1 : am_fa C (nI (am_st sz f + p)) = D 72 (40 * f + p) := (hP.fa hf hpf).trans (am_kA_br (Or.inr (zb_ne.mp c13)) _)
        have a2 : am_fa C (nI (am_st sz g + p)) = D 72 (40 * g + p) := (hP.fa hg hpg).trans (am_kA_br (Or.inr (by rw [← c25]; exact zb_ne.mp c13)) _)
        rw [a1, a2] at hr
        have hr := am_bz_iff hr (am_fT_i hP hL)
        exact go_retz rfl rfl (Or.inr rfl) (q 1 (Or.inr ⟨rfl, Or.inl ⟨zb_ne.mp c13, c25, am_bz_n hr c48⟩⟩))
    · refine go_s 1 rfl ?_
      have c13 : ¬ zb (am_num C (nI (am_st sz f + p)) = 29 ∨ am_num C (nI (am_st sz f + p)) = 30) = 0 := c13
      rw [n1] at c13
      have c25 : ¬ am_num C (nI (am_st sz f + p)) = am_num C (nI (am_st sz g + p)) := c25
      rw [n1, n2] at c25
      exact go_retz rfl rfl (Or.inl rfl) (q 0 (Or.inl ⟨rfl, fun z => z.elim (fun z => c25 z.2.1) (fun z => z.1 (zb_ne.mp c13))⟩))
theorem c_aal {C D : Nat → Nat → Int32} {F : Nat} {sz : Nat → Nat} {e : am_E} {Q : am_Q} (hP : am_PG C D F sz) {E : Nat → Nat → Prop} (hL : ∀ a b, a < F → b < F → (C 9 a = C 9 b ↔ E a b)) {f g : Nat} (hf : f < F) (hg : g < F) (he : sz f = sz g) (q : ∀ r, am_bz r (am_fL D F sz E f g) → Q (some (.int r)) (hp C e)) : ∀ (n kc ks i : Nat), sz f < n + i → i ≤ sz f → (∀ p, p < i → am_fA D F E (40 * f + p) (40 * g + p)) → am_Go (mX0_areAlike, 46, [.ref 7, .int (nI f), .int (nI g), .int (nI (sz f)), .int (nI (am_st sz f)), .int (nI (am_st sz g)), .int (nI i)], [], hp C e, kc, ks, Q)
  | 0, kc, ks, i, h1, h2, hI => by omega
  | n + 1, kc, ks, i, h1, h2, hI => by
    have hF := hP.hF
    have h40 := hP.s40 f hf
    refine go_s 3 rfl ?_
    refine go_if (fun c49 => ?_) (fun c49 => ?_)
    · have hlt : i < sz f := (nI_ltI (by omega) (by omega)).mp c49
      refine go_s 7 (pc' := 63) (ls' := [.ref 7, .int (nI f), .int (nI g), .int (nI (sz f)), .int (nI (am_st sz f)), .int (nI (am_st sz g)), .int (nI i)]) (st' := [.int (nI (am_st sz g + i)), .int (nI (am_st sz f + i)), .ref 7]) (h' := hp C e) (by rw [← nI_add, ← nI_add]; rfl) ?_
      refine go_v kX0_areAlike_63 okX0_areAlikeSpots rfl rfl rfl rfl (Nat.zero_le _) (Nat.zero_le _) ?_
      refine c_X0_areAlikeSpots hP hL hf hg hlt (by omega) (fun r hr => ?_)
      refine go_s 1 rfl ?_
      refine go_if (fun c66 => ?_) (fun c66 => ?_)
      · refine go_s 1 rfl ?_
        exact go_retz rfl rfl (Or.inl rfl) (q 0 (Or.inl ⟨rfl, fun z => am_bz_0 hr c66 (z.2 i hlt)⟩))
      · refine go_s 2 (pc' := 46) (ls' := [.ref 7, .int (nI f), .int (nI g), .int (nI (sz f)), .int (nI (am_st sz f)), .int (nI (am_st sz g)), .int (nI (i + 1))]) (st' := []) (h' := hp C e) (by rw [← nI_1]; rfl) ?_
        refine c_aal hP hL hf hg he q n _ _ (i + 1) (by omega) (by omega) (fun p hp => ?_)
        by_cases e : p = i
        · subst e; exact am_bz_n hr c66
        · exact hI p (by omega)
    · refine go_s 1 rfl ?_
      have hge := mt (nI_lt (a := i) (b := sz f) · (by omega)) c49
      exact go_retz rfl rfl (Or.inr rfl) (q 1 (Or.inr ⟨rfl, he, fun p hp => hI p (by omega)⟩))
theorem c_X0_areAlike {C D : Nat → Nat → Int32} {F : Nat} {sz : Nat → Nat} {e : am_E} {kc ks : Nat} {Q : am_Q} (hP : am_PG C D F sz) {E : Nat → Nat → Prop} (hL : ∀ a b, a < F → b < F → (C 9 a = C 9 b ↔ E a b)) {f g : Nat} (hf : f < F) (hg : g < F) (q : ∀ r, am_bz r (am_fL D F sz E f g) → Q (some (.int r)) (hp C e)) : am_Go (mX0_areAlike, 0, am_ent mX0_areAlike [.ref 7, .int (nI f), .int (nI g)], [], hp C e, kc, ks, Q) := by
  have h40 := hP.s40 f hf
  have h41 := hP.s40 g hg
  refine go_s 3 rfl ?_
  refine go_v kX0_areAlike_5 okX5_lengthOf rfl rfl rfl rfl (Nat.zero_le _) (Nat.zero_le _) ?_
  refine c_X5_lengthOf hP.h5 ?_
  refine go_s 5 rfl ?_
  refine go_v kX0_areAlike_15 okX5_lengthOf rfl rfl rfl rfl (Nat.zero_le _) (Nat.zero_le _) ?_
  refine c_X5_lengthOf hP.h5 ?_
  refine go_s 1 rfl ?_
  refine go_if (fun c18 => ?_) (fun c18 => ?_)
  · refine go_s 3 rfl ?_
    refine go_v kX0_areAlike_28 okX5_startOf rfl rfl rfl rfl (Nat.zero_le _) (Nat.zero_le _) ?_
    refine c_X5_startOf hP.h5 ?_
    refine go_s 4 rfl ?_
    refine go_v kX0_areAlike_38 okX5_startOf rfl rfl rfl rfl (Nat.zero_le _) (Nat.zero_le _) ?_
    refine c_X5_startOf hP.h5 ?_
    have c18 : am_lof C (nI f) = am_lof C (nI g) := c18
    rw [hP.lof hf, hP.lof hg] at c18
    have he : sz f = sz g := (nI_eq (by omega) (by omega)).mp c18
    refine go_s 3 (pc' := 46) (ls' := [.ref 7, .int (nI f), .int (nI g), .int (nI (sz f)), .int (nI (am_st sz f)), .int (nI (am_st sz g)), .int (nI 0)]) (st' := []) (h' := hp C e) (by rw [hP.lof hf, hP.sta hf, hP.sta hg]; rfl) ?_
    exact c_aal hP hL hf hg he q (sz f + 1) _ _ 0 (by omega) (by omega) (fun p hp => by omega)
  · refine go_s 1 rfl ?_
    have c18 : ¬ am_lof C (nI f) = am_lof C (nI g) := c18
    rw [hP.lof hf, hP.lof hg] at c18
    exact go_retz rfl rfl (Or.inl rfl) (q 0 (Or.inl ⟨rfl, fun z => c18 (by rw [z.1])⟩))
