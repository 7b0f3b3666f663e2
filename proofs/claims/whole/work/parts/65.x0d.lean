def am_FR (C D : Nat → Nat → Int32) (F : Nat) (sz : Nat → Nat) (i : Nat) : Prop := (am_fx D F sz i) ∧ (am_FV C F (am_fE D F sz i)) ∧ (C 7 4 = nI (am_fC D F sz i)) ∧ (∀ f, f < 24 → am_bz (C 8 f) (am_tk D F sz f))
theorem am_FR.fx {C D : Nat → Nat → Int32} {F : Nat} {sz : Nat → Nat} {i : Nat} (h : am_FR C D F sz i) : am_fx D F sz i := h.1
theorem am_FR.fv {C D : Nat → Nat → Int32} {F : Nat} {sz : Nat → Nat} {i : Nat} (h : am_FR C D F sz i) : am_FV C F (am_fE D F sz i) := h.2.1
theorem am_FR.cl {C D : Nat → Nat → Int32} {F : Nat} {sz : Nat → Nat} {i : Nat} (h : am_FR C D F sz i) : C 7 4 = nI (am_fC D F sz i) := h.2.2.1
theorem am_FR.tk {C D : Nat → Nat → Int32} {F : Nat} {sz : Nat → Nat} {i : Nat} (h : am_FR C D F sz i) : ∀ f, f < 24 → am_bz (C 8 f) (am_tk D F sz f) := h.2.2.2
def am_RL (C D : Nat → Nat → Int32) (F : Nat) (sz : Nat → Nat) (C' : Nat → Nat → Int32) (r : Nat) (v : Int32) : Prop := (∀ c j, c ≠ 8 → c ≠ 9 → c ≠ 10 → (c ≠ 7 ∨ (j ≠ 4 ∧ j ≠ 5)) → C' c j = C c j) ∧ (C' 7 5 = C 1 7) ∧ (am_FV C' F (am_fE D F sz r)) ∧ (∀ f, f < 24 → am_bz (C' 8 f) (am_tk D F sz f)) ∧ ((v = 1 ∧ r ≤ am_fC D F sz r ∧ C' 7 4 = nI (if r = 0 then 0 else am_fC D F sz r)) ∨ (v = 0 ∧ am_fx D F sz r ∧ C' 7 4 = nI (am_fC D F sz r)))
theorem am_RL.fr {C D : Nat → Nat → Int32} {F : Nat} {sz : Nat → Nat} {C' : Nat → Nat → Int32} {r : Nat} {v : Int32} (h : am_RL C D F sz C' r v) : ∀ c j, c ≠ 8 → c ≠ 9 → c ≠ 10 → (c ≠ 7 ∨ (j ≠ 4 ∧ j ≠ 5)) → C' c j = C c j := h.1
theorem am_RL.s5 {C D : Nat → Nat → Int32} {F : Nat} {sz : Nat → Nat} {C' : Nat → Nat → Int32} {r : Nat} {v : Int32} (h : am_RL C D F sz C' r v) : C' 7 5 = C 1 7 := h.2.1
theorem am_RL.fv {C D : Nat → Nat → Int32} {F : Nat} {sz : Nat → Nat} {C' : Nat → Nat → Int32} {r : Nat} {v : Int32} (h : am_RL C D F sz C' r v) : am_FV C' F (am_fE D F sz r) := h.2.2.1
theorem am_RL.tk {C D : Nat → Nat → Int32} {F : Nat} {sz : Nat → Nat} {C' : Nat → Nat → Int32} {r : Nat} {v : Int32} (h : am_RL C D F sz C' r v) : ∀ f, f < 24 → am_bz (C' 8 f) (am_tk D F sz f) := h.2.2.2.1
theorem am_RL.st {C D : Nat → Nat → Int32} {F : Nat} {sz : Nat → Nat} {C' : Nat → Nat → Int32} {r : Nat} {v : Int32} (h : am_RL C D F sz C' r v) : (v = 1 ∧ r ≤ am_fC D F sz r ∧ C' 7 4 = nI (if r = 0 then 0 else am_fC D F sz r)) ∨ (v = 0 ∧ am_fx D F sz r ∧ C' 7 4 = nI (am_fC D F sz r)) := h.2.2.2.2
theorem am_FV_cg {C C' : Nat → Nat → Int32} {F : Nat} {E : Nat → Nat → Prop} (h : ∀ f, C' 9 f = C 9 f) (z : am_FV C F E) : am_FV C' F E := fun f hf => by
  obtain ⟨l, e, hl⟩ := z f hf
  exact ⟨l, by rw [h]; exact e, hl⟩
theorem c_rfl {C D : Nat → Nat → Int32} {F : Nat} {sz : Nat → Nat} {e : am_E} {Q : am_Q} (hP : am_PG C D F sz) (q : ∀ C' i, (∀ c j, c ≠ 8 → c ≠ 9 → c ≠ 10 → (c ≠ 7 ∨ (j ≠ 4 ∧ j ≠ 5)) → C' c j = C c j) → C' 7 5 = C 1 7 → am_FR C' D F sz i → Q none (hp C' e)) : ∀ (n kc ks r : Nat) (v : Int32) (x3 : Value) (C' : Nat → Nat → Int32), 25 < n + r → r ≤ 25 → am_RL C D F sz C' r v → am_Go (mX0_refresh, 38, [.ref 7, .int v, .int (nI r), x3], [], hp C' e, kc, ks, Q)
  | 0, kc, ks, r, v, x3, C', h1, h2, hI => by omega
  | n + 1, kc, ks, r, v, x3, C', h1, h2, hI => by
    have hF := hP.hF
    have hP' : am_PG C' D F sz := hP.fr (fun c j h1 h2 _ => hI.fr c j (by omega) (by omega) (by omega) (Or.inl (by omega))) (fun _ _ _ _ _ => rfl)
    refine go_s 2 rfl ?_
    refine go_if (fun c39 => ?_) (fun c39 => ?_)
    · obtain ⟨v1, v2, v3⟩ := hI.st.resolve_left (fun y => absurd (y.1.symm.trans c39) (by decide))
      exact go_retv rfl rfl (q C' r hI.fr hI.s5 ⟨v2, hI.fv, v3, hI.tk⟩)
    · refine go_s 3 rfl ?_
      refine go_if (fun c45 => ?_) (fun c45 => ?_)
      · obtain ⟨v1, v2, v3⟩ := hI.st.resolve_right (fun y => c39 y.1)
        have c45 : (24 : Int32) < nI r := c45
        have r24 := (nI_ltI (a := 24) (b := r) (by decide) (by omega)).mp c45
        have le0 : am_fC D F sz r ≤ F := am_ct_le F
        omega
      · refine go_s 4 rfl ?_
        refine go_v kX0_refresh_54 okX0_partOnce rfl rfl rfl rfl (Nat.zero_le _) (Nat.zero_le _) ?_
        refine c_X0_partOnce hP' (E := am_fE D F sz r) (fun a b ha hb => am_FV.eq hF (am_fE_eqv hF r) hI.fv ha hb) (am_fE_eqv (D := D) (sz := sz) hF (r + 1)) (fun C2 z1 z2 z3 => ?_)
        refine go_s 4 rfl ?_
        refine go_if (fun c62 => ?_) (fun c62 => ?_)
        · have c62 : C2 7 4 = C' 7 4 := c62
          have z3 : C2 7 4 = nI (am_fC D F sz (r + 1)) := z3
          obtain ⟨v1, v2, v3⟩ := hI.st.resolve_right (fun y => c39 y.1)
          rw [z3, v3] at c62
          have le1 : am_fC D F sz (r + 1) ≤ F := am_ct_le F
          have le0 : am_fC D F sz r ≤ F := am_ct_le F
          have mo : am_fC D F sz r ≤ am_fC D F sz (r + 1) := am_fC_mo r
          have c45 : ¬ (24 : Int32) < nI r := c45
          have r24 : ¬ 24 < r := fun y => c45 (nI_lt (a := 24) (b := r) y (by omega))
          refine go_s 4 (pc' := 38) (ls' := [.ref 7, .int 0, .int (nI (r + 1)), .int (C' 7 4)]) (st' := []) (h' := hp C2 e) (by rw [← nI_1]; rfl) ?_
          refine c_rfl hP q n _ _ (r + 1) _ _ C2 (by omega) (by omega) ⟨fun c j a1 a2 a3 a4 => (z1 c j a2 a3 (by omega)).trans (hI.fr c j a1 a2 a3 a4), (z1 7 5 (by decide) (by decide) (Or.inr (by decide))).trans hI.s5, z2, fun f hf => by rw [z1 8 f (by decide) (by decide) (Or.inl (by decide))]; exact hI.tk f hf, ?_⟩
          refine Or.inr ⟨rfl, ?_, z3⟩
          by_cases r0 : r = 0
          · rw [if_pos r0] at c62
            have e0 : am_fC D F sz (r + 1) = 0 := (nI_eq (by omega) (by decide)).mp c62
            have F0 : F = 0 := Nat.eq_zero_of_not_pos (fun hp => by have := am_fC_1 (D := D) (sz := sz) (i := r + 1) hp; omega)
            intro f g hf
            omega
          · rw [if_neg r0] at c62
            have e0 : am_fC D F sz (r + 1) = am_fC D F sz r := (nI_eq (by omega) (by omega)).mp c62
            exact am_fx_s (am_fC_fx hF e0.symm)
        · have c62 : ¬ C2 7 4 = C' 7 4 := c62
          have z3 : C2 7 4 = nI (am_fC D F sz (r + 1)) := z3
          obtain ⟨v1, v2, v3⟩ := hI.st.resolve_right (fun y => c39 y.1)
          rw [z3, v3] at c62
          have le1 : am_fC D F sz (r + 1) ≤ F := am_ct_le F
          have le0 : am_fC D F sz r ≤ F := am_ct_le F
          have mo : am_fC D F sz r ≤ am_fC D F sz (r + 1) := am_fC_mo r
          have c45 : ¬ (24 : Int32) < nI r := c45
          have r24 : ¬ 24 < r := fun y => c45 (nI_lt (a := 24) (b := r) y (by omega))
          refine go_s 5 (pc' := 38) (ls' := [.ref 7, .int 1, .int (nI (r + 1)), .int (C' 7 4)]) (st' := []) (h' := hp C2 e) (by rw [← nI_1]; rfl) ?_
          refine c_rfl hP q n _ _ (r + 1) _ _ C2 (by omega) (by omega) ⟨fun c j a1 a2 a3 a4 => (z1 c j a2 a3 (by omega)).trans (hI.fr c j a1 a2 a3 a4), (z1 7 5 (by decide) (by decide) (Or.inr (by decide))).trans hI.s5, z2, fun f hf => by rw [z1 8 f (by decide) (by decide) (Or.inl (by decide))]; exact hI.tk f hf, ?_⟩
          refine Or.inl ⟨rfl, ?_, by rw [if_neg (by omega)]; exact z3⟩
          by_cases r0 : r = 0
          · rw [if_pos r0] at c62
            have e0 : ¬ am_fC D F sz (r + 1) = 0 := fun y => c62 (by rw [y])
            omega
          · rw [if_neg r0] at c62
            have e0 : ¬ am_fC D F sz (r + 1) = am_fC D F sz r := fun y => c62 (by rw [y])
            omega
theorem c_X0_refresh {C D : Nat → Nat → Int32} {F : Nat} {sz : Nat → Nat} {e : am_E} {Q : am_Q} (hP : am_PG C D F sz) {kc ks : Nat} (hc : C 7 5 = C 1 7 → ∃ i, am_FR C D F sz i) (q : ∀ C' i, (∀ c j, c ≠ 8 → c ≠ 9 → c ≠ 10 → (c ≠ 7 ∨ (j ≠ 4 ∧ j ≠ 5)) → C' c j = C c j) → C' 7 5 = C 1 7 → am_FR C' D F sz i → Q none (hp C' e)) : am_Go (mX0_refresh, 0, am_ent mX0_refresh [.ref 7], [], hp C e, kc, ks, Q) := by
  have hF := hP.hF
  refine go_s 4 rfl ?_
  refine go_v kX0_refresh_8 okX5_changes rfl rfl rfl rfl (Nat.zero_le _) (Nat.zero_le _) ?_
  refine c_X5_changes ?_
  refine go_s 1 rfl ?_
  refine go_if (fun c11 => ?_) (fun c11 => ?_)
  · have c11 : C 7 5 = C 1 7 := c11
    obtain ⟨i, hi⟩ := hc c11
    exact go_retv rfl rfl (q C i (fun _ _ _ _ _ _ => rfl) c11 hi)
  · refine go_s 3 rfl ?_
    refine go_v kX0_refresh_20 okX5_changes rfl rfl rfl rfl (Nat.zero_le _) (Nat.zero_le _) ?_
    refine c_X5_changes ?_
    refine go_s 2 rfl ?_
    refine go_v kX0_refresh_27 okX0_markTaken rfl rfl rfl rfl (Nat.zero_le _) (Nat.zero_le _) ?_
    show am_Go (mX0_markTaken, 0, _, [], hp (am_u C 7 5 (C 1 7)) e, _, _, _)
    have hP1 : am_PG (am_u C 7 5 (C 1 7)) D F sz := hP.fr (fun c j a1 a2 a3 => am_u_ne (by omega)) (fun _ _ _ _ _ => rfl)
    refine c_X0_markTaken hP1 (fun C1 h1 => ?_)
    refine go_s 1 rfl ?_
    refine go_v kX0_refresh_31 okX0_standAllTogether rfl rfl rfl rfl (Nat.zero_le _) (Nat.zero_le _) ?_
    refine c_X0_standAllTogether ?_
    refine go_s 4 (pc' := 38) (ls' := [.ref 7, .int 1, .int (nI 0), .long 0]) (st' := []) (h' := hp (am_u (am_fil C1 9 24 0) 7 4 0) e) rfl ?_
    refine c_rfl hP q 26 _ _ 0 _ _ _ (by omega) (by omega) ⟨fun c j a1 a2 a3 a4 => ?_, ?_, fun f hf => ⟨0, ?_, Nat.zero_le _, trivial, fun h hh => by omega⟩, fun f hf => ?_, Or.inl ⟨rfl, Nat.zero_le _, am_u_eq⟩⟩
    · have h4 : am_u (am_fil C1 9 24 0) 7 4 0 c j = am_fil C1 9 24 0 c j := by
        unfold am_u
        rw [if_neg (by omega)]
      rw [h4, am_fil_ne a2, h1.fr c j a1]
      unfold am_u
      rw [if_neg (by omega)]
    · rw [am_u_nj (by decide), am_fil_ne (by decide), h1.fr 7 5 (by decide)]; exact am_u_eq
    · rw [am_u_ne (by decide), am_fil_eq (by omega)]; rfl
    · rw [am_u_ne (by decide), am_fil_ne (by decide)]
      exact am_bz_iff (h1.bt f hf) (am_tkS_i hP1 f)
theorem c_X0_isTaken {C D : Nat → Nat → Int32} {F i : Nat} {sz : Nat → Nat} {e : am_E} {kc ks : Nat} {Q : am_Q} (hP : am_PG C D F sz) (hR : am_FR C D F sz i) {f : Nat} (hf : f < F) (q : ∀ r, am_bz r (am_tk D F sz f) → Q (some (.int r)) (hp C e)) : am_Go (mX0_isTaken, 0, am_ent mX0_isTaken [.ref 7, .int (nI f)], [], hp C e, kc, ks, Q) := by
  have hF := hP.hF
  have hcf := nI_clamp (show f < 2 ^ 31 by omega)
  refine go_s 3 rfl ?_
  refine go_v kX0_isTaken_5 okX5_hasFunction rfl rfl rfl rfl (Nat.zero_le _) (Nat.zero_le _) ?_
  refine c_X5_hasFunction ?_
  refine go_s 1 rfl ?_
  refine go_if (fun c8 => ?_) (fun c8 => ?_)
  · refine go_s 1 rfl ?_
    exact absurd (hP.inF hf) (zb_0.mp c8)
  · refine go_s 3 rfl ?_
    refine go_m rfl rfl (show vp_in (nI f) 24 from vp_in_nI (by omega) (by decide)) ?_
    refine go_s 1 rfl ?_
    refine go_if (fun c17 => ?_) (fun c17 => ?_)
    · refine go_s 1 rfl ?_
      have c17 : C 8 (nI f).toNatClampNeg = 0 := c17
      rw [hcf] at c17
      exact go_retz rfl rfl (Or.inl rfl) (q 0 (Or.inl ⟨rfl, am_bz_0 (hR.tk f (by omega)) c17⟩))
    · refine go_s 2 rfl ?_
      have c17 : ¬ C 8 (nI f).toNatClampNeg = 0 := c17
      rw [hcf] at c17
      exact go_retz rfl rfl (Or.inr rfl) (q 1 (Or.inr ⟨rfl, am_bz_n (hR.tk f (by omega)) c17⟩))
theorem c_X0_leastOf {C D : Nat → Nat → Int32} {F i : Nat} {sz : Nat → Nat} {e : am_E} {kc ks : Nat} {Q : am_Q} (hP : am_PG C D F sz) (hR : am_FR C D F sz i) {f : Nat} (hf : f < F) (q : ∀ l, am_lst (am_fE D F sz i) f l → Q (some (.int (nI l))) (hp C e)) : am_Go (mX0_leastOf, 0, am_ent mX0_leastOf [.ref 7, .int (nI f)], [], hp C e, kc, ks, Q) := by
  have hF := hP.hF
  have hcf := nI_clamp (show f < 2 ^ 31 by omega)
  refine go_s 3 rfl ?_
  refine go_v kX0_leastOf_5 okX5_hasFunction rfl rfl rfl rfl (Nat.zero_le _) (Nat.zero_le _) ?_
  refine c_X5_hasFunction ?_
  refine go_s 1 rfl ?_
  refine go_if (fun c8 => ?_) (fun c8 => ?_)
  · refine go_s 1 rfl ?_
    exact absurd (hP.inF hf) (zb_0.mp c8)
  · refine go_s 3 rfl ?_
    refine go_m rfl rfl (show vp_in (nI f) 24 from vp_in_nI (by omega) (by decide)) ?_
    refine go_s 1 rfl ?_
    obtain ⟨l, e1, hl⟩ := hR.fv f hf
    refine go_ret rfl rfl (am_qi (q l hl) ?_ rfl)
    show C 9 (nI f).toNatClampNeg = _
    rw [hcf]; exact e1
def am_bd (D : Nat → Nat → Int32) (F : Nat) (sz : Nat → Nat) (E : Nat → Nat → Prop) (f b : Nat) : Prop := (am_tk D F sz f ∧ b = f) ∨ (¬ am_tk D F sz f ∧ ((b < F ∧ (am_tk D F sz b ∧ E b f) ∧ ∀ h, h < b → ¬ (am_tk D F sz h ∧ E h f)) ∨ ((∀ h, h < F → ¬ (am_tk D F sz h ∧ E h f)) ∧ am_lst E f b)))
theorem c_bdl {C D : Nat → Nat → Int32} {F i : Nat} {sz : Nat → Nat} {e : am_E} {Q : am_Q} (hP : am_PG C D F sz) (hR : am_FR C D F sz i) {f : Nat} (hf : f < F) (hn : ¬ am_tk D F sz f) (q : ∀ b, am_bd D F sz (am_fE D F sz i) f b → Q (some (.int (nI b))) (hp C e)) : ∀ (n kc ks g : Nat), F < n + g → g ≤ F → (∀ h, h < g → ¬ (am_tk D F sz h ∧ am_fE D F sz i h f)) → am_Go (mX0_bodyOf, 12, [.ref 7, .int (nI f), .int (nI g)], [], hp C e, kc, ks, Q)
  | 0, kc, ks, g, h1, h2, hI => by omega
  | n + 1, kc, ks, g, h1, h2, hI => by
    have hF := hP.hF
    have he := am_fE_eqv (D := D) (sz := sz) hF i
    refine go_s 3 rfl ?_
    refine go_v kX0_bodyOf_17 okX5_functions rfl rfl rfl rfl (Nat.zero_le _) (Nat.zero_le _) ?_
    refine c_X5_functions ?_
    refine go_s 1 rfl ?_
    refine go_if (fun c20 => ?_) (fun c20 => ?_)
    · have c20 : nI g < C 1 5 := c20
      rw [hP.c5] at c20
      have hg : g < F := (nI_ltI (by omega) (by omega)).mp c20
      refine go_s 2 rfl ?_
      refine go_v kX0_bodyOf_25 okX0_isTaken rfl rfl rfl rfl (Nat.zero_le _) (Nat.zero_le _) ?_
      refine c_X0_isTaken hP hR hg (fun r hr => ?_)
      refine go_s 1 rfl ?_
      refine go_if (fun c28 => ?_) (fun c28 => ?_)
      · refine go_s 2 (pc' := 12) (ls' := [.ref 7, .int (nI f), .int (nI (g + 1))]) (st' := []) (h' := hp C e) (by rw [← nI_1]; rfl) ?_
        refine c_bdl hP hR hf hn q n _ _ (g + 1) (by omega) (by omega) (fun h hh => ?_)
        by_cases eh : h = g
        · rw [eh]; exact fun z => am_bz_0 hr c28 z.1
        · exact hI h (by omega)
      · refine go_s 2 rfl ?_
        refine go_v kX0_bodyOf_33 okX0_leastOf rfl rfl rfl rfl (Nat.zero_le _) (Nat.zero_le _) ?_
        refine c_X0_leastOf hP hR hg (fun l1 hl1 => ?_)
        refine go_s 2 rfl ?_
        refine go_v kX0_bodyOf_38 okX0_leastOf rfl rfl rfl rfl (Nat.zero_le _) (Nat.zero_le _) ?_
        refine c_X0_leastOf hP hR hf (fun l2 hl2 => ?_)
        refine go_s 1 rfl ?_
        refine go_if (fun c41 => ?_) (fun c41 => ?_)
        · refine go_s 1 rfl ?_
          have c41 : nI l1 = nI l2 := c41
          have a1 := hl1.1
          have a2 := hl2.1
          exact go_ret rfl rfl (q g (Or.inr ⟨hn, Or.inl ⟨hg, ⟨am_bz_n hr c28, (am_lst_eq he hl1 hl2).mp ((nI_eq (by omega) (by omega)).mp c41)⟩, hI⟩⟩))
        · have c41 : ¬ nI l1 = nI l2 := c41
          refine go_s 2 (pc' := 12) (ls' := [.ref 7, .int (nI f), .int (nI (g + 1))]) (st' := []) (h' := hp C e) (by rw [← nI_1]; rfl) ?_
          refine c_bdl hP hR hf hn q n _ _ (g + 1) (by omega) (by omega) (fun h hh => ?_)
          by_cases eh : h = g
          · rw [eh]; exact fun z => c41 (by rw [(am_lst_eq he hl1 hl2).mpr z.2])
          · exact hI h (by omega)
    · refine go_s 2 rfl ?_
      refine go_v kX0_bodyOf_54 okX0_leastOf rfl rfl rfl rfl (Nat.zero_le _) (Nat.zero_le _) ?_
      refine c_X0_leastOf hP hR hf (fun l hl => ?_)
      have c20 : ¬ nI g < C 1 5 := c20
      rw [hP.c5] at c20
      have hge := mt (nI_lt (a := g) (b := F) · (by omega)) c20
      exact go_ret rfl rfl (q l (Or.inr ⟨hn, Or.inr ⟨fun h hh => hI h (by omega), hl⟩⟩))
theorem c_X0_bodyOf {C D : Nat → Nat → Int32} {F i : Nat} {sz : Nat → Nat} {e : am_E} {kc ks : Nat} {Q : am_Q} (hP : am_PG C D F sz) (hR : am_FR C D F sz i) {f : Nat} (hf : f < F) (q : ∀ b, am_bd D F sz (am_fE D F sz i) f b → Q (some (.int (nI b))) (hp C e)) : am_Go (mX0_bodyOf, 0, am_ent mX0_bodyOf [.ref 7, .int (nI f)], [], hp C e, kc, ks, Q) := by
  refine go_s 2 rfl ?_
  refine go_v kX0_bodyOf_2 okX0_isTaken rfl rfl rfl rfl (Nat.zero_le _) (Nat.zero_le _) ?_
  refine c_X0_isTaken hP hR hf (fun r hr => ?_)
  refine go_s 1 rfl ?_
  refine go_if (fun c => ?_) (fun c => ?_)
  · refine go_s 2 rfl ?_
    exact c_bdl hP hR hf (am_bz_0 hr c) q (F + 1) _ _ 0 (by omega) (by omega) (fun h hh => by omega)
  · refine go_s 1 rfl ?_
    exact go_ret rfl rfl (q f (Or.inl ⟨am_bz_n hr c, rfl⟩))
