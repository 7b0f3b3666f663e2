def am_fN (D : Nat → Nat → Int32) (F : Nat) (sz : Nat → Nat) (E : Nat → Nat → Prop) : Nat → Nat → Prop := fun f g => E f g ∧ am_fL D F sz E f g
theorem c_fil {C D : Nat → Nat → Int32} {F : Nat} {sz : Nat → Nat} {e : am_E} {Q : am_Q} (hP : am_PG C D F sz) {E : Nat → Nat → Prop} (hL : ∀ a b, a < F → b < F → (C 9 a = C 9 b ↔ E a b)) (he : am_eqv (am_fN D F sz E)) {f : Nat} (hf : f < F) (hfin : ∀ g, g < f → ∃ l, C 10 g = nI l ∧ am_lst (am_fN D F sz E) g l) (q : ∀ l, am_lst (am_fN D F sz E) f l → Q (some (.int (nI l))) (hp C e)) : ∀ (n kc ks g : Nat), f < n + g → g ≤ f → (∀ h, h < g → ¬ (am_rep (am_fN D F sz E) h ∧ am_fN D F sz E h f)) → am_Go (mX0_finerLeastOf, 2, [.ref 7, .int (nI f), .int (nI g)], [], hp C e, kc, ks, Q)
  | 0, kc, ks, g, h1, h2, hI => by omega
  | n + 1, kc, ks, g, h1, h2, hI => by
    have hF := hP.hF
    refine go_s 3 rfl ?_
    refine go_if (fun c4 => ?_) (fun c4 => ?_)
    · have hlt : g < f := (nI_ltI (by omega) (by omega)).mp c4
      obtain ⟨l, el, hl⟩ := hfin g hlt
      have hcg := nI_clamp (show g < 2 ^ 31 by omega)
      have hcf := nI_clamp (show f < 2 ^ 31 by omega)
      refine go_s 3 rfl ?_
      refine go_m rfl rfl (show vp_in (nI g) 24 from vp_in_nI (by omega) (by decide)) ?_
      refine go_s 2 rfl ?_
      refine go_if (fun c14 => ?_) (fun c14 => ?_)
      · refine go_s 3 rfl ?_
        refine go_m rfl rfl (show vp_in (nI g) 24 from vp_in_nI (by omega) (by decide)) ?_
        refine go_s 3 rfl ?_
        refine go_m rfl rfl (show vp_in (nI f) 24 from vp_in_nI (by omega) (by decide)) ?_
        refine go_s 1 rfl ?_
        refine go_if (fun c29 => ?_) (fun c29 => ?_)
        · refine go_s 3 rfl ?_
          refine go_v kX0_finerLeastOf_35 okX0_areAlike rfl rfl rfl rfl (Nat.zero_le _) (Nat.zero_le _) ?_
          refine c_X0_areAlike hP hL (show g < F by omega) hf (fun r hr => ?_)
          refine go_s 1 rfl ?_
          refine go_if (fun c38 => ?_) (fun c38 => ?_)
          · have c14 : C 10 (nI g).toNatClampNeg = nI g := c14
            rw [hcg, el] at c14
            have c29 : C 9 (nI g).toNatClampNeg = C 9 (nI f).toNatClampNeg := c29
            rw [hcg, hcf, hL g f (by omega) hf] at c29
            refine go_s 2 (pc' := 2) (ls' := [.ref 7, .int (nI f), .int (nI (g + 1))]) (st' := []) (h' := hp C e) (by rw [← nI_1]; rfl) ?_
            refine c_fil hP hL he hf hfin q n _ _ (g + 1) (by omega) (by omega) (fun h hh => ?_)
            by_cases eh : h = g
            · rw [eh]; exact fun z => am_bz_0 hr c38 z.2.2
            · exact hI h (by omega)
          · refine go_s 1 rfl ?_
            have c14 : C 10 (nI g).toNatClampNeg = nI g := c14
            rw [hcg, el] at c14
            have c29 : C 9 (nI g).toNatClampNeg = C 9 (nI f).toNatClampNeg := c29
            rw [hcg, hcf, hL g f (by omega) hf] at c29
            have l1 := hl.1
            have eg : l = g := (nI_eq (by omega) (by omega)).mp c14
            refine go_ret rfl rfl (q g ⟨by omega, ⟨c29, am_bz_n hr c38⟩, fun h hh z => ?_⟩)
            obtain ⟨m, em, hm⟩ := hfin h (by omega)
            have m1 := hm.1
            exact hI m (by omega) ⟨am_lst_rep he hm, he.2.2 _ _ _ hm.2.1 z⟩
        · have c14 : C 10 (nI g).toNatClampNeg = nI g := c14
          rw [hcg, el] at c14
          have c29 : ¬ C 9 (nI g).toNatClampNeg = C 9 (nI f).toNatClampNeg := c29
          rw [hcg, hcf, hL g f (by omega) hf] at c29
          refine go_s 2 (pc' := 2) (ls' := [.ref 7, .int (nI f), .int (nI (g + 1))]) (st' := []) (h' := hp C e) (by rw [← nI_1]; rfl) ?_
          refine c_fil hP hL he hf hfin q n _ _ (g + 1) (by omega) (by omega) (fun h hh => ?_)
          by_cases eh : h = g
          · rw [eh]; exact fun z => c29 z.2.1
          · exact hI h (by omega)
      · have c14 : ¬ C 10 (nI g).toNatClampNeg = nI g := c14
        rw [hcg, el] at c14
        refine go_s 2 (pc' := 2) (ls' := [.ref 7, .int (nI f), .int (nI (g + 1))]) (st' := []) (h' := hp C e) (by rw [← nI_1]; rfl) ?_
        refine c_fil hP hL he hf hfin q n _ _ (g + 1) (by omega) (by omega) (fun h hh => ?_)
        by_cases eh : h = g
        · rw [eh]; exact fun z => c14 (by rw [am_lst_u hl ⟨Nat.le_refl _, he.1 g, z.1⟩])
        · exact hI h (by omega)
    · refine go_s 1 rfl ?_
      have hge := mt (nI_lt (a := g) (b := f) · (by omega)) c4
      refine go_ret rfl rfl (q f ⟨Nat.le_refl _, he.1 f, fun h hh z => ?_⟩)
      obtain ⟨l, el, hl⟩ := hfin h hh
      have l1 := hl.1
      exact hI l (by omega) ⟨am_lst_rep he hl, he.2.2 _ _ _ hl.2.1 z⟩
theorem c_X0_finerLeastOf {C D : Nat → Nat → Int32} {F : Nat} {sz : Nat → Nat} {e : am_E} {Q : am_Q} (hP : am_PG C D F sz) {E : Nat → Nat → Prop} {kc ks : Nat} (hL : ∀ a b, a < F → b < F → (C 9 a = C 9 b ↔ E a b)) (he : am_eqv (am_fN D F sz E)) {f : Nat} (hf : f < F) (hfin : ∀ g, g < f → ∃ l, C 10 g = nI l ∧ am_lst (am_fN D F sz E) g l) (q : ∀ l, am_lst (am_fN D F sz E) f l → Q (some (.int (nI l))) (hp C e)) : am_Go (mX0_finerLeastOf, 0, am_ent mX0_finerLeastOf [.ref 7, .int (nI f)], [], hp C e, kc, ks, Q) := by
  refine go_s 2 rfl ?_
  exact c_fil hP hL he hf hfin q (f + 1) _ _ 0 (by omega) (by omega) (fun h hh => by omega)
def am_PO (C D : Nat → Nat → Int32) (F : Nat) (sz : Nat → Nat) (E : Nat → Nat → Prop) (C' : Nat → Nat → Int32) (f : Nat) : Prop := (∀ c j, c ≠ 10 → (c ≠ 7 ∨ j ≠ 4) → C' c j = C c j) ∧ (∀ g, g < f → ∃ l, C' 10 g = nI l ∧ am_lst (am_fN D F sz E) g l) ∧ (C' 7 4 = nI (am_ct (am_rep (am_fN D F sz E)) f))
theorem am_PO.fr {C D : Nat → Nat → Int32} {F : Nat} {sz : Nat → Nat} {E : Nat → Nat → Prop} {C' : Nat → Nat → Int32} {f : Nat} (h : am_PO C D F sz E C' f) : ∀ c j, c ≠ 10 → (c ≠ 7 ∨ j ≠ 4) → C' c j = C c j := h.1
theorem am_PO.fi {C D : Nat → Nat → Int32} {F : Nat} {sz : Nat → Nat} {E : Nat → Nat → Prop} {C' : Nat → Nat → Int32} {f : Nat} (h : am_PO C D F sz E C' f) : ∀ g, g < f → ∃ l, C' 10 g = nI l ∧ am_lst (am_fN D F sz E) g l := h.2.1
theorem am_PO.ct {C D : Nat → Nat → Int32} {F : Nat} {sz : Nat → Nat} {E : Nat → Nat → Prop} {C' : Nat → Nat → Int32} {f : Nat} (h : am_PO C D F sz E C' f) : C' 7 4 = nI (am_ct (am_rep (am_fN D F sz E)) f) := h.2.2
theorem am_lst_se {E : Nat → Nat → Prop} (he : am_eqv E) {f l : Nat} (h : am_lst E f l) : l = f ↔ am_rep E f := by
  constructor
  · intro e; subst e; exact am_lst_rep he h
  · intro z
    exact am_lst_u h ⟨Nat.le_refl _, he.1 f, z⟩
theorem c_pol {C D : Nat → Nat → Int32} {F : Nat} {sz : Nat → Nat} {e : am_E} {Q : am_Q} (hP : am_PG C D F sz) {E : Nat → Nat → Prop} (hL : ∀ a b, a < F → b < F → (C 9 a = C 9 b ↔ E a b)) (he : am_eqv (am_fN D F sz E)) (q : ∀ C', (∀ c j, c ≠ 9 → c ≠ 10 → (c ≠ 7 ∨ j ≠ 4) → C' c j = C c j) → am_FV C' F (am_fN D F sz E) → C' 7 4 = nI (am_ct (am_rep (am_fN D F sz E)) F) → Q none (hp C' e)) : ∀ (n kc ks f : Nat) (C' : Nat → Nat → Int32), F < n + f → f ≤ F → am_PO C D F sz E C' f → am_Go (mX0_partOnce, 7, [.ref 7, .int (nI f)], [], hp C' e, kc, ks, Q)
  | 0, kc, ks, f, C', h1, h2, hI => by omega
  | n + 1, kc, ks, f, C', h1, h2, hI => by
    have hF := hP.hF
    have hP' : am_PG C' D F sz := hP.fr (fun c j h1 h2 _ => hI.fr c j (by omega) (Or.inl (by omega))) (fun _ _ _ _ _ => rfl)
    refine go_s 3 rfl ?_
    refine go_v kX0_partOnce_12 okX5_functions rfl rfl rfl rfl (Nat.zero_le _) (Nat.zero_le _) ?_
    refine c_X5_functions ?_
    refine go_s 1 rfl ?_
    refine go_if (fun c15 => ?_) (fun c15 => ?_)
    · have c15 : nI f < C' 1 5 := c15
      rw [hP'.c5] at c15
      have hf : f < F := (nI_ltI (by omega) (by omega)).mp c15
      have hcf := nI_clamp (show f < 2 ^ 31 by omega)
      refine go_s 5 rfl ?_
      refine go_v kX0_partOnce_25 okX0_finerLeastOf rfl rfl rfl rfl (Nat.zero_le _) (Nat.zero_le _) ?_
      refine c_X0_finerLeastOf hP' (E := E) (fun a b ha hb => by rw [hI.fr 9 a (by decide) (Or.inl (by decide)), hI.fr 9 b (by decide) (Or.inl (by decide))]; exact hL a b ha hb) he hf hI.fi (fun l hl => ?_)
      refine go_m rfl rfl (show vp_in (nI f) 24 from vp_in_nI (by omega) (by decide)) ?_
      show am_Go (mX0_partOnce, 29, [.ref 7, .int (nI f)], [], hp (am_u C' 10 (nI f).toNatClampNeg (nI l)) e, _, _, Q)
      rw [hcf]
      refine go_s 3 rfl ?_
      refine go_m rfl rfl (show vp_in (nI f) 24 from vp_in_nI (by omega) (by decide)) ?_
      refine go_s 2 rfl ?_
      refine go_if (fun c36 => ?_) (fun c36 => ?_)
      · have l1 := hl.1
        have c36 : am_u C' 10 f (nI l) 10 (nI f).toNatClampNeg = nI f := c36
        rw [hcf, am_u_eq, nI_eq (by omega) (by omega), am_lst_se he hl] at c36
        refine go_s 8 (pc' := 7) (ls' := [.ref 7, .int (nI (f + 1))]) (st' := []) (h' := hp (am_u (am_u C' 10 f (nI l)) 7 4 (nI (am_ct (am_rep (am_fN D F sz E)) (f + 1)))) e) (by rw [am_ct_t c36, ← nI_1, ← nI_1, ← hI.ct]; rfl) ?_
        refine c_pol hP hL he q n _ _ (f + 1) _ (by omega) (by omega) ⟨fun c j h1 h2 => ?_, fun g hg => ?_, ?_⟩
        · rw [show am_u (am_u C' 10 f (nI l)) 7 4 (nI (am_ct (am_rep (am_fN D F sz E)) (f + 1))) c j = am_u C' 10 f (nI l) c j by unfold am_u; rw [if_neg (by omega)], am_u_ne h1]; exact hI.fr c j h1 h2
        · by_cases eg : g = f
          · subst eg
            exact ⟨l, (am_u_ne (by decide)).trans am_u_eq, hl⟩
          · obtain ⟨m, e1, e2⟩ := hI.fi g (by omega)
            refine ⟨m, ?_, e2⟩
            rw [am_u_ne (by decide), am_u_nj eg]; exact e1
        · exact am_u_eq
      · have l1 := hl.1
        have c36 : ¬ am_u C' 10 f (nI l) 10 (nI f).toNatClampNeg = nI f := c36
        rw [hcf, am_u_eq, nI_eq (by omega) (by omega), am_lst_se he hl] at c36
        refine go_s 2 (pc' := 7) (ls' := [.ref 7, .int (nI (f + 1))]) (st' := []) (h' := hp (am_u C' 10 f (nI l)) e) (by rw [← nI_1]; rfl) ?_
        refine c_pol hP hL he q n _ _ (f + 1) _ (by omega) (by omega) ⟨fun c j h1 h2 => ?_, fun g hg => ?_, ?_⟩
        · rw [am_u_ne h1]; exact hI.fr c j h1 h2
        · by_cases eg : g = f
          · subst eg
            exact ⟨l, am_u_eq, hl⟩
          · obtain ⟨m, e1, e2⟩ := hI.fi g (by omega)
            refine ⟨m, ?_, e2⟩
            rw [am_u_nj eg]; exact e1
        · rw [am_u_ne (by decide), am_ct_f c36]; exact hI.ct
    · have c15 : ¬ nI f < C' 1 5 := c15
      rw [hP'.c5] at c15
      have hge := mt (nI_lt (a := f) (b := F) · (by omega)) c15
      have ef : f = F := by omega
      subst ef
      refine go_s 8 rfl ?_
      refine go_v kX0_partOnce_69 okX5_functions rfl rfl rfl rfl (Nat.zero_le _) (Nat.zero_le _) ?_
      refine c_X5_functions ?_
      refine go_cpy 614 rfl (by decide +kernel) rfl rfl (by decide) (by decide) (by show ¬ C' 1 5 < 0; rw [hP'.c5]; exact nI_pos (by omega)) (by show 0 + (C' 1 5).toNatClampNeg ≤ 24; rw [hP'.c5, nI_clamp (by omega)]; omega) (by show 0 + (C' 1 5).toNatClampNeg ≤ 24; rw [hP'.c5, nI_clamp (by omega)]; omega) rfl ?_
      refine go_retv rfl rfl (q (fun i j => if i = 9 then va_cpy (C' 10) (C' 9) (0 : Int32).toNatClampNeg (0 : Int32).toNatClampNeg (C' 1 5).toNatClampNeg j else C' i j) (fun c j h9 h10 h7 => ?_) (fun g hg => ?_) ?_)
      · show (if c = 9 then _ else _) = _
        rw [if_neg h9]; exact hI.fr c j h10 h7
      · obtain ⟨l, e1, e2⟩ := hI.fi g hg
        refine ⟨l, ?_, e2⟩
        show (if 9 = 9 then _ else _) = _
        rw [if_pos rfl]
        unfold va_cpy
        rw [hP'.c5, nI_clamp (by omega), if_pos ⟨Nat.zero_le _, by show g < 0 + _; omega⟩]
        show C' 10 (0 + (g - 0)) = _
        rw [Nat.sub_zero, Nat.zero_add]; exact e1
      · show (if 7 = 9 then _ else _) = _
        rw [if_neg (by decide)]; exact hI.ct
theorem c_X0_partOnce {C D : Nat → Nat → Int32} {F : Nat} {sz : Nat → Nat} {e : am_E} {Q : am_Q} (hP : am_PG C D F sz) {E : Nat → Nat → Prop} {kc ks : Nat} (hL : ∀ a b, a < F → b < F → (C 9 a = C 9 b ↔ E a b)) (he : am_eqv (am_fN D F sz E)) (q : ∀ C', (∀ c j, c ≠ 9 → c ≠ 10 → (c ≠ 7 ∨ j ≠ 4) → C' c j = C c j) → am_FV C' F (am_fN D F sz E) → C' 7 4 = nI (am_ct (am_rep (am_fN D F sz E)) F) → Q none (hp C' e)) : am_Go (mX0_partOnce, 0, am_ent mX0_partOnce [.ref 7], [], hp C e, kc, ks, Q) := by
  refine go_s 5 (pc' := 7) (ls' := [.ref 7, .int (nI 0)]) (st' := []) (h' := hp (am_u C 7 4 0) e) rfl ?_
  refine c_pol hP hL he q (F + 1) _ _ 0 _ (by omega) (by omega) ⟨fun c j h1 h2 => ?_, fun g hg => by omega, am_u_eq⟩
  unfold am_u
  rw [if_neg (by omega)]
