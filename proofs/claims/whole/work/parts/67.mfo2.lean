theorem c_pi {C D S : Nat → Nat → Int32} {F : Nat} {sz : Nat → Nat} {e : am_E} {Q : am_Q} {kc ks : Nat} {x1 x2 x4 : Value} (hP : am_PG C D F sz) (hS : am_MS S D) (K : am_Go (mX12_parts, 38, [.ref 69, x1, x2, .int (nI F), x4], [], hp (am_fil S 75 F 0) e, kc, ks, Q)) : ∀ (n k : Nat), n + k = F → am_Go (mX12_parts, 17, [.ref 69, x1, x2, .int (nI k), x4], [], hp (am_fil S 75 k 0) e, kc, ks, Q)
  | 0, k, h => by
    have hF := hP.hF
    have e : k = F := by omega
    subst e
    refine go_s 4 rfl ?_
    refine go_if (fun c => absurd c ?_) (fun c => K)
    show ¬ nI k < am_fil S 75 k 0 69 1
    rw [am_fil_ne (by decide), hS.m1, hP.m1]
    exact nI_nlt (Nat.le_refl _) (by omega)
  | n + 1, k, h => by
    have hF := hP.hF
    refine go_s 4 rfl ?_
    refine go_if (fun c => ?_) (fun c => absurd ?_ c)
    rotate_left
    · show nI k < am_fil S 75 k 0 69 1
      rw [am_fil_ne (by decide), hS.m1, hP.m1]
      exact nI_lt (by omega) (by omega)
    refine go_s 4 rfl ?_
    refine go_m rfl rfl (show vp_in (nI k) 24 from vp_in_nI (by omega) (by decide)) ?_
    refine go_s 2 (pc' := 17) (ls' := [.ref 69, x1, x2, .int (nI (k + 1)), x4]) (st' := []) (h' := hp (am_u (am_fil S 75 k 0) 75 (nI k).toNatClampNeg 0) e) (by rw [← nI_1]; rfl) ?_
    rw [nI_clamp (by omega), am_fil_s]
    exact c_pi hP hS K n (k + 1) (by omega)
theorem c_pin {C D S : Nat → Nat → Int32} {F : Nat} {sz : Nat → Nat} {e : am_E} {Q : am_Q} (hP : am_PG C D F sz) (hS : am_MS S D) {E : Nat → Nat → Prop} (he : am_eqv E) (hM : am_MV S F E) {f : Nat} (hf : f < F) {kc ks : Nat} {x1 x2 : Value} (K : ∀ g, (g < f ∧ am_fN D F sz E g f ∨ g = f) → (∀ h, h < g → ¬ am_fN D F sz E h f) → am_Go (mX12_parts, 82, [.ref 69, x1, x2, .int (nI f), .int (nI g)], [], hp S e, kc, ks, Q)) : ∀ (n g : Nat), f < n + g → g ≤ f → (∀ h, h < g → ¬ am_fN D F sz E h f) → am_Go (mX12_parts, 60, [.ref 69, x1, x2, .int (nI f), .int (nI g)], [], hp S e, kc, ks, Q)
  | 0, g, h1, h2, hI => by omega
  | n + 1, g, h1, h2, hI => by
    have hF := hP.hF
    refine go_s 3 rfl ?_
    refine go_if (fun c63 => ?_) (fun c63 => ?_)
    · have hgf : g < f := (nI_ltI (by omega) (by omega)).mp c63
      refine go_s 3 rfl ?_
      refine go_v kX12_parts_70 okX12_isLike rfl rfl rfl rfl (Nat.zero_le _) (Nat.zero_le _) ?_
      refine c_X12_isLike hP hS he hM (show g < F by omega) hf (fun r hr => ?_)
      refine go_s 1 rfl ?_
      refine go_if (fun c73 => ?_) (fun c73 => ?_)
      · refine go_s 2 (pc' := 60) (ls' := [.ref 69, x1, x2, .int (nI f), .int (nI (g + 1))]) (st' := []) (h' := hp S e) (by rw [← nI_1]; rfl) ?_
        refine c_pin hP hS he hM hf K n (g + 1) (by omega) (by omega) (fun h hh => ?_)
        by_cases eh : h = g
        · rw [eh]; exact am_bz_0 hr c73
        · exact hI h (by omega)
      · exact K g (Or.inl ⟨hgf, am_bz_n hr c73⟩) hI
    · have hge := mt (nI_lt (a := g) (b := f) · (by omega)) c63
      exact K g (Or.inr (by omega)) hI
def am_PN (S D : Nat → Nat → Int32) (F : Nat) (sz : Nat → Nat) (E : Nat → Nat → Prop) (S' : Nat → Nat → Int32) (f : Nat) : Prop := (∀ c j, c ≠ 76 → S' c j = S c j) ∧ (∀ a b, a < f → b < f → (S' 76 a = S' 76 b ↔ am_fN D F sz E a b)) ∧ (∀ a, a < f → ∃ m, m < am_ct (am_rep (am_fN D F sz E)) f ∧ S' 76 a = nI m)
theorem am_PN.fr {S D : Nat → Nat → Int32} {F : Nat} {sz : Nat → Nat} {E : Nat → Nat → Prop} {S' : Nat → Nat → Int32} {f : Nat} (h : am_PN S D F sz E S' f) : ∀ c j, c ≠ 76 → S' c j = S c j := h.1
theorem am_PN.eq {S D : Nat → Nat → Int32} {F : Nat} {sz : Nat → Nat} {E : Nat → Nat → Prop} {S' : Nat → Nat → Int32} {f : Nat} (h : am_PN S D F sz E S' f) : ∀ a b, a < f → b < f → (S' 76 a = S' 76 b ↔ am_fN D F sz E a b) := h.2.1
theorem am_PN.bd {S D : Nat → Nat → Int32} {F : Nat} {sz : Nat → Nat} {E : Nat → Nat → Prop} {S' : Nat → Nat → Int32} {f : Nat} (h : am_PN S D F sz E S' f) : ∀ a, a < f → ∃ m, m < am_ct (am_rep (am_fN D F sz E)) f ∧ S' 76 a = nI m := h.2.2
theorem am_PN_old {S D : Nat → Nat → Int32} {F : Nat} {sz : Nat → Nat} {E : Nat → Nat → Prop} {S' : Nat → Nat → Int32} {f g : Nat} (he : am_eqv (am_fN D F sz E)) (hI : am_PN S D F sz E S' f) (hg : g < f) (z : am_fN D F sz E g f) : am_PN S D F sz E (am_u S' 76 f (S' 76 g)) (f + 1) ∧ am_ct (am_rep (am_fN D F sz E)) (f + 1) = am_ct (am_rep (am_fN D F sz E)) f := by
  have e0 : am_ct (am_rep (am_fN D F sz E)) (f + 1) = am_ct (am_rep (am_fN D F sz E)) f := am_ct_f (fun y => y g hg z)
  refine ⟨⟨fun c j hc => (am_u_ne hc).trans (hI.fr c j hc), fun a b ha hb => ?_, fun a ha => ?_⟩, e0⟩
  · have key : ∀ a, a < f + 1 → ∃ a', a' < f ∧ am_u S' 76 f (S' 76 g) 76 a = S' 76 a' ∧ am_fN D F sz E a a' := fun a ha => by
      by_cases e : a = f
      · subst e; exact ⟨g, hg, am_u_eq, he.2.1 _ _ z⟩
      · exact ⟨a, by omega, am_u_nj e, he.1 a⟩
    obtain ⟨a', k1, k2, k3⟩ := key a ha
    obtain ⟨b', l1, l2, l3⟩ := key b hb
    rw [k2, l2, hI.eq a' b' k1 l1]
    exact ⟨fun y => he.2.2 _ _ _ k3 (he.2.2 _ _ _ y (he.2.1 _ _ l3)), fun y => he.2.2 _ _ _ (he.2.1 _ _ k3) (he.2.2 _ _ _ y l3)⟩
  · rw [e0]
    by_cases e : a = f
    · subst e; rw [am_u_eq]; exact hI.bd g hg
    · rw [am_u_nj e]; exact hI.bd a (by omega)
theorem am_PN_new {S D : Nat → Nat → Int32} {F : Nat} {sz : Nat → Nat} {E : Nat → Nat → Prop} {S' : Nat → Nat → Int32} {f : Nat} (hf : f < 24) (he : am_eqv (am_fN D F sz E)) (hI : am_PN S D F sz E S' f) (z : ∀ h, h < f → ¬ am_fN D F sz E h f) : am_PN S D F sz E (am_u S' 76 f (nI (am_ct (am_rep (am_fN D F sz E)) f))) (f + 1) ∧ am_ct (am_rep (am_fN D F sz E)) (f + 1) = am_ct (am_rep (am_fN D F sz E)) f + 1 := by
  have e0 : am_ct (am_rep (am_fN D F sz E)) (f + 1) = am_ct (am_rep (am_fN D F sz E)) f + 1 := am_ct_t z
  have l0 : am_ct (am_rep (am_fN D F sz E)) f ≤ f := am_ct_le f
  refine ⟨⟨fun c j hc => (am_u_ne hc).trans (hI.fr c j hc), fun a b ha hb => ?_, fun a ha => ?_⟩, e0⟩
  · by_cases ea : a = f
    · rw [ea]
      by_cases eb : b = f
      · rw [eb]; exact ⟨fun _ => he.1 f, fun _ => rfl⟩
      · obtain ⟨m, hm, em⟩ := hI.bd b (by omega)
        rw [am_u_eq, am_u_nj eb, em]
        exact ⟨fun y => absurd ((nI_eq (by omega) (by omega)).mp y) (by omega), fun y => absurd (he.2.1 _ _ y) (z b (by omega))⟩
    · by_cases eb : b = f
      · obtain ⟨m, hm, em⟩ := hI.bd a (by omega)
        rw [eb, am_u_eq, am_u_nj ea, em]
        exact ⟨fun y => absurd ((nI_eq (by omega) (by omega)).mp y) (by omega), fun y => absurd y (z a (by omega))⟩
      · rw [am_u_nj ea, am_u_nj eb]
        exact hI.eq a b (by omega) (by omega)
  · rw [e0]
    by_cases e : a = f
    · subst e; exact ⟨_, by omega, am_u_eq⟩
    · obtain ⟨m, hm, em⟩ := hI.bd a (by omega)
      exact ⟨m, by omega, (am_u_nj e).trans em⟩
theorem c_pf {C D S : Nat → Nat → Int32} {F : Nat} {sz : Nat → Nat} {e : am_E} {Q : am_Q} (hP : am_PG C D F sz) (hS : am_MS S D) {E : Nat → Nat → Prop} (he : am_eqv E) (heN : am_eqv (am_fN D F sz E)) (hM : am_MV S F E) {kc ks : Nat} {x1 : Value} (K : ∀ S' x4, am_PN S D F sz E S' F → am_Go (mX12_parts, 125, [.ref 69, x1, .int (nI (am_ct (am_rep (am_fN D F sz E)) F)), .int (nI F), x4], [], hp S' e, kc, ks, Q)) : ∀ (n f : Nat) (x4 : Value) (S' : Nat → Nat → Int32), F < n + f → f ≤ F → am_PN S D F sz E S' f → am_Go (mX12_parts, 49, [.ref 69, x1, .int (nI (am_ct (am_rep (am_fN D F sz E)) f)), .int (nI f), x4], [], hp S' e, kc, ks, Q)
  | 0, f, x4, S', h1, h2, hI => by omega
  | n + 1, f, x4, S', h1, h2, hI => by
    have hF := hP.hF
    have s1 : S' 69 1 = nI F := (hI.fr 69 1 (by decide)).trans (hS.m1.trans hP.m1)
    refine go_s 4 rfl ?_
    refine go_if (fun c54 => ?_) (fun c54 => ?_)
    · have c54 : nI f < S' 69 1 := c54
      rw [s1] at c54
      have hf : f < F := (nI_ltI (by omega) (by omega)).mp c54
      have hcf := nI_clamp (show f < 2 ^ 31 by omega)
      refine go_s 2 (pc' := 60) (ls' := [.ref 69, x1, .int (nI (am_ct (am_rep (am_fN D F sz E)) f)), .int (nI f), .int (nI 0)]) (st' := []) (h' := hp S' e) rfl ?_
      refine c_pin hP (hS.u (fun c j h1 h2 _ => hI.fr c j (by omega))) he ⟨fun a b ha hb => by rw [hI.fr 75 a (by decide), hI.fr 75 b (by decide)]; exact hM.eq a b ha hb, fun a ha => by rw [hI.fr 75 a (by decide)]; exact hM.bd a ha⟩ hf (fun g hg hz => ?_) (f + 1) 0 (by omega) (by omega) (fun h hh => by omega)
      rcases hg with ⟨hgf, hgz⟩ | hgf
      · refine go_s 6 rfl ?_
        refine go_if (fun c90 => ?_) (fun c90 => absurd (nI_lt hgf (by omega)) c90)
        refine go_s 3 rfl ?_
        refine go_m rfl rfl (show vp_in (nI g) 24 from vp_in_nI (by omega) (by decide)) ?_
        refine go_s 1 rfl ?_
        refine go_m rfl rfl (show vp_in (nI f) 24 from vp_in_nI (by omega) (by decide)) ?_
        show am_Go (mX12_parts, 105, [.ref 69, x1, .int (nI (am_ct (am_rep (am_fN D F sz E)) f)), .int (nI f), .int (nI g)], [], hp (am_u S' 76 (nI f).toNatClampNeg (S' 76 (nI g).toNatClampNeg)) e, _, _, Q)
        rw [hcf, nI_clamp (show g < 2 ^ 31 by omega)]
        refine go_s 4 rfl ?_
        refine go_if (fun c109 => absurd c109 (fun z => absurd ((nI_eq (by omega) (by omega)).mp z) (by omega))) (fun c109 => ?_)
        obtain ⟨y1, y2⟩ := am_PN_old heN hI hgf hgz
        refine go_s 5 (pc' := 49) (ls' := [.ref 69, x1, .int (nI (am_ct (am_rep (am_fN D F sz E)) (f + 1))), .int (nI (f + 1)), .int (nI g)]) (st' := []) (h' := hp (am_u S' 76 f (S' 76 g)) e) (by rw [y2, ← nI_1]; exact congrArg (fun v => some (49, [Value.ref 69, x1, .int v, .int (nI f + 1), .int (nI g)], ([] : List Value), hp (am_u S' 76 f (S' 76 g)) e)) (Int32.add_zero (nI (am_ct (am_rep (am_fN D F sz E)) f)))) ?_
        exact c_pf hP hS he heN hM K n (f + 1) _ _ (by omega) (by omega) y1
      · subst hgf
        refine go_s 6 rfl ?_
        refine go_if (fun c90 => absurd c90 (nI_nlt (Nat.le_refl _) (by omega))) (fun c90 => ?_)
        refine go_s 1 rfl ?_
        refine go_m rfl rfl (show vp_in (nI g) 24 from vp_in_nI (by omega) (by decide)) ?_
        show am_Go (mX12_parts, 105, [.ref 69, x1, .int (nI (am_ct (am_rep (am_fN D F sz E)) g)), .int (nI g), .int (nI g)], [], hp (am_u S' 76 (nI g).toNatClampNeg (nI (am_ct (am_rep (am_fN D F sz E)) g))) e, _, _, Q)
        rw [hcf]
        refine go_s 4 rfl ?_
        refine go_if (fun c109 => ?_) (fun c109 => absurd rfl c109)
        obtain ⟨y1, y2⟩ := am_PN_new (by omega) heN hI hz
        refine go_s 6 (pc' := 49) (ls' := [.ref 69, x1, .int (nI (am_ct (am_rep (am_fN D F sz E)) (g + 1))), .int (nI (g + 1)), .int (nI g)]) (st' := []) (h' := hp (am_u S' 76 g (nI (am_ct (am_rep (am_fN D F sz E)) g))) e) (by rw [y2, ← nI_1, ← nI_1]; rfl) ?_
        exact c_pf hP hS he heN hM K n (g + 1) _ _ (by omega) (by omega) y1
    · have c54 : ¬ nI f < S' 69 1 := c54
      rw [s1] at c54
      have hge := mt (nI_lt (a := f) (b := F) · (by omega)) c54
      have ef : f = F := by omega
      subst ef
      exact K _ _ hI
def am_PC (S S' : Nat → Nat → Int32) (f : Nat) : Prop := (∀ c j, c ≠ 75 → S' c j = S c j) ∧ (∀ a, a < f → S' 75 a = S 76 a)
theorem am_PC.fr {S S' : Nat → Nat → Int32} {f : Nat} (h : am_PC S S' f) : ∀ c j, c ≠ 75 → S' c j = S c j := h.1
theorem am_PC.eq {S S' : Nat → Nat → Int32} {f : Nat} (h : am_PC S S' f) : ∀ a, a < f → S' 75 a = S 76 a := h.2
theorem c_pcp {C D S : Nat → Nat → Int32} {F : Nat} {sz : Nat → Nat} {e : am_E} {Q : am_Q} (hP : am_PG C D F sz) (hS : am_MS S D) {kc ks : Nat} {x1 x2 x4 : Value} (K : ∀ S', am_PC S S' F → am_Go (mX12_parts, 38, [.ref 69, x1, x2, .int (nI F), x4], [], hp S' e, kc, ks, Q)) : ∀ (n f : Nat) (S' : Nat → Nat → Int32), F < n + f → f ≤ F → am_PC S S' f → am_Go (mX12_parts, 127, [.ref 69, x1, x2, .int (nI f), x4], [], hp S' e, kc, ks, Q)
  | 0, f, S', h1, h2, hI => by omega
  | n + 1, f, S', h1, h2, hI => by
    have hF := hP.hF
    have s1 : S' 69 1 = nI F := (hI.fr 69 1 (by decide)).trans (hS.m1.trans hP.m1)
    refine go_s 4 rfl ?_
    refine go_if (fun c132 => ?_) (fun c132 => ?_)
    · have c132 : nI f < S' 69 1 := c132
      rw [s1] at c132
      have hf : f < F := (nI_ltI (by omega) (by omega)).mp c132
      have hcf := nI_clamp (show f < 2 ^ 31 by omega)
      refine go_s 6 rfl ?_
      refine go_m rfl rfl (show vp_in (nI f) 24 from vp_in_nI (by omega) (by decide)) ?_
      refine go_m rfl rfl (show vp_in (nI f) 24 from vp_in_nI (by omega) (by decide)) ?_
      show am_Go (mX12_parts, 147, [.ref 69, x1, x2, .int (nI f), x4], [], hp (am_u S' 75 (nI f).toNatClampNeg (S' 76 (nI f).toNatClampNeg)) e, _, _, Q)
      rw [hcf]
      refine go_s 2 (pc' := 127) (ls' := [.ref 69, x1, x2, .int (nI (f + 1)), x4]) (st' := []) (h' := hp (am_u S' 75 f (S' 76 f)) e) (by rw [← nI_1]; rfl) ?_
      refine c_pcp hP hS K n (f + 1) _ (by omega) (by omega) ⟨fun c j hc => (am_u_ne hc).trans (hI.fr c j hc), fun a ha => ?_⟩
      by_cases ea : a = f
      · subst ea; rw [am_u_eq]; exact hI.fr 76 a (by decide)
      · rw [am_u_nj ea]; exact hI.eq a (by omega)
    · refine go_s 1 rfl ?_
      have c132 : ¬ nI f < S' 69 1 := c132
      rw [s1] at c132
      have hge := mt (nI_lt (a := f) (b := F) · (by omega)) c132
      have ef : f = F := by omega
      subst ef
      exact K _ hI
