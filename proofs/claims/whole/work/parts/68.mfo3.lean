theorem am_fC_0 {D : Nat → Nat → Int32} {sz : Nat → Nat} {G : Nat} : ∀ {F : Nat}, 1 ≤ F → am_ct (am_rep (am_fE D G sz 0)) F = 1
  | 0, h => by omega
  | F + 1, h => by
    by_cases e : F = 0
    · subst e
      exact am_ct_t (n := 0) (fun k hk => by omega)
    · rw [am_ct_f (fun z => z 0 (by omega) trivial)]
      exact am_fC_0 (by omega)
theorem c_pm {C D S0 : Nat → Nat → Int32} {F : Nat} {sz : Nat → Nat} {e : am_E} {Q : am_Q} (hP : am_PG C D F sz) (hS : am_MS S0 D) (q : ∀ S' i, (∀ c j, c ≠ 75 → c ≠ 76 → S' c j = S0 c j) → am_fx D F sz i → am_MV S' F (am_fE D F sz i) → Q (some (.int (nI (am_fC D F sz i)))) (hp S' e)) : ∀ (n kc ks i h0 : Nat) (x3 x4 : Value) (S' : Nat → Nat → Int32), 26 < n + i → i ≤ h0 + 1 → h0 ≤ F → (∀ c j, c ≠ 75 → c ≠ 76 → S' c j = S0 c j) → am_MV S' F (am_fE D F sz i) → (i = 0 ∧ h0 = 0 ∨ ∃ j, i = j + 1 ∧ h0 = am_fC D F sz j) → am_Go (mX12_parts, 38, [.ref 69, .int (nI h0), .int (nI (am_fC D F sz i)), x3, x4], [], hp S' e, kc, ks, Q)
  | 0, kc, ks, i, h0, x3, x4, S', h1, h2, h3, hfr, hM, hh => by
    have hF := hP.hF
    omega
  | n + 1, kc, ks, i, h0, x3, x4, S', h1, h2, h3, hfr, hM, hh => by
    have hF := hP.hF
    have hS' : am_MS S' D := hS.u (fun c j y1 y2 _ => hfr c j (by omega) (by omega))
    have le0 : am_fC D F sz i ≤ F := am_ct_le F
    refine go_s 3 rfl ?_
    refine go_if (fun c40 => ?_) (fun c40 => ?_)
    · refine go_s 1 rfl ?_
      have c40 : nI h0 = nI (am_fC D F sz i) := c40
      have e0 := (nI_eq (by omega) (by omega)).mp c40
      refine go_ret rfl rfl (q S' i hfr ?_ hM)
      rcases hh with ⟨hi, hz⟩ | ⟨j, hj, hz⟩
      · have F0 : F = 0 := Nat.eq_zero_of_not_pos (fun hp => by have := am_fC_1 (D := D) (sz := sz) (i := i) hp; omega)
        intro f g hf
        omega
      · subst hj
        exact am_fx_s (am_fC_fx hF (hz.symm.trans e0))
    · have c40 : ¬ nI h0 = nI (am_fC D F sz i) := c40
      have e0 : ¬ h0 = am_fC D F sz i := fun z => c40 (by rw [z])
      refine go_s 6 (pc' := 49) (ls' := [.ref 69, .int (nI (am_fC D F sz i)), .int (nI (am_ct (am_rep (am_fN D F sz (am_fE D F sz i))) 0)), .int (nI 0), x4]) (st' := []) (h' := hp S' e) rfl ?_
      have hi1 : i ≤ am_fC D F sz i := by
        rcases hh with ⟨hi, hz⟩ | ⟨j, hj, hz⟩
        · omega
        · have mo := am_fC_mo (D := D) (F := F) (sz := sz) j
          subst hj
          omega
      refine c_pf hP hS' (am_fE_eqv hF i) (am_fE_eqv (D := D) (sz := sz) hF (i + 1)) hM (fun S1 x h1 => ?_) (F + 1) 0 _ _ (by omega) (by omega) ⟨fun _ _ _ => rfl, fun a b ha => by omega, fun a ha => by omega⟩
      refine go_s 2 (pc' := 127) (ls' := [.ref 69, .int (nI (am_fC D F sz i)), .int (nI (am_fC D F sz (i + 1))), .int (nI 0), x]) (st' := []) (h' := hp S1 e) rfl ?_
      refine c_pcp hP (hS'.u (fun c j y1 y2 _ => h1.fr c j (by omega))) (fun S2 h2 => ?_) (F + 1) 0 S1 (by omega) (by omega) ⟨fun _ _ _ => rfl, fun a ha => by omega⟩
      have le1 : am_fC D F sz (i + 1) ≤ F := am_ct_le F
      refine c_pm hP hS q n _ _ (i + 1) (am_fC D F sz i) _ _ S2 (by omega) (by omega) le0 (fun c j y1 y2 => (h2.fr c j y1).trans ((h1.fr c j y2).trans (hfr c j y1 y2))) ⟨fun a b ha hb => ?_, fun a ha => ?_⟩ (Or.inr ⟨i, rfl, rfl⟩)
      · rw [h2.eq a ha, h2.eq b hb]; exact h1.eq a b ha hb
      · obtain ⟨m, hm, em⟩ := h1.bd a ha
        have hm : m < am_fC D F sz (i + 1) := hm
        exact ⟨m, by omega, (h2.eq a ha).trans em⟩
theorem c_X12_parts {C D S0 : Nat → Nat → Int32} {F : Nat} {sz : Nat → Nat} {e : am_E} {Q : am_Q} (hP : am_PG C D F sz) (hS : am_MS S0 D) {kc ks : Nat} (q : ∀ S' i, (∀ c j, c ≠ 75 → c ≠ 76 → S' c j = S0 c j) → am_fx D F sz i → am_MV S' F (am_fE D F sz i) → Q (some (.int (nI (am_fC D F sz i)))) (hp S' e)) : am_Go (mX12_parts, 0, am_ent mX12_parts [.ref 69], [], hp S0 e, kc, ks, Q) := by
  have hF := hP.hF
  refine go_s 5 rfl ?_
  refine go_if (fun c6 => ?_) (fun c6 => ?_)
  · have c6 : S0 69 1 = 0 := c6
    rw [hS.m1, hP.m1] at c6
    have F0 : F = 0 := (nI_eq (by omega) (by decide)).mp c6
    have e0 : am_fC D F sz 0 = 0 := by rw [F0]; rfl
    refine go_s 5 (pc' := 17) (ls' := [.ref 69, .int (nI 0), .int (nI (am_fC D F sz 0)), .int (nI 0), .long 0]) (st' := []) (h' := hp S0 e) (by rw [e0]; rfl) ?_
    rw [← am_fil_0 S0 75 0]
    refine c_pi hP hS ?_ F 0 rfl
    refine c_pm hP hS q 27 _ _ 0 0 _ _ _ (by omega) (by omega) (by omega) (fun c j y1 y2 => am_fil_ne y1) ⟨fun a b ha hb => ?_, fun a ha => ⟨0, by decide, am_fil_eq ha⟩⟩ (Or.inl ⟨rfl, rfl⟩)
    rw [am_fil_eq ha, am_fil_eq hb]
    exact ⟨fun _ => trivial, fun _ => rfl⟩
  · have c6 : ¬ S0 69 1 = 0 := c6
    rw [hS.m1, hP.m1] at c6
    have F0 : ¬ F = 0 := fun z => c6 (by rw [z]; rfl)
    have e0 : am_fC D F sz 0 = 1 := am_fC_0 (by omega)
    refine go_s 4 (pc' := 17) (ls' := [.ref 69, .int (nI 0), .int (nI (am_fC D F sz 0)), .int (nI 0), .long 0]) (st' := []) (h' := hp S0 e) (by rw [e0]; rfl) ?_
    rw [← am_fil_0 S0 75 0]
    refine c_pi hP hS ?_ F 0 rfl
    refine c_pm hP hS q 27 _ _ 0 0 _ _ _ (by omega) (by omega) (by omega) (fun c j y1 y2 => am_fil_ne y1) ⟨fun a b ha hb => ?_, fun a ha => ⟨0, by decide, am_fil_eq ha⟩⟩ (Or.inl ⟨rfl, rfl⟩)
    rw [am_fil_eq ha, am_fil_eq hb]
    exact ⟨fun _ => trivial, fun _ => rfl⟩
theorem c_iti {C D S : Nat → Nat → Int32} {F : Nat} {sz : Nat → Nat} {e : am_E} {Q : am_Q} (hP : am_PG C D F sz) (hS : am_MS S D) {f : Nat} (hf : f < 24) (q : ∀ r, am_bz r (am_tk D F sz f) → Q (some (.int r)) (hp S e)) {kc ks g : Nat} (hg : g < F) (K : ∀ x, (∀ p, p < sz g → ¬ (D 71 (40 * g + p) = 32 ∧ D 73 (40 * g + p) = nI f)) → am_Go (mX12_isTaken, 61, [.ref 69, .int (nI f), .int (nI g), x], [], hp S e, kc, ks, Q)) : ∀ (n p : Nat), sz g < n + p → p ≤ sz g → (∀ r, r < p → ¬ (D 71 (40 * g + r) = 32 ∧ D 73 (40 * g + r) = nI f)) → am_Go (mX12_isTaken, 12, [.ref 69, .int (nI f), .int (nI g), .int (nI p)], [], hp S e, kc, ks, Q)
  | 0, p, h1, h2, hI => by omega
  | n + 1, p, h1, h2, hI => by
    have hF := hP.hF
    have h40 := hP.s40 g hg
    have hcg := nI_clamp (show g < 2 ^ 31 by omega)
    have s70 : S 70 g = nI (sz g) := by rw [hS.me 70 g (by decide) (by decide)]; exact hP.m70 g hg
    refine go_s 4 rfl ?_
    refine go_m rfl rfl (show vp_in (nI g) 24 from vp_in_nI (by omega) (by decide)) ?_
    refine go_s 1 rfl ?_
    refine go_if (fun c19 => ?_) (fun c19 => ?_)
    · have c19 : nI p < S 70 (nI g).toNatClampNeg := c19
      rw [hcg, s70] at c19
      have hpg : p < sz g := (nI_ltI (by omega) (by omega)).mp c19
      have hX : vp_in (nI 40 * nI g + nI p) 960 := by rw [nI_mul, nI_add]; exact vp_in_nI (by omega) (by decide)
      have cX : (nI 40 * nI g + nI p).toNatClampNeg = 40 * g + p := by rw [nI_mul, nI_add]; exact nI_clamp (by omega)
      refine go_s 7 rfl ?_
      refine go_m rfl rfl hX ?_
      refine go_s 2 rfl ?_
      refine go_if (fun c35 => ?_) (fun c35 => ?_)
      · refine go_s 7 rfl ?_
        refine go_m rfl rfl hX ?_
        refine go_s 2 rfl ?_
        refine go_if (fun c50 => ?_) (fun c50 => ?_)
        · refine go_s 1 rfl ?_
          have c35 : S 71 (nI 40 * nI g + nI p).toNatClampNeg = 32 := c35
          rw [cX, hS.me 71 _ (by decide) (by decide)] at c35
          have c50 : S 73 (nI 40 * nI g + nI p).toNatClampNeg = nI f := c50
          rw [cX, hS.me 73 _ (by decide) (by decide)] at c50
          exact go_retz rfl rfl (Or.inr rfl) (q 1 (Or.inr ⟨rfl, g, p, hg, hpg, c35, c50⟩))
        · have c35 : S 71 (nI 40 * nI g + nI p).toNatClampNeg = 32 := c35
          rw [cX, hS.me 71 _ (by decide) (by decide)] at c35
          have c50 : ¬ S 73 (nI 40 * nI g + nI p).toNatClampNeg = nI f := c50
          rw [cX, hS.me 73 _ (by decide) (by decide)] at c50
          refine go_s 2 (pc' := 12) (ls' := [.ref 69, .int (nI f), .int (nI g), .int (nI (p + 1))]) (st' := []) (h' := hp S e) (by rw [← nI_1]; rfl) ?_
          refine c_iti hP hS hf q hg K n (p + 1) (by omega) (by omega) (fun r hr => ?_)
          by_cases er : r = p
          · rw [er]; exact fun z => c50 z.2
          · exact hI r (by omega)
      · have c35 : ¬ S 71 (nI 40 * nI g + nI p).toNatClampNeg = 32 := c35
        rw [cX, hS.me 71 _ (by decide) (by decide)] at c35
        refine go_s 2 (pc' := 12) (ls' := [.ref 69, .int (nI f), .int (nI g), .int (nI (p + 1))]) (st' := []) (h' := hp S e) (by rw [← nI_1]; rfl) ?_
        refine c_iti hP hS hf q hg K n (p + 1) (by omega) (by omega) (fun r hr => ?_)
        by_cases er : r = p
        · rw [er]; exact fun z => c35 z.1
        · exact hI r (by omega)
    · have c19 : ¬ nI p < S 70 (nI g).toNatClampNeg := c19
      rw [hcg, s70] at c19
      have hge := mt (nI_lt (a := p) (b := sz g) · (by omega)) c19
      exact K _ (fun r hr => hI r (by omega))
theorem c_ito {C D S : Nat → Nat → Int32} {F : Nat} {sz : Nat → Nat} {e : am_E} {Q : am_Q} (hP : am_PG C D F sz) (hS : am_MS S D) {f : Nat} (hf : f < 24) (q : ∀ r, am_bz r (am_tk D F sz f) → Q (some (.int r)) (hp S e)) : ∀ (n kc ks g : Nat) (x : Value), F < n + g → g ≤ F → (∀ h, h < g → ∀ p, p < sz h → ¬ (D 71 (40 * h + p) = 32 ∧ D 73 (40 * h + p) = nI f)) → am_Go (mX12_isTaken, 2, [.ref 69, .int (nI f), .int (nI g), x], [], hp S e, kc, ks, Q)
  | 0, kc, ks, g, x, h1, h2, hI => by omega
  | n + 1, kc, ks, g, x, h1, h2, hI => by
    have hF := hP.hF
    refine go_s 4 rfl ?_
    refine go_if (fun c7 => ?_) (fun c7 => ?_)
    · have c7 : nI g < S 69 1 := c7
      rw [hS.m1, hP.m1] at c7
      have hg : g < F := (nI_ltI (by omega) (by omega)).mp c7
      refine go_s 2 (pc' := 12) (ls' := [.ref 69, .int (nI f), .int (nI g), .int (nI 0)]) (st' := []) (h' := hp S e) rfl ?_
      refine c_iti hP hS hf q hg (fun x hx => ?_) (sz g + 1) 0 (by omega) (by omega) (fun r hr => by omega)
      refine go_s 2 (pc' := 2) (ls' := [.ref 69, .int (nI f), .int (nI (g + 1)), x]) (st' := []) (h' := hp S e) (by rw [← nI_1]; rfl) ?_
      refine c_ito hP hS hf q n _ _ (g + 1) _ (by omega) (by omega) (fun h hh => ?_)
      by_cases eh : h = g
      · rw [eh]; exact hx
      · exact hI h (by omega)
    · refine go_s 1 rfl ?_
      have c7 : ¬ nI g < S 69 1 := c7
      rw [hS.m1, hP.m1] at c7
      have hge := mt (nI_lt (a := g) (b := F) · (by omega)) c7
      exact go_retz rfl rfl (Or.inl rfl) (q 0 (Or.inl ⟨rfl, fun ⟨h, p, y1, y2, y3⟩ => hI h (by omega) p y2 y3⟩))
theorem c_X12_isTaken {C D S : Nat → Nat → Int32} {F : Nat} {sz : Nat → Nat} {e : am_E} {Q : am_Q} (hP : am_PG C D F sz) (hS : am_MS S D) {f : Nat} (hf : f < 24) (q : ∀ r, am_bz r (am_tk D F sz f) → Q (some (.int r)) (hp S e)) {kc ks : Nat} : am_Go (mX12_isTaken, 0, am_ent mX12_isTaken [.ref 69, .int (nI f)], [], hp S e, kc, ks, Q) := by
  refine go_s 2 rfl ?_
  exact c_ito hP hS hf q (F + 1) _ _ 0 _ (by omega) (by omega) (fun h hh => by omega)
theorem c_lol {C D S : Nat → Nat → Int32} {F i : Nat} {sz : Nat → Nat} {e : am_E} {Q : am_Q} (hP : am_PG C D F sz) (hS : am_MS S D) (hM : am_MV S F (am_fE D F sz i)) {f : Nat} (hf : f < F) {t : Int32} (q1 : ∀ b, b < F → (am_fE D F sz i b f ∧ (t = 0 ∨ am_tk D F sz b)) → (∀ h, h < b → ¬ (am_fE D F sz i h f ∧ (t = 0 ∨ am_tk D F sz h))) → Q (some (.int (nI b))) (hp S e)) (q0 : (∀ h, h < F → ¬ (am_fE D F sz i h f ∧ (t = 0 ∨ am_tk D F sz h))) → Q (some (.int (-1))) (hp S e)) : ∀ (n kc ks g : Nat), F < n + g → g ≤ F → (∀ h, h < g → ¬ (am_fE D F sz i h f ∧ (t = 0 ∨ am_tk D F sz h))) → am_Go (mX12_leastOf, 2, [.ref 69, .int (nI f), .int t, .int (nI g)], [], hp S e, kc, ks, Q)
  | 0, kc, ks, g, h1, h2, hI => by omega
  | n + 1, kc, ks, g, h1, h2, hI => by
    have hF := hP.hF
    refine go_s 4 rfl ?_
    refine go_if (fun c7 => ?_) (fun c7 => ?_)
    · have c7 : nI g < S 69 1 := c7
      rw [hS.m1, hP.m1] at c7
      have hg : g < F := (nI_ltI (by omega) (by omega)).mp c7
      have hcg := nI_clamp (show g < 2 ^ 31 by omega)
      have hcf := nI_clamp (show f < 2 ^ 31 by omega)
      refine go_s 3 rfl ?_
      refine go_m rfl rfl (show vp_in (nI g) 24 from vp_in_nI (by omega) (by decide)) ?_
      refine go_s 3 rfl ?_
      refine go_m rfl rfl (show vp_in (nI f) 24 from vp_in_nI (by omega) (by decide)) ?_
      refine go_s 1 rfl ?_
      refine go_if (fun c22 => ?_) (fun c22 => ?_)
      · refine go_s 2 rfl ?_
        refine go_if (fun c26 => ?_) (fun c26 => ?_)
        · refine go_s 1 rfl ?_
          have c22 : S 75 (nI g).toNatClampNeg = S 75 (nI f).toNatClampNeg := c22
          rw [hcg, hcf, hM.eq g f hg hf] at c22
          exact go_ret rfl rfl (q1 g hg ⟨c22, Or.inl c26⟩ hI)
        · refine go_s 2 rfl ?_
          refine go_v kX12_leastOf_31 okX12_isTaken rfl rfl rfl rfl (Nat.zero_le _) (Nat.zero_le _) ?_
          refine c_X12_isTaken hP hS (show g < 24 by omega) (fun r hr => ?_)
          refine go_s 1 rfl ?_
          refine go_if (fun c34 => ?_) (fun c34 => ?_)
          · have c22 : S 75 (nI g).toNatClampNeg = S 75 (nI f).toNatClampNeg := c22
            rw [hcg, hcf, hM.eq g f hg hf] at c22
            refine go_s 2 (pc' := 2) (ls' := [.ref 69, .int (nI f), .int t, .int (nI (g + 1))]) (st' := []) (h' := hp S e) (by rw [← nI_1]; rfl) ?_
            refine c_lol hP hS hM hf q1 q0 n _ _ (g + 1) (by omega) (by omega) (fun h hh => ?_)
            by_cases eh : h = g
            · rw [eh]; exact fun z => z.2.elim c26 (am_bz_0 hr c34)
            · exact hI h (by omega)
          · refine go_s 1 rfl ?_
            have c22 : S 75 (nI g).toNatClampNeg = S 75 (nI f).toNatClampNeg := c22
            rw [hcg, hcf, hM.eq g f hg hf] at c22
            exact go_ret rfl rfl (q1 g hg ⟨c22, Or.inr (am_bz_n hr c34)⟩ hI)
      · have c22 : ¬ S 75 (nI g).toNatClampNeg = S 75 (nI f).toNatClampNeg := c22
        rw [hcg, hcf, hM.eq g f hg hf] at c22
        refine go_s 2 (pc' := 2) (ls' := [.ref 69, .int (nI f), .int t, .int (nI (g + 1))]) (st' := []) (h' := hp S e) (by rw [← nI_1]; rfl) ?_
        refine c_lol hP hS hM hf q1 q0 n _ _ (g + 1) (by omega) (by omega) (fun h hh => ?_)
        by_cases eh : h = g
        · rw [eh]; exact fun z => c22 z.1
        · exact hI h (by omega)
    · refine go_s 1 rfl ?_
      have c7 : ¬ nI g < S 69 1 := c7
      rw [hS.m1, hP.m1] at c7
      have hge := mt (nI_lt (a := g) (b := F) · (by omega)) c7
      exact go_ret rfl rfl (q0 (fun h hh => hI h (by omega)))
theorem c_X12_leastOf {C D S : Nat → Nat → Int32} {F i : Nat} {sz : Nat → Nat} {e : am_E} {Q : am_Q} (hP : am_PG C D F sz) (hS : am_MS S D) (hM : am_MV S F (am_fE D F sz i)) {f : Nat} (hf : f < F) {t : Int32} (q1 : ∀ b, b < F → (am_fE D F sz i b f ∧ (t = 0 ∨ am_tk D F sz b)) → (∀ h, h < b → ¬ (am_fE D F sz i h f ∧ (t = 0 ∨ am_tk D F sz h))) → Q (some (.int (nI b))) (hp S e)) (q0 : (∀ h, h < F → ¬ (am_fE D F sz i h f ∧ (t = 0 ∨ am_tk D F sz h))) → Q (some (.int (-1))) (hp S e)) {kc ks : Nat} : am_Go (mX12_leastOf, 0, am_ent mX12_leastOf [.ref 69, .int (nI f), .int t], [], hp S e, kc, ks, Q) := by
  refine go_s 2 rfl ?_
  exact c_lol hP hS hM hf q1 q0 (F + 1) _ _ 0 (by omega) (by omega) (fun h hh => by omega)
