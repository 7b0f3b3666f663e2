theorem am_x1 (f p : Nat) : nI (40 * f + p) = nI 40 * nI f + nI p := by rw [nI_mul, nI_add]
theorem am_x2 (f p i : Nat) : nI (40 * f + (p + i)) = nI 40 * nI f + nI p + nI i := by rw [nI_mul, nI_add, nI_add, Nat.add_assoc]
theorem am_x3 (a b i : Nat) : nI (a + (b + i)) = nI (a + b) + nI i := by rw [nI_add, Nat.add_assoc]
def am_SM (S D : Nat → Nat → Int32) (F : Nat) (sz : Nat → Nat) (B U : Nat → Prop) : Prop := (am_MS S D) ∧ (∀ f, f < F → (S 77 f = nI f ↔ B f)) ∧ (∀ f p, f < F → p < sz f → am_bz (S 90 (40 * f + p)) (am_op D F sz B (am_st sz f + p) ∧ ¬ U (am_st sz f + p))) ∧ (∀ f p, f < F → p < sz f → am_bz (S 91 (40 * f + p)) (∃ r, r < sz f ∧ am_te D (40 * f + r) p))
theorem am_SM.ms {S D : Nat → Nat → Int32} {F : Nat} {sz : Nat → Nat} {B U : Nat → Prop} (h : am_SM S D F sz B U) : am_MS S D := h.1
theorem am_SM.bd {S D : Nat → Nat → Int32} {F : Nat} {sz : Nat → Nat} {B U : Nat → Prop} (h : am_SM S D F sz B U) : ∀ f, f < F → (S 77 f = nI f ↔ B f) := h.2.1
theorem am_SM.my {S D : Nat → Nat → Int32} {F : Nat} {sz : Nat → Nat} {B U : Nat → Prop} (h : am_SM S D F sz B U) : ∀ f p, f < F → p < sz f → am_bz (S 90 (40 * f + p)) (am_op D F sz B (am_st sz f + p) ∧ ¬ U (am_st sz f + p)) := h.2.2.1
theorem am_SM.tg {S D : Nat → Nat → Int32} {F : Nat} {sz : Nat → Nat} {B U : Nat → Prop} (h : am_SM S D F sz B U) : ∀ f p, f < F → p < sz f → am_bz (S 91 (40 * f + p)) (∃ r, r < sz f ∧ am_te D (40 * f + r) p) := h.2.2.2
theorem am_SM.u {S S' D : Nat → Nat → Int32} {F : Nat} {sz : Nat → Nat} {B U : Nat → Prop} (h : am_SM S D F sz B U) (hf : ∀ c j, (c = 69 ∧ (j = 1 ∨ j = 2)) ∨ (70 ≤ c ∧ c ≤ 74) ∨ c = 77 ∨ c = 90 ∨ c = 91 → S' c j = S c j) : am_SM S' D F sz B U := by
  refine ⟨h.ms.u (fun c j h1 h2 h3 => hf c j ?_), fun f hf' => ?_, fun f p h1 h2 => ?_, fun f p h1 h2 => ?_⟩
  · by_cases e : c = 69
    · exact Or.inl ⟨e, h3 e⟩
    · exact Or.inr (Or.inl ⟨by omega, h2⟩)
  · rw [hf 77 f (by omega)]; exact h.bd f hf'
  · rw [hf 90 _ (by omega)]; exact h.my f p h1 h2
  · rw [hf 91 _ (by omega)]; exact h.tg f p h1 h2
theorem sq_gr_stay {P : Nat → Prop} {n a : Nat} : ∀ d, (∀ j, a ≤ j → j < a + d → ¬ P j) → sq_gr P n (a + d) = sq_gr P n a
  | 0, _ => rfl
  | d + 1, h => by
    show sq_gr P n (a + d + 1) = _
    rw [sq_gr_no (h (a + d) (by omega) (by omega))]
    exact sq_gr_stay d (fun j h1 h2 => h j h1 (by omega))
theorem c_oci {C D S : Nat → Nat → Int32} {F : Nat} {sz : Nat → Nat} {B U : Nat → Prop} {e : am_E} {Q : am_Q} {g0 r0 m : Nat} (hP : am_PG C D F sz) (hM : am_SM S D F sz B U) (hop : ∀ f, f < F → ¬ am_Op D sz f) (hg0 : g0 < F) (hr0 : r0 < sz g0) (h2 : 2 ≤ m) (h20 : m ≤ 20) (hft : sq_ft (am_st sz F) (am_op D F sz B) (am_en D F sz B) U (am_st sz g0 + r0) m) {f p k kc ks : Nat} (hf : f < F) (hpm : p + m ≤ sz f) {S' : Nat → Nat → Int32} (hfr : ∀ c j, c ≠ 92 → S' c j = S c j) (K : ∀ v x7, am_bz v ((sq_P (am_st sz F) (am_op D F sz B) (am_en D F sz B) U (am_sS C) (am_st sz g0 + r0) m) (am_st sz f + p)) → am_Go (mX12_occurrences, 116, [.ref 69, .int (nI (40 * g0 + r0)), .int (nI m), .int (nI k), .int (nI f), .int (nI p), .int v, x7], [], hp S' e, kc, ks, Q)) : ∀ (n : Nat) (v : Int32) (i : Nat), m < n + i → i ≤ m → am_bz v (sq_ft (am_st sz F) (am_op D F sz B) (am_en D F sz B) U (am_st sz f + p) m ∧ ∀ t, t < i → am_sS C (am_st sz g0 + r0 + t) (am_st sz f + p + t)) → am_Go (mX12_occurrences, 78, [.ref 69, .int (nI (40 * g0 + r0)), .int (nI m), .int (nI k), .int (nI f), .int (nI p), .int v, .int (nI i)], [], hp S' e, kc, ks, Q)
  | 0, v, i, g1, g2, hI => by omega
  | n + 1, v, i, g1, g2, hI => by
    have hF := hP.hF
    have h40 := hP.s40 f hf
    have h41 := hP.s40 g0 hg0
    have hin := sq_ft_in hop hg0 hr0 (show 1 ≤ m by omega) hft
    have hS' : am_SM S' D F sz B U := hM.u (fun c j hc => hfr c j (by omega))
    refine go_s 3 rfl ?_
    refine go_if (fun c81 => ?_) (fun c81 => ?_)
    · refine go_s 2 rfl ?_
      refine go_if (fun c86 => ?_) (fun c86 => ?_)
      · exact K _ _ (Or.inl ⟨c86, fun z => am_bz_0 hI c86 ⟨z.1, fun t ht => z.2 t (by omega)⟩⟩)
      · have him := (nI_ltI (a := i) (b := m) (by omega) (by omega)).mp c81
        have w := am_bz_n hI c86
        refine go_s 11 (pc' := 105) (ls' := [.ref 69, .int (nI (40 * g0 + r0)), .int (nI m), .int (nI k), .int (nI f), .int (nI p), .int v, .int (nI i)]) (st' := [.int (nI (40 * f + (p + i))), .int (nI (40 * g0 + (r0 + i))), .ref 69]) (h' := hp S' e) (by rw [am_x2 f p i, am_x3 (40 * g0) r0 i]; rfl) ?_
        refine go_v kX12_occurrences_105 okX12_isSame rfl rfl rfl rfl (Nat.zero_le _) (Nat.zero_le _) ?_
        refine c_X12_isSame (by omega) (by omega) (by rw [hS'.ms.me 71 _ (by decide) (by decide)]; exact am_gd_n (hP.gd hg0 (by omega))) (fun r hr => ?_)
        have hss : am_bz r (am_sS C (am_st sz g0 + (r0 + i)) (am_st sz f + (p + i))) := am_bz_iff hr ((am_fS_cg hS'.ms).trans (am_fS_sS hP hg0 hf (by omega) (by omega)))
        refine go_s 3 (pc' := 78) (ls' := [.ref 69, .int (nI (40 * g0 + r0)), .int (nI m), .int (nI k), .int (nI f), .int (nI p), .int r, .int (nI (i + 1))]) (st' := []) (h' := hp S' e) (by rw [← nI_1 i]; rfl) ?_
        refine c_oci hP hM hop hg0 hr0 h2 h20 hft hf hpm hfr K n _ (i + 1) (by omega) (by omega) (am_bz_iff hss ?_)
        rw [← Nat.add_assoc, ← Nat.add_assoc]
        refine ⟨fun z => ⟨w.1, fun t ht => ?_⟩, fun z => z.2 i (by omega)⟩
        by_cases et : t = i
        · rw [et]; exact z
        · exact w.2 t (by omega)
    · have hge := mt (nI_lt (a := i) (b := m) · (by omega)) c81
      exact K _ _ (am_bz_iff hI ⟨fun z => ⟨z.1, fun t ht => z.2 t (by omega)⟩, fun z => ⟨z.1, fun t ht => z.2 t (by omega)⟩⟩)
def am_OC (S : Nat → Nat → Int32) (F : Nat) (sz : Nat → Nat) (P : Nat → Prop) (m : Nat) (S' : Nat → Nat → Int32) (j0 : Nat) : Prop := (∀ c j, c ≠ 92 → S' c j = S c j) ∧ ((sq_gr P m j0).2 ≤ j0) ∧ (∀ j, j < j0 → P j → (sq_gr P m j).2 ≤ j → ∃ g r, g < F ∧ r < sz g ∧ j = am_st sz g + r ∧ S' 92 (sq_gr P m j).1 = nI (40 * g + r))
theorem am_OC.fr {S : Nat → Nat → Int32} {F : Nat} {sz : Nat → Nat} {P : Nat → Prop} {m : Nat} {S' : Nat → Nat → Int32} {j0 : Nat} (h : am_OC S F sz P m S' j0) : ∀ c j, c ≠ 92 → S' c j = S c j := h.1
theorem am_OC.en {S : Nat → Nat → Int32} {F : Nat} {sz : Nat → Nat} {P : Nat → Prop} {m : Nat} {S' : Nat → Nat → Int32} {j0 : Nat} (h : am_OC S F sz P m S' j0) : (sq_gr P m j0).2 ≤ j0 := h.2.1
theorem am_OC.fo {S : Nat → Nat → Int32} {F : Nat} {sz : Nat → Nat} {P : Nat → Prop} {m : Nat} {S' : Nat → Nat → Int32} {j0 : Nat} (h : am_OC S F sz P m S' j0) : ∀ j, j < j0 → P j → (sq_gr P m j).2 ≤ j → ∃ g r, g < F ∧ r < sz g ∧ j = am_st sz g + r ∧ S' 92 (sq_gr P m j).1 = nI (40 * g + r) := h.2.2
theorem c_ocw {C D S : Nat → Nat → Int32} {F : Nat} {sz : Nat → Nat} {B U : Nat → Prop} {e : am_E} {Q : am_Q} {g0 r0 m : Nat} (hP : am_PG C D F sz) (hM : am_SM S D F sz B U) (hop : ∀ f, f < F → ¬ am_Op D sz f) (hg0 : g0 < F) (hr0 : r0 < sz g0) (h2 : 2 ≤ m) (h20 : m ≤ 20) (hft : sq_ft (am_st sz F) (am_op D F sz B) (am_en D F sz B) U (am_st sz g0 + r0) m) {f kc ks : Nat} (hf : f < F) (K : ∀ p S' x5 x6 x7, (am_OC S F sz (sq_P (am_st sz F) (am_op D F sz B) (am_en D F sz B) U (am_sS C) (am_st sz g0 + r0) m) m S' (am_st sz f + p)) → p ≤ sz f → (¬ B f ∨ sz f < p + m) → am_Go (mX12_occurrences, 156, [.ref 69, .int (nI (40 * g0 + r0)), .int (nI m), .int (nI (sq_gr (sq_P (am_st sz F) (am_op D F sz B) (am_en D F sz B) U (am_sS C) (am_st sz g0 + r0) m) m (am_st sz f + p)).1), .int (nI f), x5, x6, x7], [], hp S' e, kc, ks, Q)) : ∀ (n p : Nat) (x6 x7 : Value) (S' : Nat → Nat → Int32), sz f < n + p → p ≤ sz f → am_OC S F sz (sq_P (am_st sz F) (am_op D F sz B) (am_en D F sz B) U (am_sS C) (am_st sz g0 + r0) m) m S' (am_st sz f + p) → am_Go (mX12_occurrences, 17, [.ref 69, .int (nI (40 * g0 + r0)), .int (nI m), .int (nI (sq_gr (sq_P (am_st sz F) (am_op D F sz B) (am_en D F sz B) U (am_sS C) (am_st sz g0 + r0) m) m (am_st sz f + p)).1), .int (nI f), .int (nI p), x6, x7], [], hp S' e, kc, ks, Q)
  | 0, p, x6, x7, S', g1, hps, hI => by omega
  | n + 1, p, x6, x7, S', g1, hps, hI => by
    have hF := hP.hF
    have h40 := hP.s40 f hf
    have h41 := hP.s40 g0 hg0
    have hin := sq_ft_in hop hg0 hr0 (show 1 ≤ m by omega) hft
    have hS' : am_SM S' D F sz B U := hM.u (fun c j hc => hI.fr c j (by omega))
    have hN3 := hP.t300
    have hlf : am_st sz f + sz f ≤ am_st sz F := am_st_le (sz := sz) (show f + 1 ≤ F by omega)
    have gle := sq_gr_le (P := sq_P (am_st sz F) (am_op D F sz B) (am_en D F sz B) U (am_sS C) (am_st sz g0 + r0) m) (N := am_st sz F) (show 1 ≤ m by omega) (fun j z => z.1.1)
    have g150 : ∀ j, (sq_gr (sq_P (am_st sz F) (am_op D F sz B) (am_en D F sz B) U (am_sS C) (am_st sz g0 + r0) m) m j).1 ≤ 150 := fun j => by
      have a1 := (gle j).1
      have a2 := (gle j).2.1
      have a3 : 2 * (sq_gr (sq_P (am_st sz F) (am_op D F sz B) (am_en D F sz B) U (am_sS C) (am_st sz g0 + r0) m) m j).1 ≤ (sq_gr (sq_P (am_st sz F) (am_op D F sz B) (am_en D F sz B) U (am_sS C) (am_st sz g0 + r0) m) m j).1 * m := by
        rw [Nat.mul_comm 2]
        exact Nat.mul_le_mul_left _ h2
      omega
    have KK : ∀ v x7, p + m ≤ sz f → am_bz v ((sq_P (am_st sz F) (am_op D F sz B) (am_en D F sz B) U (am_sS C) (am_st sz g0 + r0) m) (am_st sz f + p)) → am_Go (mX12_occurrences, 116, [.ref 69, .int (nI (40 * g0 + r0)), .int (nI m), .int (nI (sq_gr (sq_P (am_st sz F) (am_op D F sz B) (am_en D F sz B) U (am_sS C) (am_st sz g0 + r0) m) m (am_st sz f + p)).1), .int (nI f), .int (nI p), .int v, x7], [], hp S' e, kc, ks, Q) := fun v x7 hpm hv => by
      by_cases c116 : v = 0
      · have hnP := am_bz_0 hv c116
        have eg : sq_gr (sq_P (am_st sz F) (am_op D F sz B) (am_en D F sz B) U (am_sS C) (am_st sz g0 + r0) m) m (am_st sz f + (p + 1)) = sq_gr (sq_P (am_st sz F) (am_op D F sz B) (am_en D F sz B) U (am_sS C) (am_st sz g0 + r0) m) m (am_st sz f + p) := sq_gr_no hnP
        refine go_s 2 rfl ?_
        refine go_if (fun c118 => ?_) (fun c118 => absurd c116 c118)
        refine go_s 3 rfl ?_
        refine go_if (fun c142 => ?_) (fun c142 => absurd c116 c142)
        refine go_s 4 (pc' := 17) (ls' := [.ref 69, .int (nI (40 * g0 + r0)), .int (nI m), .int (nI (sq_gr (sq_P (am_st sz F) (am_op D F sz B) (am_en D F sz B) U (am_sS C) (am_st sz g0 + r0) m) m (am_st sz f + (p + 1))).1), .int (nI f), .int (nI (p + 1)), .int v, x7]) (st' := []) (h' := hp S' e) (by rw [eg, ← nI_1 p]; rfl) ?_
        refine c_ocw hP hM hop hg0 hr0 h2 h20 hft hf K n (p + 1) _ _ _ (by omega) (by omega) ⟨hI.fr, by rw [eg]; have := hI.en; omega, fun j hj y1 y2 => ?_⟩
        by_cases e2 : j = am_st sz f + p
        · rw [e2] at y1; exact absurd y1 hnP
        · exact hI.fo j (by omega) y1 y2
      · have hPj := am_bz_n hv c116
        have et := sq_gr_t (P := sq_P (am_st sz F) (am_op D F sz B) (am_en D F sz B) U (am_sS C) (am_st sz g0 + r0) m) (n := m) hPj hI.en
        have eg : sq_gr (sq_P (am_st sz F) (am_op D F sz B) (am_en D F sz B) U (am_sS C) (am_st sz g0 + r0) m) m (am_st sz f + (p + m)) = ((sq_gr (sq_P (am_st sz F) (am_op D F sz B) (am_en D F sz B) U (am_sS C) (am_st sz g0 + r0) m) m (am_st sz f + p)).1 + 1, am_st sz f + p + m) := by
          have := sq_gr_in (m - 1) (by rw [et, show am_st sz f + p + 1 + (m - 1) = am_st sz f + p + m by omega]) (m - 1) (Nat.le_refl _)
          rw [show am_st sz f + (p + m) = am_st sz f + p + 1 + (m - 1) by omega, this]
          congr 1
          omega
        have g15 := g150 (am_st sz f + (p + m))
        rw [eg] at g15
        dsimp only at g15
        refine go_s 2 rfl ?_
        refine go_if (fun c118 => absurd c118 c116) (fun c118 => ?_)
        refine go_s 8 (pc' := 134) (ls' := [.ref 69, .int (nI (40 * g0 + r0)), .int (nI m), .int (nI (sq_gr (sq_P (am_st sz F) (am_op D F sz B) (am_en D F sz B) U (am_sS C) (am_st sz g0 + r0) m) m (am_st sz f + p)).1), .int (nI f), .int (nI p), .int v, x7]) (st' := [.int (nI (40 * f + p)), .int (nI (sq_gr (sq_P (am_st sz F) (am_op D F sz B) (am_en D F sz B) U (am_sS C) (am_st sz g0 + r0) m) m (am_st sz f + p)).1), .ref 92]) (h' := hp S' e) (by rw [am_x1 f p]; rfl) ?_
        refine go_m rfl rfl (show vp_in (nI (sq_gr (sq_P (am_st sz F) (am_op D F sz B) (am_en D F sz B) U (am_sS C) (am_st sz g0 + r0) m) m (am_st sz f + p)).1) 150 from vp_in_nI (by omega) (by decide)) ?_
        show am_Go (mX12_occurrences, 135, _, [], hp (am_u S' 92 (nI (sq_gr (sq_P (am_st sz F) (am_op D F sz B) (am_en D F sz B) U (am_sS C) (am_st sz g0 + r0) m) m (am_st sz f + p)).1).toNatClampNeg (nI (40 * f + p))) e, _, _, Q)
        rw [nI_clamp (by omega)]
        refine go_s 4 rfl ?_
        refine go_if (fun c142 => absurd c142 c116) (fun c142 => ?_)
        refine go_s 5 (pc' := 17) (ls' := [.ref 69, .int (nI (40 * g0 + r0)), .int (nI m), .int (nI (sq_gr (sq_P (am_st sz F) (am_op D F sz B) (am_en D F sz B) U (am_sS C) (am_st sz g0 + r0) m) m (am_st sz f + (p + m))).1), .int (nI f), .int (nI (p + m)), .int v, x7]) (st' := []) (h' := hp (am_u S' 92 (sq_gr (sq_P (am_st sz F) (am_op D F sz B) (am_en D F sz B) U (am_sS C) (am_st sz g0 + r0) m) m (am_st sz f + p)).1 (nI (40 * f + p))) e) (by rw [eg, ← nI_1, ← nI_add p m]; rfl) ?_
        refine c_ocw hP hM hop hg0 hr0 h2 h20 hft hf K n (p + m) _ _ _ (by omega) (by omega) ⟨fun c j hc => (am_u_ne hc).trans (hI.fr c j hc), by rw [eg]; dsimp only; omega, fun j hj y1 y2 => ?_⟩
        by_cases e1 : j < am_st sz f + p
        · obtain ⟨g, r, a1, a2, a3, a4⟩ := hI.fo j e1 y1 y2
          refine ⟨g, r, a1, a2, a3, ?_⟩
          have := ((sq_gr_last (P := sq_P (am_st sz F) (am_op D F sz B) (am_en D F sz B) U (am_sS C) (am_st sz g0 + r0) m) (show 1 ≤ m by omega) (am_st sz f + p)).2 j e1 y1 y2).2
          rw [am_u_nj (by omega)]; exact a4
        · by_cases e2 : j = am_st sz f + p
          · subst e2; exact ⟨f, p, hf, by omega, rfl, am_u_eq⟩
          · obtain ⟨d, rfl⟩ := Nat.exists_eq_add_of_le (show am_st sz f + p + 1 ≤ j by omega)
            have := sq_gr_in (m - 1) (by rw [et, show am_st sz f + p + 1 + (m - 1) = am_st sz f + p + m by omega]) d (by omega)
            rw [this] at y2
            dsimp only at y2
            omega
    refine go_s 2 rfl ?_
    refine go_v kX12_occurrences_20 okX12_isBody rfl rfl rfl rfl (Nat.zero_le _) (Nat.zero_le _) ?_
    refine c_X12_isBody (by omega) (fun r hb => ?_)
    refine go_s 1 rfl ?_
    refine go_if (fun c23 => ?_) (fun c23 => ?_)
    · have hnb : ¬ B f := fun z => am_bz_0 hb c23 ((hS'.bd f hf).mpr z)
      exact K _ _ _ _ _ hI hps (Or.inl hnb)
    · have e70 : S' 70 (nI f).toNatClampNeg = nI (sz f) := by rw [nI_clamp (by omega), hS'.ms.me 70 f (by decide) (by decide)]; exact hP.m70 f hf
      refine go_s 6 rfl ?_
      refine go_m rfl rfl (show vp_in (nI f) 24 from vp_in_nI (by omega) (by decide)) ?_
      refine go_s 1 rfl ?_
      refine go_if (fun c37 => ?_) (fun c37 => ?_)
      · have c37 : S' 70 (nI f).toNatClampNeg < nI p + nI m := c37
        rw [e70, nI_add] at c37
        have c37 := (nI_ltI (a := sz f) (b := p + m) (by omega) (by omega)).mp c37
        exact K _ _ _ _ _ hI hps (Or.inr (by omega))
      · have c37 : ¬ S' 70 (nI f).toNatClampNeg < nI p + nI m := c37
        rw [e70, nI_add] at c37
        have hpm : p + m ≤ sz f := by have := mt (nI_lt (a := sz f) (b := p + m) · (by omega)) c37; omega
        refine go_s 7 (pc' := 50) (ls' := [.ref 69, .int (nI (40 * g0 + r0)), .int (nI m), .int (nI (sq_gr (sq_P (am_st sz F) (am_op D F sz B) (am_en D F sz B) U (am_sS C) (am_st sz g0 + r0) m) m (am_st sz f + p)).1), .int (nI f), .int (nI p), x6, x7]) (st' := [.int (nI (40 * f + p)), .int (nI (40 * g0 + r0)), .ref 69]) (h' := hp S' e) (by rw [am_x1 f p]; rfl) ?_
        refine go_v kX12_occurrences_50 okX12_isSame rfl rfl rfl rfl (Nat.zero_le _) (Nat.zero_le _) ?_
        refine c_X12_isSame (by omega) (by omega) (by rw [hS'.ms.me 71 _ (by decide) (by decide)]; exact am_gd_n (hP.gd hg0 hr0)) (fun r1 hr1 => ?_)
        have hs1 : am_bz r1 (am_sS C (am_st sz g0 + r0) (am_st sz f + p)) := am_bz_iff hr1 ((am_fS_cg hS'.ms).trans (am_fS_sS hP hg0 hf hr0 (by omega)))
        refine go_s 1 rfl ?_
        refine go_if (fun c53 => ?_) (fun c53 => ?_)
        · refine go_s 4 (pc' := 78) (ls' := [.ref 69, .int (nI (40 * g0 + r0)), .int (nI m), .int (nI (sq_gr (sq_P (am_st sz F) (am_op D F sz B) (am_en D F sz B) U (am_sS C) (am_st sz g0 + r0) m) m (am_st sz f + p)).1), .int (nI f), .int (nI p), .int 0, .int (nI 1)]) (st' := []) (h' := hp S' e) rfl ?_
          exact c_oci hP hM hop hg0 hr0 h2 h20 hft hf hpm hI.fr (fun v x7 hv => KK v x7 hpm hv) m _ 1 (by omega) (by omega) (Or.inl ⟨rfl, fun z => am_bz_0 hs1 c53 (z.2 0 (by omega))⟩)
        · refine go_s 4 rfl ?_
          refine go_v kX12_occurrences_62 okX12_isFit rfl rfl rfl rfl (Nat.zero_le _) (Nat.zero_le _) ?_
          refine c_X12_isFit hP hS'.ms hop hS'.my hS'.tg hf (by omega) (by omega) h20 (fun r2 hr2 => ?_)
          refine go_s 1 rfl ?_
          refine go_if (fun c65 => ?_) (fun c65 => ?_)
          · refine go_s 4 (pc' := 78) (ls' := [.ref 69, .int (nI (40 * g0 + r0)), .int (nI m), .int (nI (sq_gr (sq_P (am_st sz F) (am_op D F sz B) (am_en D F sz B) U (am_sS C) (am_st sz g0 + r0) m) m (am_st sz f + p)).1), .int (nI f), .int (nI p), .int 0, .int (nI 1)]) (st' := []) (h' := hp S' e) rfl ?_
            exact c_oci hP hM hop hg0 hr0 h2 h20 hft hf hpm hI.fr (fun v x7 hv => KK v x7 hpm hv) m _ 1 (by omega) (by omega) (Or.inl ⟨rfl, fun z => am_bz_0 hr2 c65 z.1⟩)
          · refine go_s 5 (pc' := 78) (ls' := [.ref 69, .int (nI (40 * g0 + r0)), .int (nI m), .int (nI (sq_gr (sq_P (am_st sz F) (am_op D F sz B) (am_en D F sz B) U (am_sS C) (am_st sz g0 + r0) m) m (am_st sz f + p)).1), .int (nI f), .int (nI p), .int 1, .int (nI 1)]) (st' := []) (h' := hp S' e) rfl ?_
            exact c_oci hP hM hop hg0 hr0 h2 h20 hft hf hpm hI.fr (fun v x7 hv => KK v x7 hpm hv) m _ 1 (by omega) (by omega) (Or.inr ⟨rfl, am_bz_n hr2 c65, fun t ht => (by rw [show t = 0 by omega]; exact am_bz_n hs1 c53)⟩)
theorem c_oco {C D S : Nat → Nat → Int32} {F : Nat} {sz : Nat → Nat} {B U : Nat → Prop} {e : am_E} {Q : am_Q} {g0 r0 m : Nat} (hP : am_PG C D F sz) (hM : am_SM S D F sz B U) (hop : ∀ f, f < F → ¬ am_Op D sz f) (hg0 : g0 < F) (hr0 : r0 < sz g0) (h2 : 2 ≤ m) (h20 : m ≤ 20) (hft : sq_ft (am_st sz F) (am_op D F sz B) (am_en D F sz B) U (am_st sz g0 + r0) m) (q : ∀ S', (∀ c j, c ≠ 92 → S' c j = S c j) → (∀ j, j < am_st sz F → (sq_P (am_st sz F) (am_op D F sz B) (am_en D F sz B) U (am_sS C) (am_st sz g0 + r0) m) j → (sq_gr (sq_P (am_st sz F) (am_op D F sz B) (am_en D F sz B) U (am_sS C) (am_st sz g0 + r0) m) m j).2 ≤ j → ∃ g r, g < F ∧ r < sz g ∧ j = am_st sz g + r ∧ S' 92 (sq_gr (sq_P (am_st sz F) (am_op D F sz B) (am_en D F sz B) U (am_sS C) (am_st sz g0 + r0) m) m j).1 = nI (40 * g + r)) → Q (some (.int (nI (sq_cn (am_st sz F) (am_op D F sz B) (am_en D F sz B) U (am_sS C) (am_st sz g0 + r0) m)))) (hp S' e)) : ∀ (n kc ks f : Nat) (x5 x6 x7 : Value) (S' : Nat → Nat → Int32), F < n + f → f ≤ F → am_OC S F sz (sq_P (am_st sz F) (am_op D F sz B) (am_en D F sz B) U (am_sS C) (am_st sz g0 + r0) m) m S' (am_st sz f) → am_Go (mX12_occurrences, 5, [.ref 69, .int (nI (40 * g0 + r0)), .int (nI m), .int (nI (sq_gr (sq_P (am_st sz F) (am_op D F sz B) (am_en D F sz B) U (am_sS C) (am_st sz g0 + r0) m) m (am_st sz f)).1), .int (nI f), x5, x6, x7], [], hp S' e, kc, ks, Q)
  | 0, kc, ks, f, x5, x6, x7, S', g1, g2, hI => by omega
  | n + 1, kc, ks, f, x5, x6, x7, S', g1, g2, hI => by
    have hF := hP.hF
    have hS' : am_SM S' D F sz B U := hM.u (fun c j hc => hI.fr c j (by omega))
    refine go_s 4 rfl ?_
    refine go_if (fun c11 => ?_) (fun c11 => ?_)
    · have c11 : nI f < S' 69 1 := c11
      rw [hS'.ms.m1, hP.m1] at c11
      have hf : f < F := (nI_ltI (by omega) (by omega)).mp c11
      refine go_s 2 (pc' := 17) (ls' := [.ref 69, .int (nI (40 * g0 + r0)), .int (nI m), .int (nI (sq_gr (sq_P (am_st sz F) (am_op D F sz B) (am_en D F sz B) U (am_sS C) (am_st sz g0 + r0) m) m (am_st sz f + 0)).1), .int (nI f), .int (nI 0), x6, x7]) (st' := []) (h' := hp S' e) rfl ?_
      refine c_ocw hP hM hop hg0 hr0 h2 h20 hft hf (fun p S2 y5 y6 y7 hI2 hps hex => ?_) (sz f + 1) 0 _ _ S' (by omega) (by omega) hI
      have est : sq_gr (sq_P (am_st sz F) (am_op D F sz B) (am_en D F sz B) U (am_sS C) (am_st sz g0 + r0) m) m (am_st sz (f + 1)) = sq_gr (sq_P (am_st sz F) (am_op D F sz B) (am_en D F sz B) U (am_sS C) (am_st sz g0 + r0) m) m (am_st sz f + p) := by
        have := sq_gr_stay (P := sq_P (am_st sz F) (am_op D F sz B) (am_en D F sz B) U (am_sS C) (am_st sz g0 + r0) m) (n := m) (a := am_st sz f + p) (sz f - p) (fun j a1 a2 z => ?_)
        · rw [show am_st sz f + p + (sz f - p) = am_st sz (f + 1) by show _ = am_st sz f + sz f; omega] at this; exact this
        · obtain ⟨d, rfl⟩ := Nat.exists_eq_add_of_le (show am_st sz f ≤ j by omega)
          rcases hex with y | y
          · have o := (z.1.2 0 (by omega)).1
            rw [Nat.add_zero, am_op_i hf (by omega)] at o
            exact y o.1
          · have := sq_ft_in hop hf (show d < sz f by omega) (show 1 ≤ m by omega) z.1
            omega
      refine go_s 2 (pc' := 5) (ls' := [.ref 69, .int (nI (40 * g0 + r0)), .int (nI m), .int (nI (sq_gr (sq_P (am_st sz F) (am_op D F sz B) (am_en D F sz B) U (am_sS C) (am_st sz g0 + r0) m) m (am_st sz (f + 1))).1), .int (nI (f + 1)), y5, y6, y7]) (st' := []) (h' := hp S2 e) (by rw [est, ← nI_1 f]; rfl) ?_
      refine c_oco hP hM hop hg0 hr0 h2 h20 hft q n _ _ (f + 1) _ _ _ S2 (by omega) (by omega) ⟨hI2.fr, by rw [est]; have := hI2.en; show _ ≤ am_st sz f + sz f; omega, fun j hj y1 y2 => ?_⟩
      by_cases ej : j < am_st sz f + p
      · exact hI2.fo j ej y1 y2
      · exfalso
        have hj2 : j < am_st sz f + sz f := hj
        obtain ⟨d, rfl⟩ := Nat.exists_eq_add_of_le (show am_st sz f ≤ j by omega)
        rcases hex with y | y
        · have o := (y1.1.2 0 (by omega)).1
          rw [Nat.add_zero, am_op_i hf (by omega)] at o
          exact y o.1
        · have := sq_ft_in hop hf (show d < sz f by omega) (show 1 ≤ m by omega) y1.1
          omega
    · refine go_s 1 rfl ?_
      have c11 : ¬ nI f < S' 69 1 := c11
      rw [hS'.ms.m1, hP.m1] at c11
      have hge := mt (nI_lt (a := f) (b := F) · (by omega)) c11
      have ef : f = F := by omega
      subst ef
      exact go_ret rfl rfl (q _ hI.fr hI.fo)
theorem c_X12_occurrences {C D S : Nat → Nat → Int32} {F : Nat} {sz : Nat → Nat} {B U : Nat → Prop} {e : am_E} {Q : am_Q} {g0 r0 m : Nat} (hP : am_PG C D F sz) (hM : am_SM S D F sz B U) (hop : ∀ f, f < F → ¬ am_Op D sz f) (hg0 : g0 < F) (hr0 : r0 < sz g0) (h2 : 2 ≤ m) (h20 : m ≤ 20) (hft : sq_ft (am_st sz F) (am_op D F sz B) (am_en D F sz B) U (am_st sz g0 + r0) m) (q : ∀ S', (∀ c j, c ≠ 92 → S' c j = S c j) → (∀ j, j < am_st sz F → (sq_P (am_st sz F) (am_op D F sz B) (am_en D F sz B) U (am_sS C) (am_st sz g0 + r0) m) j → (sq_gr (sq_P (am_st sz F) (am_op D F sz B) (am_en D F sz B) U (am_sS C) (am_st sz g0 + r0) m) m j).2 ≤ j → ∃ g r, g < F ∧ r < sz g ∧ j = am_st sz g + r ∧ S' 92 (sq_gr (sq_P (am_st sz F) (am_op D F sz B) (am_en D F sz B) U (am_sS C) (am_st sz g0 + r0) m) m j).1 = nI (40 * g + r)) → Q (some (.int (nI (sq_cn (am_st sz F) (am_op D F sz B) (am_en D F sz B) U (am_sS C) (am_st sz g0 + r0) m)))) (hp S' e)) {kc ks : Nat} : am_Go (mX12_occurrences, 0, am_ent mX12_occurrences [.ref 69, .int (nI (40 * g0 + r0)), .int (nI m)], [], hp S e, kc, ks, Q) := by
  refine go_s 4 (pc' := 5) (ls' := [.ref 69, .int (nI (40 * g0 + r0)), .int (nI m), .int (nI (sq_gr (sq_P (am_st sz F) (am_op D F sz B) (am_en D F sz B) U (am_sS C) (am_st sz g0 + r0) m) m (am_st sz 0)).1), .int (nI 0), .long 0, .long 0, .long 0]) (st' := []) (h' := hp S e) rfl ?_
  exact c_oco hP hM hop hg0 hr0 h2 h20 hft q (F + 1) _ _ 0 _ _ _ S (by omega) (by omega) ⟨fun _ _ _ => rfl, Nat.le_refl _, fun j hj => absurd hj (Nat.not_lt_zero _)⟩
