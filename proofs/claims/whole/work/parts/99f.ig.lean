/-! the image of both sides is the same -/
theorem ly_n1 {C D : Nat → Nat → Int32} {F : Nat} {sz : Nat → Nat} {B : Nat → Prop} {bo : Nat → Nat} {sm : Nat → Nat → Prop} {ln sp : Nat → Nat} {K : Nat} (hE : ly_E2 C D F sz B bo sm ln sp K) (hF1 : 1 ≤ F) : 1 ≤ ly_R C D F sz B sm ln sp K K := by
  have hb := hE.bo 0 hF1
  have hP := hE.e.pg
  have hsz : 1 ≤ sz (bo 0) := by
    apply Classical.byContradiction
    intro z
    exact hE.e.op (bo 0) hb.1 (Or.inl (by omega))
  have hl := hP.lt hb.1 (show 0 < sz (bo 0) by omega)
  have hin := ly_in_f (D := D) (F := F) (f := bo 0) (sz := sz) (B := B) (sm := sm) (ln := ln) (sp := sp) (K := K) hE.e.op (fun k hk => by have := (hE.e.l2 hk).1; omega)
  have hbd : ly_bd F sz B (am_st sz (bo 0)) := (ly_bd_i hb.1 (show 0 < sz (bo 0) by omega)).mpr hb.2.1
  have hn : 1 ≤ ly_n C D F sz B sm ln sp K (am_st sz (bo 0)) := by
    by_cases hbg : ly_bg (am_st sz F) (am_op D F sz B) (am_en D F sz B) sm ln sp K (am_st sz (bo 0))
    · have : ly_n C D F sz B sm ln sp K (am_st sz (bo 0)) = 1 := ly_w_bg hbd (ly_bg_U (fun k hk => by have := (hE.e.l2 hk).1; omega) hbg) hbg
      omega
    · have hnU := (ly_in_0 hin hbg).2
      by_cases h32 : C 2 (am_st sz (bo 0)) = 32
      · have : ly_n C D F sz B sm ln sp K (am_st sz (bo 0)) = 2 := ly_w_2 hbd hnU h32
        omega
      · have : ly_n C D F sz B sm ln sp K (am_st sz (bo 0)) = 1 := ly_w_1 hbd hnU h32
        omega
  have l1 : ly_W C D F sz B sm ln sp K (am_st sz (bo 0) + 1) ≤ ly_W C D F sz B sm ln sp K (am_st sz F) := ly_W_le (by omega)
  rw [ly_W_s] at l1
  unfold ly_R
  omega
theorem ly_IG {C D : Nat → Nat → Int32} {F : Nat} {sz : Nat → Nat} {B : Nat → Prop} {bo : Nat → Nat} {sm : Nat → Nat → Prop} {ln sp : Nat → Nat} {K : Nat} {C1 C' S0 S1 S' : Nat → Nat → Int32} (hE : ly_E2 C D F sz B bo sm ln sp K) (hF1 : 1 ≤ F) (h2 : ly_L2 C D F sz B sm ln sp K C1 K) (h4 : ly_L4 C D F sz B bo sm ln sp K C1 C' K 0) (hM : ly_ME D S0 F sz B bo sm ln sp K) (hO : ly_MO C D F sz B bo sm ln sp K S0 S1) (hN : ly_N4 C D F sz B bo sm ln sp K S1 S' K 0) (hfr : ∀ c j, c < 69 → S' c j = C' c j) (h10 : S' 69 10 = 1) (h11 : S' 69 11 = nI F) : am_IG S' (ly_R C D F sz B sm ln sp K K) F K (sq_fo (am_st sz F) (am_op D F sz B) (am_en D F sz B) sm ln sp K) := by
  have hP := hE.e.pg
  have hF := hP.hF
  have hR6 := hE.R6 (Nat.le_refl K)
  have fc : ∀ c j, c < 69 → c ≠ 12 → (c ≠ 11 ∨ j ≠ 3) → S' c j = C1 c j := fun c j a1 a2 a3 => (hfr c j a1).trans (h4.fr c j a2 a3)
  have fC : ∀ c j, c < 69 → c ≠ 12 → (c ≠ 11 ∨ j ≠ 3) → c ≠ 14 → c ≠ 20 → c ≠ 24 → c ≠ 58 → S' c j = C c j := fun c j a1 a2 a3 a4 a5 a6 a7 => (fc c j a1 a2 a3).trans (h2.fr c j a4 a5 a6 a7)
  have fS : ∀ c j, c ≠ 79 → (c = 69 → j ≠ 12) → c ≠ 78 → c ≠ 83 → c ≠ 86 → c ≠ 88 → S' c j = S0 c j := fun c j a1 a2 a3 a4 a5 a6 => (hN.fr c j a1).trans (hO.fr c j a2 a3 a4 a5 a6)
  have hw : ∀ i, i < ly_R C D F sz B sm ln sp K K → ∃ w, am_gop w ∧ S' 12 i = w ∧ S' 79 i = w := by
    intro i hi
    by_cases hb : i < ly_W C D F sz B sm ln sp K (am_st sz F)
    · obtain ⟨t, r, ht, hr, ei⟩ := am_spx (sz := ly_n C D F sz B sm ln sp K) (am_st sz F) i hb
      obtain ⟨f, p, hf, hq, et⟩ := am_spx (sz := sz) F t ht
      rw [et] at hr ei
      have ei : i = ly_W C D F sz B sm ln sp K (am_st sz f + p) + r := ei
      rw [ei]
      exact ⟨_, ly_v_gop, (hfr _ _ (by decide)).trans (h4.wb f p r hf hq hr), hN.wb f p r hf hq hr⟩
    · have hi' : i - ly_W C D F sz B sm ln sp K (am_st sz F) < am_st (fun i => ln i + 1) K := by
        unfold ly_R at hi
        omega
      obtain ⟨k, r, hk, hr, ei⟩ := am_spx (sz := fun i => ln i + 1) K _ hi'
      have hr : r < ln k + 1 := hr
      have ei2 : i = ly_R C D F sz B sm ln sp K k + r := by
        unfold ly_R
        omega
      rw [ei2]
      exact ⟨_, ly_rv_gop, (hfr _ _ (by decide)).trans (h4.wr k r (Or.inl ⟨hk, by omega⟩)), hN.wr k r (Or.inl ⟨hk, by omega⟩)⟩
  refine ⟨h10, ly_n1 hE hF1, ⟨hR6, (hfr 11 3 (by decide)).trans h4.n, (hN.fr 69 12 (by decide)).trans hO.wo, fun i hi => ?_, fun i hi => ?_⟩, hF1, hF, (fC 11 4 (by decide) (by decide) (Or.inr (by decide)) (by decide) (by decide) (by decide) (by decide)).trans hE.e.c4, h11, fun f hf => ?_, hE.e.k60, hE.e.fo, (fC 15 10 (by decide) (by decide) (Or.inl (by decide)) (by decide) (by decide) (by decide) (by decide)).trans hE.e.rs.cR, (fS 69 13 (by decide) (by decide) (by decide) (by decide) (by decide) (by decide)).trans hM.k, (fC 15 11 (by decide) (by decide) (Or.inl (by decide)) (by decide) (by decide) (by decide) (by decide)).trans hE.e.rs.cO, fun k hk => ?_⟩
  · obtain ⟨w, _, e1, e2⟩ := hw i hi
    rw [e1, e2]
  · obtain ⟨w, g, _, e2⟩ := hw i hi
    rw [e2]; exact g
  · have hb := hE.bo f hf
    refine ⟨bo f, hb.1, (fC 13 f (by decide) (by decide) (Or.inl (by decide)) (by decide) (by decide) (by decide) (by decide)).trans hb.2.2, (fS 77 f (by decide) (by omega) (by decide) (by decide) (by decide) (by decide)).trans (hM.bd f hf), ?_⟩
    rw [fc 14 _ (by decide) (by decide) (Or.inl (by decide)), h2.fi _ hb.1 hb.2.1, am_adw, hN.fr 78 f (by decide), hO.fo f hf]
  · have hl2 := hE.e.l2 hk
    have ro := hE.e.rs.ro k hk
    have mo := hM.rs.ro k hk
    have tm : (sq_gk (am_st sz F) (am_op D F sz B) (am_en D F sz B) sm ln sp k (am_st sz F)).1 ≤ 150 := sq_tm150 hl2.1 hP.t300
    have c17 : S' 17 k = nI (ln k) := (fC 17 k (by decide) (by decide) (Or.inl (by decide)) (by decide) (by decide) (by decide) (by decide)).trans ro.s17
    have c19 : S' 19 k = nI (sq_gk (am_st sz F) (am_op D F sz B) (am_en D F sz B) sm ln sp k (am_st sz F)).1 := (fC 19 k (by decide) (by decide) (Or.inl (by decide)) (by decide) (by decide) (by decide) (by decide)).trans ro.s19
    have fom : ∀ d, sq_fo (am_st sz F) (am_op D F sz B) (am_en D F sz B) sm ln sp (k + 1) ≤ sq_fo (am_st sz F) (am_op D F sz B) (am_en D F sz B) sm ln sp (k + 1 + d) := by
      intro d
      induction d with
      | zero => exact Nat.le_refl _
      | succ d ih => exact Nat.le_trans ih (Nat.le_add_right _ _)
    obtain ⟨d, hd⟩ := Nat.exists_eq_add_of_le (show k + 1 ≤ K from hk)
    have fo1 := fom d
    rw [← hd] at fo1
    refine ⟨sq_fo (am_st sz F) (am_op D F sz B) (am_en D F sz B) sm ln sp k, (sq_gk (am_st sz F) (am_op D F sz B) (am_en D F sz B) sm ln sp k (am_st sz F)).1, fo1, (fC 18 k (by decide) (by decide) (Or.inl (by decide)) (by decide) (by decide) (by decide) (by decide)).trans ro.s18, c19, (fS 81 k (by decide) (by omega) (by decide) (by decide) (by decide) (by decide)).trans mo.s81, c17.trans ((fS 80 k (by decide) (by omega) (by decide) (by decide) (by decide) (by decide)).trans mo.s80).symm, ?_, ?_, fun i hi => ?_⟩
    · apply Int32.toInt_inj.mp
      rw [c17, c19, am_svI (by omega) hl2.2, fS 82 k (by decide) (by omega) (by decide) (by decide) (by decide) (by decide), mo.s82]
    · rw [fc 20 k (by decide) (by decide) (Or.inl (by decide)), h2.ro k hk, am_adw, hN.fr 83 k (by decide), hO.ra k hk]
    · obtain ⟨j, hok, ej⟩ := sq_tmK i hi
      have hjN := sq_ok_lt (show 1 ≤ ln k by omega) hok
      obtain ⟨g, r, hg, hr, eg, e85⟩ := mo.s85 j hok
      obtain ⟨g', r', hg', hr', eg', e21, e22, e23, e25⟩ := ro.oc j hjN hok
      have eu := am_st_u hr' hr (eg'.symm.trans eg)
      have h40 := hP.s40 g hg
      have c24 := h2.oc k j hk hok
      have c86 := hO.pa k j hk hok
      rw [ej] at e85 e22 e23 c24 c86
      rw [eu.1] at e22
      rw [eu.2] at e23
      refine ⟨40 * g + r, by omega, (fS 85 _ (by decide) (by omega) (by decide) (by decide) (by decide) (by decide)).trans e85, ?_, ?_, ?_⟩
      · rw [fC 22 _ (by decide) (by decide) (Or.inl (by decide)) (by decide) (by decide) (by decide) (by decide), e22, show (40 * g + r) / 40 = g by omega]
      · rw [fC 23 _ (by decide) (by decide) (Or.inl (by decide)) (by decide) (by decide) (by decide) (by decide), e23, show (40 * g + r) % 40 = r by omega]
      · rw [fc 24 _ (by decide) (by decide) (Or.inl (by decide)), c24, am_adw, hN.fr 86 _ (by decide), c86]
