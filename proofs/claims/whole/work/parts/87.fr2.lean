theorem sq_tm150 {N : Nat} {op en : Nat → Prop} {sm : Nat → Nat → Prop} {ln sp : Nat → Nat} {k : Nat} (h2 : 2 ≤ ln k) (hN : N ≤ 300) : (sq_gk N op en sm ln sp k N).1 ≤ 150 := by
  obtain ⟨a1, a2, _, _⟩ := sq_gr_le (P := sq_Pk N op en sm ln sp k) (N := N) (show 1 ≤ ln k by omega) (fun j z => z.1.1) N
  have a1 : (sq_gk N op en sm ln sp k N).1 * ln k ≤ (sq_gk N op en sm ln sp k N).2 := a1
  have a2 : (sq_gk N op en sm ln sp k N).2 ≤ N := a2
  have a3 : 2 * (sq_gk N op en sm ln sp k N).1 ≤ (sq_gk N op en sm ln sp k N).1 * ln k := by
    rw [Nat.mul_comm 2]
    exact Nat.mul_le_mul_left _ h2
  omega
theorem sq_ix_tm {N : Nat} {op en : Nat → Prop} {sm : Nat → Nat → Prop} {ln sp : Nat → Nat} {k j : Nat} (h1 : 1 ≤ ln k) (h : sq_ok N op en sm ln sp k j) : (sq_gk N op en sm ln sp k j).1 < (sq_gk N op en sm ln sp k N).1 := ((sq_gr_last (P := sq_Pk N op en sm ln sp k) h1 N).2 j (sq_ok_lt h1 h) h.1 h.2).2
theorem am_MR2_cg {S S' : Nat → Nat → Int32} {F : Nat} {sz : Nat → Nat} {op en : Nat → Prop} {sm : Nat → Nat → Prop} {ln sp ln' sp' : Nat → Nat} {k : Nat} (hN : am_st sz F ≤ 300) (h2 : 2 ≤ ln k) (hc : ∀ i, i ≤ k → ln i = ln' i ∧ sp i = sp' i) (h : am_MR2 S F sz op en sm ln sp k) (e1 : ∀ c, c = 80 ∨ c = 81 ∨ c = 82 ∨ c = 84 → S' c k = S c k) (e2 : ∀ y, 150 * k ≤ y → y < 150 * k + 150 → S' 85 y = S 85 y) : am_MR2 S' F sz op en sm ln' sp' k := by
  have c1 := (hc k (Nat.le_refl _)).1
  have c2 := (hc k (Nat.le_refl _)).2
  refine ⟨?_, ?_, ?_, ?_, fun j hj => ?_⟩
  · rw [e1 80 (by omega), ← c1]; exact h.s80
  · rw [e1 81 (by omega), ← sq_gk_cg hc]; exact h.s81
  · rw [e1 82 (by omega), ← sq_gk_cg hc, ← c1]; exact h.s82
  · rw [e1 84 (by omega), ← c2]; exact h.s84
  · rw [← sq_ok_cg hc] at hj
    obtain ⟨g, r, a1, a2, a3, a4⟩ := h.s85 j hj
    refine ⟨g, r, a1, a2, a3, ?_⟩
    have t1 := sq_tm150 (N := am_st sz F) (op := op) (en := en) (sm := sm) (sp := sp) h2 hN
    have t2 := sq_ix_tm (show 1 ≤ ln k by omega) hj
    rw [← sq_gk_cg hc, e2 _ (by omega) (by omega)]
    exact a4
theorem am_ir_i {C D S : Nat → Nat → Int32} {F K : Nat} {sz : Nat → Nat} {op en : Nat → Prop} {sm : Nat → Nat → Prop} {ln sp : Nat → Nat} (hP : am_PG C D F sz) (hK : K ≤ 60) (hR : am_MRS S F sz op en sm ln sp K) {f p : Nat} (hf : f < F) (hp : p < sz f) : S 87 (40 * f + p) = -1 ↔ ¬ sq_U (am_st sz F) op en sm ln sp K (am_st sz f + p) := by
  rcases hR.ir f p hf hp with ⟨k, hk, e, j, h1, h2, h3⟩ | ⟨e, h⟩
  · refine ⟨fun z => absurd (e.symm.trans z) (fun y => nI_pos (n := k) (by omega) (by rw [y]; decide)), fun z => absurd ?_ z⟩
    obtain ⟨d, rfl⟩ := Nat.exists_eq_add_of_le (show k + 1 ≤ K by omega)
    exact sq_U_mo (Or.inr ⟨j, h1, h2, h3⟩)
  · exact ⟨fun _ => h, fun _ => e⟩
theorem c_X12_findRoutine {C D S : Nat → Nat → Int32} {F K : Nat} {sz : Nat → Nat} {B : Nat → Prop} {ln sp : Nat → Nat} {e : am_E} {Q : am_Q} {kc ks : Nat} (hP : am_PG C D F sz) (hS : am_MS S D) (hBd : ∀ f, f < F → (S 77 f = nI f ↔ B f)) (hop : ∀ f, f < F → ¬ am_Op D sz f) (hK : K < 60) (h13 : S 69 13 = nI K) (hln : ∀ k, k < K → 2 ≤ ln k) (hR : am_MRS S F sz (am_op D F sz B) (am_en D F sz B) (am_sS C) ln sp K)
    (q0 : ∀ S', (∀ c j, (c < 80 ∨ c = 83 ∨ c = 86 ∨ c = 88 ∨ 92 < c) → S' c j = S c j) → am_MRS S' F sz (am_op D F sz B) (am_en D F sz B) (am_sS C) ln sp K → sq_no (am_st sz F) (am_op D F sz B) (am_en D F sz B) (sq_U (am_st sz F) (am_op D F sz B) (am_en D F sz B) (am_sS C) ln sp K) (am_sS C) → Q (some (.int 0)) (hp S' e))
    (q1 : ∀ S' ln' sp', (∀ c j, (c < 80 ∨ c = 83 ∨ c = 86 ∨ c = 88 ∨ 92 < c) → S' c j = S c j) → (∀ i, i < K → ln i = ln' i ∧ sp i = sp' i) → sq_B (am_st sz F) (am_op D F sz B) (am_en D F sz B) (sq_U (am_st sz F) (am_op D F sz B) (am_en D F sz B) (am_sS C) ln' sp' K) (am_sS C) (ln' K) (sp' K) → am_MRS S' F sz (am_op D F sz B) (am_en D F sz B) (am_sS C) ln' sp' (K + 1) → Q (some (.int 1)) (hp S' e)) : am_Go (mX12_findRoutine, 0, am_ent mX12_findRoutine [.ref 69], [], hp S e, kc, ks, Q) := by
  have hF := hP.hF
  have hN3 := hP.t300
  refine go_s 2 (pc' := 2) (ls' := [.ref 69, .int (nI 0), .long 0, .long 0, .long 0, .long 0, .long 0, .long 0, .long 0]) (st' := []) (h' := hp S e) rfl ?_
  refine c_fm2 (U := sq_U (am_st sz F) (am_op D F sz B) (am_en D F sz B) (am_sS C) ln sp K) hP hS hBd (fun f p hf hpf => am_ir_i hP (by omega) hR hf hpf) (fun S1 y2 y3 hM hf1 => ?_) (F + 1) 0 _ _ S (by omega) (by omega) ⟨fun _ _ _ _ => rfl, fun g r _ _ a3 => by unfold am_bef at a3; omega, fun g r _ _ a3 => by unfold am_bef at a3; omega⟩
  refine go_s 8 (pc' := 121) (ls' := [.ref 69, .int 0, .int (-1), .int (nI 0), .int (nI 0), .long 0, .long 0, .long 0, .long 0]) (st' := []) (h' := hp S1 e) rfl ?_
  refine c_fb3 hP hM hop (fun S2 b row lg y4 y5 y6 y7 y8 hf2 hlg hB => ?_) (F + 1) 0 _ _ 0 _ _ _ _ S1 (by omega) (by omega) (fun _ _ _ => rfl) (by omega) (Or.inl ⟨rfl, rfl, rfl, fun n t ha => ?_⟩)
  rotate_left
  · rcases ha with z | z
    · exact absurd z.2.2 (Nat.not_lt_zero _)
    · omega
  refine go_s 3 rfl ?_
  rcases hB with ⟨b1, b2, b3, b4⟩ | ⟨g, r, hg, hr, a3, l2, l20, hft, b7, b8, b9, b10⟩
  · refine go_if (fun c => ?_) (fun c => absurd b2 c)
    refine go_s 1 rfl ?_
    refine go_retz rfl rfl (Or.inl rfl) (q0 S2 (fun c j hc => (hf2 c j (by omega)).trans (hf1 c j (by omega) (by omega))) ⟨fun k hk => am_MR2_cg hN3 (hln k hk) (fun _ _ => ⟨rfl, rfl⟩) (hR.ro k hk) (fun c hc => (hf2 c k (by omega)).trans (hf1 c k (by omega) (by omega))) (fun y _ _ => (hf2 85 y (by decide)).trans (hf1 85 y (by decide) (by decide))), fun f p hf hpf => ?_, fun f p hf hpf => ?_⟩ (fun n t z1 z2 z3 => b4 n t (Or.inl ⟨z1, z2, ?_⟩) z3))
    · rw [hf2 87 _ (by decide), hf1 87 _ (by decide) (by decide)]; exact hR.ir f p hf hpf
    · rw [hf2 89 _ (by decide), hf1 89 _ (by decide) (by decide)]; exact hR.bg f p hf hpf
    · have := z3.1; omega
  · have h40 := hP.s40 g hg
    refine go_if (fun c => absurd (b8.symm.trans c) (fun z => nI_pos (n := 40 * g + r) (by omega) (by rw [z]; decide))) (fun c => ?_)
    subst b8
    refine go_s 3 rfl ?_
    refine go_v kX12_findRoutine_275 okX12_occurrences rfl rfl rfl rfl (Nat.zero_le _) (Nat.zero_le _) ?_
    have hM2 := hM.u (S' := S2) (fun c j hc => hf2 c j (by omega))
    refine c_X12_occurrences hP hM2 hop hg hr l2 l20 hft (fun S3 hf3 hfo => ?_)
    obtain ⟨ln', hl'⟩ : ∃ h : Nat → Nat, h = fun k => if k = K then lg else ln k := ⟨_, rfl⟩
    obtain ⟨sp', hs'⟩ : ∃ h : Nat → Nat, h = fun k => if k = K then am_st sz g + r else sp k := ⟨_, rfl⟩
    have ecg : ∀ i, i < K → ln i = ln' i ∧ sp i = sp' i := fun i hi => by
      rw [hl', hs']
      dsimp only
      rw [if_neg (by omega), if_neg (by omega)]
      exact ⟨rfl, rfl⟩
    have eU : sq_U (am_st sz F) (am_op D F sz B) (am_en D F sz B) (am_sS C) ln' sp' K = sq_U (am_st sz F) (am_op D F sz B) (am_en D F sz B) (am_sS C) ln sp K := (sq_U_cg K ecg).symm
    have eln : ln' K = lg := by rw [hl']; exact if_pos rfl
    have esp : sp' K = am_st sz g + r := by rw [hs']; exact if_pos rfl
    have ePk : sq_Pk (am_st sz F) (am_op D F sz B) (am_en D F sz B) (am_sS C) ln' sp' K = sq_P (am_st sz F) (am_op D F sz B) (am_en D F sz B) (sq_U (am_st sz F) (am_op D F sz B) (am_en D F sz B) (am_sS C) ln sp K) (am_sS C) (am_st sz g + r) lg := by
      unfold sq_Pk
      rw [eU, eln, esp]
    have egk : ∀ j, sq_gk (am_st sz F) (am_op D F sz B) (am_en D F sz B) (am_sS C) ln' sp' K j = sq_gr (sq_P (am_st sz F) (am_op D F sz B) (am_en D F sz B) (sq_U (am_st sz F) (am_op D F sz B) (am_en D F sz B) (am_sS C) ln sp K) (am_sS C) (am_st sz g + r) lg) lg j := fun j => by
      unfold sq_gk
      rw [ePk, eln]
    have ecn : sq_cn (am_st sz F) (am_op D F sz B) (am_en D F sz B) (sq_U (am_st sz F) (am_op D F sz B) (am_en D F sz B) (am_sS C) ln sp K) (am_sS C) (am_st sz g + r) lg = (sq_gk (am_st sz F) (am_op D F sz B) (am_en D F sz B) (am_sS C) ln' sp' K (am_st sz F)).1 := by
      rw [egk]
      rfl
    have eok : ∀ j, sq_ok (am_st sz F) (am_op D F sz B) (am_en D F sz B) (am_sS C) ln' sp' K j ↔ (sq_P (am_st sz F) (am_op D F sz B) (am_en D F sz B) (sq_U (am_st sz F) (am_op D F sz B) (am_en D F sz B) (am_sS C) ln sp K) (am_sS C) (am_st sz g + r) lg j ∧ (sq_gr (sq_P (am_st sz F) (am_op D F sz B) (am_en D F sz B) (sq_U (am_st sz F) (am_op D F sz B) (am_en D F sz B) (am_sS C) ln sp K) (am_sS C) (am_st sz g + r) lg) lg j).2 ≤ j) := fun j => by
      unfold sq_ok
      rw [ePk, egk]
    have f3 : ∀ c j, c ≠ 90 → c ≠ 91 → c ≠ 92 → S3 c j = S c j := fun c j z1 z2 z3 => (hf3 c j z3).trans ((hf2 c j z3).trans (hf1 c j z1 z2))
    have r13 : S3 69 13 = nI K := (f3 69 13 (by decide) (by decide) (by decide)).trans h13
    have hcK := nI_clamp (show K < 2 ^ 31 by omega)
    have hVK : vp_in (nI K) 60 := vp_in_nI hK (by decide)
    rw [ecn]
    generalize hT : (sq_gk (am_st sz F) (am_op D F sz B) (am_en D F sz B) (am_sS C) ln' sp' K (am_st sz F)).1 = TM
    refine go_s 6 (pc' := 289) (ls' := [.ref 69, .int b, .int (nI (40 * g + r)), .int (nI lg), .int (nI TM), y5, y6, y7, y8]) (st' := [.int (nI lg), .int (nI K), .ref 80]) (h' := hp S3 e) (by rw [← r13]; rfl) ?_
    refine go_m rfl rfl (show vp_in (nI K) 60 from hVK) ?_
    show am_Go (mX12_findRoutine, 290, _, [], hp (am_u S3 80 (nI K).toNatClampNeg (nI lg)) e, _, _, Q)
    rw [hcK]
    refine go_s 5 (pc' := 300) (ls' := [.ref 69, .int b, .int (nI (40 * g + r)), .int (nI lg), .int (nI TM), y5, y6, y7, y8]) (st' := [.int (nI TM), .int (nI K), .ref 81]) (h' := hp (am_u S3 80 K (nI lg)) e) (by rw [show nI K = am_u S3 80 K (nI lg) 69 13 by rw [am_u_ne (by decide)]; exact r13.symm]; rfl) ?_
    refine go_m rfl rfl (show vp_in (nI K) 60 from hVK) ?_
    show am_Go (mX12_findRoutine, 301, _, [], hp (am_u (am_u S3 80 K (nI lg)) 81 (nI K).toNatClampNeg (nI TM)) e, _, _, Q)
    rw [hcK]
    refine go_s 5 (pc' := 310) (ls' := [.ref 69, .int b, .int (nI (40 * g + r)), .int (nI lg), .int (nI TM), y5, y6, y7, y8]) (st' := [.int b, .int (nI K), .ref 82]) (h' := hp (am_u (am_u S3 80 K (nI lg)) 81 K (nI TM)) e) (by rw [show nI K = am_u (am_u S3 80 K (nI lg)) 81 K (nI TM) 69 13 by rw [am_u_ne (by decide), am_u_ne (by decide)]; exact r13.symm]; rfl) ?_
    refine go_m rfl rfl (show vp_in (nI K) 60 from hVK) ?_
    show am_Go (mX12_findRoutine, 311, _, [], hp (am_u (am_u (am_u S3 80 K (nI lg)) 81 K (nI TM)) 82 (nI K).toNatClampNeg b) e, _, _, Q)
    rw [hcK]
    refine go_s 5 (pc' := 320) (ls' := [.ref 69, .int b, .int (nI (40 * g + r)), .int (nI lg), .int (nI TM), y5, y6, y7, y8]) (st' := [.int (nI (40 * g + r)), .int (nI K), .ref 84]) (h' := hp (am_u (am_u (am_u S3 80 K (nI lg)) 81 K (nI TM)) 82 K b) e) (by rw [show nI K = am_u (am_u (am_u S3 80 K (nI lg)) 81 K (nI TM)) 82 K b 69 13 by rw [am_u_ne (by decide), am_u_ne (by decide), am_u_ne (by decide)]; exact r13.symm]; rfl) ?_
    refine go_m rfl rfl (show vp_in (nI K) 60 from hVK) ?_
    show am_Go (mX12_findRoutine, 321, _, [], hp (am_u (am_u (am_u (am_u S3 80 K (nI lg)) 81 K (nI TM)) 82 K b) 84 (nI K).toNatClampNeg (nI (40 * g + r))) e, _, _, Q)
    rw [hcK]
    have f4 : ∀ c j, (c ≠ 80 ∧ c ≠ 81 ∧ c ≠ 82 ∧ c ≠ 84) ∨ j ≠ K → am_u (am_u (am_u (am_u S3 80 K (nI lg)) 81 K (nI TM)) 82 K b) 84 K (nI (40 * g + r)) c j = S3 c j := fun c j z => by
      unfold am_u
      rw [if_neg (by omega), if_neg (by omega), if_neg (by omega), if_neg (by omega)]
    have k80 : am_u (am_u (am_u (am_u S3 80 K (nI lg)) 81 K (nI TM)) 82 K b) 84 K (nI (40 * g + r)) 80 K = nI lg := by
      rw [am_u_ne (by decide), am_u_ne (by decide), am_u_ne (by decide), am_u_eq]
    have k81 : am_u (am_u (am_u (am_u S3 80 K (nI lg)) 81 K (nI TM)) 82 K b) 84 K (nI (40 * g + r)) 81 K = nI TM := by
      rw [am_u_ne (by decide), am_u_ne (by decide), am_u_eq]
    have k82 : am_u (am_u (am_u (am_u S3 80 K (nI lg)) 81 K (nI TM)) 82 K b) 84 K (nI (40 * g + r)) 82 K = b := by
      rw [am_u_ne (by decide), am_u_eq]
    have k84 : am_u (am_u (am_u (am_u S3 80 K (nI lg)) 81 K (nI TM)) 82 K b) 84 K (nI (40 * g + r)) 84 K = nI (40 * g + r) := am_u_eq
    generalize am_u (am_u (am_u (am_u S3 80 K (nI lg)) 81 K (nI TM)) 82 K b) 84 K (nI (40 * g + r)) = S4 at f4 k80 k81 k82 k84 ⊢
    refine go_s 2 (pc' := 324) (ls' := [.ref 69, .int b, .int (nI (40 * g + r)), .int (nI (ln' K)), .int (nI (sq_gk (am_st sz F) (am_op D F sz B) (am_en D F sz B) (am_sS C) ln' sp' K (am_st sz F)).1), .int (nI 0), y6, y7, y8]) (st' := []) (h' := hp S4 e) (by rw [hT, eln]; rfl) ?_
    have hB' : sq_B (am_st sz F) (am_op D F sz B) (am_en D F sz B) (sq_U (am_st sz F) (am_op D F sz B) (am_en D F sz B) (am_sS C) ln' sp' K) (am_sS C) (ln' K) (sp' K) := by
      rw [eU, eln, esp]
      refine ⟨l2, l20, hft, b9, fun n t z1 z2 z3 => b10 n t (Or.inl ⟨z1, z2, ?_⟩) z3⟩
      have := z3.1
      omega
    refine c_rc2 (ln := ln') (sp := sp') (S := S4) (K := K) hP hop (by omega) (by omega) hK ((f4 69 13 (by omega)).trans r13) (fun j hj hok => ?_) (fun S5 hW => ?_) (TM + 1) 0 _ _ (by omega) (by omega) ⟨fun _ _ _ _ _ => rfl, fun _ _ => rfl, fun j _ z => absurd z (Nat.not_lt_zero _), fun f p _ _ => Or.inr ⟨fun ⟨j, _, z, _⟩ => absurd z (Nat.not_lt_zero _), rfl⟩, fun f p _ _ => Or.inr ⟨fun z => absurd z.2 (Nat.not_lt_zero _), rfl⟩⟩
    · have z := (eok j).mp hok
      obtain ⟨g', r', w1, w2, w3, w4⟩ := hfo j hj z.1 z.2
      refine ⟨g', r', w1, w2, w3, ?_⟩
      rw [f4 92 _ (by omega), egk]; exact w4
    · have hl1 : 1 ≤ ln' K := by omega
      refine q1 S5 ln' sp' (fun c j hc => (hW.fr c j (by omega) (by omega) (by omega)).trans ((f4 c j (by omega)).trans (f3 c j (by omega) (by omega) (by omega)))) ecg hB' ⟨fun k hk => ?_, fun f p hf hpf => ?_, fun f p hf hpf => ?_⟩
      · by_cases ek : k = K
        · rw [ek]
          refine ⟨?_, ?_, ?_, ⟨g, r, hg, hr, esp, ?_⟩, fun j hj => ?_⟩
          · rw [hW.fr 80 K (by decide) (by decide) (by decide), k80, eln]
          · rw [hW.fr 81 K (by decide) (by decide) (by decide), k81, hT]
          · rw [hW.fr 82 K (by decide) (by decide) (by decide), k82, b7, ecn, eln]
          · rw [hW.fr 84 K (by decide) (by decide) (by decide), k84]
          · exact hW.p2 j hj (sq_ix_tm hl1 hj)
        · refine am_MR2_cg hN3 (hln k (by omega)) (fun i hi => ecg i (by omega)) (hR.ro k (by omega)) (fun c hc => ?_) (fun y z1 z2 => ?_)
          · rw [hW.fr c k (by omega) (by omega) (by omega), f4 c k (by omega), f3 c k (by omega) (by omega) (by omega)]
          · rw [hW.p1 y (by omega), f4 85 y (by omega), f3 85 y (by decide) (by decide) (by decide)]
      · rcases hW.ir f p hf hpf with ⟨⟨j, z1, z2, z3, z4⟩, z5⟩ | ⟨z1, z2⟩
        · exact Or.inl ⟨K, by omega, z5, j, z1, z3, z4⟩
        · rw [z2, f4 87 _ (by omega), f3 87 _ (by decide) (by decide) (by decide)]
          rcases hR.ir f p hf hpf with ⟨k, w1, w2, j, w3, w4, w5⟩ | ⟨w1, w2⟩
          · refine Or.inl ⟨k, by omega, w2, j, ?_, w4, ?_⟩
            · rw [← sq_ok_cg (fun i hi => ecg i (by omega))]; exact w3
            · rw [← (ecg k w1).1]; exact w5
          · refine Or.inr ⟨w1, fun y => ?_⟩
            rcases y with y | ⟨j, y1, y2, y3⟩
            · rw [eU] at y; exact w2 y
            · exact z1 ⟨j, y1, sq_ix_tm hl1 y1, y2, y3⟩
      · rcases hW.bg f p hf hpf with ⟨z1, z2, z3⟩ | ⟨z1, z2⟩
        · rw [z3]; exact Or.inr ⟨rfl, K, by omega, z1⟩
        · rw [z2, f4 89 _ (by omega), f3 89 _ (by decide) (by decide) (by decide)]
          refine am_bz_iff (hR.bg f p hf hpf) ⟨fun ⟨k, w1, w2⟩ => ⟨k, by omega, by rw [← sq_ok_cg (fun i hi => ecg i (by omega))]; exact w2⟩, fun ⟨k, w1, w2⟩ => ?_⟩
          by_cases ek : k = K
          · rw [ek] at w2; exact absurd ⟨w2, sq_ix_tm hl1 w2⟩ z1
          · exact ⟨k, by omega, by rw [sq_ok_cg (fun i hi => ecg i (by omega))]; exact w2⟩
