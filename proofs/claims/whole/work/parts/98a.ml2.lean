theorem am_dvw4 : ∀ n, n < 1001 → (nI (4096 + 4 * n) - 4096) / 4 = nI n := by decide +kernel
def ly_M2 (C D : Nat → Nat → Int32) (F : Nat) (sz : Nat → Nat) (B : Nat → Prop) (sm : Nat → Nat → Prop) (ln sp : Nat → Nat) (K : Nat) (S1 S' : Nat → Nat → Int32) (a m i : Nat) : Prop := (∀ c j, c ≠ 83 → c ≠ 86 → S' c j = S1 c j) ∧ (∀ k, k < a → S' 83 k = nI (4096 + 4 * ly_R C D F sz B sm ln sp K k)) ∧ (∀ k j, k < K → sq_ok (am_st sz F) (am_op D F sz B) (am_en D F sz B) sm ln sp k j → (k < m ∨ (k = m ∧ (sq_gk (am_st sz F) (am_op D F sz B) (am_en D F sz B) sm ln sp k j).1 < i)) → S' 86 (150 * k + (sq_gk (am_st sz F) (am_op D F sz B) (am_en D F sz B) sm ln sp k j).1) = nI (4096 + 4 * ly_W C D F sz B sm ln sp K j))
theorem ly_M2.fr {C D : Nat → Nat → Int32} {F : Nat} {sz : Nat → Nat} {B : Nat → Prop} {sm : Nat → Nat → Prop} {ln sp : Nat → Nat} {K : Nat} {S1 S' : Nat → Nat → Int32} {a m i : Nat} (h : ly_M2 C D F sz B sm ln sp K S1 S' a m i) : ∀ c j, c ≠ 83 → c ≠ 86 → S' c j = S1 c j := h.1
theorem ly_M2.ra {C D : Nat → Nat → Int32} {F : Nat} {sz : Nat → Nat} {B : Nat → Prop} {sm : Nat → Nat → Prop} {ln sp : Nat → Nat} {K : Nat} {S1 S' : Nat → Nat → Int32} {a m i : Nat} (h : ly_M2 C D F sz B sm ln sp K S1 S' a m i) : ∀ k, k < a → S' 83 k = nI (4096 + 4 * ly_R C D F sz B sm ln sp K k) := h.2.1
theorem ly_M2.pa {C D : Nat → Nat → Int32} {F : Nat} {sz : Nat → Nat} {B : Nat → Prop} {sm : Nat → Nat → Prop} {ln sp : Nat → Nat} {K : Nat} {S1 S' : Nat → Nat → Int32} {a m i : Nat} (h : ly_M2 C D F sz B sm ln sp K S1 S' a m i) : ∀ k j, k < K → sq_ok (am_st sz F) (am_op D F sz B) (am_en D F sz B) sm ln sp k j → (k < m ∨ (k = m ∧ (sq_gk (am_st sz F) (am_op D F sz B) (am_en D F sz B) sm ln sp k j).1 < i)) → S' 86 (150 * k + (sq_gk (am_st sz F) (am_op D F sz B) (am_en D F sz B) sm ln sp k j).1) = nI (4096 + 4 * ly_W C D F sz B sm ln sp K j) := h.2.2
def ly_MO (C D : Nat → Nat → Int32) (F : Nat) (sz : Nat → Nat) (B : Nat → Prop) (bo : Nat → Nat) (sm : Nat → Nat → Prop) (ln sp : Nat → Nat) (K : Nat) (S S' : Nat → Nat → Int32) : Prop := (∀ c j, (c = 69 → j ≠ 12) → c ≠ 78 → c ≠ 83 → c ≠ 86 → c ≠ 88 → S' c j = S c j) ∧ (S' 69 12 = nI (ly_R C D F sz B sm ln sp K K)) ∧ (∀ f p, f < F → p < sz f → B f → S' 88 (40 * f + p) = nI (4096 + 4 * ly_W C D F sz B sm ln sp K (am_st sz f + p))) ∧ (∀ f, f < F → S' 78 f = nI (4096 + 4 * ly_W C D F sz B sm ln sp K (am_st sz (bo f)))) ∧ (∀ k, k < K → S' 83 k = nI (4096 + 4 * ly_R C D F sz B sm ln sp K k)) ∧ (∀ k j, k < K → sq_ok (am_st sz F) (am_op D F sz B) (am_en D F sz B) sm ln sp k j → S' 86 (150 * k + (sq_gk (am_st sz F) (am_op D F sz B) (am_en D F sz B) sm ln sp k j).1) = nI (4096 + 4 * ly_W C D F sz B sm ln sp K j))
theorem ly_MO.fr {C D : Nat → Nat → Int32} {F : Nat} {sz : Nat → Nat} {B : Nat → Prop} {bo : Nat → Nat} {sm : Nat → Nat → Prop} {ln sp : Nat → Nat} {K : Nat} {S S' : Nat → Nat → Int32} (h : ly_MO C D F sz B bo sm ln sp K S S') : ∀ c j, (c = 69 → j ≠ 12) → c ≠ 78 → c ≠ 83 → c ≠ 86 → c ≠ 88 → S' c j = S c j := h.1
theorem ly_MO.wo {C D : Nat → Nat → Int32} {F : Nat} {sz : Nat → Nat} {B : Nat → Prop} {bo : Nat → Nat} {sm : Nat → Nat → Prop} {ln sp : Nat → Nat} {K : Nat} {S S' : Nat → Nat → Int32} (h : ly_MO C D F sz B bo sm ln sp K S S') : S' 69 12 = nI (ly_R C D F sz B sm ln sp K K) := h.2.1
theorem ly_MO.ad {C D : Nat → Nat → Int32} {F : Nat} {sz : Nat → Nat} {B : Nat → Prop} {bo : Nat → Nat} {sm : Nat → Nat → Prop} {ln sp : Nat → Nat} {K : Nat} {S S' : Nat → Nat → Int32} (h : ly_MO C D F sz B bo sm ln sp K S S') : ∀ f p, f < F → p < sz f → B f → S' 88 (40 * f + p) = nI (4096 + 4 * ly_W C D F sz B sm ln sp K (am_st sz f + p)) := h.2.2.1
theorem ly_MO.fo {C D : Nat → Nat → Int32} {F : Nat} {sz : Nat → Nat} {B : Nat → Prop} {bo : Nat → Nat} {sm : Nat → Nat → Prop} {ln sp : Nat → Nat} {K : Nat} {S S' : Nat → Nat → Int32} (h : ly_MO C D F sz B bo sm ln sp K S S') : ∀ f, f < F → S' 78 f = nI (4096 + 4 * ly_W C D F sz B sm ln sp K (am_st sz (bo f))) := h.2.2.2.1
theorem ly_MO.ra {C D : Nat → Nat → Int32} {F : Nat} {sz : Nat → Nat} {B : Nat → Prop} {bo : Nat → Nat} {sm : Nat → Nat → Prop} {ln sp : Nat → Nat} {K : Nat} {S S' : Nat → Nat → Int32} (h : ly_MO C D F sz B bo sm ln sp K S S') : ∀ k, k < K → S' 83 k = nI (4096 + 4 * ly_R C D F sz B sm ln sp K k) := h.2.2.2.2.1
theorem ly_MO.pa {C D : Nat → Nat → Int32} {F : Nat} {sz : Nat → Nat} {B : Nat → Prop} {bo : Nat → Nat} {sm : Nat → Nat → Prop} {ln sp : Nat → Nat} {K : Nat} {S S' : Nat → Nat → Int32} (h : ly_MO C D F sz B bo sm ln sp K S S') : ∀ k j, k < K → sq_ok (am_st sz F) (am_op D F sz B) (am_en D F sz B) sm ln sp k j → S' 86 (150 * k + (sq_gk (am_st sz F) (am_op D F sz B) (am_en D F sz B) sm ln sp k j).1) = nI (4096 + 4 * ly_W C D F sz B sm ln sp K j) := h.2.2.2.2.2
theorem sq_tmK {N : Nat} {op en : Nat → Prop} {sm : Nat → Nat → Prop} {ln sp : Nat → Nat} {k : Nat} (i : Nat) (h : i < (sq_gk N op en sm ln sp k N).1) : ∃ j, sq_ok N op en sm ln sp k j ∧ (sq_gk N op en sm ln sp k j).1 = i := by
  obtain ⟨j, _, h2, h3⟩ := sq_nth (P := sq_Pk N op en sm ln sp k) (n := ln k) N i h
  exact ⟨j, h2, h3⟩
theorem c_mo1 {C D : Nat → Nat → Int32} {F : Nat} {sz : Nat → Nat} {B : Nat → Prop} {bo : Nat → Nat} {sm : Nat → Nat → Prop} {ln sp : Nat → Nat} {K : Nat} {S : Nat → Nat → Int32} {e : am_E} {Q : am_Q} {kc ks : Nat} (hE : ly_E2 C D F sz B bo sm ln sp K) (hM : ly_ME D S F sz B bo sm ln sp K) {S1 : Nat → Nat → Int32} (h1 : ly_M1 C D F sz B sm ln sp K S S1 (am_st sz F) F) {k : Nat} (hk : k < K) {x1 : Value} (KK : ∀ S' x3, ly_M2 C D F sz B sm ln sp K S1 S' (k + 1) (k + 1) 0 → am_Go (mX12_layOut, 158, [.ref 69, x1, .int (nI k), x3], [], hp S' e, kc, ks, Q)) : ∀ (n i : Nat) (S' : Nat → Nat → Int32), (sq_gk (am_st sz F) (am_op D F sz B) (am_en D F sz B) sm ln sp k (am_st sz F)).1 < n + i → i ≤ (sq_gk (am_st sz F) (am_op D F sz B) (am_en D F sz B) sm ln sp k (am_st sz F)).1 → ly_M2 C D F sz B sm ln sp K S1 S' (k + 1) k i → am_Go (mX12_layOut, 113, [.ref 69, x1, .int (nI k), .int (nI i)], [], hp S' e, kc, ks, Q)
  | 0, i, S', g1, g2, hI => by omega
  | n + 1, i, S', g1, g2, hI => by
    have hP := hE.e.pg
    have hk60 := hE.e.k60
    have hl2 := hE.e.l2 hk
    have tm : (sq_gk (am_st sz F) (am_op D F sz B) (am_en D F sz B) sm ln sp k (am_st sz F)).1 ≤ 150 := sq_tm150 hl2.1 hP.t300
    have hM1 : ly_ME D S1 F sz B bo sm ln sp K := hM.u (fun c j _ a1 _ _ _ a2 => h1.fr c j a1 a2)
    have hM' : ly_ME D S' F sz B bo sm ln sp K := hM1.u (fun c j _ _ _ a1 a2 _ => hI.fr c j a1 a2)
    have e81 : S' 81 (nI k).toNatClampNeg = nI (sq_gk (am_st sz F) (am_op D F sz B) (am_en D F sz B) sm ln sp k (am_st sz F)).1 := by rw [nI_clamp (by omega)]; exact (hM'.rs.ro k hk).s81
    refine go_s 4 rfl ?_
    refine go_m rfl rfl (show vp_in (nI k) 60 from vp_in_nI (by omega) (by decide)) ?_
    refine go_s 1 rfl ?_
    refine go_if (fun c120 => ?_) (fun c120 => ?_)
    · have c120 : nI i < S' 81 (nI k).toNatClampNeg := c120
      rw [e81] at c120
      have hi := (nI_ltI (a := i) (by omega) (by omega)).mp c120
      obtain ⟨j, hok, ej⟩ := sq_tmK i hi
      obtain ⟨g, r, hg, hr, eg, e85⟩ := (hM'.rs.ro k hk).s85 j hok
      have h40 := hP.s40 g hg
      have hF := hP.hF
      rw [ej] at e85
      have hB : B g := ly_ok_B (D := D) (show 1 ≤ ln k by omega) hg hr (by rw [← eg]; exact hok)
      have e88 : S' 88 (40 * g + r) = nI (4096 + 4 * ly_W C D F sz B sm ln sp K j) := by
        rw [hI.fr 88 _ (by decide) (by decide), h1.ad g r hg hr hB (hP.lt hg hr), eg]
      have hX9 : vp_in (nI (150 * k + i)) 9000 := vp_in_nI (by omega) (by decide)
      have hc9 := nI_clamp (show 150 * k + i < 2 ^ 31 by omega)
      refine go_s 16 (pc' := 149) (ls' := [.ref 69, x1, .int (nI k), .int (nI i)]) (st' := [.int (nI (150 * k + i)), .ref 85, .ref 88, .int (nI (150 * k + i)), .ref 86]) (h' := hp S' e) (by rw [show nI (150 * k + i) = nI 150 * nI k + nI i by rw [nI_mul, nI_add]]; rfl) ?_
      refine go_m rfl rfl hX9 ?_
      show am_Go (mX12_layOut, 150, [.ref 69, x1, .int (nI k), .int (nI i)], [.int (S' 85 (nI (150 * k + i)).toNatClampNeg), .ref 88, .int (nI (150 * k + i)), .ref 86], hp S' e, _, _, Q)
      rw [hc9, e85]
      refine go_m rfl rfl (show vp_in (nI (40 * g + r)) 960 from vp_in_nI (by omega) (by decide)) ?_
      show am_Go (mX12_layOut, 151, [.ref 69, x1, .int (nI k), .int (nI i)], [.int (S' 88 (nI (40 * g + r)).toNatClampNeg), .int (nI (150 * k + i)), .ref 86], hp S' e, _, _, Q)
      rw [nI_clamp (show 40 * g + r < 2 ^ 31 by omega), e88]
      refine go_m rfl rfl hX9 ?_
      show am_Go (mX12_layOut, 152, [.ref 69, x1, .int (nI k), .int (nI i)], [], hp (am_u S' 86 (nI (150 * k + i)).toNatClampNeg (nI (4096 + 4 * ly_W C D F sz B sm ln sp K j))) e, _, _, Q)
      rw [hc9]
      refine go_s 2 (pc' := 113) (ls' := [.ref 69, x1, .int (nI k), .int (nI (i + 1))]) (st' := []) (h' := hp (am_u S' 86 (150 * k + i) (nI (4096 + 4 * ly_W C D F sz B sm ln sp K j))) e) (by rw [← nI_1 i]; rfl) ?_
      refine c_mo1 hE hM h1 hk KK n (i + 1) _ (by omega) (by omega) ⟨fun c j a1 a2 => (am_u_ne a2).trans (hI.fr c j a1 a2), fun m hm => (am_u_ne (by decide)).trans (hI.ra m hm), fun m l a1 a2 a3 => ?_⟩
      have hlm := sq_ix_tm (by have := (hE.e.l2 a1).1; omega) a2
      have tm2 : (sq_gk (am_st sz F) (am_op D F sz B) (am_en D F sz B) sm ln sp m (am_st sz F)).1 ≤ 150 := sq_tm150 (hE.e.l2 a1).1 hP.t300
      by_cases e1 : 150 * m + (sq_gk (am_st sz F) (am_op D F sz B) (am_en D F sz B) sm ln sp m l).1 = 150 * k + i
      · have em : m = k := by omega
        subst em
        have el : (sq_gk (am_st sz F) (am_op D F sz B) (am_en D F sz B) sm ln sp m l).1 = (sq_gk (am_st sz F) (am_op D F sz B) (am_en D F sz B) sm ln sp m j).1 := by omega
        have : l = j := by
          have l1 := sq_gr_last (P := sq_Pk (am_st sz F) (am_op D F sz B) (am_en D F sz B) sm ln sp m) (show 1 ≤ ln m by omega)
          rcases Nat.lt_trichotomy l j with y | y | y
          · have := ((l1 j).2 l y a2.1 a2.2).2
            have h0 : (sq_gk (am_st sz F) (am_op D F sz B) (am_en D F sz B) sm ln sp m l).1 < (sq_gk (am_st sz F) (am_op D F sz B) (am_en D F sz B) sm ln sp m j).1 := this
            omega
          · exact y
          · have := ((l1 l).2 j y hok.1 hok.2).2
            have h0 : (sq_gk (am_st sz F) (am_op D F sz B) (am_en D F sz B) sm ln sp m j).1 < (sq_gk (am_st sz F) (am_op D F sz B) (am_en D F sz B) sm ln sp m l).1 := this
            omega
        subst this
        rw [e1, am_u_eq]
      · rw [am_u_nj e1]
        exact hI.pa m l a1 a2 (by
          rcases a3 with z | ⟨z1, z2⟩
          · exact Or.inl z
          · refine Or.inr ⟨z1, ?_⟩
            subst z1
            omega)
    · have c120 : ¬ nI i < S' 81 (nI k).toNatClampNeg := c120
      rw [e81] at c120
      have hge := mt (nI_lt (a := i) (b := (sq_gk (am_st sz F) (am_op D F sz B) (am_en D F sz B) sm ln sp k (am_st sz F)).1) · (by omega)) c120
      refine KK S' _ ⟨hI.fr, hI.ra, fun m l a1 a2 a3 => hI.pa m l a1 a2 ?_⟩
      have hlm := sq_ix_tm (by have := (hE.e.l2 a1).1; omega) a2
      by_cases em : m = k
      · subst em; exact Or.inr ⟨rfl, by omega⟩
      · exact Or.inl (by omega)
theorem c_mo2 {C D : Nat → Nat → Int32} {F : Nat} {sz : Nat → Nat} {B : Nat → Prop} {bo : Nat → Nat} {sm : Nat → Nat → Prop} {ln sp : Nat → Nat} {K : Nat} {S : Nat → Nat → Int32} {e : am_E} {Q : am_Q} {kc ks : Nat} (hE : ly_E2 C D F sz B bo sm ln sp K) (hM : ly_ME D S F sz B bo sm ln sp K) {S1 : Nat → Nat → Int32} (h1 : ly_M1 C D F sz B sm ln sp K S S1 (am_st sz F) F) (KK : ∀ S' x3, ly_M2 C D F sz B sm ln sp K S1 S' K K 0 → am_Go (mX12_layOut, 164, [.ref 69, .int (nI (4096 + 4 * ly_R C D F sz B sm ln sp K K)), .int (nI K), x3], [], hp S' e, kc, ks, Q)) : ∀ (n k : Nat) (x3 : Value) (S' : Nat → Nat → Int32), K < n + k → k ≤ K → ly_M2 C D F sz B sm ln sp K S1 S' k k 0 → am_Go (mX12_layOut, 83, [.ref 69, .int (nI (4096 + 4 * ly_R C D F sz B sm ln sp K k)), .int (nI k), x3], [], hp S' e, kc, ks, Q)
  | 0, k, x3, S', g1, g2, hI => by omega
  | n + 1, k, x3, S', g1, g2, hI => by
    have hP := hE.e.pg
    have hk60 := hE.e.k60
    have hM1 : ly_ME D S1 F sz B bo sm ln sp K := hM.u (fun c j _ a1 _ _ _ a2 => h1.fr c j a1 a2)
    have hM' : ly_ME D S' F sz B bo sm ln sp K := hM1.u (fun c j _ _ _ a1 a2 _ => hI.fr c j a1 a2)
    refine go_s 4 rfl ?_
    refine go_if (fun c88 => ?_) (fun c88 => ?_)
    rotate_left
    · have c88 : ¬ nI k < S' 69 13 := c88
      rw [hM'.k] at c88
      have hge := mt (nI_lt (a := k) (b := K) · (by omega)) c88
      have ef : k = K := by omega
      subst ef
      exact KK S' _ hI
    have c88 : nI k < S' 69 13 := c88
    rw [hM'.k] at c88
    have hk := (nI_ltI (a := k) (b := K) (by omega) (by omega)).mp c88
    have hX : vp_in (nI k) 60 := vp_in_nI (by omega) (by decide)
    have hck := nI_clamp (show k < 2 ^ 31 by omega)
    refine go_s 4 rfl ?_
    refine go_m rfl rfl hX ?_
    show am_Go (mX12_layOut, 98, [.ref 69, .int (nI (4096 + 4 * ly_R C D F sz B sm ln sp K k)), .int (nI k), x3], [], hp (am_u S' 83 (nI k).toNatClampNeg (nI (4096 + 4 * ly_R C D F sz B sm ln sp K k))) e, _, _, Q)
    rw [hck]
    have hI2 : ly_M2 C D F sz B sm ln sp K S1 (am_u S' 83 k (nI (4096 + 4 * ly_R C D F sz B sm ln sp K k))) (k + 1) k 0 := by
      refine ⟨fun c j a1 a2 => (am_u_ne a1).trans (hI.fr c j a1 a2), fun m hm => ?_, fun m j a1 a2 a3 => (am_u_ne (by decide)).trans (hI.pa m j a1 a2 a3)⟩
      by_cases em : m = k
      · subst em; rw [am_u_eq]
      · rw [am_u_nj em]; exact hI.ra m (by omega)
    have e80 : am_u S' 83 k (nI (4096 + 4 * ly_R C D F sz B sm ln sp K k)) 80 k = nI (ln k) := (am_u_ne (by decide)).trans (hM'.rs.ro k hk).s80
    generalize am_u S' 83 k (nI (4096 + 4 * ly_R C D F sz B sm ln sp K k)) = S2 at hI2 e80 ⊢
    refine go_s 5 rfl ?_
    refine go_m rfl rfl hX ?_
    show am_Go (mX12_layOut, 106, [.ref 69, .int (nI (4096 + 4 * ly_R C D F sz B sm ln sp K k)), .int (nI k), x3], [.int (S2 80 (nI k).toNatClampNeg), .int 4, .int (nI (4096 + 4 * ly_R C D F sz B sm ln sp K k))], hp S2 e, _, _, Q)
    rw [hck, e80]
    refine go_s 7 (pc' := 113) (ls' := [.ref 69, .int (nI (4096 + 4 * ly_R C D F sz B sm ln sp K (k + 1))), .int (nI k), .int (nI 0)]) (st' := []) (h' := hp S2 e) (by
      rw [ly_R_s, Nat.mul_add, ← Nat.add_assoc, ← nI_add _ (4 * (ln k + 1)), ← nI_mul 4 (ln k + 1), ← nI_1 (ln k)]
      rfl) ?_
    refine c_mo1 hE hM h1 hk (fun S3 y3 h3 => ?_) _ 0 S2 (Nat.lt_succ_self _) (Nat.zero_le _) hI2
    refine go_s 2 (pc' := 83) (ls' := [.ref 69, .int (nI (4096 + 4 * ly_R C D F sz B sm ln sp K (k + 1))), .int (nI (k + 1)), y3]) (st' := []) (h' := hp S3 e) (by rw [← nI_1 k]; rfl) ?_
    exact c_mo2 hE hM h1 KK n (k + 1) _ S3 (by omega) (by omega) h3
def ly_M3 (C D : Nat → Nat → Int32) (F : Nat) (sz : Nat → Nat) (B : Nat → Prop) (bo : Nat → Nat) (sm : Nat → Nat → Prop) (ln sp : Nat → Nat) (K : Nat) (S2 S' : Nat → Nat → Int32) (g : Nat) : Prop := (∀ c j, c ≠ 78 → S' c j = S2 c j) ∧ (∀ f, f < F → B f → S' 78 f = nI (4096 + 4 * ly_W C D F sz B sm ln sp K (am_st sz f))) ∧ (∀ f, f < F → f < g → S' 78 f = nI (4096 + 4 * ly_W C D F sz B sm ln sp K (am_st sz (bo f))))
theorem ly_M3.fr {C D : Nat → Nat → Int32} {F : Nat} {sz : Nat → Nat} {B : Nat → Prop} {bo : Nat → Nat} {sm : Nat → Nat → Prop} {ln sp : Nat → Nat} {K : Nat} {S2 S' : Nat → Nat → Int32} {g : Nat} (h : ly_M3 C D F sz B bo sm ln sp K S2 S' g) : ∀ c j, c ≠ 78 → S' c j = S2 c j := h.1
theorem ly_M3.fb {C D : Nat → Nat → Int32} {F : Nat} {sz : Nat → Nat} {B : Nat → Prop} {bo : Nat → Nat} {sm : Nat → Nat → Prop} {ln sp : Nat → Nat} {K : Nat} {S2 S' : Nat → Nat → Int32} {g : Nat} (h : ly_M3 C D F sz B bo sm ln sp K S2 S' g) : ∀ f, f < F → B f → S' 78 f = nI (4096 + 4 * ly_W C D F sz B sm ln sp K (am_st sz f)) := h.2.1
theorem ly_M3.fo {C D : Nat → Nat → Int32} {F : Nat} {sz : Nat → Nat} {B : Nat → Prop} {bo : Nat → Nat} {sm : Nat → Nat → Prop} {ln sp : Nat → Nat} {K : Nat} {S2 S' : Nat → Nat → Int32} {g : Nat} (h : ly_M3 C D F sz B bo sm ln sp K S2 S' g) : ∀ f, f < F → f < g → S' 78 f = nI (4096 + 4 * ly_W C D F sz B sm ln sp K (am_st sz (bo f))) := h.2.2
theorem c_mo3 {C D : Nat → Nat → Int32} {F : Nat} {sz : Nat → Nat} {B : Nat → Prop} {bo : Nat → Nat} {sm : Nat → Nat → Prop} {ln sp : Nat → Nat} {K : Nat} {S : Nat → Nat → Int32} {e : am_E} {Q : am_Q} {kc ks : Nat} (hE : ly_E2 C D F sz B bo sm ln sp K) (hM : ly_ME D S F sz B bo sm ln sp K) {S2 : Nat → Nat → Int32} {x1 : Value} (hM2 : ly_ME D S2 F sz B bo sm ln sp K) (KK : ∀ S', ly_M3 C D F sz B bo sm ln sp K S2 S' F → Q none (hp S' e)) {x3 : Value} : ∀ (n f : Nat) (S' : Nat → Nat → Int32), F < n + f → f ≤ F → ly_M3 C D F sz B bo sm ln sp K S2 S' f → am_Go (mX12_layOut, 177, [.ref 69, x1, .int (nI f), x3], [], hp S' e, kc, ks, Q)
  | 0, f, S', g1, g2, hI => by omega
  | n + 1, f, S', g1, g2, hI => by
    have hP := hE.e.pg
    have hF := hP.hF
    have hM' : ly_ME D S' F sz B bo sm ln sp K := hM2.u (fun c j _ a1 _ _ _ _ => hI.fr c j a1)
    have m1 : S' 69 1 = nI F := hM'.ms.1.trans hP.m1
    refine go_s 4 rfl ?_
    refine go_if (fun c11 => ?_) (fun c11 => ?_)
    rotate_left
    · have c11 : ¬ nI f < S' 69 1 := c11
      rw [m1] at c11
      have hge := mt (nI_lt (a := f) (b := F) · (by omega)) c11
      have ef : f = F := by omega
      subst ef
      exact go_retv rfl rfl (KK S' hI)
    have c11 : nI f < S' 69 1 := c11
    rw [m1] at c11
    have hf := (nI_ltI (a := f) (b := F) (by omega) (by omega)).mp c11
    have hb := hE.bo f hf
    have hX : vp_in (nI f) 24 := vp_in_nI (by omega) (by decide)
    have hck := nI_clamp (show f < 2 ^ 31 by omega)
    refine go_s 8 rfl ?_
    refine go_m rfl rfl hX ?_
    show am_Go (mX12_layOut, 200, [.ref 69, x1, .int (nI f), x3], [.int (S' 77 (nI f).toNatClampNeg), .ref 78, .int (nI f), .ref 78], hp S' e, _, _, Q)
    rw [hck, hM'.bd f hf]
    refine go_m rfl rfl (show vp_in (nI (bo f)) 24 from vp_in_nI (by omega) (by decide)) ?_
    show am_Go (mX12_layOut, 201, [.ref 69, x1, .int (nI f), x3], [.int (S' 78 (nI (bo f)).toNatClampNeg), .int (nI f), .ref 78], hp S' e, _, _, Q)
    rw [nI_clamp (show bo f < 2 ^ 31 by omega), hI.fb (bo f) hb.1 hb.2.1]
    refine go_m rfl rfl hX ?_
    show am_Go (mX12_layOut, 202, [.ref 69, x1, .int (nI f), x3], [], hp (am_u S' 78 (nI f).toNatClampNeg (nI (4096 + 4 * ly_W C D F sz B sm ln sp K (am_st sz (bo f))))) e, _, _, Q)
    rw [hck]
    refine go_s 2 (pc' := 177) (ls' := [.ref 69, x1, .int (nI (f + 1)), x3]) (st' := []) (h' := hp (am_u S' 78 f (nI (4096 + 4 * ly_W C D F sz B sm ln sp K (am_st sz (bo f))))) e) (by rw [← nI_1 f]; rfl) ?_
    refine c_mo3 hE hM hM2 KK n (f + 1) _ (by omega) (by omega) ⟨fun c j a1 => (am_u_ne a1).trans (hI.fr c j a1), fun g a1 a2 => ?_, fun g a1 a2 => ?_⟩
    · by_cases eg : g = f
      · subst eg
        rw [am_u_eq, (hM.bb g hf).mp a2]
      · rw [am_u_nj eg]; exact hI.fb g a1 a2
    · by_cases eg : g = f
      · subst eg; rw [am_u_eq]
      · rw [am_u_nj eg]; exact hI.fo g a1 (by omega)
theorem c_X12_layOut {C D : Nat → Nat → Int32} {F : Nat} {sz : Nat → Nat} {B : Nat → Prop} {bo : Nat → Nat} {sm : Nat → Nat → Prop} {ln sp : Nat → Nat} {K : Nat} {S : Nat → Nat → Int32} {e : am_E} {Q : am_Q} {kc ks : Nat} (hE : ly_E2 C D F sz B bo sm ln sp K) (hM : ly_ME D S F sz B bo sm ln sp K) (q : ∀ S', ly_MO C D F sz B bo sm ln sp K S S' → Q none (hp S' e)) : am_Go (mX12_layOut, 0, am_ent mX12_layOut [.ref 69], [], hp S e, kc, ks, Q) := by
  have hP := hE.e.pg
  refine go_s 4 (pc' := 6) (ls' := [.ref 69, .int (nI (4096 + 4 * ly_W C D F sz B sm ln sp K (am_st sz 0))), .int (nI 0), .long 0]) (st' := []) (h' := hp S e) rfl ?_
  refine c_mlf hE hM (fun S1 y3 h1 => ?_) (F + 1) 0 _ S (by omega) (Nat.zero_le _) ⟨fun _ _ _ _ => rfl, fun f p _ _ _ z => absurd z (Nat.not_lt_zero _), fun f _ _ z => absurd z (Nat.not_lt_zero _)⟩
  refine go_s 2 (pc' := 83) (ls' := [.ref 69, .int (nI (4096 + 4 * ly_R C D F sz B sm ln sp K 0)), .int (nI 0), y3]) (st' := []) (h' := hp S1 e) rfl ?_
  refine c_mo2 hE hM h1 (fun S2 z3 h2 => ?_) (K + 1) 0 _ S1 (by omega) (Nat.zero_le _) ⟨fun _ _ _ _ => rfl, fun k hk => absurd hk (Nat.not_lt_zero _), fun k j _ _ z => by omega⟩
  have hR6 := hE.R6 (Nat.le_refl K)
  refine go_s 5 rfl ?_
  refine go_m rfl rfl (by decide) ?_
  refine go_s 3 (pc' := 177) (ls' := [.ref 69, .int (nI (4096 + 4 * ly_R C D F sz B sm ln sp K K)), .int (nI 0), z3]) (st' := []) (h' := hp (am_u S2 69 12 (nI (ly_R C D F sz B sm ln sp K K))) e) (by rw [← am_dvw4 _ (show ly_R C D F sz B sm ln sp K K < 1001 by omega)]; rfl) ?_
  have hM2 : ly_ME D (am_u S2 69 12 (nI (ly_R C D F sz B sm ln sp K K))) F sz B bo sm ln sp K := hM.u (fun c j a0 a1 _ a3 a4 a5 => by
    rw [show am_u S2 69 12 (nI (ly_R C D F sz B sm ln sp K K)) c j = S2 c j by unfold am_u; rw [if_neg (fun z => a0 z.1 z.2)], h2.fr c j a3 a4, h1.fr c j a1 a5])
  refine c_mo3 hE hM hM2 (fun S3 h3 => q S3 ⟨fun c j a0 a1 a3 a4 a5 => ?_, ?_, fun f p a1 a2 a3 => ?_, fun f hf => h3.fo f hf hf, fun k hk => ?_, fun k j hk hj => ?_⟩) (F + 1) 0 _ (by omega) (Nat.zero_le _) ⟨fun _ _ _ => rfl, fun f hf hB => ?_, fun f _ z => absurd z (Nat.not_lt_zero _)⟩
  · rw [h3.fr c j a1, show am_u S2 69 12 (nI (ly_R C D F sz B sm ln sp K K)) c j = S2 c j by unfold am_u; rw [if_neg (fun z => a0 z.1 z.2)], h2.fr c j a3 a4, h1.fr c j a1 a5]
  · rw [h3.fr 69 12 (by decide), am_u_eq]
  · rw [h3.fr 88 _ (by decide), am_u_ne (by decide), h2.fr 88 _ (by decide) (by decide)]
    exact h1.ad f p a1 a2 a3 (hP.lt a1 a2)
  · rw [h3.fr 83 k (by decide), am_u_ne (by decide)]; exact h2.ra k hk
  · rw [h3.fr 86 _ (by decide), am_u_ne (by decide)]; exact h2.pa k j hk hj (Or.inl hk)
  · rw [am_u_ne (by decide), h2.fr 78 f (by decide) (by decide)]; exact h1.fo f hf hB hf
