def ly_ME (D S : Nat → Nat → Int32) (F : Nat) (sz : Nat → Nat) (B : Nat → Prop) (bo : Nat → Nat) (sm : Nat → Nat → Prop) (ln sp : Nat → Nat) (K : Nat) : Prop := (am_MS S D) ∧ (∀ f, f < F → S 77 f = nI (bo f)) ∧ (∀ f, f < F → (B f ↔ bo f = f)) ∧ (S 69 13 = nI K) ∧ (am_MRS S F sz (am_op D F sz B) (am_en D F sz B) sm ln sp K)
theorem ly_ME.ms {D S : Nat → Nat → Int32} {F : Nat} {sz : Nat → Nat} {B : Nat → Prop} {bo : Nat → Nat} {sm : Nat → Nat → Prop} {ln sp : Nat → Nat} {K : Nat} (h : ly_ME D S F sz B bo sm ln sp K) : am_MS S D := h.1
theorem ly_ME.bd {D S : Nat → Nat → Int32} {F : Nat} {sz : Nat → Nat} {B : Nat → Prop} {bo : Nat → Nat} {sm : Nat → Nat → Prop} {ln sp : Nat → Nat} {K : Nat} (h : ly_ME D S F sz B bo sm ln sp K) : ∀ f, f < F → S 77 f = nI (bo f) := h.2.1
theorem ly_ME.bb {D S : Nat → Nat → Int32} {F : Nat} {sz : Nat → Nat} {B : Nat → Prop} {bo : Nat → Nat} {sm : Nat → Nat → Prop} {ln sp : Nat → Nat} {K : Nat} (h : ly_ME D S F sz B bo sm ln sp K) : ∀ f, f < F → (B f ↔ bo f = f) := h.2.2.1
theorem ly_ME.k {D S : Nat → Nat → Int32} {F : Nat} {sz : Nat → Nat} {B : Nat → Prop} {bo : Nat → Nat} {sm : Nat → Nat → Prop} {ln sp : Nat → Nat} {K : Nat} (h : ly_ME D S F sz B bo sm ln sp K) : S 69 13 = nI K := h.2.2.2.1
theorem ly_ME.rs {D S : Nat → Nat → Int32} {F : Nat} {sz : Nat → Nat} {B : Nat → Prop} {bo : Nat → Nat} {sm : Nat → Nat → Prop} {ln sp : Nat → Nat} {K : Nat} (h : ly_ME D S F sz B bo sm ln sp K) : am_MRS S F sz (am_op D F sz B) (am_en D F sz B) sm ln sp K := h.2.2.2.2
theorem ly_ME.u {D S S' : Nat → Nat → Int32} {F : Nat} {sz : Nat → Nat} {B : Nat → Prop} {bo : Nat → Nat} {sm : Nat → Nat → Prop} {ln sp : Nat → Nat} {K : Nat} (h : ly_ME D S F sz B bo sm ln sp K) (hf : ∀ c j, (c = 69 → j ≠ 12) → c ≠ 78 → c ≠ 79 → c ≠ 83 → c ≠ 86 → c ≠ 88 → S' c j = S c j) : ly_ME D S' F sz B bo sm ln sp K := by
  refine ⟨h.ms.u (fun c j h1 h2 h3 => hf c j (by omega) (by omega) (by omega) (by omega) (by omega) (by omega)), fun f hF => (hf 77 f (by omega) (by decide) (by decide) (by decide) (by decide) (by decide)).trans (h.bd f hF), h.bb, (hf 69 13 (by omega) (by decide) (by decide) (by decide) (by decide) (by decide)).trans h.k, fun k hk => ?_, fun f p h1 h2 => ?_, fun f p h1 h2 => ?_⟩
  · have r := h.rs.ro k hk
    refine ⟨(hf 80 k (by omega) (by decide) (by decide) (by decide) (by decide) (by decide)).trans r.s80, (hf 81 k (by omega) (by decide) (by decide) (by decide) (by decide) (by decide)).trans r.s81, ?_, ?_, fun j hj => ?_⟩
    · rw [hf 82 k (by omega) (by decide) (by decide) (by decide) (by decide) (by decide)]; exact r.s82
    · rw [hf 84 k (by omega) (by decide) (by decide) (by decide) (by decide) (by decide)]; exact r.s84
    · rw [hf 85 _ (by omega) (by decide) (by decide) (by decide) (by decide) (by decide)]; exact r.s85 j hj
  · rw [hf 87 _ (by omega) (by decide) (by decide) (by decide) (by decide) (by decide)]; exact h.rs.ir f p h1 h2
  · rw [hf 89 _ (by omega) (by decide) (by decide) (by decide) (by decide) (by decide)]; exact h.rs.bg f p h1 h2
theorem c_X12_wordsOf {C D : Nat → Nat → Int32} {F : Nat} {sz : Nat → Nat} {B : Nat → Prop} {bo : Nat → Nat} {sm : Nat → Nat → Prop} {ln sp : Nat → Nat} {K : Nat} {S : Nat → Nat → Int32} {e : am_E} {Q : am_Q} {kc ks : Nat} (hE : ly_E2 C D F sz B bo sm ln sp K) (hM : ly_ME D S F sz B bo sm ln sp K) {f p : Nat} (hf : f < F) (hq : p < sz f) (hB : B f) (q : Q (some (.int (nI (ly_n C D F sz B sm ln sp K (am_st sz f + p))))) (hp S e)) : am_Go (mX12_wordsOf, 0, am_ent mX12_wordsOf [.ref 69, .int (nI (40 * f + p))], [], hp S e, kc, ks, Q) := by
  have hP := hE.e.pg
  have hF := hP.hF
  have h40 := hP.s40 f hf
  have hk60 := hE.e.k60
  have hX : vp_in (nI (40 * f + p)) 960 := vp_in_nI (by omega) (by decide)
  have hcx := nI_clamp (show 40 * f + p < 2 ^ 31 by omega)
  have hbd : ly_bd F sz B (am_st sz f + p) := (ly_bd_i hf hq).mpr hB
  have hi := hM.rs.ir f p hf hq
  have hb := hM.rs.bg f p hf hq
  refine go_s 3 rfl ?_
  refine go_m rfl rfl hX ?_
  refine go_s 2 rfl ?_
  rcases hi with ⟨k, hk, e87, j, j1, j2, j3⟩ | ⟨e87, hnU⟩
  · have hU : sq_U (am_st sz F) (am_op D F sz B) (am_en D F sz B) sm ln sp K (am_st sz f + p) := sq_U_i.mpr ⟨k, j, hk, j1, j2, j3⟩
    refine go_if (fun c => absurd c ?_) (fun c => ?_)
    · show ¬ S 87 (nI (40 * f + p)).toNatClampNeg = -1
      rw [hcx, e87]
      exact fun z => nI_pos (n := k) (by omega) (by rw [z]; decide)
    refine go_s 3 rfl ?_
    refine go_m rfl rfl hX ?_
    refine go_s 1 rfl ?_
    rcases hb with ⟨e89, hnb⟩ | ⟨e89, hbg⟩
    · refine go_if (fun c => ?_) (fun c => absurd (show S 89 (nI (40 * f + p)).toNatClampNeg = 0 by rw [hcx]; exact e89) c)
      refine go_s 2 rfl ?_
      refine go_ret rfl rfl (am_qi q ?_ rfl)
      rw [show ly_n C D F sz B sm ln sp K (am_st sz f + p) = 0 from ly_w_cv hbd hU hnb]; rfl
    · refine go_if (fun c => absurd c (show ¬ S 89 (nI (40 * f + p)).toNatClampNeg = 0 by rw [hcx, e89]; decide)) (fun c => ?_)
      refine go_s 2 rfl ?_
      refine go_ret rfl rfl (am_qi q ?_ rfl)
      rw [show ly_n C D F sz B sm ln sp K (am_st sz f + p) = 1 from ly_w_bg hbd hU hbg]; rfl
  · refine go_if (fun c => ?_) (fun c => absurd (show S 87 (nI (40 * f + p)).toNatClampNeg = -1 by rw [hcx]; exact e87) c)
    refine go_s 3 rfl ?_
    refine go_m rfl rfl hX ?_
    refine go_s 2 rfl ?_
    have e71 : S 71 (nI (40 * f + p)).toNatClampNeg = C 2 (am_st sz f + p) := by rw [hcx, hM.ms.me 71 _ (by decide) (by decide)]; exact (hP.ins f p hf hq).1.symm
    by_cases h32 : C 2 (am_st sz f + p) = 32
    · refine go_if (fun c => ?_) (fun c => absurd (e71.trans h32) c)
      refine go_s 2 rfl ?_
      refine go_ret rfl rfl (am_qi q ?_ rfl)
      rw [show ly_n C D F sz B sm ln sp K (am_st sz f + p) = 2 from ly_w_2 hbd hnU h32]; rfl
    · refine go_if (fun c => absurd (e71.symm.trans c) h32) (fun c => ?_)
      refine go_s 1 rfl ?_
      refine go_ret rfl rfl (am_qi q ?_ rfl)
      rw [show ly_n C D F sz B sm ln sp K (am_st sz f + p) = 1 from ly_w_1 hbd hnU h32]; rfl
def ly_M1 (C D : Nat → Nat → Int32) (F : Nat) (sz : Nat → Nat) (B : Nat → Prop) (sm : Nat → Nat → Prop) (ln sp : Nat → Nat) (K : Nat) (S S' : Nat → Nat → Int32) (s g : Nat) : Prop := (∀ c j, c ≠ 78 → c ≠ 88 → S' c j = S c j) ∧ (∀ f p, f < F → p < sz f → B f → am_st sz f + p < s → S' 88 (40 * f + p) = nI (4096 + 4 * ly_W C D F sz B sm ln sp K (am_st sz f + p))) ∧ (∀ f, f < F → B f → f < g → S' 78 f = nI (4096 + 4 * ly_W C D F sz B sm ln sp K (am_st sz f)))
theorem ly_M1.fr {C D : Nat → Nat → Int32} {F : Nat} {sz : Nat → Nat} {B : Nat → Prop} {sm : Nat → Nat → Prop} {ln sp : Nat → Nat} {K : Nat} {S S' : Nat → Nat → Int32} {s g : Nat} (h : ly_M1 C D F sz B sm ln sp K S S' s g) : ∀ c j, c ≠ 78 → c ≠ 88 → S' c j = S c j := h.1
theorem ly_M1.ad {C D : Nat → Nat → Int32} {F : Nat} {sz : Nat → Nat} {B : Nat → Prop} {sm : Nat → Nat → Prop} {ln sp : Nat → Nat} {K : Nat} {S S' : Nat → Nat → Int32} {s g : Nat} (h : ly_M1 C D F sz B sm ln sp K S S' s g) : ∀ f p, f < F → p < sz f → B f → am_st sz f + p < s → S' 88 (40 * f + p) = nI (4096 + 4 * ly_W C D F sz B sm ln sp K (am_st sz f + p)) := h.2.1
theorem ly_M1.fo {C D : Nat → Nat → Int32} {F : Nat} {sz : Nat → Nat} {B : Nat → Prop} {sm : Nat → Nat → Prop} {ln sp : Nat → Nat} {K : Nat} {S S' : Nat → Nat → Int32} {s g : Nat} (h : ly_M1 C D F sz B sm ln sp K S S' s g) : ∀ f, f < F → B f → f < g → S' 78 f = nI (4096 + 4 * ly_W C D F sz B sm ln sp K (am_st sz f)) := h.2.2
theorem c_mlx {C D : Nat → Nat → Int32} {F : Nat} {sz : Nat → Nat} {B : Nat → Prop} {bo : Nat → Nat} {sm : Nat → Nat → Prop} {ln sp : Nat → Nat} {K : Nat} {S : Nat → Nat → Int32} {e : am_E} {Q : am_Q} {kc ks : Nat} (hE : ly_E2 C D F sz B bo sm ln sp K) (hM : ly_ME D S F sz B bo sm ln sp K) {f : Nat} (hf : f < F) (hB : B f) (KK : ∀ S' x3, ly_M1 C D F sz B sm ln sp K S S' (am_st sz f + sz f) (f + 1) → am_Go (mX12_layOut, 75, [.ref 69, .int (nI (4096 + 4 * ly_W C D F sz B sm ln sp K (am_st sz f + sz f))), .int (nI f), x3], [], hp S' e, kc, ks, Q)) : ∀ (n p : Nat) (S' : Nat → Nat → Int32), sz f < n + p → p ≤ sz f → ly_M1 C D F sz B sm ln sp K S S' (am_st sz f + p) (f + 1) → am_Go (mX12_layOut, 37, [.ref 69, .int (nI (4096 + 4 * ly_W C D F sz B sm ln sp K (am_st sz f + p))), .int (nI f), .int (nI (40 * f + p))], [], hp S' e, kc, ks, Q)
  | 0, p, S', g1, g2, hI => by omega
  | n + 1, p, S', g1, g2, hI => by
    have hP := hE.e.pg
    have hF := hP.hF
    have h40 := hP.s40 f hf
    have ht := hP.t300
    have hlf : am_st sz f + sz f ≤ am_st sz F := am_st_le (sz := sz) (show f + 1 ≤ F by omega)
    have hM' : ly_ME D S' F sz B bo sm ln sp K := hM.u (fun c j _ h1 _ _ _ h2 => hI.fr c j h1 h2)
    have e16 : nI 40 * nI f + S' 70 (nI f).toNatClampNeg = nI (40 * f + sz f) := by rw [nI_clamp (by omega), hM'.ms.me 70 f (by decide) (by decide), hP.m70 f hf, nI_mul, nI_add]
    refine go_s 7 rfl ?_
    refine go_m rfl rfl (show vp_in (nI f) 24 from vp_in_nI (by omega) (by decide)) ?_
    refine go_s 2 rfl ?_
    refine go_if (fun c17 => ?_) (fun c17 => ?_)
    · have c17 : nI (40 * f + p) < nI 40 * nI f + S' 70 (nI f).toNatClampNeg := c17
      rw [e16] at c17
      have hq : p < sz f := by
        have := (nI_ltI (a := 40 * f + p) (b := 40 * f + sz f) (by omega) (by omega)).mp c17
        omega
      have hX : vp_in (nI (40 * f + p)) 960 := vp_in_nI (by omega) (by decide)
      have hcx := nI_clamp (show 40 * f + p < 2 ^ 31 by omega)
      refine go_s 4 rfl ?_
      refine go_m rfl rfl hX ?_
      show am_Go (mX12_layOut, 59, [.ref 69, .int (nI (4096 + 4 * ly_W C D F sz B sm ln sp K (am_st sz f + p))), .int (nI f), .int (nI (40 * f + p))], [], hp (am_u S' 88 (nI (40 * f + p)).toNatClampNeg (nI (4096 + 4 * ly_W C D F sz B sm ln sp K (am_st sz f + p)))) e, _, _, Q)
      rw [hcx]
      refine go_s 4 rfl ?_
      have hM2 : ly_ME D (am_u S' 88 (40 * f + p) (nI (4096 + 4 * ly_W C D F sz B sm ln sp K (am_st sz f + p)))) F sz B bo sm ln sp K := hM'.u (fun c j _ _ _ _ _ h2 => am_u_ne h2)
      refine go_v kX12_layOut_63 okX12_wordsOf rfl rfl rfl rfl (Nat.zero_le _) (Nat.zero_le _) ?_
      refine c_X12_wordsOf hE hM2 hf hq hB ?_
      refine go_s 5 (pc' := 37) (ls' := [.ref 69, .int (nI (4096 + 4 * ly_W C D F sz B sm ln sp K (am_st sz f + (p + 1)))), .int (nI f), .int (nI (40 * f + (p + 1)))]) (st' := []) (h' := hp (am_u S' 88 (40 * f + p) (nI (4096 + 4 * ly_W C D F sz B sm ln sp K (am_st sz f + p)))) e) (by
        rw [show ly_W C D F sz B sm ln sp K (am_st sz f + (p + 1)) = ly_W C D F sz B sm ln sp K (am_st sz f + p) + ly_n C D F sz B sm ln sp K (am_st sz f + p) from ly_W_s, Nat.mul_add, ← Nat.add_assoc, ← nI_add _ (4 * ly_n C D F sz B sm ln sp K (am_st sz f + p)), ← nI_mul 4, ← Nat.add_assoc (40 * f) p 1, ← nI_1 (40 * f + p)]
        rfl) ?_
      refine c_mlx hE hM hf hB KK n (p + 1) _ (by omega) (by omega) ⟨fun c j h1 h2 => (am_u_ne h2).trans (hI.fr c j h1 h2), fun g r h1 h2 h3 h4 => ?_, fun g h1 h2 h3 => (am_u_ne (by decide)).trans (hI.fo g h1 h2 h3)⟩
      by_cases e1 : am_st sz g + r = am_st sz f + p
      · obtain ⟨e2, e3⟩ := am_st_u h2 hq e1
        subst e2; subst e3
        rw [am_u_eq]
      · have hne : 40 * g + r ≠ 40 * f + p := fun z => by
          have := hP.s40 g h1
          have eg : g = f := by omega
          subst eg
          omega
        rw [am_u_nj hne]
        exact hI.ad g r h1 h2 h3 (by omega)
    · have c17 : ¬ nI (40 * f + p) < nI 40 * nI f + S' 70 (nI f).toNatClampNeg := c17
      rw [e16] at c17
      have hge := mt (nI_lt (a := 40 * f + p) (b := 40 * f + sz f) · (by omega)) c17
      have ep : p = sz f := by omega
      subst ep
      exact KK S' _ hI
theorem c_mlf {C D : Nat → Nat → Int32} {F : Nat} {sz : Nat → Nat} {B : Nat → Prop} {bo : Nat → Nat} {sm : Nat → Nat → Prop} {ln sp : Nat → Nat} {K : Nat} {S : Nat → Nat → Int32} {e : am_E} {Q : am_Q} {kc ks : Nat} (hE : ly_E2 C D F sz B bo sm ln sp K) (hM : ly_ME D S F sz B bo sm ln sp K) (KK : ∀ S' x3, ly_M1 C D F sz B sm ln sp K S S' (am_st sz F) F → am_Go (mX12_layOut, 81, [.ref 69, .int (nI (4096 + 4 * ly_W C D F sz B sm ln sp K (am_st sz F))), .int (nI F), x3], [], hp S' e, kc, ks, Q)) : ∀ (n f : Nat) (x3 : Value) (S' : Nat → Nat → Int32), F < n + f → f ≤ F → ly_M1 C D F sz B sm ln sp K S S' (am_st sz f) f → am_Go (mX12_layOut, 6, [.ref 69, .int (nI (4096 + 4 * ly_W C D F sz B sm ln sp K (am_st sz f))), .int (nI f), x3], [], hp S' e, kc, ks, Q)
  | 0, f, x3, S', g1, g2, hI => by omega
  | n + 1, f, x3, S', g1, g2, hI => by
    have hP := hE.e.pg
    have hF := hP.hF
    have hM' : ly_ME D S' F sz B bo sm ln sp K := hM.u (fun c j _ h1 _ _ _ h2 => hI.fr c j h1 h2)
    have m1 : S' 69 1 = nI F := hM'.ms.1.trans hP.m1
    refine go_s 4 rfl ?_
    refine go_if (fun c11 => ?_) (fun c11 => ?_)
    rotate_left
    · have c11 : ¬ nI f < S' 69 1 := c11
      rw [m1] at c11
      have hge := mt (nI_lt (a := f) (b := F) · (by omega)) c11
      have ef : f = F := by omega
      subst ef
      exact KK S' _ hI
    have c11 : nI f < S' 69 1 := c11
    rw [m1] at c11
    have hf := (nI_ltI (a := f) (b := F) (by omega) (by omega)).mp c11
    refine go_s 2 rfl ?_
    refine go_v kX12_layOut_16 okX12_isBody rfl rfl rfl rfl (Nat.zero_le _) (Nat.zero_le _) ?_
    refine c_X12_isBody (by omega) (fun r hr => ?_)
    have hbo := hE.bo f hf
    have hr2 : am_bz r (B f) := am_bz_iff hr (by rw [hM'.bd f hf, hM.bb f hf]; exact nI_eq (by omega) (by omega))
    refine go_s 1 rfl ?_
    rcases hr2 with ⟨rfl, hB⟩ | ⟨rfl, hB⟩
    · refine go_if (fun c => ?_) (fun c => absurd rfl c)
      have ew : ly_W C D F sz B sm ln sp K (am_st sz (f + 1)) = ly_W C D F sz B sm ln sp K (am_st sz f) := ly_W_nb hf hB (sz f) (Nat.le_refl _)
      refine go_s 3 (pc' := 6) (ls' := [.ref 69, .int (nI (4096 + 4 * ly_W C D F sz B sm ln sp K (am_st sz (f + 1)))), .int (nI (f + 1)), x3]) (st' := []) (h' := hp S' e) (by rw [← nI_1 f, ew]; rfl) ?_
      refine c_mlf hE hM KK n (f + 1) _ S' (by omega) (by omega) ⟨hI.fr, fun g r h1 h2 h3 h4 => ?_, fun g h1 h2 h3 => ?_⟩
      · refine hI.ad g r h1 h2 h3 ?_
        apply Classical.byContradiction
        intro z
        have h4 : am_st sz g + r < am_st sz f + sz f := h4
        obtain ⟨d, hd⟩ := Nat.exists_eq_add_of_le (show am_st sz f ≤ am_st sz g + r by omega)
        have := am_st_u h2 (show d < sz f by omega) hd
        rw [this.1] at h3
        exact hB h3
      · exact hI.fo g h1 h2 (by
          have : g ≠ f := fun z => hB (z ▸ h2)
          omega)
    · refine go_if (fun c => absurd c (by decide)) (fun c => ?_)
      refine go_s 4 rfl ?_
      refine go_m rfl rfl (show vp_in (nI f) 24 from vp_in_nI (by omega) (by decide)) ?_
      show am_Go (mX12_layOut, 32, [.ref 69, .int (nI (4096 + 4 * ly_W C D F sz B sm ln sp K (am_st sz f))), .int (nI f), x3], [], hp (am_u S' 78 (nI f).toNatClampNeg (nI (4096 + 4 * ly_W C D F sz B sm ln sp K (am_st sz f)))) e, _, _, Q)
      rw [nI_clamp (show f < 2 ^ 31 by omega)]
      refine go_s 4 (pc' := 37) (ls' := [.ref 69, .int (nI (4096 + 4 * ly_W C D F sz B sm ln sp K (am_st sz f + 0))), .int (nI f), .int (nI (40 * f + 0))]) (st' := []) (h' := hp (am_u S' 78 f (nI (4096 + 4 * ly_W C D F sz B sm ln sp K (am_st sz f)))) e) (by rw [show nI (40 * f + 0) = nI 40 * nI f from (nI_mul 40 f).symm]; rfl) ?_
      refine c_mlx hE hM hf hB (fun S2 y3 h2 => ?_) (sz f + 1) 0 _ (by omega) (by omega) ⟨fun c j h1 h2 => (am_u_ne h1).trans (hI.fr c j h1 h2), fun g r h1 h2 h3 h4 => (am_u_ne (by decide)).trans (hI.ad g r h1 h2 h3 h4), fun g h1 h2 h3 => ?_⟩
      · refine go_s 2 (pc' := 6) (ls' := [.ref 69, .int (nI (4096 + 4 * ly_W C D F sz B sm ln sp K (am_st sz (f + 1)))), .int (nI (f + 1)), y3]) (st' := []) (h' := hp S2 e) (by rw [← nI_1 f]; rfl) ?_
        exact c_mlf hE hM KK n (f + 1) _ S2 (by omega) (by omega) h2
      · by_cases eg : g = f
        · subst eg; rw [am_u_eq]
        · rw [am_u_nj eg]; exact hI.fo g h1 h2 (by omega)
