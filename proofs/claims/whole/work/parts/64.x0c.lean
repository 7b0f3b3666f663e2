def am_tk (D : Nat → Nat → Int32) (F : Nat) (sz : Nat → Nat) (f : Nat) : Prop := ∃ g p, g < F ∧ p < sz g ∧ D 71 (40 * g + p) = 32 ∧ D 73 (40 * g + p) = nI f
def am_tkS (C : Nat → Nat → Int32) (s f : Nat) : Prop := ∃ t, t < s ∧ am_num C (nI t) = 32 ∧ am_fb C (nI t) = nI f
theorem am_tkS_i {C D : Nat → Nat → Int32} {F : Nat} {sz : Nat → Nat} (hP : am_PG C D F sz) (f : Nat) : am_tkS C (am_st sz F) f ↔ am_tk D F sz f := by
  constructor
  · rintro ⟨t, ht, h1, h2⟩
    obtain ⟨g, p, hg, hpg, rfl⟩ := am_spx F t ht
    rw [hP.num hg hpg] at h1
    rw [hP.fb hg hpg, am_kB_32 h1] at h2
    exact ⟨g, p, hg, hpg, h1, h2⟩
  · rintro ⟨g, p, hg, hpg, h1, h2⟩
    refine ⟨am_st sz g + p, hP.lt hg hpg, ?_, ?_⟩
    · rw [hP.num hg hpg]; exact h1
    · rw [hP.fb hg hpg, am_kB_32 h1]; exact h2
theorem am_num_cg {C C' : Nat → Nat → Int32} (h1 : C' 1 6 = C 1 6) (h2 : ∀ j, C' 2 j = C 2 j) (s : Int32) : am_num C' s = am_num C s := by
  unfold am_num
  rw [h1, h2]
theorem am_fb_cg {C C' : Nat → Nat → Int32} (h1 : C' 1 6 = C 1 6) (h2 : ∀ j, C' 4 j = C 4 j) (s : Int32) : am_fb C' s = am_fb C s := by
  unfold am_fb
  rw [h1, h2]
theorem c_mt1 {C : Nat → Nat → Int32} {e : am_E} {Q : am_Q} {kc ks : Nat} {x2 : Value} (K : am_Go (mX0_markTaken, 24, [.ref 7, .int (nI 24), x2], [], hp (am_fil C 8 24 0) e, kc, ks, Q)) : ∀ (n k : Nat), n + k = 24 → am_Go (mX0_markTaken, 2, [.ref 7, .int (nI k), x2], [], hp (am_fil C 8 k 0) e, kc, ks, Q)
  | 0, k, h => by
    have e : k = 24 := by omega
    subst e
    refine go_s 5 rfl ?_
    refine go_if (fun c => absurd c (by decide)) (fun c => ?_)
    exact K
  | n + 1, k, h => by
    refine go_s 5 rfl ?_
    refine go_if (fun c => ?_) (fun c => absurd (show nI k < nI 24 from nI_lt (by omega) (by decide)) c)
    refine go_s 4 rfl ?_
    refine go_m rfl rfl (show vp_in (nI k) 24 from vp_in_nI (by omega) (by decide)) ?_
    refine go_s 2 (pc' := 2) (ls' := [.ref 7, .int (nI (k + 1)), x2]) (st' := []) (h' := hp (am_u (am_fil C 8 k 0) 8 (nI k).toNatClampNeg 0) e) (by rw [← nI_1]; rfl) ?_
    rw [nI_clamp (by omega), am_fil_s]
    exact c_mt1 K n (k + 1) (by omega)
def am_MK (C C' : Nat → Nat → Int32) (s : Nat) : Prop := (∀ c j, c ≠ 8 → C' c j = C c j) ∧ (∀ f, f < 24 → am_bz (C' 8 f) (am_tkS C s f))
theorem am_MK.fr {C C' : Nat → Nat → Int32} {s : Nat} (h : am_MK C C' s) : ∀ c j, c ≠ 8 → C' c j = C c j := h.1
theorem am_MK.bt {C C' : Nat → Nat → Int32} {s : Nat} (h : am_MK C C' s) : ∀ f, f < 24 → am_bz (C' 8 f) (am_tkS C s f) := h.2
theorem am_tkS_s {C : Nat → Nat → Int32} {s f : Nat} : am_tkS C (s + 1) f ↔ (am_tkS C s f ∨ (am_num C (nI s) = 32 ∧ am_fb C (nI s) = nI f)) := by
  constructor
  · rintro ⟨t, ht, h⟩
    by_cases e : t = s
    · rw [e] at h; exact Or.inr h
    · exact Or.inl ⟨t, by omega, h⟩
  · rintro (⟨t, ht, h⟩ | h)
    · exact ⟨t, by omega, h⟩
    · exact ⟨s, by omega, h⟩
theorem am_bz_cg {v : Int32} {p r : Prop} (h : p ↔ r) : am_bz v p ↔ am_bz v r := ⟨fun z => am_bz_iff z h, fun z => am_bz_iff z h.symm⟩
theorem c_mt2 {C D : Nat → Nat → Int32} {F : Nat} {sz : Nat → Nat} {e : am_E} {Q : am_Q} (hP : am_PG C D F sz) (q : ∀ C', am_MK C C' (am_st sz F) → Q none (hp C' e)) : ∀ (n kc ks s : Nat) (x2 : Value) (C' : Nat → Nat → Int32), am_st sz F < n + s → s ≤ am_st sz F → am_MK C C' s → am_Go (mX0_markTaken, 26, [.ref 7, .int (nI s), x2], [], hp C' e, kc, ks, Q)
  | 0, kc, ks, s, x2, C', h1, h2, hI => by omega
  | n + 1, kc, ks, s, x2, C', h1, h2, hI => by
    have ht := hP.t300
    have hS6 : (C' 1 6).toInt ≤ 300 := by rw [hI.fr 1 6 (by decide)]; exact hP.h6
    refine go_s 3 rfl ?_
    refine go_v kX0_markTaken_31 okX5_size rfl rfl rfl rfl (Nat.zero_le _) (Nat.zero_le _) ?_
    refine c_X5_size ?_
    refine go_s 1 rfl ?_
    refine go_if (fun c34 => ?_) (fun c34 => ?_)
    · refine go_s 3 rfl ?_
      refine go_v kX0_markTaken_42 okX5_numberAt rfl rfl rfl rfl (Nat.zero_le _) (Nat.zero_le _) ?_
      refine c_X5_numberAt hS6 ?_
      refine go_s 2 rfl ?_
      refine go_if (fun c47 => ?_) (fun c47 => ?_)
      · refine go_s 3 rfl ?_
        refine go_v kX0_markTaken_55 okX5_bAt rfl rfl rfl rfl (Nat.zero_le _) (Nat.zero_le _) ?_
        refine c_X5_bAt hS6 ?_
        refine go_s 3 rfl ?_
        refine go_if (fun c60 => ?_) (fun c60 => ?_)
        · have c34 : nI s < C' 1 6 := c34
          rw [hI.fr 1 6 (by decide), hP.cS] at c34
          have hs := (nI_ltI (a := s) (b := am_st sz F) (by omega) (by omega)).mp c34
          have n1 : am_num C' (nI s) = am_num C (nI s) := am_num_cg (hI.fr 1 6 (by decide)) (fun j => hI.fr 2 j (by decide)) _
          have n2 : am_fb C' (nI s) = am_fb C (nI s) := am_fb_cg (hI.fr 1 6 (by decide)) (fun j => hI.fr 4 j (by decide)) _
          have c47 : am_num C' (nI s) = 32 := c47
          rw [n1] at c47
          have c60 : am_fb C' (nI s) < 0 := c60
          rw [n2] at c60
          refine go_s 2 (pc' := 26) (ls' := [.ref 7, .int (nI (s + 1)), .int (am_fb C' (nI s))]) (st' := []) (h' := hp (C') e) (by rw [← nI_1]; rfl) ?_
          refine c_mt2 hP q n _ _ (s + 1) _ _ (by omega) (by omega) ⟨hI.fr, fun f hf => am_bz_iff (hI.bt f hf) ?_⟩
          rw [am_tkS_s]
          exact ⟨Or.inl, fun z => z.elim id (fun z => absurd z (fun z => nI_pos (n := f) (by omega) (by rw [← z.2]; exact c60)))⟩
        · refine go_s 5 rfl ?_
          refine go_if (fun c69 => ?_) (fun c69 => ?_)
          · refine go_s 4 rfl ?_
            refine go_m rfl rfl (show vp_in _ 24 from vpn (y := nI 24) c60 c69 (by decide)) ?_
            have c34 : nI s < C' 1 6 := c34
            rw [hI.fr 1 6 (by decide), hP.cS] at c34
            have hs := (nI_ltI (a := s) (b := am_st sz F) (by omega) (by omega)).mp c34
            have n1 : am_num C' (nI s) = am_num C (nI s) := am_num_cg (hI.fr 1 6 (by decide)) (fun j => hI.fr 2 j (by decide)) _
            have n2 : am_fb C' (nI s) = am_fb C (nI s) := am_fb_cg (hI.fr 1 6 (by decide)) (fun j => hI.fr 4 j (by decide)) _
            have c47 : am_num C' (nI s) = 32 := c47
            rw [n1] at c47
            have c60 : ¬ am_fb C' (nI s) < 0 := c60
            rw [n2] at c60
            have c69 : am_fb C' (nI s) < nI 24 := c69
            rw [n2] at c69
            refine go_s 2 (pc' := 26) (ls' := [.ref 7, .int (nI (s + 1)), .int (am_fb C' (nI s))]) (st' := []) (h' := hp (am_u C' 8 (am_fb C' (nI s)).toNatClampNeg 1) e) (by rw [← nI_1]; rfl) ?_
            obtain ⟨b, hb, eb⟩ := vp_in_of (n := 24) (vpn c60 c69 (by decide)) (by decide)
            rw [n2, eb, nI_clamp (by omega)]
            refine c_mt2 hP q n _ _ (s + 1) _ _ (by omega) (by omega) ⟨fun c j hc => (am_u_ne hc).trans (hI.fr c j hc), fun f hf => ?_⟩
            rw [am_bz_cg am_tkS_s]
            by_cases ef : f = b
            · subst ef; rw [am_u_eq]; exact Or.inr ⟨rfl, Or.inr ⟨c47, eb⟩⟩
            · rw [am_u_nj ef]
              exact am_bz_iff (hI.bt f hf) ⟨Or.inl, fun z => z.elim id (fun z => absurd ((nI_eq (by omega) (by omega)).mp (z.2.symm.trans eb)) ef)⟩
          · have c34 : nI s < C' 1 6 := c34
            rw [hI.fr 1 6 (by decide), hP.cS] at c34
            have hs := (nI_ltI (a := s) (b := am_st sz F) (by omega) (by omega)).mp c34
            have n1 : am_num C' (nI s) = am_num C (nI s) := am_num_cg (hI.fr 1 6 (by decide)) (fun j => hI.fr 2 j (by decide)) _
            have n2 : am_fb C' (nI s) = am_fb C (nI s) := am_fb_cg (hI.fr 1 6 (by decide)) (fun j => hI.fr 4 j (by decide)) _
            have c47 : am_num C' (nI s) = 32 := c47
            rw [n1] at c47
            have c60 : ¬ am_fb C' (nI s) < 0 := c60
            rw [n2] at c60
            have c69 : ¬ am_fb C' (nI s) < nI 24 := c69
            rw [n2] at c69
            refine go_s 2 (pc' := 26) (ls' := [.ref 7, .int (nI (s + 1)), .int (am_fb C' (nI s))]) (st' := []) (h' := hp (C') e) (by rw [← nI_1]; rfl) ?_
            refine c_mt2 hP q n _ _ (s + 1) _ _ (by omega) (by omega) ⟨hI.fr, fun f hf => am_bz_iff (hI.bt f hf) ?_⟩
            rw [am_tkS_s]
            exact ⟨Or.inl, fun z => z.elim id (fun z => absurd z (fun z => c69 (by rw [z.2]; exact nI_lt (by omega) (by decide))))⟩
      · have c34 : nI s < C' 1 6 := c34
        rw [hI.fr 1 6 (by decide), hP.cS] at c34
        have hs := (nI_ltI (a := s) (b := am_st sz F) (by omega) (by omega)).mp c34
        have n1 : am_num C' (nI s) = am_num C (nI s) := am_num_cg (hI.fr 1 6 (by decide)) (fun j => hI.fr 2 j (by decide)) _
        have n2 : am_fb C' (nI s) = am_fb C (nI s) := am_fb_cg (hI.fr 1 6 (by decide)) (fun j => hI.fr 4 j (by decide)) _
        have c47 : ¬ am_num C' (nI s) = 32 := c47
        rw [n1] at c47
        refine go_s 2 (pc' := 26) (ls' := [.ref 7, .int (nI (s + 1)), x2]) (st' := []) (h' := hp (C') e) (by rw [← nI_1]; rfl) ?_
        refine c_mt2 hP q n _ _ (s + 1) _ _ (by omega) (by omega) ⟨hI.fr, fun f hf => am_bz_iff (hI.bt f hf) ?_⟩
        rw [am_tkS_s]
        exact ⟨Or.inl, fun z => z.elim id (fun z => absurd z (fun z => c47 z.1))⟩
    · have c34 : ¬ nI s < C' 1 6 := c34
      rw [hI.fr 1 6 (by decide), hP.cS] at c34
      have hge := mt (nI_lt (a := s) (b := am_st sz F) · (by omega)) c34
      have es : s = am_st sz F := by omega
      rw [es] at hI
      exact go_retv rfl rfl (q C' hI)
theorem c_X0_markTaken {C D : Nat → Nat → Int32} {F : Nat} {sz : Nat → Nat} {e : am_E} {Q : am_Q} (hP : am_PG C D F sz) {kc ks : Nat} (q : ∀ C', am_MK C C' (am_st sz F) → Q none (hp C' e)) : am_Go (mX0_markTaken, 0, am_ent mX0_markTaken [.ref 7], [], hp C e, kc, ks, Q) := by
  refine go_s 2 (pc' := 2) (ls' := [.ref 7, .int (nI 0), .long 0]) (st' := []) (h' := hp C e) rfl ?_
  rw [← am_fil_0 C 8 0]
  refine c_mt1 ?_ 24 0 rfl
  refine go_s 2 (pc' := 26) (ls' := [.ref 7, .int (nI 0), .long 0]) (st' := []) (h' := hp (am_fil C 8 24 0) e) rfl ?_
  exact c_mt2 hP q (am_st sz F + 1) _ _ 0 _ _ (by omega) (by omega) ⟨fun c j hc => am_fil_ne hc, fun f hf => by rw [am_fil_eq hf]; exact Or.inl ⟨rfl, fun ⟨t, ht, _⟩ => by omega⟩⟩
theorem c_X0_standAllTogether {D : Nat → Nat → Int32} {e : am_E} {kc ks : Nat} {Q : am_Q}   (q : Q none (hp (am_u (am_fil D 9 24 0) 7 4 0) e)) : am_Go (mX0_standAllTogether, 0, am_ent mX0_standAllTogether [.ref 7], [], hp D e, kc, ks, Q) := by
  refine go_s 3 rfl ?_
  refine go_st kX0_standAllTogether_5 okJ7_fill_53178 rfl rfl rfl (Nat.zero_le _) (Nat.zero_le _) ?_
  refine c_J7_fill_53178 rfl (by decide) ?_
  refine go_s 3 rfl ?_
  exact go_retv rfl rfl (am_qv q (by rfl))
