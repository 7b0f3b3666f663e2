def am_IC (C D : Nat → Nat → Int32) (s : Int32) (x k : Nat) : Prop := (k < 35) ∧ (D 71 x = nI k) ∧ (am_fa C s = am_kpt (am_kA (nI k)) (D 72 x)) ∧ (am_fb C s = am_kpt (am_kB (nI k)) (D 73 x)) ∧ (am_fc C s = am_kpt (am_kC (nI k)) (D 74 x)) ∧ (am_gd (nI k) (D 72 x) (D 73 x) (D 74 x))
theorem am_IC.k35 {C D : Nat → Nat → Int32} {s : Int32} {x k : Nat} (h : am_IC C D s x k) : k < 35 := h.1
theorem am_IC.n {C D : Nat → Nat → Int32} {s : Int32} {x k : Nat} (h : am_IC C D s x k) : D 71 x = nI k := h.2.1
theorem am_IC.a {C D : Nat → Nat → Int32} {s : Int32} {x k : Nat} (h : am_IC C D s x k) : am_fa C s = am_kpt (am_kA (nI k)) (D 72 x) := h.2.2.1
theorem am_IC.b {C D : Nat → Nat → Int32} {s : Int32} {x k : Nat} (h : am_IC C D s x k) : am_fb C s = am_kpt (am_kB (nI k)) (D 73 x) := h.2.2.2.1
theorem am_IC.c {C D : Nat → Nat → Int32} {s : Int32} {x k : Nat} (h : am_IC C D s x k) : am_fc C s = am_kpt (am_kC (nI k)) (D 74 x) := h.2.2.2.2.1
theorem am_IC.g {C D : Nat → Nat → Int32} {s : Int32} {x k : Nat} (h : am_IC C D s x k) : am_gd (nI k) (D 72 x) (D 73 x) (D 74 x) := h.2.2.2.2.2
theorem am_IC.fa {C D : Nat → Nat → Int32} {s : Int32} {x k : Nat} (h : am_IC C D s x k) (h1 : k ≠ 31) (h2 : k ≠ 34) : am_fa C s = D 72 x := by
  have T : ∀ k, k < 35 → k ≠ 31 → k ≠ 34 → ¬ am_kA (nI k) = 0 := by decide +kernel
  rw [h.a]
  exact if_neg (T k h.k35 h1 h2)
theorem am_IC.fb {C D : Nat → Nat → Int32} {s : Int32} {x k : Nat} (h : am_IC C D s x k) (h1 : k < 28 ∨ k = 32) : am_fb C s = D 73 x := by
  have T : ∀ k, k < 35 → (k < 28 ∨ k = 32) → ¬ am_kB (nI k) = 0 := by decide +kernel
  rw [h.b]
  exact if_neg (T k h.k35 h1)
theorem am_IC.fc {C D : Nat → Nat → Int32} {s : Int32} {x k : Nat} (h : am_IC C D s x k) (h1 : k < 28) (h2 : k ≠ 19) : am_fc C s = D 74 x := by
  have T : ∀ k, k < 35 → k < 28 → k ≠ 19 → ¬ am_kC (nI k) = 0 := by decide +kernel
  rw [h.c]
  exact if_neg (T k h.k35 h1 h2)
theorem am_IC.ga {C D : Nat → Nat → Int32} {s : Int32} {x k : Nat} (h : am_IC C D s x k) (h1 : k < 28 ∨ k = 32 ∨ k = 33) : vp_in (D 72 x) 32 := by
  refine am_gA h.g ?_
  rcases h1 with h1 | h1 | h1
  · exact Or.inl (nI_lt (a := k) (b := 28) h1 (by decide))
  · subst h1; exact Or.inr (Or.inl rfl)
  · subst h1; exact Or.inr (Or.inr rfl)
theorem am_IC.gb {C D : Nat → Nat → Int32} {s : Int32} {x k : Nat} (h : am_IC C D s x k) (h1 : k < 28) (h2 : k ≠ 19) : vp_in (D 73 x) 32 :=
  am_gB h.g (nI_lt (a := k) (b := 28) h1 (by decide)) (fun z => h2 ((nI_eq (b := 19) (by omega) (by decide)).mp z))
theorem am_IC.gc {C D : Nat → Nat → Int32} {s : Int32} {x k : Nat} (h : am_IC C D s x k) (h1 : k < 10) : vp_in (D 74 x) 32 :=
  am_gC h.g (nI_nlt (a := 9) (b := k) (by omega) (by decide))
theorem am_stD1 {C D : Nat → Nat → Int32} {s : Int32} {x k m : Nat} (h : am_IC C D s x k) (hR : am_RT C D) (hm : D 95 0 = nI m) (hk : k < 10) : am_TS C D m (am_tsn C s (nI k)) (am_mdo D x) := by
  obtain ⟨b1, b2, b3⟩ := hR.srt (h.gb (by omega) (by omega))
  obtain ⟨c1, c2, c3⟩ := hR.srt (h.gc hk)
  have ga := h.ga (by omega)
  unfold am_mdo am_tsn am_tca
  rw [h.n, h.fa (by omega) (by omega), h.fb (by omega), h.fc (by omega) (by omega), b1, b2, c1, c2, if_neg (show ¬ (9 : Int32) < nI k from nI_nlt (a := 9) (b := k) (by omega) (by decide)), if_neg (show ¬ (18 : Int32) < nI k from nI_nlt (a := 18) (b := k) (by omega) (by decide)), if_neg (show ¬ (nI k = 10 ∧ D 74 x = 0) from fun z => absurd ((nI_eq (b := 10) (by omega) (by decide)).mp z.1) (by omega)), if_pos (show nI k < (10 : Int32) from nI_lt (a := k) (b := 10) hk (by decide)), am_rks k (by omega)]
  by_cases e1 : D 107 (D 73 x).toNatClampNeg = 0
  · rw [if_neg (zb_ne.mpr e1)]
    by_cases e2 : D 107 (D 74 x).toNatClampNeg = 0
    · rw [if_neg (zb_ne.mpr e2), if_pos ⟨e1, e2⟩]
      exact am_TS_w ga (am_VT_0 _) hR hm
    · rw [if_pos (zb_0.mpr e2), if_neg (fun z => e2 z.2)]
      exact Or.inl ⟨rfl, rfl⟩
  · rw [if_pos (zb_0.mpr e1), if_neg (fun z => e1 z.1)]
    exact Or.inl ⟨rfl, rfl⟩
theorem am_stD2 {C D : Nat → Nat → Int32} {s : Int32} {x k m : Nat} (h : am_IC C D s x k) (hR : am_RT C D) (hm : D 95 0 = nI m) (hk : k < 19) (hk2 : 10 ≤ k) : am_TS C D m (am_tsn C s (nI k)) (am_mdo D x) := by
  obtain ⟨b1, b2, b3⟩ := hR.srt (h.gb (by omega) (by omega))
  have ga := h.ga (by omega)
  unfold am_mdo am_tsn am_tca
  rw [h.n, h.fa (by omega) (by omega), h.fb (by omega), h.fc (by omega) (by omega), if_pos (show (9 : Int32) < nI k from nI_lt (a := 9) (b := k) (by omega) (by omega)), if_neg (show ¬ (18 : Int32) < nI k from nI_nlt (a := 18) (b := k) (by omega) (by decide)), if_neg (show ¬ (18 : Int32) < nI k from nI_nlt (a := 18) (b := k) (by omega) (by decide)), if_neg (show ¬ nI k < (10 : Int32) from nI_nlt (a := k) (b := 10) (by omega) (by omega)), am_rks k (by omega)]
  rw [b1, b2] at b3
  by_cases e0 : nI k = 10
  · rw [if_pos e0]
    by_cases e1 : D 74 x = 0
    · rw [if_pos e1, if_pos ⟨e0, e1⟩, b1, b2]
      exact am_TS_w ga b3 hR hm
    · rw [if_neg e1, if_neg (fun z => e1 z.2), b1, b2]
      by_cases e1 : D 107 (D 73 x).toNatClampNeg = 0
      · rw [if_neg (zb_ne.mpr e1), if_pos e1]
        exact am_TS_w ga (am_VT_0 _) hR hm
      · rw [if_pos (zb_0.mpr e1), if_neg e1]
        exact Or.inl ⟨rfl, rfl⟩
  · rw [if_neg e0, if_neg (fun z => e0 z.1), b1, b2]
    by_cases e1 : D 107 (D 73 x).toNatClampNeg = 0
    · rw [if_neg (zb_ne.mpr e1), if_pos e1]
      exact am_TS_w ga (am_VT_0 _) hR hm
    · rw [if_pos (zb_0.mpr e1), if_neg e1]
      exact Or.inl ⟨rfl, rfl⟩
theorem am_mdo_9 {D : Nat → Nat → Int32} {x k : Nat} (hn : D 71 x = nI k) (h : 19 ≤ k) (hk : k < 35) : 9 < nI k ∧ 18 < nI k := ⟨nI_lt (a := 9) (b := k) (by omega) (by omega), nI_lt (a := 18) (b := k) (by omega) (by omega)⟩
theorem am_stD3 {C D : Nat → Nat → Int32} {s : Int32} {x m : Nat} (h : am_IC C D s x 19) (hR : am_RT C D) (hm : D 95 0 = nI m) : am_TS C D m (am_tsn C s (nI 19)) (am_mdo D x) := by
  have ga := h.ga (by omega)
  unfold am_mdo am_tsn
  rw [h.n, h.fa (by omega) (by omega), h.fb (by omega)]
  exact am_TS_w ga (am_VT_0 _) hR hm
theorem am_mioC {C D : Nat → Nat → Int32} {s : Int32} {x k : Nat} (h : am_IC C D s x k) (hR : am_RT C D) (hk : k = 20 ∨ k = 21) : am_mio C s = (if D 107 (D 73 x).toNatClampNeg = 0 then am_mix (D 102 (D 73 x).toNatClampNeg + D 74 x) else -1) := by
  obtain ⟨b1, b2, b3⟩ := hR.srt (h.gb (by omega) (by omega))
  unfold am_mio
  rw [h.fb (by omega), h.fc (by omega) (by omega), b1, b2]
theorem am_TS_go {C D C' D' : Nat → Nat → Int32} {m : Nat} (h : am_RT C' D') (h1 : C' 59 10 = C 59 10) (h2 : C' 59 11 = C 59 11) (h3 : D' 95 0 = nI m ∨ D' 95 0 = nI (m + 1)) : am_TS C D m (3, am_go C') (1, D') := by
  refine Or.inr ⟨rfl, rfl, ?_, ?_, h.u59 (by decide), h3⟩
  · show am_go C' 59 10 = _
    unfold am_go
    rw [am_u_nj (by decide), h1]
  · show am_go C' 59 11 = _
    unfold am_go
    rw [am_u_eq, h2]
theorem am_stD4 {C D : Nat → Nat → Int32} {s : Int32} {x k m : Nat} (h : am_IC C D s x k) (hR : am_RT C D) (hm : D 95 0 = nI m) (hk : k = 20 ∨ k = 21) : am_TS C D m (am_tsn C s (nI k)) (am_mdo D x) := by
  have ga := h.ga (by omega)
  obtain ⟨a1, a2, a3⟩ := hR.srt ga
  rw [a1, a2] at a3
  have hM := am_mioC h hR hk
  have hfa := h.fa (by omega) (by omega)
  have u : am_mdo D x = (if zb (D 107 (D 73 x).toNatClampNeg = 0) = 0 then (0, D) else if zb (am_ce (D 102 (D 73 x).toNatClampNeg + D 74 x)) = 0 then (0, D) else if nI k = 20 then (1, am_mst D (D 72 x) (D 108 ((D 102 (D 73 x).toNatClampNeg + D 74 x - 65536) / 4).toNatClampNeg) (D 105 ((D 102 (D 73 x).toNatClampNeg + D 74 x - 65536) / 4).toNatClampNeg)) else (1, am_u (am_u D 105 ((D 102 (D 73 x).toNatClampNeg + D 74 x - 65536) / 4).toNatClampNeg (D 102 (D 72 x).toNatClampNeg)) 108 ((D 102 (D 73 x).toNatClampNeg + D 74 x - 65536) / 4).toNatClampNeg (D 107 (D 72 x).toNatClampNeg))) := by
    unfold am_mdo
    rw [h.n, if_pos (show (9 : Int32) < nI k from nI_lt (a := 9) (b := k) (by omega) (by omega)), if_pos (show (18 : Int32) < nI k from nI_lt (a := 18) (b := k) (by omega) (by omega)), if_neg (show ¬ nI k = 19 from fun z => absurd ((nI_eq (b := 19) (by omega) (by decide)).mp z) (by omega)), if_neg (show ¬ (21 : Int32) < nI k from nI_nlt (a := 21) (b := k) (by omega) (by decide))]
    rfl
  rw [u]
  unfold am_tsn am_tld am_tst
  rw [if_pos (show (18 : Int32) < nI k from nI_lt (a := 18) (b := k) (by omega) (by omega)), if_neg (show ¬ (¬ nI k < 22 ∧ ¬ 27 < nI k) from fun z => z.1 (nI_lt (a := k) (b := 22) (by omega) (by decide))), if_neg (show ¬ nI k = 19 from fun z => absurd ((nI_eq (b := 19) (by omega) (by decide)).mp z) (by omega)), hM, hfa]
  generalize D 102 (D 73 x).toNatClampNeg + D 74 x = at'
  by_cases e1 : D 107 (D 73 x).toNatClampNeg = 0
  · rw [if_neg (zb_ne.mpr e1), if_pos e1]
    by_cases e2 : am_ce at'
    · obtain ⟨i, hi, i1, i2⟩ := am_ce2 e2
      rw [if_neg (zb_ne.mpr e2), i1, i2, nI_clamp (by omega), if_pos (show 0 ≤ nI i ∧ nI i < 64 from ⟨nI_pos' (by omega), nI_lt (a := i) (b := 64) hi (by decide)⟩)]
      rcases hk with hk | hk
      · subst hk
        rw [if_pos (show nI 20 = 20 from rfl), if_pos (show nI 20 = 20 from rfl), hR.m1 i hi, hR.m2 i hi]
        have := hR.vm i hi
        rw [hR.m1 i hi, hR.m2 i hi] at this
        exact am_TS_w ga this hR hm
      · subst hk
        rw [if_neg (show ¬ nI 21 = 20 by decide), if_neg (show ¬ nI 21 = 20 by decide), if_pos (show nI 21 = 21 from rfl), if_pos (show 0 ≤ nI i ∧ nI i < 64 from ⟨nI_pos' (by omega), nI_lt (a := i) (b := 64) hi (by decide)⟩), a1, a2]
        refine am_TS_go (hR.sto a3) ?_ ?_ (Or.inl ?_)
        · rw [am_u_ne (by decide), am_u_ne (by decide)]
        · rw [am_u_ne (by decide), am_u_ne (by decide)]
        · rw [am_u_ne (by decide), am_u_ne (by decide)]; exact hm
    · rw [if_pos (zb_0.mpr e2), am_ce3 e2]
      rcases hk with hk | hk
      · subst hk
        exact Or.inl ⟨rfl, rfl⟩
      · subst hk
        exact Or.inl ⟨rfl, rfl⟩
  · rw [if_pos (zb_0.mpr e1), if_neg e1]
    rcases hk with hk | hk
    · subst hk
      exact Or.inl ⟨rfl, rfl⟩
    · subst hk
      exact Or.inl ⟨rfl, rfl⟩
theorem am_stD5 {C D : Nat → Nat → Int32} {s : Int32} {x m : Nat} (h : am_IC C D s x 32) (hR : am_RT C D) (hm : D 95 0 = nI m) : am_TS C D m (am_tsn C s (nI 32)) (am_mdo D x) := by
  have ga := h.ga (by omega)
  unfold am_mdo am_tsn
  rw [h.n, h.fa (by omega) (by omega), h.fb (by omega)]
  refine am_TS_w ga ⟨fun _ => ?_, fun z => absurd z (by decide)⟩ hR hm
  have h2 : ¬ am_su 6 (D 73 x) = 0 := h.g.2.2.1
  have h2 : ¬ zb (¬ D 73 x < 0 ∧ D 73 x < 24) = 0 := h2
  have h2 := zb_ne.mp h2
  exact vp_in_of (vpn h2.1 h2.2 (by decide)) (by decide)
theorem am_stD6 {C D : Nat → Nat → Int32} {s : Int32} {x m : Nat} (h : am_IC C D s x 34) (hR : am_RT C D) (hm : D 95 0 = nI m) (hm2 : m < 2 ^ 31) : am_TS C D m (am_tsn C s (nI 34)) (am_mdo D x) := by
  obtain ⟨b1, b2, b3⟩ := hR.srt (k := 10) (by unfold vp_in; decide)
  have u : am_mdo D x = (if zb (D 107 10 = 0) = 0 then (0, D) else (1, am_mpn D 0 99 (D 102 10))) := by
    unfold am_mdo
    rw [h.n]
    rfl
  have v : am_tsn C s (nI 34) = (if am_srt C 10 = 0 then (3, am_go (am_kp C (am_val C 10))) else (2, C)) := rfl
  rw [u, v, b1, b2]
  by_cases e1 : D 107 10 = 0
  · rw [if_neg (zb_ne.mpr e1), if_pos (show D 107 (10 : Int32).toNatClampNeg = 0 from e1)]
    refine am_TS_go (hR.prn hm2 hm) ?_ ?_ (Or.inr ?_)
    · rw [am_kp_ne (by decide) (Or.inr (by decide))]
    · rw [am_kp_ne (by decide) (Or.inr (by decide))]
    · rw [am_mpn_v (by decide), hm, nI_1]
  · rw [if_pos (zb_0.mpr e1), if_neg (show ¬ D 107 (10 : Int32).toNatClampNeg = 0 from e1)]
    exact Or.inl ⟨rfl, rfl⟩
theorem am_stD {C D : Nat → Nat → Int32} {s : Int32} {x k m : Nat} (h : am_IC C D s x k) (hR : am_RT C D) (hm : D 95 0 = nI m) (hm2 : m < 2 ^ 31) (hk : k < 22 ∨ k = 32 ∨ k = 34) : am_TS C D m (am_tsn C s (nI k)) (am_mdo D x) := by
  by_cases h1 : k < 10
  · exact am_stD1 h hR hm h1
  by_cases h2 : k < 19
  · exact am_stD2 h hR hm h2 (by omega)
  by_cases h3 : k = 19
  · subst h3; exact am_stD3 h hR hm
  by_cases h4 : k < 22
  · exact am_stD4 h hR hm (by omega)
  by_cases h5 : k = 32
  · subst h5; exact am_stD5 h hR hm
  have h6 : k = 34 := by omega
  subst h6
  exact am_stD6 h hR hm hm2
