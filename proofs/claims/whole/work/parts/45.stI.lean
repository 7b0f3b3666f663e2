def am_RI (C D : Nat → Nat → Int32) : Prop := (∀ k, k < 32 → C 67 k = D 103 k) ∧ (∀ k, k < 64 → C 68 k = D 106 k) ∧ (∀ k, k < 200 → C 66 k = D 100 k) ∧ C 65 4 = D 95 1
theorem am_u_eq {D : Nat → Nat → Int32} {o k : Nat} {v : Int32} : am_u D o k v o k = v := by simp [am_u]
theorem am_u_nj {D : Nat → Nat → Int32} {o k j : Nat} {v : Int32} (h : j ≠ k) : am_u D o k v o j = D o j := by simp [am_u, h]
theorem am_RI_pc {C D : Nat → Nat → Int32} {g : Int32} (h : am_RI C D) : am_RI (am_u C 65 8 g) D := by
  obtain ⟨h1, h2, h3, h4⟩ := h
  refine ⟨fun k hk => ?_, fun k hk => ?_, fun k hk => ?_, ?_⟩
  · rw [am_u_ne (by decide)]; exact h1 k hk
  · rw [am_u_ne (by decide)]; exact h2 k hk
  · rw [am_u_ne (by decide)]; exact h3 k hk
  · rw [am_u_nj (by decide)]; exact h4
theorem am_RI_wr {C D : Nat → Nat → Int32} {k v : Int32} (hk : vp_in k 32) (h : am_RI C D) : am_RI (am_wi C k v) (am_mgv D k v) := by
  obtain ⟨h1, h2, h3, h4⟩ := h
  obtain ⟨n, hn, rfl⟩ := vp_in_of hk (by decide)
  unfold am_wi am_mgv
  by_cases h0 : nI n = 0
  · rw [if_neg (fun z => z.1 h0), if_pos h0]
    exact ⟨h1, h2, h3, h4⟩
  rw [if_pos ⟨h0, nI_pos' (by omega), nI_lt (a := n) (b := 32) hn (by decide)⟩, if_neg h0, nI_clamp (by omega)]
  refine ⟨fun j hj => ?_, fun j hj => ?_, fun j hj => ?_, ?_⟩
  · by_cases e : j = n
    · subst e; rw [am_u_eq, am_u_eq]
    · rw [am_u_nj e, am_u_nj e]; exact h1 j hj
  · rw [am_u_ne (by decide), am_u_ne (by decide)]; exact h2 j hj
  · rw [am_u_ne (by decide), am_u_ne (by decide)]; exact h3 j hj
  · rw [am_u_ne (by decide), am_u_ne (by decide)]; exact h4
theorem am_RI_st {C D : Nat → Nat → Int32} {n : Nat} {v : Int32} (h : am_RI C D) : am_RI (am_u C 68 n v) (am_u D 106 n v) := by
  obtain ⟨h1, h2, h3, h4⟩ := h
  refine ⟨fun j hj => ?_, fun j hj => ?_, fun j hj => ?_, ?_⟩
  · rw [am_u_ne (by decide), am_u_ne (by decide)]; exact h1 j hj
  · by_cases e : j = n
    · subst e; rw [am_u_eq, am_u_eq]
    · rw [am_u_nj e, am_u_nj e]; exact h2 j hj
  · rw [am_u_ne (by decide), am_u_ne (by decide)]; exact h3 j hj
  · rw [am_u_ne (by decide), am_u_ne (by decide)]; exact h4
theorem am_mpn_v {D : Nat → Nat → Int32} {w o : Nat} {v : Int32} (ho : o ≠ 95) : am_mpn D w o v 95 w = D 95 w + 1 := by
  unfold am_mpn
  rw [am_u_eq]
  split
  · rw [am_u_ne (Ne.symm ho)]
  · rfl
theorem am_mpn_ne {D : Nat → Nat → Int32} {w o c j : Nat} {v : Int32} (h1 : c ≠ 95) (h2 : c ≠ o) : am_mpn D w o v c j = D c j := by
  unfold am_mpn
  rw [am_u_ne h1]
  split
  · rw [am_u_ne h2]
  · rfl
theorem am_mpn_95 {D : Nat → Nat → Int32} {w o j : Nat} {v : Int32} (ho : o ≠ 95) (h1 : j ≠ w) : am_mpn D w o v 95 j = D 95 j := by
  unfold am_mpn
  rw [am_u_nj h1]
  split
  · rw [am_u_ne (Ne.symm ho)]
  · rfl
theorem am_mpn_o {D : Nat → Nat → Int32} {w o j m : Nat} {v : Int32} (ho : o ≠ 95) (hm : m < 2 ^ 31) (h : D 95 w = nI m) : am_mpn D w o v o j = if m < 200 ∧ j = m then v else D o j := by
  unfold am_mpn
  rw [am_u_ne ho, h, nI_clamp hm]
  by_cases e : m < 200
  · rw [if_pos (show nI m < 200 from nI_lt (a := m) (b := 200) e (by decide))]
    by_cases e2 : j = m
    · subst e2; rw [am_u_eq, if_pos ⟨e, rfl⟩]
    · rw [am_u_nj e2, if_neg (fun z => e2 z.2)]
  · rw [if_neg (show ¬ nI m < 200 from nI_nlt (a := m) (b := 200) (by omega) (by omega)), if_neg (fun z => e z.1)]
theorem am_kpi_v {D : Nat → Nat → Int32} {v : Int32} : am_kpi D v 65 4 = D 65 4 + 1 := am_u_eq
theorem am_kpi_8 {D : Nat → Nat → Int32} {v : Int32} {j : Nat} (h : j ≠ 4) : am_kpi D v 65 j = D 65 j := by
  unfold am_kpi
  rw [am_u_nj h]
  split
  · rw [am_u_ne (by decide)]
  · rfl
theorem am_kpi_o {D : Nat → Nat → Int32} {v : Int32} {j m : Nat} (hm : m < 2 ^ 31) (h : D 65 4 = nI m) : am_kpi D v 66 j = if m < 200 ∧ j = m then v else D 66 j := by
  unfold am_kpi
  rw [am_u_ne (by decide), h, nI_clamp hm]
  by_cases e : m < 200
  · rw [if_pos ⟨nI_pos hm, nI_lt (a := m) (b := 200) e (by decide)⟩]
    by_cases e2 : j = m
    · subst e2; rw [am_u_eq, if_pos ⟨e, rfl⟩]
    · rw [am_u_nj e2, if_neg (fun z => e2 z.2)]
  · rw [if_neg (fun z => nI_nlt (a := m) (b := 200) (by omega) (by omega) z.2), if_neg (fun z => e z.1)]
theorem am_RI_pr {C D : Nat → Nat → Int32} {m : Nat} {v : Int32} (hm : m < 2 ^ 31) (hD : D 95 1 = nI m) (h : am_RI C D) : am_RI (am_kpi C v) (am_mpn D 1 100 v) := by
  obtain ⟨h1, h2, h3, h4⟩ := h
  refine ⟨fun j hj => ?_, fun j hj => ?_, fun j hj => ?_, ?_⟩
  · rw [am_kpi_ne (by decide) (by decide), am_mpn_ne (by decide) (by decide)]; exact h1 j hj
  · rw [am_kpi_ne (by decide) (by decide), am_mpn_ne (by decide) (by decide)]; exact h2 j hj
  · rw [am_kpi_o hm (h4.trans hD), am_mpn_o (by decide) hm hD, h3 j hj]
  · rw [am_kpi_v, am_mpn_v (by decide), h4]
theorem am_par1 {a : Int32} (h : a &&& (1 : Int32) = 0) : a.toBitVec.toNat % 2 = 0 := by
  have h := congrArg (fun z => z.toBitVec.toNat) h
  have e : (a &&& (1 : Int32)).toBitVec = a.toBitVec &&& BitVec.ofNat 32 1 := rfl
  simp only [e, BitVec.toNat_and] at h
  have e2 := Nat.and_two_pow_sub_one_eq_mod a.toBitVec.toNat 1
  have e3 : (BitVec.ofNat 32 1).toNat = 2 ^ 1 - 1 := rfl
  rw [e3, e2] at h
  exact h
theorem am_par {a b : Int32} (h : a &&& (1 : Int32) = 0) (h2 : b &&& (1 : Int32) = 0) : ¬ a + b = -1 := by
  intro e
  have h := am_par1 h
  have h2 := am_par1 h2
  have e := congrArg (fun z => z.toBitVec.toNat) e
  have e3 : (-1 : Int32).toBitVec.toNat = 4294967295 := rfl
  simp only [Int32.toBitVec_add, BitVec.toNat_add, e3] at e
  omega
theorem am_par0 {a : Int32} (h : a &&& (1 : Int32) = 0) : ¬ a = -1 := by
  intro e; subst e; exact absurd h (by decide)
abbrev am_gop (w : Int32) : Prop := w &&& (127 : Int32) = 3 ∨ w &&& (127 : Int32) = 19 ∨ w &&& (127 : Int32) = 35 ∨ w &&& (127 : Int32) = 51 ∨ w &&& (127 : Int32) = 55 ∨ w &&& (127 : Int32) = 99 ∨ w &&& (127 : Int32) = 103 ∨ w &&& (127 : Int32) = 111 ∨ w &&& (127 : Int32) = 115
def am_SI (C D : Nat → Nat → Int32) (m : Nat) (p : Int32 × (Nat → Nat → Int32)) (r : Int32 × (Nat → Nat → Int32)) : Prop := (p = (2, C) ∧ r = (-1, D)) ∨ (¬ r.1 = -1 ∧ p.1 = (if r.1 = 0 then 0 else 3) ∧ p.2 65 8 = r.1 ∧ am_RI p.2 r.2 ∧ (r.2 95 1 = nI m ∨ r.2 95 1 = nI (m + 1)))
theorem am_SI_gi {C D C' D' : Nat → Nat → Int32} {m : Nat} {g : Int32} (hg : ¬ g = -1) (h : am_RI C' D') (hm : D' 95 1 = nI m ∨ D' 95 1 = nI (m + 1)) : am_SI C D m (am_gi C' g) (g, D') :=
  Or.inr ⟨hg, rfl, show am_u C' 65 8 g 65 8 = g from am_u_eq, am_RI_pc h, hm⟩
theorem am_mgv_ne {D : Nat → Nat → Int32} {k v : Int32} {c j : Nat} (h : c ≠ 103) : am_mgv D k v c j = D c j := by
  unfold am_mgv
  split
  · rfl
  · rw [am_u_ne h]
theorem am_SI_wg {C D : Nat → Nat → Int32} {m : Nat} {k v v' g g' : Int32} (hk : vp_in k 32) (hv : v = v') (hg : ¬ g = -1) (h : am_RI C D) (hm : D 95 1 = nI m) (e : g' = g) : am_SI C D m (am_gi (am_wi C k v) g') (g, am_mgv D k v') := by
  subst hv e
  exact am_SI_gi hg (am_RI_wr hk h) (Or.inl (by rw [am_mgv_ne (by decide)]; exact hm))
theorem am_RI_r {C D : Nat → Nat → Int32} (h : am_RI C D) (x : Int32) : C 67 (x &&& (31 : Int32)).toNatClampNeg = D 103 (x &&& (31 : Int32)).toNatClampNeg := by
  obtain ⟨n, hn, e⟩ := vp_in_of (am_a31 x) (by decide)
  rw [e, nI_clamp (by omega)]
  exact h.1 n hn
theorem am_stI {C D : Nat → Nat → Int32} {m : Nat} {pc w : Int32} (h : am_RI C D) (hpc : C 65 8 = pc) (he : pc &&& (1 : Int32) = 0) (hw : am_gop w) (hm : D 95 1 = nI m) (hm2 : m < 2 ^ 30) : am_SI C D m (am_isw C w) (am_mis D pc w) := by
  have h4 : ¬ pc + 4 = -1 := am_par he (by decide)
  have hr1 : am_r1 C w = am_mir D (w >>> (15 : Int32)) := am_RI_r h _
  have hr2 : am_r2 C w = am_mir D (w >>> (20 : Int32)) := am_RI_r h _
  have hwi : ∀ k v : Int32, am_wi C k v 65 8 = pc := fun k v => by rw [am_wi_ne (by decide)]; exact hpc
  unfold am_isw am_mis
  rcases hw with hw | hw | hw | hw | hw | hw | hw | hw | hw <;> rw [hw]
  · rw [if_pos rfl, if_pos rfl]
    unfold am_ild am_mld
    rw [hr1]
    by_cases hc : am_ce (am_mir D (w >>> (15 : Int32)) + w >>> (20 : Int32))
    · obtain ⟨k, hk, e1, e2⟩ := am_ce2 hc
      rw [e1, e2, if_pos ⟨nI_pos' (by omega), nI_lt (a := k) (b := 64) hk (by decide)⟩, if_pos hc, nI_clamp (by omega)]
      exact am_SI_wg (am_a31 _) (h.2.1 k hk) h4 h hm (by rw [hwi])
    · rw [am_ce3 hc, if_neg (by decide), if_neg hc]
      exact Or.inl ⟨rfl, rfl⟩
  · rw [if_neg (by decide), if_pos rfl, if_neg (by decide), if_pos rfl]
    refine am_SI_wg (am_a31 _) ?_ h4 h hm (by rw [hwi])
    unfold am_cim
    rw [hr1]
    apply am_calcm
    by_cases h5 : w >>> (12 : Int32) &&& (7 : Int32) = 5
    · rw [if_pos h5]
      rcases am_morv w with ⟨a, b⟩ | ⟨a, b⟩
      · exact Or.inl ⟨zb_f (fun z => z.2 a), b⟩
      · exact Or.inr ⟨zb_t ⟨h5, a⟩, b⟩
    · rw [if_neg h5]
      exact Or.inl ⟨zb_f (fun z => h5 z.1), rfl⟩
  · rw [if_neg (by decide), if_neg (by decide), if_pos rfl, if_neg (by decide), if_neg (by decide), if_pos rfl]
    unfold am_isr am_msr am_sof
    rw [hr1]
    by_cases hc : am_ce (am_mir D (w >>> (15 : Int32)) + (w >>> (25 : Int32) <<< (5 : Int32) ||| w >>> (7 : Int32) &&& (31 : Int32)))
    · obtain ⟨k, hk, e1, e2⟩ := am_ce2 hc
      rw [e1, e2, if_pos ⟨nI_pos' (by omega), nI_lt (a := k) (b := 64) hk (by decide)⟩, if_pos hc, nI_clamp (by omega), hpc, hr2]
      exact am_SI_gi h4 (am_RI_st h) (Or.inl (by rw [am_u_ne (by decide)]; exact hm))
    · rw [am_ce3 hc, if_neg (by decide), if_neg hc]
      exact Or.inl ⟨rfl, rfl⟩
  · rw [if_neg (by decide), if_neg (by decide), if_neg (by decide), if_pos rfl, if_neg (by decide), if_neg (by decide), if_neg (by decide), if_pos rfl]
    refine am_SI_wg (am_a31 _) ?_ h4 h hm (by rw [hwi])
    unfold am_cr
    rw [hr1, hr2]
    apply am_calcm
    rcases am_morv w with ⟨a, b⟩ | ⟨a, b⟩
    · exact Or.inl ⟨zb_f (fun z => z a), b⟩
    · exact Or.inr ⟨zb_t a, b⟩
  · rw [if_neg (by decide), if_neg (by decide), if_neg (by decide), if_neg (by decide), if_pos rfl, if_neg (by decide), if_neg (by decide), if_neg (by decide), if_neg (by decide), if_pos rfl]
    exact am_SI_wg (am_a31 _) rfl h4 h hm (by rw [hwi])
  · rw [if_neg (by decide), if_neg (by decide), if_neg (by decide), if_neg (by decide), if_neg (by decide), if_pos rfl, if_neg (by decide), if_neg (by decide), if_neg (by decide), if_neg (by decide), if_neg (by decide), if_pos rfl]
    unfold am_ibr am_mbr
    rw [hr1, hr2, am_brsm (Or.inr trivial), hpc]
    split
    · exact am_SI_gi h4 h (Or.inl hm)
    · rw [show am_bof w = _ from am_bofe0 w]
      exact am_SI_gi (am_par he (am_bofv w)) h (Or.inl hm)
  · rw [if_neg (by decide), if_neg (by decide), if_neg (by decide), if_neg (by decide), if_neg (by decide), if_neg (by decide), if_pos rfl, if_neg (by decide), if_neg (by decide), if_neg (by decide), if_neg (by decide), if_neg (by decide), if_neg (by decide), if_pos rfl]
    unfold am_ijp
    rw [hr1, hpc]
    exact am_SI_wg (am_a31 _) rfl (am_par0 (am_m2v _)) h hm rfl
  · rw [if_neg (by decide), if_neg (by decide), if_neg (by decide), if_neg (by decide), if_neg (by decide), if_neg (by decide), if_neg (by decide), if_pos rfl, if_neg (by decide), if_neg (by decide), if_neg (by decide), if_neg (by decide), if_neg (by decide), if_neg (by decide), if_neg (by decide), if_pos rfl]
    unfold am_ijp
    rw [hpc]
    exact am_SI_wg (am_a31 _) rfl (am_par he (am_jofv w)) h hm (by rw [show am_jof w = _ from am_jofe0 w])
  · rw [if_neg (by decide), if_neg (by decide), if_neg (by decide), if_neg (by decide), if_neg (by decide), if_neg (by decide), if_neg (by decide), if_neg (by decide), if_pos rfl, if_neg (by decide), if_neg (by decide), if_neg (by decide), if_neg (by decide), if_neg (by decide), if_neg (by decide), if_neg (by decide), if_neg (by decide)]
    rw [am_kpi_8 (by decide), hpc, h.1 10 (by decide)]
    exact am_SI_gi h4 (am_RI_pr (by omega) hm h) (Or.inr (by rw [am_mpn_v (by decide), hm, nI_1]))
