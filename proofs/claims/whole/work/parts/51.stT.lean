def am_VT (s v : Int32) : Prop := (s = 1 → ∃ m, m < 24 ∧ v = nI m) ∧ (s = 2 → v = -1 ∨ ∃ m, m < 1536 ∧ v = nI m)
theorem am_VT_0 (v : Int32) : am_VT 0 v := ⟨fun h => absurd h (by decide), fun h => absurd h (by decide)⟩
def am_RT (C D : Nat → Nat → Int32) : Prop := (∀ k, k < 32 → C 61 k = D 107 k) ∧ (∀ k, k < 32 → C 62 k = D 102 k) ∧ (∀ k, k < 64 → C 63 k = D 108 k) ∧ (∀ k, k < 64 → C 64 k = D 105 k) ∧ (∀ k, k < 200 → C 60 k = D 99 k) ∧ (C 59 4 = D 95 0) ∧ (∀ k, k < 32 → am_VT (C 61 k) (C 62 k)) ∧ (∀ k, k < 64 → am_VT (C 63 k) (C 64 k))
theorem am_RT.r1 {C D : Nat → Nat → Int32} (h : am_RT C D) : ∀ k, k < 32 → C 61 k = D 107 k := h.1
theorem am_RT.r2 {C D : Nat → Nat → Int32} (h : am_RT C D) : ∀ k, k < 32 → C 62 k = D 102 k := h.2.1
theorem am_RT.m1 {C D : Nat → Nat → Int32} (h : am_RT C D) : ∀ k, k < 64 → C 63 k = D 108 k := h.2.2.1
theorem am_RT.m2 {C D : Nat → Nat → Int32} (h : am_RT C D) : ∀ k, k < 64 → C 64 k = D 105 k := h.2.2.2.1
theorem am_RT.pr {C D : Nat → Nat → Int32} (h : am_RT C D) : ∀ k, k < 200 → C 60 k = D 99 k := h.2.2.2.2.1
theorem am_RT.pc {C D : Nat → Nat → Int32} (h : am_RT C D) : C 59 4 = D 95 0 := h.2.2.2.2.2.1
theorem am_RT.vr {C D : Nat → Nat → Int32} (h : am_RT C D) : ∀ k, k < 32 → am_VT (C 61 k) (C 62 k) := h.2.2.2.2.2.2.1
theorem am_RT.vm {C D : Nat → Nat → Int32} (h : am_RT C D) : ∀ k, k < 64 → am_VT (C 63 k) (C 64 k) := h.2.2.2.2.2.2.2
theorem am_RT.u59 {C D : Nat → Nat → Int32} {j : Nat} {v : Int32} (h : am_RT C D) (hj : j ≠ 4) : am_RT (am_u C 59 j v) D := by
  refine ⟨fun k hk => ?_, fun k hk => ?_, fun k hk => ?_, fun k hk => ?_, fun k hk => ?_, ?_, fun k hk => ?_, fun k hk => ?_⟩
  · rw [am_u_ne (by decide)]; exact h.r1 k hk
  · rw [am_u_ne (by decide)]; exact h.r2 k hk
  · rw [am_u_ne (by decide)]; exact h.m1 k hk
  · rw [am_u_ne (by decide)]; exact h.m2 k hk
  · rw [am_u_ne (by decide)]; exact h.pr k hk
  · rw [am_u_nj (Ne.symm hj)]; exact h.pc
  · rw [am_u_ne (by decide), am_u_ne (by decide)]; exact h.vr k hk
  · rw [am_u_ne (by decide), am_u_ne (by decide)]; exact h.vm k hk
theorem am_RT.fr {C D D' : Nat → Nat → Int32} (h : am_RT C D) (hf : ∀ c j, (c = 107 ∨ c = 102 ∨ c = 108 ∨ c = 105 ∨ c = 99 ∨ c = 95 ∧ j = 0) → D' c j = D c j) : am_RT C D' := by
  refine ⟨fun k hk => ?_, fun k hk => ?_, fun k hk => ?_, fun k hk => ?_, fun k hk => ?_, ?_, h.vr, h.vm⟩
  · rw [hf _ _ (by omega)]; exact h.r1 k hk
  · rw [hf _ _ (by omega)]; exact h.r2 k hk
  · rw [hf _ _ (by omega)]; exact h.m1 k hk
  · rw [hf _ _ (by omega)]; exact h.m2 k hk
  · rw [hf _ _ (by omega)]; exact h.pr k hk
  · rw [hf _ _ (by omega)]; exact h.pc
theorem am_RT.wr {C D : Nat → Nat → Int32} {k s v : Int32} (hk : vp_in k 32) (hv : am_VT s v) (h : am_RT C D) : am_RT (am_wr C k s v) (am_mst D k s v) := by
  obtain ⟨n, hn, rfl⟩ := vp_in_of hk (by decide)
  unfold am_wr am_mst
  by_cases h0 : nI n = 0
  · rw [if_neg (fun z => z.1 h0), if_pos h0]
    exact h
  rw [if_pos ⟨h0, nI_pos' (by omega), nI_lt (a := n) (b := 32) hn (by decide)⟩, if_neg h0, nI_clamp (by omega)]
  refine ⟨fun j hj => ?_, fun j hj => ?_, fun j hj => ?_, fun j hj => ?_, fun j hj => ?_, ?_, fun j hj => ?_, fun j hj => ?_⟩
  · rw [am_u_ne (by decide)]
    by_cases e : j = n
    · subst e; rw [am_u_eq, am_u_eq]
    · rw [am_u_nj e, am_u_nj e, am_u_ne (by decide)]; exact h.r1 j hj
  · rw [am_u_ne (o := 107) (by decide)]
    by_cases e : j = n
    · subst e; rw [am_u_eq, am_u_eq]
    · rw [am_u_nj e, am_u_nj e, am_u_ne (by decide)]; exact h.r2 j hj
  · rw [am_u_ne (by decide), am_u_ne (by decide), am_u_ne (by decide), am_u_ne (by decide)]; exact h.m1 j hj
  · rw [am_u_ne (by decide), am_u_ne (by decide), am_u_ne (by decide), am_u_ne (by decide)]; exact h.m2 j hj
  · rw [am_u_ne (by decide), am_u_ne (by decide), am_u_ne (by decide), am_u_ne (by decide)]; exact h.pr j hj
  · rw [am_u_ne (by decide), am_u_ne (by decide), am_u_ne (by decide), am_u_ne (by decide)]; exact h.pc
  · rw [am_u_ne (by decide)]
    by_cases e : j = n
    · subst e; rw [am_u_eq, am_u_eq]; exact hv
    · rw [am_u_nj e, am_u_nj e, am_u_ne (by decide)]; exact h.vr j hj
  · rw [am_u_ne (by decide), am_u_ne (by decide), am_u_ne (by decide), am_u_ne (by decide)]; exact h.vm j hj
theorem am_RT.sto {C D : Nat → Nat → Int32} {n : Nat} {s v : Int32} (hv : am_VT s v) (h : am_RT C D) : am_RT (am_u (am_u C 63 n s) 64 n v) (am_u (am_u D 105 n v) 108 n s) := by
  refine ⟨fun j hj => ?_, fun j hj => ?_, fun j hj => ?_, fun j hj => ?_, fun j hj => ?_, ?_, fun j hj => ?_, fun j hj => ?_⟩
  · rw [am_u_ne (by decide), am_u_ne (by decide), am_u_ne (by decide), am_u_ne (by decide)]; exact h.r1 j hj
  · rw [am_u_ne (by decide), am_u_ne (by decide), am_u_ne (by decide), am_u_ne (by decide)]; exact h.r2 j hj
  · rw [am_u_ne (by decide)]
    by_cases e : j = n
    · subst e; rw [am_u_eq, am_u_eq]
    · rw [am_u_nj e, am_u_nj e, am_u_ne (by decide)]; exact h.m1 j hj
  · rw [am_u_ne (o := 108) (by decide)]
    by_cases e : j = n
    · subst e; rw [am_u_eq, am_u_eq]
    · rw [am_u_nj e, am_u_nj e, am_u_ne (by decide)]; exact h.m2 j hj
  · rw [am_u_ne (by decide), am_u_ne (by decide), am_u_ne (by decide), am_u_ne (by decide)]; exact h.pr j hj
  · rw [am_u_ne (by decide), am_u_ne (by decide), am_u_ne (by decide), am_u_ne (by decide)]; exact h.pc
  · rw [am_u_ne (by decide), am_u_ne (by decide), am_u_ne (by decide), am_u_ne (by decide)]; exact h.vr j hj
  · rw [am_u_ne (by decide)]
    by_cases e : j = n
    · subst e; rw [am_u_eq, am_u_eq]; exact hv
    · rw [am_u_nj e, am_u_nj e, am_u_ne (by decide)]; exact h.vm j hj
theorem am_RT.srt {C D : Nat → Nat → Int32} (h : am_RT C D) {k : Int32} (hk : vp_in k 32) : am_srt C k = D 107 k.toNatClampNeg ∧ am_val C k = D 102 k.toNatClampNeg ∧ am_VT (am_srt C k) (am_val C k) := by
  obtain ⟨n, hn, rfl⟩ := vp_in_of hk (by decide)
  have e : ¬ nI n < 0 ∧ nI n < 32 := ⟨nI_pos (by omega), nI_lt (a := n) (b := 32) hn (by decide)⟩
  unfold am_srt am_val
  rw [if_pos e, if_pos e, nI_clamp (by omega)]
  exact ⟨h.r1 n hn, h.r2 n hn, h.vr n hn⟩
theorem am_kp_o {D : Nat → Nat → Int32} {v : Int32} {j m : Nat} (hm : m < 2 ^ 31) (h : D 59 4 = nI m) : am_kp D v 60 j = if m < 200 ∧ j = m then v else D 60 j := by
  unfold am_kp
  rw [am_u_ne (by decide), h, nI_clamp hm]
  by_cases e : m < 200
  · rw [if_pos ⟨nI_pos hm, show nI m < 200 from nI_lt (a := m) (b := 200) e (by decide)⟩]
    by_cases e2 : j = m
    · subst e2; rw [am_u_eq, if_pos ⟨e, rfl⟩]
    · rw [am_u_nj e2, if_neg (fun z => e2 z.2)]
  · rw [if_neg (fun z => nI_nlt (a := m) (b := 200) (by omega) hm z.2), if_neg (fun z => e z.1)]
theorem am_kp_ne {D : Nat → Nat → Int32} {v : Int32} {c j : Nat} (h1 : c ≠ 60) (h2 : c ≠ 59 ∨ j ≠ 4) : am_kp D v c j = D c j := by
  unfold am_kp
  have e : am_u (if ¬ D 59 4 < 0 ∧ D 59 4 < 200 then am_u D 60 (D 59 4).toNatClampNeg v else D) 59 4 (D 59 4 + 1) c j = (if ¬ D 59 4 < 0 ∧ D 59 4 < 200 then am_u D 60 (D 59 4).toNatClampNeg v else D) c j := by
    generalize (if ¬ D 59 4 < 0 ∧ D 59 4 < 200 then am_u D 60 (D 59 4).toNatClampNeg v else D) = X
    unfold am_u
    rw [if_neg (by omega)]
  rw [e]
  split
  · rw [am_u_ne h1]
  · rfl
theorem am_RT.prn {C D : Nat → Nat → Int32} {m : Nat} {v : Int32} (hm : m < 2 ^ 31) (hD : D 95 0 = nI m) (h : am_RT C D) : am_RT (am_kp C v) (am_mpn D 0 99 v) := by
  have hC : C 59 4 = nI m := h.pc.trans hD
  refine ⟨fun j hj => ?_, fun j hj => ?_, fun j hj => ?_, fun j hj => ?_, fun j hj => ?_, ?_, fun j hj => ?_, fun j hj => ?_⟩
  · rw [am_kp_ne (by decide) (Or.inl (by decide)), am_mpn_ne (by decide) (by decide)]; exact h.r1 j hj
  · rw [am_kp_ne (by decide) (Or.inl (by decide)), am_mpn_ne (by decide) (by decide)]; exact h.r2 j hj
  · rw [am_kp_ne (by decide) (Or.inl (by decide)), am_mpn_ne (by decide) (by decide)]; exact h.m1 j hj
  · rw [am_kp_ne (by decide) (Or.inl (by decide)), am_mpn_ne (by decide) (by decide)]; exact h.m2 j hj
  · rw [am_kp_o hm hC, am_mpn_o (by decide) hm hD, h.pr j hj]
  · rw [am_mpn_v (by decide), hD]
    unfold am_kp
    rw [am_u_eq, hC]
  · rw [am_kp_ne (by decide) (Or.inl (by decide)), am_kp_ne (by decide) (Or.inl (by decide))]; exact h.vr j hj
  · rw [am_kp_ne (by decide) (Or.inl (by decide)), am_kp_ne (by decide) (Or.inl (by decide))]; exact h.vm j hj
set_option maxRecDepth 4000 in
theorem am_rks : ∀ k, k < 19 → ∀ x y, am_calc (am_sel (nI k)) (am_othz (nI k)) x y = am_rk (nI k) x y := by
  intro k hk x y
  rw [am_calcm _ _ x y (am_othz (nI k)) ((zb_01 (p := 0 ≤ nI k ∧ nI k < 28 ∧ am_t4.getD (nI k).toNatClampNeg 0 = 1)).imp (fun h => ⟨h, h⟩) (fun h => ⟨h, h⟩))]
  have T : ∀ k, k < 19 → am_sel (nI k) = am_t3.getD k 0 ∧ am_othz (nI k) = am_t4.getD k 0 := by decide +kernel
  rw [(T k hk).1, (T k hk).2]
  rcases k with _ | _ | _ | _ | _ | _ | _ | _ | _ | _ | _ | _ | _ | _ | _ | _ | _ | _ | _ | k
  · show am_md 0 0 x y = am_rk 0 x y
    unfold am_md am_rk
    rw [if_pos (show (0 : Int32) = 0 from rfl), if_neg (show ¬ (0 : Int32) = 1 by decide)]
    rw [if_pos (show (0 : Int32) = 0 from rfl)]
  · show am_md 0 1 x y = am_rk 1 x y
    unfold am_md am_rk
    rw [if_pos (show (0 : Int32) = 0 from rfl), if_pos (show (1 : Int32) = 1 from rfl)]
    rw [if_neg (show ¬ (1 : Int32) = 0 by decide), if_pos (show (1 : Int32) = 1 from rfl)]
  · show am_md 7 0 x y = am_rk 2 x y
    unfold am_md am_rk
    rw [if_neg (show ¬ (7 : Int32) = 0 by decide), if_neg (show ¬ (7 : Int32) = 1 by decide), if_neg (show ¬ (7 : Int32) = 2 by decide), if_neg (show ¬ (7 : Int32) = 3 by decide), if_neg (show ¬ (7 : Int32) = 4 by decide), if_neg (show ¬ (7 : Int32) = 5 by decide), if_neg (show ¬ (7 : Int32) = 6 by decide)]
    rw [if_neg (show ¬ (2 : Int32) = 0 by decide), if_neg (show ¬ (2 : Int32) = 1 by decide), if_pos (show (2 : Int32) = 2 from rfl)]
  · show am_md 6 0 x y = am_rk 3 x y
    unfold am_md am_rk
    rw [if_neg (show ¬ (6 : Int32) = 0 by decide), if_neg (show ¬ (6 : Int32) = 1 by decide), if_neg (show ¬ (6 : Int32) = 2 by decide), if_neg (show ¬ (6 : Int32) = 3 by decide), if_neg (show ¬ (6 : Int32) = 4 by decide), if_neg (show ¬ (6 : Int32) = 5 by decide), if_pos (show (6 : Int32) = 6 from rfl)]
    rw [if_neg (show ¬ (3 : Int32) = 0 by decide), if_neg (show ¬ (3 : Int32) = 1 by decide), if_neg (show ¬ (3 : Int32) = 2 by decide), if_pos (show (3 : Int32) = 3 from rfl)]
  · show am_md 4 0 x y = am_rk 4 x y
    unfold am_md am_rk
    rw [if_neg (show ¬ (4 : Int32) = 0 by decide), if_neg (show ¬ (4 : Int32) = 1 by decide), if_neg (show ¬ (4 : Int32) = 2 by decide), if_neg (show ¬ (4 : Int32) = 3 by decide), if_pos (show (4 : Int32) = 4 from rfl)]
    rw [if_neg (show ¬ (4 : Int32) = 0 by decide), if_neg (show ¬ (4 : Int32) = 1 by decide), if_neg (show ¬ (4 : Int32) = 2 by decide), if_neg (show ¬ (4 : Int32) = 3 by decide), if_pos (show (4 : Int32) = 4 from rfl)]
  · show am_md 1 0 x y = am_rk 5 x y
    unfold am_md am_rk
    rw [if_neg (show ¬ (1 : Int32) = 0 by decide), if_pos (show (1 : Int32) = 1 from rfl)]
    rw [if_neg (show ¬ (5 : Int32) = 0 by decide), if_neg (show ¬ (5 : Int32) = 1 by decide), if_neg (show ¬ (5 : Int32) = 2 by decide), if_neg (show ¬ (5 : Int32) = 3 by decide), if_neg (show ¬ (5 : Int32) = 4 by decide), if_pos (show (5 : Int32) = 5 from rfl)]
  · show am_md 5 0 x y = am_rk 6 x y
    unfold am_md am_rk
    rw [if_neg (show ¬ (5 : Int32) = 0 by decide), if_neg (show ¬ (5 : Int32) = 1 by decide), if_neg (show ¬ (5 : Int32) = 2 by decide), if_neg (show ¬ (5 : Int32) = 3 by decide), if_neg (show ¬ (5 : Int32) = 4 by decide), if_pos (show (5 : Int32) = 5 from rfl), if_neg (show ¬ (0 : Int32) = 1 by decide)]
    rw [if_neg (show ¬ (6 : Int32) = 0 by decide), if_neg (show ¬ (6 : Int32) = 1 by decide), if_neg (show ¬ (6 : Int32) = 2 by decide), if_neg (show ¬ (6 : Int32) = 3 by decide), if_neg (show ¬ (6 : Int32) = 4 by decide), if_neg (show ¬ (6 : Int32) = 5 by decide), if_pos (show (6 : Int32) = 6 from rfl)]
  · show am_md 5 1 x y = am_rk 7 x y
    unfold am_md am_rk
    rw [if_neg (show ¬ (5 : Int32) = 0 by decide), if_neg (show ¬ (5 : Int32) = 1 by decide), if_neg (show ¬ (5 : Int32) = 2 by decide), if_neg (show ¬ (5 : Int32) = 3 by decide), if_neg (show ¬ (5 : Int32) = 4 by decide), if_pos (show (5 : Int32) = 5 from rfl), if_pos (show (1 : Int32) = 1 from rfl)]
    rw [if_neg (show ¬ (7 : Int32) = 0 by decide), if_neg (show ¬ (7 : Int32) = 1 by decide), if_neg (show ¬ (7 : Int32) = 2 by decide), if_neg (show ¬ (7 : Int32) = 3 by decide), if_neg (show ¬ (7 : Int32) = 4 by decide), if_neg (show ¬ (7 : Int32) = 5 by decide), if_neg (show ¬ (7 : Int32) = 6 by decide), if_pos (show (7 : Int32) = 7 from rfl)]
  · show am_md 2 0 x y = am_rk 8 x y
    unfold am_md am_rk
    rw [if_neg (show ¬ (2 : Int32) = 0 by decide), if_neg (show ¬ (2 : Int32) = 1 by decide), if_pos (show (2 : Int32) = 2 from rfl)]
    rw [if_neg (show ¬ (8 : Int32) = 0 by decide), if_neg (show ¬ (8 : Int32) = 1 by decide), if_neg (show ¬ (8 : Int32) = 2 by decide), if_neg (show ¬ (8 : Int32) = 3 by decide), if_neg (show ¬ (8 : Int32) = 4 by decide), if_neg (show ¬ (8 : Int32) = 5 by decide), if_neg (show ¬ (8 : Int32) = 6 by decide), if_neg (show ¬ (8 : Int32) = 7 by decide), if_pos (show (8 : Int32) = 8 from rfl)]
  · show am_md 3 0 x y = am_rk 9 x y
    unfold am_md am_rk
    rw [if_neg (show ¬ (3 : Int32) = 0 by decide), if_neg (show ¬ (3 : Int32) = 1 by decide), if_neg (show ¬ (3 : Int32) = 2 by decide), if_pos (show (3 : Int32) = 3 from rfl)]
    rw [if_neg (show ¬ (9 : Int32) = 0 by decide), if_neg (show ¬ (9 : Int32) = 1 by decide), if_neg (show ¬ (9 : Int32) = 2 by decide), if_neg (show ¬ (9 : Int32) = 3 by decide), if_neg (show ¬ (9 : Int32) = 4 by decide), if_neg (show ¬ (9 : Int32) = 5 by decide), if_neg (show ¬ (9 : Int32) = 6 by decide), if_neg (show ¬ (9 : Int32) = 7 by decide), if_neg (show ¬ (9 : Int32) = 8 by decide), if_pos (show (9 : Int32) = 9 from rfl)]
  · show am_md 0 0 x y = am_rk 10 x y
    unfold am_md am_rk
    rw [if_pos (show (0 : Int32) = 0 from rfl), if_neg (show ¬ (0 : Int32) = 1 by decide)]
    rw [if_neg (show ¬ (10 : Int32) = 0 by decide), if_neg (show ¬ (10 : Int32) = 1 by decide), if_neg (show ¬ (10 : Int32) = 2 by decide), if_neg (show ¬ (10 : Int32) = 3 by decide), if_neg (show ¬ (10 : Int32) = 4 by decide), if_neg (show ¬ (10 : Int32) = 5 by decide), if_neg (show ¬ (10 : Int32) = 6 by decide), if_neg (show ¬ (10 : Int32) = 7 by decide), if_neg (show ¬ (10 : Int32) = 8 by decide), if_neg (show ¬ (10 : Int32) = 9 by decide), if_pos (show (10 : Int32) = 10 from rfl)]
  · show am_md 7 0 x y = am_rk 11 x y
    unfold am_md am_rk
    rw [if_neg (show ¬ (7 : Int32) = 0 by decide), if_neg (show ¬ (7 : Int32) = 1 by decide), if_neg (show ¬ (7 : Int32) = 2 by decide), if_neg (show ¬ (7 : Int32) = 3 by decide), if_neg (show ¬ (7 : Int32) = 4 by decide), if_neg (show ¬ (7 : Int32) = 5 by decide), if_neg (show ¬ (7 : Int32) = 6 by decide)]
    rw [if_neg (show ¬ (11 : Int32) = 0 by decide), if_neg (show ¬ (11 : Int32) = 1 by decide), if_neg (show ¬ (11 : Int32) = 2 by decide), if_neg (show ¬ (11 : Int32) = 3 by decide), if_neg (show ¬ (11 : Int32) = 4 by decide), if_neg (show ¬ (11 : Int32) = 5 by decide), if_neg (show ¬ (11 : Int32) = 6 by decide), if_neg (show ¬ (11 : Int32) = 7 by decide), if_neg (show ¬ (11 : Int32) = 8 by decide), if_neg (show ¬ (11 : Int32) = 9 by decide), if_neg (show ¬ (11 : Int32) = 10 by decide), if_pos (show (11 : Int32) = 11 from rfl)]
  · show am_md 6 0 x y = am_rk 12 x y
    unfold am_md am_rk
    rw [if_neg (show ¬ (6 : Int32) = 0 by decide), if_neg (show ¬ (6 : Int32) = 1 by decide), if_neg (show ¬ (6 : Int32) = 2 by decide), if_neg (show ¬ (6 : Int32) = 3 by decide), if_neg (show ¬ (6 : Int32) = 4 by decide), if_neg (show ¬ (6 : Int32) = 5 by decide), if_pos (show (6 : Int32) = 6 from rfl)]
    rw [if_neg (show ¬ (12 : Int32) = 0 by decide), if_neg (show ¬ (12 : Int32) = 1 by decide), if_neg (show ¬ (12 : Int32) = 2 by decide), if_neg (show ¬ (12 : Int32) = 3 by decide), if_neg (show ¬ (12 : Int32) = 4 by decide), if_neg (show ¬ (12 : Int32) = 5 by decide), if_neg (show ¬ (12 : Int32) = 6 by decide), if_neg (show ¬ (12 : Int32) = 7 by decide), if_neg (show ¬ (12 : Int32) = 8 by decide), if_neg (show ¬ (12 : Int32) = 9 by decide), if_neg (show ¬ (12 : Int32) = 10 by decide), if_neg (show ¬ (12 : Int32) = 11 by decide), if_pos (show (12 : Int32) = 12 from rfl)]
  · show am_md 4 0 x y = am_rk 13 x y
    unfold am_md am_rk
    rw [if_neg (show ¬ (4 : Int32) = 0 by decide), if_neg (show ¬ (4 : Int32) = 1 by decide), if_neg (show ¬ (4 : Int32) = 2 by decide), if_neg (show ¬ (4 : Int32) = 3 by decide), if_pos (show (4 : Int32) = 4 from rfl)]
    rw [if_neg (show ¬ (13 : Int32) = 0 by decide), if_neg (show ¬ (13 : Int32) = 1 by decide), if_neg (show ¬ (13 : Int32) = 2 by decide), if_neg (show ¬ (13 : Int32) = 3 by decide), if_neg (show ¬ (13 : Int32) = 4 by decide), if_neg (show ¬ (13 : Int32) = 5 by decide), if_neg (show ¬ (13 : Int32) = 6 by decide), if_neg (show ¬ (13 : Int32) = 7 by decide), if_neg (show ¬ (13 : Int32) = 8 by decide), if_neg (show ¬ (13 : Int32) = 9 by decide), if_neg (show ¬ (13 : Int32) = 10 by decide), if_neg (show ¬ (13 : Int32) = 11 by decide), if_neg (show ¬ (13 : Int32) = 12 by decide), if_pos (show (13 : Int32) = 13 from rfl)]
  · show am_md 2 0 x y = am_rk 14 x y
    unfold am_md am_rk
    rw [if_neg (show ¬ (2 : Int32) = 0 by decide), if_neg (show ¬ (2 : Int32) = 1 by decide), if_pos (show (2 : Int32) = 2 from rfl)]
    rw [if_neg (show ¬ (14 : Int32) = 0 by decide), if_neg (show ¬ (14 : Int32) = 1 by decide), if_neg (show ¬ (14 : Int32) = 2 by decide), if_neg (show ¬ (14 : Int32) = 3 by decide), if_neg (show ¬ (14 : Int32) = 4 by decide), if_neg (show ¬ (14 : Int32) = 5 by decide), if_neg (show ¬ (14 : Int32) = 6 by decide), if_neg (show ¬ (14 : Int32) = 7 by decide), if_neg (show ¬ (14 : Int32) = 8 by decide), if_neg (show ¬ (14 : Int32) = 9 by decide), if_neg (show ¬ (14 : Int32) = 10 by decide), if_neg (show ¬ (14 : Int32) = 11 by decide), if_neg (show ¬ (14 : Int32) = 12 by decide), if_neg (show ¬ (14 : Int32) = 13 by decide), if_pos (show (14 : Int32) = 14 from rfl)]
  · show am_md 3 0 x y = am_rk 15 x y
    unfold am_md am_rk
    rw [if_neg (show ¬ (3 : Int32) = 0 by decide), if_neg (show ¬ (3 : Int32) = 1 by decide), if_neg (show ¬ (3 : Int32) = 2 by decide), if_pos (show (3 : Int32) = 3 from rfl)]
    rw [if_neg (show ¬ (15 : Int32) = 0 by decide), if_neg (show ¬ (15 : Int32) = 1 by decide), if_neg (show ¬ (15 : Int32) = 2 by decide), if_neg (show ¬ (15 : Int32) = 3 by decide), if_neg (show ¬ (15 : Int32) = 4 by decide), if_neg (show ¬ (15 : Int32) = 5 by decide), if_neg (show ¬ (15 : Int32) = 6 by decide), if_neg (show ¬ (15 : Int32) = 7 by decide), if_neg (show ¬ (15 : Int32) = 8 by decide), if_neg (show ¬ (15 : Int32) = 9 by decide), if_neg (show ¬ (15 : Int32) = 10 by decide), if_neg (show ¬ (15 : Int32) = 11 by decide), if_neg (show ¬ (15 : Int32) = 12 by decide), if_neg (show ¬ (15 : Int32) = 13 by decide), if_neg (show ¬ (15 : Int32) = 14 by decide), if_pos (show (15 : Int32) = 15 from rfl)]
  · show am_md 1 0 x y = am_rk 16 x y
    unfold am_md am_rk
    rw [if_neg (show ¬ (1 : Int32) = 0 by decide), if_pos (show (1 : Int32) = 1 from rfl)]
    rw [if_neg (show ¬ (16 : Int32) = 0 by decide), if_neg (show ¬ (16 : Int32) = 1 by decide), if_neg (show ¬ (16 : Int32) = 2 by decide), if_neg (show ¬ (16 : Int32) = 3 by decide), if_neg (show ¬ (16 : Int32) = 4 by decide), if_neg (show ¬ (16 : Int32) = 5 by decide), if_neg (show ¬ (16 : Int32) = 6 by decide), if_neg (show ¬ (16 : Int32) = 7 by decide), if_neg (show ¬ (16 : Int32) = 8 by decide), if_neg (show ¬ (16 : Int32) = 9 by decide), if_neg (show ¬ (16 : Int32) = 10 by decide), if_neg (show ¬ (16 : Int32) = 11 by decide), if_neg (show ¬ (16 : Int32) = 12 by decide), if_neg (show ¬ (16 : Int32) = 13 by decide), if_neg (show ¬ (16 : Int32) = 14 by decide), if_neg (show ¬ (16 : Int32) = 15 by decide), if_pos (show (16 : Int32) = 16 from rfl)]
  · show am_md 5 0 x y = am_rk 17 x y
    unfold am_md am_rk
    rw [if_neg (show ¬ (5 : Int32) = 0 by decide), if_neg (show ¬ (5 : Int32) = 1 by decide), if_neg (show ¬ (5 : Int32) = 2 by decide), if_neg (show ¬ (5 : Int32) = 3 by decide), if_neg (show ¬ (5 : Int32) = 4 by decide), if_pos (show (5 : Int32) = 5 from rfl), if_neg (show ¬ (0 : Int32) = 1 by decide)]
    rw [if_neg (show ¬ (17 : Int32) = 0 by decide), if_neg (show ¬ (17 : Int32) = 1 by decide), if_neg (show ¬ (17 : Int32) = 2 by decide), if_neg (show ¬ (17 : Int32) = 3 by decide), if_neg (show ¬ (17 : Int32) = 4 by decide), if_neg (show ¬ (17 : Int32) = 5 by decide), if_neg (show ¬ (17 : Int32) = 6 by decide), if_neg (show ¬ (17 : Int32) = 7 by decide), if_neg (show ¬ (17 : Int32) = 8 by decide), if_neg (show ¬ (17 : Int32) = 9 by decide), if_neg (show ¬ (17 : Int32) = 10 by decide), if_neg (show ¬ (17 : Int32) = 11 by decide), if_neg (show ¬ (17 : Int32) = 12 by decide), if_neg (show ¬ (17 : Int32) = 13 by decide), if_neg (show ¬ (17 : Int32) = 14 by decide), if_neg (show ¬ (17 : Int32) = 15 by decide), if_neg (show ¬ (17 : Int32) = 16 by decide), if_pos (show (17 : Int32) = 17 from rfl)]
  · show am_md 5 1 x y = am_rk 18 x y
    unfold am_md am_rk
    rw [if_neg (show ¬ (5 : Int32) = 0 by decide), if_neg (show ¬ (5 : Int32) = 1 by decide), if_neg (show ¬ (5 : Int32) = 2 by decide), if_neg (show ¬ (5 : Int32) = 3 by decide), if_neg (show ¬ (5 : Int32) = 4 by decide), if_pos (show (5 : Int32) = 5 from rfl), if_pos (show (1 : Int32) = 1 from rfl)]
    rw [if_neg (show ¬ (18 : Int32) = 0 by decide), if_neg (show ¬ (18 : Int32) = 1 by decide), if_neg (show ¬ (18 : Int32) = 2 by decide), if_neg (show ¬ (18 : Int32) = 3 by decide), if_neg (show ¬ (18 : Int32) = 4 by decide), if_neg (show ¬ (18 : Int32) = 5 by decide), if_neg (show ¬ (18 : Int32) = 6 by decide), if_neg (show ¬ (18 : Int32) = 7 by decide), if_neg (show ¬ (18 : Int32) = 8 by decide), if_neg (show ¬ (18 : Int32) = 9 by decide), if_neg (show ¬ (18 : Int32) = 10 by decide), if_neg (show ¬ (18 : Int32) = 11 by decide), if_neg (show ¬ (18 : Int32) = 12 by decide), if_neg (show ¬ (18 : Int32) = 13 by decide), if_neg (show ¬ (18 : Int32) = 14 by decide), if_neg (show ¬ (18 : Int32) = 15 by decide), if_neg (show ¬ (18 : Int32) = 16 by decide), if_neg (show ¬ (18 : Int32) = 17 by decide), if_pos (show (18 : Int32) = 18 from rfl)]
  · exfalso; omega
/-- what one instruction does on both sides, if it is no jump, call or branch -/
def am_TS (C D : Nat → Nat → Int32) (m : Nat) (t : Int32 × (Nat → Nat → Int32)) (r : Int32 × (Nat → Nat → Int32)) : Prop := (r = (0, D) ∧ t = (2, C)) ∨ (r.1 = 1 ∧ t.1 = 3 ∧ t.2 59 10 = C 59 10 ∧ t.2 59 11 = C 59 11 + 1 ∧ am_RT t.2 r.2 ∧ (r.2 95 0 = nI m ∨ r.2 95 0 = nI (m + 1)))
theorem am_TS_w {C D : Nat → Nat → Int32} {m : Nat} {k s v : Int32} (hk : vp_in k 32) (hv : am_VT s v) (h : am_RT C D) (hm : D 95 0 = nI m) : am_TS C D m (3, am_go (am_wr C k s v)) (1, am_mst D k s v) := by
  refine Or.inr ⟨rfl, rfl, ?_, ?_, (am_RT.wr hk hv h).u59 (by decide), Or.inl ?_⟩
  · show am_go (am_wr C k s v) 59 10 = _
    unfold am_go
    rw [am_u_nj (by decide), am_wr_ne (by decide) (by decide)]
  · show am_go (am_wr C k s v) 59 11 = _
    unfold am_go
    rw [am_u_eq, am_wr_ne (by decide) (by decide)]
  · show am_mst D k s v 95 0 = _
    unfold am_mst
    split
    · exact hm
    · rw [am_u_ne (by decide), am_u_ne (by decide)]; exact hm
