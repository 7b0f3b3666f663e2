/-- the machine of the program as told -/
def am_MT (D : Nat → Nat → Int32) : Prop := ((D 59 1 = 0 ∧ D 93 0 = -1 ∧ D 59 4 = 0 ∧ (∀ k, k < 32 → D 62 k = 0) ∧ ∀ k, k < 64 → D 64 k = 0) ∨ (D 59 1 = 1 ∧ ¬ D 93 0 = -1 ∧ D 93 0 = D 59 2 ∧ D 94 0 = D 59 3 ∧ (if D 59 2 = 0 then D 96 0 = -1 ∧ D 97 0 = -1 else D 96 0 = D 59 10 ∧ D 97 0 = D 59 11))) ∧ am_RT D D
theorem am_itn {p : Prop} [Decidable p] {a b : Int32 × (Nat → Nat → Int32)} {v : Int32} (ha : ¬ a.1 = v) (hb : ¬ b.1 = v) : ¬ (if p then a else b).1 = v := by
  split
  · exact ha
  · exact hb
theorem am_tsp_m (C : Nat → Nat → Int32) : ¬ (am_tsp C).1 = -1 := by
  unfold am_tsp
  split
  · exact show ¬ (2 : Int32) = -1 by decide
  · unfold am_tsn am_tca am_tbr am_tld am_tst am_tgb am_tpr
    repeat' refine am_itn ?_ ?_
    all_goals first | exact show ¬ (2 : Int32) = -1 by decide | exact show ¬ (3 : Int32) = -1 by decide | exact show ¬ (0 : Int32) = -1 by decide
theorem am_fi2_ne {D : Nat → Nat → Int32} {o p n c j : Nat} (h1 : c ≠ o) (h2 : c ≠ p) : am_fi2 D o p n c j = D c j := by
  unfold am_fi2
  rw [if_neg (by omega)]
theorem am_fi2_eq {D : Nat → Nat → Int32} {o p n c j : Nat} (h1 : c = o ∨ c = p) (h2 : j < n) : am_fi2 D o p n c j = 0 := by
  unfold am_fi2
  rw [if_pos ⟨h1, h2⟩]
theorem am_bg0_ne {D : Nat → Nat → Int32} {c j : Nat} (h1 : c ≠ 102) (h2 : c ≠ 107) (h3 : c ≠ 105) (h4 : c ≠ 108) (h : (c ≠ 94 ∧ c ≠ 95 ∧ c ≠ 97) ∨ j ≠ 0) : am_bg0 D c j = D c j := by
  unfold am_bg0
  rw [am_fi2_ne h3 h4, am_fi2_ne h1 h2]
  unfold am_u
  rw [if_neg (by omega), if_neg (by omega), if_neg (by omega)]
theorem c_X12_runTold {e : am_E} {kc ks N F : Nat} {sz : Nat → Nat} {Q : am_Q} {C D : Nat → Nat → Int32} (hN : N ≤ 20000) (hN1 : 1 ≤ N) (hR : am_RT C (am_u (am_u D 102 1 (-1)) 107 1 2)) (hP : am_PG C D F sz) (h10 : C 59 10 = 0) (h11 : C 59 11 = 0) (h94 : D 94 0 = 0) (h95 : D 95 0 = 0) (q : ∀ D', am_ET (am_drv am_tsp N 3 0 C).1 (am_drv am_tsp N 3 0 C).2.2 D' (am_drv am_tsp N 3 0 C).2.1 → am_FT D' D → Q (some (.int (if (am_drv am_tsp N 3 0 C).1 = 3 then 1 else (am_drv am_tsp N 3 0 C).1))) (hp D' e)) : am_Go (mX12_runTold, 0, am_ent mX12_runTold [.ref 69, .int (nI N)], [], hp D e, kc, ks, Q) := by
  refine go_s 3 rfl ?_
  refine go_m rfl rfl (by first | decide | (unfold vp_in; decide)) ?_
  refine go_s 2 rfl ?_
  refine go_m rfl rfl (by first | decide | (unfold vp_in; decide)) ?_
  refine go_s 4 rfl ?_
  refine go_m rfl rfl (by first | decide | (unfold vp_in; decide)) ?_
  refine go_s 4 rfl ?_
  show am_Go (mX12_runTold, 20, [.ref 69, .int (nI N), .int 0, .int 0, .long 0, .long 0, .long 0], [], hp (am_u (am_u D 102 1 (-1)) 107 1 2) e, kc, ks, Q)
  refine c_runT hN hN1 N 0 0 0 C _ _ _ _ _ _ (by omega) ⟨hR, ?_, by decide, by decide, h10, h11, 0, Nat.le_refl _, ?_⟩ (hP.fr (fun _ _ _ _ _ => rfl) (fun c j h1 h2 _ => ?_)) rfl rfl (Or.inl rfl) ?_
  · exact (am_u_ne (by decide)).trans ((am_u_ne (by decide)).trans h94)
  · exact (am_u_ne (by decide)).trans ((am_u_ne (by decide)).trans h95)
  · exact (am_u_ne (by omega)).trans (am_u_ne (by omega))
  · intro D' a1 a2
    exact q D' a1 (fun c j b1 b2 b3 b4 b5 b6 b7 => (a2 c j b1 b2 b3 b4 b5 b6 b7).trans ((am_u_ne b4).trans (am_u_ne b2)))
def am_C59 (D : Nat → Nat → Int32) : Nat → Nat → Int32 := am_tr0 (am_u (am_u D 59 1 1) 59 4 0)
theorem am_C59_ne {D : Nat → Nat → Int32} {c j : Nat} (h1 : c ≠ 59) (h2 : c ≠ 61) (h3 : c ≠ 62) (h4 : c ≠ 63) (h5 : c ≠ 64) : am_C59 D c j = D c j := by
  unfold am_C59 am_tr0
  rw [am_u_ne h1, am_u_ne h1, am_wr_ne h2 h3, am_fil_ne h5, am_fil_ne h4, am_fil_ne h3, am_fil_ne h2, am_u_ne h1, am_u_ne h1]
def am_E59 (D : Nat → Nat → Int32) (N : Nat) : Nat → Nat → Int32 := am_u (am_u (am_dv_59 D N).2.2 59 3 (nI (am_dv_59 D N).2.1)) 59 2 (am_oc_59 D N)
theorem am_E59_ne {D : Nat → Nat → Int32} {N c j : Nat} (h0 : c ≠ 59) (h1 : c ≠ 60) (h2 : c ≠ 61) (h3 : c ≠ 62) (h4 : c ≠ 63) (h5 : c ≠ 64) : am_E59 D N c j = D c j := by
  unfold am_E59
  rw [am_u_ne h0, am_u_ne h0]
  unfold am_dv_59
  rw [am_drv_fr (fun C => am_tsp_fr h0 h1 h2 h3 h4 h5)]
  exact am_C59_ne h0 h2 h3 h4 h5
theorem am_tsn_59 {D : Nat → Nat → Int32} {s n : Int32} {j : Nat} (h4 : j ≠ 4) (h10 : j ≠ 10) (h11 : j ≠ 11) : (am_tsn D s n).2 59 j = D 59 j := by
  have g : ∀ D : Nat → Nat → Int32, am_go D 59 j = D 59 j := fun D => am_u_nj h11
  have u1 : ∀ (D : Nat → Nat → Int32) v, am_u D 59 10 v 59 j = D 59 j := fun D v => am_u_nj h10
  have u2 : ∀ (D : Nat → Nat → Int32) v, am_u D 59 11 v 59 j = D 59 j := fun D v => am_u_nj h11
  have w : ∀ (X : Nat → Nat → Int32) a b v, am_wr X a b v 59 j = X 59 j := fun X a b v => am_wr_ne (by decide) (by decide)
  have u3 : ∀ (X : Nat → Nat → Int32) a v, am_u X 63 a v 59 j = X 59 j := fun X a v => am_u_ne (by decide)
  have u4 : ∀ (X : Nat → Nat → Int32) a v, am_u X 64 a v 59 j = X 59 j := fun X a v => am_u_ne (by decide)
  have kp : ∀ (X : Nat → Nat → Int32) v, am_kp X v 59 j = X 59 j := fun X v => am_kp_ne (by decide) (Or.inr h4)
  unfold am_tsn am_tca am_tbr am_tld am_tst am_tgb am_tpr
  repeat' refine am_itf ?_ ?_
  all_goals first | rfl | exact (g _).trans (w _ _ _ _) | exact g _ | exact (u2 _ _).trans (u1 _ _) | exact (u2 _ _).trans ((u1 _ _).trans (w _ _ _ _)) | exact (g _).trans ((u4 _ _ _).trans (u3 _ _ _)) | exact (g _).trans (kp _ _)
theorem am_tsp_59 {D : Nat → Nat → Int32} {j : Nat} (h4 : j ≠ 4) (h10 : j ≠ 10) (h11 : j ≠ 11) : (am_tsp D).2 59 j = D 59 j := by
  unfold am_tsp
  split
  · rfl
  · exact am_tsn_59 h4 h10 h11
theorem am_oc0 {s : Int32} : ((if s = 3 then (1 : Int32) else s) = 0) ↔ s = 0 := by
  split
  · rename_i h; subst h; decide
  · exact Iff.rfl
theorem c_X12_run_0 {D : Nat → Nat → Int32} {e : am_E} {kc ks N F : Nat} {sz : Nat → Nat} {Q : am_Q} (hN1 : 1 ≤ N) (hN2 : N ≤ 20000) (hP : am_PG D D F sz) (hC : am_MT D) (q : ∀ D', (∀ c j, c < 69 → D' c j = (am_rn_59 D N).2 c j) → (∀ c j, 69 ≤ c → c ≠ 99 → c ≠ 102 → c ≠ 105 → c ≠ 107 → c ≠ 108 → ((c ≠ 93 ∧ c ≠ 94 ∧ c ≠ 95 ∧ c ≠ 96 ∧ c ≠ 97) ∨ j ≠ 0) → (c ≠ 69 ∨ j ≠ 40) → D' c j = D c j) → am_MT D' → Q (some (.int (am_rn_59 D N).1)) (hp D' e)) : am_Go (mX12_run, 0, am_ent mX12_run [.ref 69, .int 0, .int (nI N)], [], hp (am_rn_59 D N).2 e, kc, ks, Q) := by
  refine go_s 3 rfl ?_
  refine go_st kX12_run_3 okX12_in rfl rfl rfl (Nat.zero_le _) (Nat.zero_le _) ?_
  refine c_X12_in ?_
  refine go_s 1 rfl ?_
  refine go_if (fun c => absurd c (by decide)) (fun c => ?_)
  refine go_s 3 rfl ?_
  refine go_st kX12_run_14 okX12_in rfl rfl rfl (Nat.zero_le _) (Nat.zero_le _) ?_
  refine c_X12_in ?_
  refine go_s 1 rfl ?_
  refine go_if (fun c => absurd ⟨nI_nlt (a := N) (b := 1) hN1 (by omega), nI_nlt (a := 20000) (b := N) hN2 (by decide)⟩ (zb_0.mp c)) (fun c => ?_)
  refine go_s 2 rfl ?_
  refine go_if (fun c => ?_) (fun c => absurd rfl c)
  refine go_s 3 rfl ?_
  have hF := hP.hF
  by_cases hF0 : F = 0
  · have e5 : D 1 5 = 0 := by rw [hP.c5, hF0]; rfl
    have hr : am_rn_59 D N = (-1, D) := by
      unfold am_rn_59
      rw [e5]
      exact if_pos rfl
    rw [hr] at q ⊢
    have e1 : D 69 1 = 0 := by rw [hP.m1, hF0]; rfl
    refine go_if (fun c => ?_) (fun c => absurd e1 c)
    refine go_s 2 rfl ?_
    exact go_ret rfl rfl (q D (fun _ _ _ => rfl) (fun _ _ _ _ _ _ _ _ _ _ => rfl) hC)
  · have hr : am_rn_59 D N = (am_oc_59 D N, am_E59 D N) := by
      unfold am_rn_59
      rw [hP.c5]
      exact if_neg (fun z => zb_0.mp z ⟨by decide, nI_lt (a := 0) (b := F) (by omega) (by omega)⟩)
    rw [hr] at q ⊢
    dsimp only at q ⊢
    have hE : ∀ c j, 69 ≤ c → am_E59 D N c j = D c j := fun c j hc => am_E59_ne (by omega) (by omega) (by omega) (by omega) (by omega) (by omega)
    have f1 : ¬ am_E59 D N 69 1 = 0 := by rw [hE _ _ (by decide), hP.m1]; exact nI_ne0 (by omega) (by omega)
    refine go_if (fun c => absurd c f1) (fun c => ?_)
    refine go_s 2 rfl ?_
    refine go_v kX12_run_45 okX12_begin rfl rfl rfl rfl (Nat.zero_le _) (Nat.zero_le _) ?_
    refine c_X12_begin_0 ?_
    refine go_s 5 rfl ?_
    refine go_if (fun c => ?_) (fun c => absurd rfl c)
    refine go_s 2 rfl ?_
    refine go_v kX12_run_59 okX12_runTold rfl rfl rfl rfl (Nat.zero_le _) (Nat.zero_le _) ?_
    obtain ⟨hC1, hC2⟩ := hC
    have hbase : am_RT (am_fil (am_fil (am_fil (am_fil (am_u (am_u D 59 1 1) 59 4 0) 61 32 0) 62 32 0) 63 64 0) 64 64 0) (am_bg0 (am_E59 D N)) := by
      have k1 : ∀ k, k < 32 → am_fil (am_fil (am_fil (am_fil (am_u (am_u D 59 1 1) 59 4 0) 61 32 0) 62 32 0) 63 64 0) 64 64 0 61 k = 0 := fun k hk => by
        rw [am_fil_ne (by decide), am_fil_ne (by decide), am_fil_ne (by decide), am_fil_eq hk]
      have k2 : ∀ k, k < 32 → am_fil (am_fil (am_fil (am_fil (am_u (am_u D 59 1 1) 59 4 0) 61 32 0) 62 32 0) 63 64 0) 64 64 0 62 k = 0 := fun k hk => by
        rw [am_fil_ne (by decide), am_fil_ne (by decide), am_fil_eq hk]
      have k3 : ∀ k, k < 64 → am_fil (am_fil (am_fil (am_fil (am_u (am_u D 59 1 1) 59 4 0) 61 32 0) 62 32 0) 63 64 0) 64 64 0 63 k = 0 := fun k hk => by
        rw [am_fil_ne (by decide), am_fil_eq hk]
      have k4 : ∀ k, k < 64 → am_fil (am_fil (am_fil (am_fil (am_u (am_u D 59 1 1) 59 4 0) 61 32 0) 62 32 0) 63 64 0) 64 64 0 64 k = 0 := fun k hk => by
        rw [am_fil_eq hk]
      refine ⟨fun k hk => ?_, fun k hk => ?_, fun k hk => ?_, fun k hk => ?_, fun k hk => ?_, ?_, fun k hk => ?_, fun k hk => ?_⟩
      · rw [k1 k hk]
        unfold am_bg0
        rw [am_fi2_ne (by decide) (by decide), am_fi2_eq (Or.inr rfl) hk]
      · rw [k2 k hk]
        unfold am_bg0
        rw [am_fi2_ne (by decide) (by decide), am_fi2_eq (Or.inl rfl) hk]
      · rw [k3 k hk]
        unfold am_bg0
        rw [am_fi2_eq (Or.inr rfl) hk]
      · rw [k4 k hk]
        unfold am_bg0
        rw [am_fi2_eq (Or.inl rfl) hk]
      · rw [am_fil_ne (by decide), am_fil_ne (by decide), am_fil_ne (by decide), am_fil_ne (by decide), am_u_ne (by decide), am_u_ne (by decide), am_bg0_ne (by decide) (by decide) (by decide) (by decide) (Or.inl (by decide)), hE _ _ (by decide)]
        exact hC2.pr k hk
      · rw [am_fil_ne (by decide), am_fil_ne (by decide), am_fil_ne (by decide), am_fil_ne (by decide), am_u_eq]
        unfold am_bg0
        rw [am_fi2_ne (by decide) (by decide), am_fi2_ne (by decide) (by decide), am_u_ne (by decide), am_u_eq]
      · rw [k1 k hk]; exact am_VT_0 _
      · rw [k3 k hk]; exact am_VT_0 _
    have hw1 := hbase.wr (k := 1) (s := 2) (v := -1) (by unfold vp_in; decide) ⟨fun y => absurd y (by decide), fun _ => Or.inl rfl⟩
    have p1 : am_C59 D 59 1 = 1 := by
      unfold am_C59 am_tr0
      rw [am_u_nj (by decide), am_u_nj (by decide), am_wr_ne (by decide) (by decide), am_fil_ne (by decide), am_fil_ne (by decide), am_fil_ne (by decide), am_fil_ne (by decide), am_u_nj (by decide), am_u_eq]
    refine c_X12_runTold (C := am_C59 D) (F := F) (sz := sz) hN2 hN1 ((hw1.u59 (by decide)).u59 (by decide)) (hP.fr (fun c j _ _ _ => ?_) (fun c j h1 h2 _ => ?_)) ?_ ?_ ?_ ?_ ?_
    · exact am_C59_ne (by omega) (by omega) (by omega) (by omega) (by omega)
    · rw [am_bg0_ne (by omega) (by omega) (by omega) (by omega) (Or.inl (by omega)), hE _ _ h1]
    · unfold am_C59 am_tr0
      exact (am_u_nj (by decide)).trans am_u_eq
    · unfold am_C59 am_tr0
      exact am_u_eq
    · unfold am_bg0
      rw [am_fi2_ne (by decide) (by decide), am_fi2_ne (by decide) (by decide), am_u_ne (by decide), am_u_ne (by decide), am_u_eq]
    · unfold am_bg0
      rw [am_fi2_ne (by decide) (by decide), am_fi2_ne (by decide) (by decide), am_u_ne (by decide), am_u_eq]
    · intro D' hET hFT
      have hdv : am_dv_59 D N = am_drv am_tsp N 3 0 (am_C59 D) := rfl
      rw [← hdv] at hET
      obtain ⟨t1, t2, t3⟩ := hET
      refine go_s 1 rfl ?_
      refine go_m rfl rfl (by first | decide | (unfold vp_in; decide)) ?_
      refine go_s 3 rfl ?_
      refine go_m rfl rfl (by first | decide | (unfold vp_in; decide)) ?_
      have hb : ∀ c j, c < 93 → c ≠ 69 → D' c j = am_E59 D N c j := fun c j z1 z2 => by
        rw [hFT c j (by omega) (by omega) (by omega) (by omega) (by omega) (Or.inl (by omega)) (by omega), am_bg0_ne (by omega) (by omega) (by omega) (by omega) (Or.inl (by omega))]
      have hx : ∀ c j, c ≠ 59 ∨ (j ≠ 2 ∧ j ≠ 3) → am_E59 D N c j = (am_dv_59 D N).2.2 c j := fun c j z => by
        unfold am_E59 am_u
        rw [if_neg (by omega), if_neg (by omega)]
      have h2 : D' 59 2 = am_oc_59 D N := by
        rw [hb _ _ (by decide) (by decide)]
        exact am_u_eq
      have key : am_MT (am_u D' 93 0 (am_oc_59 D N)) := by
        refine ⟨Or.inr ⟨?_, ?_, ?_, ?_, ?_⟩, ?_⟩
        · rw [am_u_ne (by decide), hb _ _ (by decide) (by decide), hx _ _ (by omega), hdv, am_drv_fr (fun C => am_tsp_59 (by decide) (by decide) (by decide))]
          exact p1
        · rw [am_u_eq]
          unfold am_oc_59
          split
          · decide
          · rw [hdv]
            exact am_drv_o am_tsp_m _ _ _ _ (by decide)
        · rw [am_u_eq, am_u_ne (by decide), h2]
        · rw [am_u_ne (by decide), am_u_ne (by decide), t2, hb _ _ (by decide) (by decide)]
          unfold am_E59
          rw [am_u_nj (by decide), am_u_eq]
        · rw [am_u_ne (by decide), am_u_ne (by decide), am_u_ne (by decide), am_u_ne (by decide), am_u_ne (by decide), h2, hb 59 10 (by decide) (by decide), hb 59 11 (by decide) (by decide), hx 59 10 (by decide), hx 59 11 (by decide)]
          unfold am_oc_59
          by_cases e0 : (am_dv_59 D N).1 = 0
          · rw [if_pos e0] at t3
            rw [if_pos (am_oc0.mpr e0)]
            exact t3
          · rw [if_neg e0] at t3
            rw [if_neg (fun y => e0 (am_oc0.mp y))]
            exact t3
        · refine ⟨fun k hk => ?_, fun k hk => ?_, fun k hk => ?_, fun k hk => ?_, fun k hk => ?_, ?_, fun k hk => ?_, fun k hk => ?_⟩
          · rw [am_u_ne (by decide), am_u_ne (by decide), hb _ _ (by decide) (by decide), hx _ _ (by omega)]; exact t1.r1 k hk
          · rw [am_u_ne (by decide), am_u_ne (by decide), hb _ _ (by decide) (by decide), hx _ _ (by omega)]; exact t1.r2 k hk
          · rw [am_u_ne (by decide), am_u_ne (by decide), hb _ _ (by decide) (by decide), hx _ _ (by omega)]; exact t1.m1 k hk
          · rw [am_u_ne (by decide), am_u_ne (by decide), hb _ _ (by decide) (by decide), hx _ _ (by omega)]; exact t1.m2 k hk
          · rw [am_u_ne (by decide), am_u_ne (by decide), hb _ _ (by decide) (by decide), hx _ _ (by omega)]; exact t1.pr k hk
          · rw [am_u_ne (by decide), am_u_ne (by decide), hb _ _ (by decide) (by decide), hx _ _ (by omega)]; exact t1.pc
          · rw [am_u_ne (by decide), am_u_ne (by decide), hb _ _ (by decide) (by decide), hb _ _ (by decide) (by decide), hx _ _ (by omega), hx _ _ (by omega)]; exact t1.vr k hk
          · rw [am_u_ne (by decide), am_u_ne (by decide), hb _ _ (by decide) (by decide), hb _ _ (by decide) (by decide), hx _ _ (by omega), hx _ _ (by omega)]; exact t1.vm k hk
      refine go_ret rfl rfl (am_qi (q (am_u D' 93 0 (am_oc_59 D N)) (fun c j hc => ?_) (fun c j hc z1 z2 z3 z4 z5 z6 z7 => ?_) key) ?_ ?_)
      · rw [am_u_ne (by omega), hb _ _ (by omega) (by omega)]
      · have : am_u D' 93 0 (am_oc_59 D N) c j = D' c j := by
          unfold am_u
          rw [if_neg (by omega)]
        rw [this, hFT c j z1 z2 z3 z4 z5 z6 z7, am_bg0_ne z2 z4 z3 z5 (by omega), hE _ _ hc]
      · rfl
      · rfl
