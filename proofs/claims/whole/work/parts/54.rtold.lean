def am_PT (C D : Nat → Nat → Int32) (d f p : Nat) : Prop := (am_RT C D) ∧ (D 94 0 = nI d) ∧ (f < 24) ∧ (p < 64) ∧ (C 59 10 = nI f) ∧ (C 59 11 = nI p) ∧ (∃ m, m ≤ d ∧ D 95 0 = nI m)
theorem am_PT.rt {C D : Nat → Nat → Int32} {d f p : Nat} (h : am_PT C D d f p) : am_RT C D := h.1
theorem am_PT.st {C D : Nat → Nat → Int32} {d f p : Nat} (h : am_PT C D d f p) : D 94 0 = nI d := h.2.1
theorem am_PT.f24 {C D : Nat → Nat → Int32} {d f p : Nat} (h : am_PT C D d f p) : f < 24 := h.2.2.1
theorem am_PT.p64 {C D : Nat → Nat → Int32} {d f p : Nat} (h : am_PT C D d f p) : p < 64 := h.2.2.2.1
theorem am_PT.cf {C D : Nat → Nat → Int32} {d f p : Nat} (h : am_PT C D d f p) : C 59 10 = nI f := h.2.2.2.2.1
theorem am_PT.cp {C D : Nat → Nat → Int32} {d f p : Nat} (h : am_PT C D d f p) : C 59 11 = nI p := h.2.2.2.2.2.1
theorem am_PT.prn {C D : Nat → Nat → Int32} {d f p : Nat} (h : am_PT C D d f p) : ∃ m, m ≤ d ∧ D 95 0 = nI m := h.2.2.2.2.2.2
def am_FT (D' D : Nat → Nat → Int32) : Prop := ∀ c j, c ≠ 99 → c ≠ 102 → c ≠ 105 → c ≠ 107 → c ≠ 108 → ((c ≠ 93 ∧ c ≠ 94 ∧ c ≠ 95 ∧ c ≠ 96 ∧ c ≠ 97) ∨ j ≠ 0) → (c ≠ 69 ∨ j ≠ 40) → D' c j = D c j
/-- where a told run stands: what both sides say of it -/
def am_ET (s : Int32) (C D : Nat → Nat → Int32) (d : Nat) : Prop := am_RT C D ∧ D 94 0 = nI d ∧ (if s = 0 then D 96 0 = -1 ∧ D 97 0 = -1 else D 96 0 = C 59 10 ∧ D 97 0 = C 59 11)
theorem am_bk : ∀ f, f < 24 → ∀ p, p < 41 → (nI f <<< (6 : Int32) ||| nI p) = nI (64 * f + p) := by decide +kernel
theorem am_bk2 : ∀ m, m < 1536 → nI m / 64 = nI (m / 64) ∧ nI m - nI m / 64 * 64 = nI (m % 64) ∧ nI m >>> (6 : Int32) = nI (m / 64) ∧ nI m &&& (63 : Int32) = nI (m % 64) := by decide +kernel
theorem am_gPl {v : Int32} (h : ¬ am_su 5 v = 0) : ∃ m, m < 40 ∧ v = nI m := by
  have h : ¬ zb (¬ v < 0 ∧ v < 40) = 0 := h
  have h := zb_ne.mp h
  exact vp_in_of (vpn h.1 h.2 (by decide)) (by decide)
theorem am_gFn {v : Int32} (h : ¬ am_su 6 v = 0) : ∃ m, m < 24 ∧ v = nI m := by
  have h : ¬ zb (¬ v < 0 ∧ v < 24) = 0 := h
  have h := zb_ne.mp h
  exact vp_in_of (vpn h.1 h.2 (by decide)) (by decide)
theorem am_nx96 {E : Nat → Nat → Int32} {vf vp : Int32} : am_u (am_u E 96 0 vf) 97 0 vp 96 0 = vf := (am_u_ne (by decide)).trans am_u_eq
theorem am_nx97 {E : Nat → Nat → Int32} {vf vp : Int32} : am_u (am_u E 96 0 vf) 97 0 vp 97 0 = vp := am_u_eq
theorem am_PT_nx {C E : Nat → Nat → Int32} {d f p : Nat} {vf vp : Int32} (hR : am_RT C E) (h94 : E 94 0 = nI (d + 1)) (h95 : ∃ m, m ≤ d + 1 ∧ E 95 0 = nI m) (hf : f < 24) (hp : p < 64) (cf : C 59 10 = nI f) (cp : C 59 11 = nI p) : am_PT C (am_u (am_u E 96 0 vf) 97 0 vp) (d + 1) f p := by
  refine ⟨hR.fr (fun c j hc => ?_), ?_, hf, hp, cf, cp, ?_⟩
  · rw [am_u_ne (by omega), am_u_ne (by omega)]
  · rw [am_u_ne (by decide), am_u_ne (by decide)]; exact h94
  · obtain ⟨m, h1, h2⟩ := h95
    exact ⟨m, h1, by rw [am_u_ne (by decide), am_u_ne (by decide)]; exact h2⟩
theorem am_FT_nx {E D0 D : Nat → Nat → Int32} {vf vp : Int32} (h : am_FT E D0) (h0 : am_FT D0 D) : am_FT (am_u (am_u E 96 0 vf) 97 0 vp) D := fun c j a1 a2 a3 a4 a5 a6 a7 => by
  have : am_u (am_u E 96 0 vf) 97 0 vp c j = E c j := by
    unfold am_u
    rw [if_neg (by omega), if_neg (by omega)]
  rw [this, h c j a1 a2 a3 a4 a5 a6 a7, h0 c j a1 a2 a3 a4 a5 a6 a7]
theorem am_FT_mdo {D0 : Nat → Nat → Int32} {X : Nat} : am_FT (am_mdo D0 X).2 D0 := fun c j a1 a2 a3 a4 a5 a6 a7 => am_mdo_fr a1 a2 a3 a4 a5 (by omega) (by omega)
theorem am_FT_st {E D0 : Nat → Nat → Int32} {v : Int32} (h : am_FT E D0) : am_FT (am_u E 94 0 v) D0 := fun c j a1 a2 a3 a4 a5 a6 a7 => by
  have : am_u E 94 0 v c j = E c j := by
    unfold am_u
    rw [if_neg (by omega)]
  rw [this, h c j a1 a2 a3 a4 a5 a6 a7]
theorem am_PG_FT {C C' D D' : Nat → Nat → Int32} {F : Nat} {sz : Nat → Nat} (h : am_PG C D F sz) (hc : ∀ c j, c < 59 → C' c j = C c j) (hd : am_FT D' D) : am_PG C' D' F sz := h.fr (fun c j _ h2 _ => hc c j (by omega)) (fun c j h1 h2 h3 => hd c j (by omega) (by omega) (by omega) (by omega) (by omega) (Or.inl (by omega)) (by omega))
theorem am_RT_st {C D : Nat → Nat → Int32} {v : Int32} (h : am_RT C D) : am_RT C (am_u D 94 0 v) := h.fr (fun c j hc => am_u_ne (by omega))
theorem am_RT_goes {C D : Nat → Nat → Int32} {v : Int32} (h : am_RT C D) : am_RT C (am_u D 69 40 v) := h.fr (fun c j hc => am_u_ne (by omega))
theorem c_runT {e : am_E} {kc ks N F : Nat} {sz : Nat → Nat} {Q : am_Q} (hN : N ≤ 20000) (hN1 : 1 ≤ N) : ∀ (n d f p : Nat) (C D : Nat → Nat → Int32) (vf vp : Int32) (x4 x5 x6 : Value), n + d = N → am_PT C D d f p → am_PG C D F sz → vf = nI f → vp = nI p → (d = 0 ∨ (D 96 0 = nI f ∧ D 97 0 = nI p)) → (∀ D', am_ET (am_drv am_tsp n 3 d C).1 (am_drv am_tsp n 3 d C).2.2 D' (am_drv am_tsp n 3 d C).2.1 → am_FT D' D → Q (some (.int (if (am_drv am_tsp n 3 d C).1 = 3 then 1 else (am_drv am_tsp n 3 d C).1))) (hp D' e)) → am_Go (mX12_runTold, 20, [.ref 69, .int (nI N), .int vf, .int vp, x4, x5, x6], [], hp D e, kc, ks, Q)
  | 0, d, f, p, C, D, vf, vp, x4, x5, x6, hn, hT, hP, hvf, hvp, hw, q => by
    refine go_s 3 rfl ?_
    refine go_m rfl rfl (by first | decide | (unfold vp_in; decide)) ?_
    refine go_s 2 rfl ?_
    have h94 : D 94 0 = nI N := by rw [hT.st]; congr 1; omega
    refine go_if (fun c => absurd c ?_) (fun c => ?_)
    · show ¬ D 94 0 < nI N
      rw [h94]
      exact nI_nlt (Nat.le_refl _) (by omega)
    · refine go_s 1 rfl ?_
      refine go_ret rfl rfl (q D ⟨hT.rt, hT.st, ?_⟩ (fun _ _ _ _ _ _ _ _ _ => rfl))
      show if (3 : Int32) = 0 then _ else _
      rw [if_neg (by decide)]
      have := hw.resolve_left (by omega)
      exact ⟨this.1.trans hT.cf.symm, this.2.trans hT.cp.symm⟩
  | n + 1, d, f, p, C, D, vf, vp, x4, x5, x6, hn, hT, hP, hvf, hvp, hw, q => by
    subst hvf
    subst hvp
    have hu : am_drv am_tsp (n + 1) 3 d C = am_drv am_tsp n (am_tsp C).1 (if (am_tsp C).1 = 2 then d else d + 1) (am_tsp C).2 := if_pos rfl
    rw [hu] at q
    have hF := hP.hF
    have f24 := hT.f24
    have p64 := hT.p64
    obtain ⟨m, hm, h95⟩ := hT.prn
    refine go_s 3 rfl ?_
    refine go_m rfl rfl (by first | decide | (unfold vp_in; decide)) ?_
    refine go_s 2 rfl ?_
    refine go_if (fun c => ?_) (fun c => absurd ?_ c)
    rotate_left
    · show D 94 0 < nI N
      rw [hT.st]
      exact nI_lt (by omega) (by omega)
    refine go_s 4 rfl ?_
    refine go_m rfl rfl (by first | decide | (unfold vp_in; decide)) ?_
    refine go_s 4 rfl ?_
    refine go_m rfl rfl (by first | decide | (unfold vp_in; decide)) ?_
    show am_Go (mX12_runTold, 44, [.ref 69, .int (nI N), .int (nI f), .int (nI p), x4, x5, x6], [], hp (am_u (am_u D 96 0 (nI f)) 97 0 (nI p)) e, kc, ks, Q)
    refine go_s 4 rfl ?_
    have hFT0 : am_FT (am_u (am_u D 96 0 (nI f)) 97 0 (nI p)) D := fun c j _ _ _ _ _ a6 _ => by
      show am_u (am_u D 96 0 (nI f)) 97 0 (nI p) c j = _
      unfold am_u
      rw [if_neg (by omega), if_neg (by omega)]
    have hR0 : am_RT C (am_u (am_u D 96 0 (nI f)) 97 0 (nI p)) := hT.rt.fr (fun c j hc => by
      rw [am_u_ne (by omega), am_u_ne (by omega)])
    have hP0 : am_PG C (am_u (am_u D 96 0 (nI f)) 97 0 (nI p)) F sz := hP.fr (fun _ _ _ _ _ => rfl) (fun c j h1 h2 _ => by
      rw [am_u_ne (by omega), am_u_ne (by omega)])
    have k94 : am_u (am_u D 96 0 (nI f)) 97 0 (nI p) 94 0 = nI d := by
      rw [am_u_ne (by decide), am_u_ne (by decide)]; exact hT.st
    have k95 : am_u (am_u D 96 0 (nI f)) 97 0 (nI p) 95 0 = nI m := by
      rw [am_u_ne (by decide), am_u_ne (by decide)]; exact h95
    have k96 : am_u (am_u D 96 0 (nI f)) 97 0 (nI p) 96 0 = nI f := by
      rw [am_u_ne (by decide)]; exact am_u_eq
    have k97 : am_u (am_u D 96 0 (nI f)) 97 0 (nI p) 97 0 = nI p := am_u_eq
    generalize am_u (am_u D 96 0 (nI f)) 97 0 (nI p) = D0 at hFT0 hR0 hP0 k94 k95 k96 k97 ⊢
    have end2 : am_tsp C = (2, C) → Q (some (.int 2)) (hp D0 e) := fun z => by
      rw [z, am_drv_n3 (show ¬ (2 : Int32) = 3 by decide)] at q
      refine q D0 ⟨hR0, k94, ?_⟩ hFT0
      show if (2 : Int32) = 0 then _ else _
      rw [if_neg (by decide)]
      exact ⟨k96.trans hT.cf.symm, k97.trans hT.cp.symm⟩
    rcases am_spoP hP f24 p64 with ⟨hf, hps, hsp⟩ | ⟨hno, hsp⟩
    rotate_left
    · have z : am_tsp C = (2, C) := by
        unfold am_tsp
        rw [hT.cf, hT.cp, hsp]
        exact if_pos rfl
      by_cases hfF : f < F
      · refine go_if (fun c => ?_) (fun c => absurd (show nI f < D0 69 1 by rw [hP0.m1]; exact nI_lt hfF (by omega)) c)
        refine go_s 4 rfl ?_
        refine go_m rfl rfl (show vp_in (nI f) 24 from vp_in_nI f24 (by decide)) ?_
        refine go_s 1 rfl ?_
        refine go_if (fun c => absurd c ?_) (fun c => ?_)
        · show ¬ nI p < D0 70 (nI f).toNatClampNeg
          rw [nI_clamp (by omega), hP0.m70 f hfF]
          exact nI_nlt (by omega) (by omega)
        · refine go_s 1 rfl ?_
          exact go_ret rfl rfl (end2 z)
      · refine go_if (fun c => absurd c (show ¬ nI f < D0 69 1 by rw [hP0.m1]; exact nI_nlt (by omega) (by omega))) (fun c => ?_)
        refine go_s 1 rfl ?_
        exact go_ret rfl rfl (end2 z)
    obtain ⟨k, hI, hnum⟩ := hP0.ic hf hps
    have s40 := hP.s40 f hf
    refine go_if (fun c => ?_) (fun c => absurd (show nI f < D0 69 1 by rw [hP0.m1]; exact nI_lt hf (by omega)) c)
    refine go_s 4 rfl ?_
    refine go_m rfl rfl (show vp_in (nI f) 24 from vp_in_nI f24 (by decide)) ?_
    refine go_s 1 rfl ?_
    refine go_if (fun c => ?_) (fun c => absurd (show nI p < D0 70 (nI f).toNatClampNeg by rw [nI_clamp (by omega), hP0.m70 f hf]; exact nI_lt hps (by omega)) c)
    have z : am_tsp C = am_tsn C (nI (am_st sz f + p)) (nI k) := by
      unfold am_tsp
      rw [hT.cf, hT.cp, hsp, if_neg, hnum]
      intro z
      have ht := hP.t300
      have l1 : am_st sz f + sz f ≤ am_st sz F := am_st_le (sz := sz) (show f + 1 ≤ F by omega)
      exact nI_pos (n := am_st sz f + p) (by omega) (by rw [z]; decide)
    obtain ⟨X, hXe⟩ : ∃ X, X = 40 * f + p := ⟨_, rfl⟩
    have hX : vp_in (nI X) 960 := vp_in_nI (by omega) (by decide)
    have hcl : (nI X).toNatClampNeg = X := nI_clamp (by omega)
    rw [← hXe] at hI
    refine go_s 6 (pc' := 72) (ls' := [.ref 69, .int (nI N), .int (nI f), .int (nI p), .int (nI X), x5, x6]) (st' := []) (h' := hp D0 e) (by rw [hXe, ← nI_add, ← nI_mul]; rfl) ?_
    refine go_s 3 rfl ?_
    refine go_m rfl rfl hX ?_
    refine go_s 1 (pc' := 81) (ls' := [.ref 69, .int (nI N), .int (nI f), .int (nI p), .int (nI X), .int (nI k), x6]) (st' := []) (h' := hp D0 e) (by rw [show nI k = D0 71 (nI X).toNatClampNeg by rw [hcl]; exact hI.n.symm]; rfl) ?_
    refine go_s 2 rfl ?_
    refine go_v kX12_runTold_84 okX12_does rfl rfl rfl rfl (Nat.zero_le _) (Nat.zero_le _) ?_
    refine c_X12_does (x := nI X) hX (by rw [hcl, hI.n]; exact hI.g) (by rw [k95]; exact nI_pos (by omega)) ?_
    rw [hcl]
    refine go_s 1 rfl ?_
    have hfr : ∀ c j, c ≠ 99 → c ≠ 102 → c ≠ 105 → c ≠ 107 → c ≠ 108 → (c = 95 → j ≠ 0) → (c = 69 → j ≠ 40) → (am_mdo D0 X).2 c j = D0 c j := fun c j a1 a2 a3 a4 a5 a6 a7 => am_mdo_fr a1 a2 a3 a4 a5 a6 a7
    have hcfr : ∀ c j, c < 59 → (am_tsn C (nI (am_st sz f + p)) (nI k)).2 c j = C c j := fun c j hc => am_tsn_fr (by omega) (by omega) (by omega) (by omega) (by omega) (by omega)
    rw [z] at q
    have hk35 := hI.k35
    by_cases gA : k < 22 ∨ k = 32 ∨ k = 34
    · have nb : zb (¬ nI k < 22 ∧ ¬ 27 < nI k) = 0 := zb_0.mpr (fun y => by
        rcases gA with g | g | g
        · exact y.1 (nI_lt (a := k) (b := 22) g (by decide))
        · subst g; exact y.2 (by decide)
        · subst g; exact y.2 (by decide))
      have n28 : ¬ nI k = 28 := fun y => absurd ((nI_eq (b := 28) (by omega) (by decide)).mp y) (by omega)
      have n31 : ¬ nI k = 31 := fun y => absurd ((nI_eq (b := 31) (by omega) (by decide)).mp y) (by omega)
      have n33 : ¬ nI k = 33 := fun y => absurd ((nI_eq (b := 33) (by omega) (by decide)).mp y) (by omega)
      have ncl : zb (nI k = 29 ∨ nI k = 30) = 0 := zb_0.mpr (fun y => by
        rcases y with y | y
        · exact absurd ((nI_eq (b := 29) (by omega) (by decide)).mp y) (by omega)
        · exact absurd ((nI_eq (b := 30) (by omega) (by decide)).mp y) (by omega))
      rcases am_stD hI hR0 k95 (by omega) gA with ⟨r0, t0⟩ | ⟨r1, t1, t10, t11, tR, tm⟩
      · rw [r0]
        refine go_if (fun c => ?_) (fun c => absurd rfl c)
        refine go_s 1 rfl ?_
        exact go_ret rfl rfl (end2 (z.trans t0))
      have hft := am_FT_mdo (D0 := D0) (X := X)
      have g94 : (am_mdo D0 X).2 94 0 = nI d := by rw [hfr 94 0 (by decide) (by decide) (by decide) (by decide) (by decide) (by decide) (by decide)]; exact k94
      generalize am_mdo D0 X = r at r1 tR tm hft g94 ⊢
      generalize am_tsn C (nI (am_st sz f + p)) (nI k) = t at t1 t10 t11 tR hcfr q
      obtain ⟨r1', D1⟩ := r
      obtain ⟨s1, C1⟩ := t
      dsimp only at r1 t1 t10 t11 tR tm hft g94 hcfr q
      subst r1
      subst t1
      rw [if_neg (show ¬ (3 : Int32) = 2 by decide)] at q
      have j94 : am_u D1 94 0 (D1 94 0 + 1) 94 0 = nI (d + 1) := by rw [am_u_eq, g94, nI_1]
      have j95 : ∃ m', m' ≤ d + 1 ∧ am_u D1 94 0 (D1 94 0 + 1) 95 0 = nI m' := by
        rcases tm with tm | tm
        · exact ⟨m, by omega, by rw [am_u_ne (by decide)]; exact tm⟩
        · exact ⟨m + 1, by omega, by rw [am_u_ne (by decide)]; exact tm⟩
      refine go_if (fun c => absurd c (show ¬ (1 : Int32) = 0 by decide)) (fun c => ?_)
      refine go_s 4 rfl ?_
      refine go_m rfl rfl (by first | decide | (unfold vp_in; decide)) ?_
      refine go_s 2 rfl ?_
      refine go_m rfl rfl (by first | decide | (unfold vp_in; decide)) ?_
      refine go_s 2 rfl ?_
      refine go_st kX12_runTold_107 okX12_isBranch rfl rfl rfl (Nat.zero_le _) (Nat.zero_le _) ?_
      refine c_X12_isBranch ?_
      refine go_s 1 rfl ?_
      refine go_if (fun c110 => ?_) (fun c110 => absurd nb c110)
      refine go_s 3 rfl ?_
      refine go_if (fun c135 => absurd c135 n28) (fun c135 => ?_)
      refine go_s 1 rfl ?_
      refine go_st kX12_runTold_151 okX12_isCall rfl rfl rfl (Nat.zero_le _) (Nat.zero_le _) ?_
      refine c_X12_isCall ?_
      refine go_s 1 rfl ?_
      refine go_if (fun c154 => ?_) (fun c154 => absurd ncl c154)
      refine go_s 3 rfl ?_
      refine go_if (fun c161 => absurd c161 n33) (fun c161 => ?_)
      refine go_s 3 rfl ?_
      refine go_if (fun c248 => absurd c248 n31) (fun c248 => ?_)
      refine go_s 4 rfl ?_
      refine go_m rfl rfl (by first | decide | (unfold vp_in; decide)) ?_
      refine go_s 4 rfl ?_
      refine go_m rfl rfl (by first | decide | (unfold vp_in; decide)) ?_
      refine go_s 1 rfl ?_
      refine c_runT hN hN1 n (d + 1) (f) (p + 1) (C1) _ _ _ _ _ _ (by omega) (am_PT_nx (am_RT_st tR) j94 j95 f24 (by omega) (t10.trans hT.cf) (t11.trans (by rw [hT.cp]; exact nI_1 p))) (am_PG_FT hP hcfr (am_FT_nx (am_FT_st hft) hFT0)) (rfl) (nI_1 p) (Or.inr ⟨?_, ?_⟩) ?_
      · exact am_nx96.trans (rfl)
      · exact am_nx97.trans (nI_1 p)
      · exact fun D2 y1 y2 => q D2 y1 (fun c j a1 a2 a3 a4 a5 a6 a7 => (y2 c j a1 a2 a3 a4 a5 a6 a7).trans (am_FT_nx (am_FT_st hft) hFT0 c j a1 a2 a3 a4 a5 a6 a7))
    by_cases gB : k < 28
    · have hk22 : 22 ≤ k := by omega
      have nb : ¬ zb (¬ nI k < 22 ∧ ¬ 27 < nI k) = 0 := zb_ne.mpr ⟨nI_nlt (a := k) (b := 22) (by omega) (by omega), nI_nlt (a := 27) (b := k) (by omega) (by decide)⟩
      have n28 : ¬ nI k = 28 := fun y => absurd ((nI_eq (b := 28) (by omega) (by decide)).mp y) (by omega)
      have n31 : ¬ nI k = 31 := fun y => absurd ((nI_eq (b := 31) (by omega) (by decide)).mp y) (by omega)
      have n33 : ¬ nI k = 33 := fun y => absurd ((nI_eq (b := 33) (by omega) (by decide)).mp y) (by omega)
      have ncl : zb (nI k = 29 ∨ nI k = 30) = 0 := zb_0.mpr (fun y => by
        rcases y with y | y
        · exact absurd ((nI_eq (b := 29) (by omega) (by decide)).mp y) (by omega)
        · exact absurd ((nI_eq (b := 30) (by omega) (by decide)).mp y) (by omega))
      rcases am_stB hI hR0 hk22 gB with ⟨r0, t0⟩ | ⟨v, hv, r0, t0⟩
      · rw [r0]
        refine go_if (fun c => ?_) (fun c => absurd rfl c)
        refine go_s 1 rfl ?_
        exact go_ret rfl rfl (end2 (z.trans t0))
      have hft := am_FT_mdo (D0 := D0) (X := X)
      rw [r0] at hft ⊢
      rw [t0] at q hcfr
      dsimp only at hft
      refine go_if (fun c => absurd c (show ¬ (1 : Int32) = 0 by decide)) (fun c => ?_)
      have j94 : am_u (am_u D0 69 40 v) 94 0 (am_u D0 69 40 v 94 0 + 1) 94 0 = nI (d + 1) := by rw [am_u_eq, am_u_ne (by decide), k94, nI_1]
      have j95 : ∃ m', m' ≤ d + 1 ∧ am_u (am_u D0 69 40 v) 94 0 (am_u D0 69 40 v 94 0 + 1) 95 0 = nI m' := ⟨m, by omega, by rw [am_u_ne (by decide), am_u_ne (by decide)]; exact k95⟩
      rcases hv with hv | hv
      · subst hv
        rw [if_pos rfl] at q hcfr
        dsimp only at q
        rw [if_neg (show ¬ (3 : Int32) = 2 by decide)] at q
        refine go_s 4 rfl ?_
        refine go_m rfl rfl (by first | decide | (unfold vp_in; decide)) ?_
        refine go_s 2 rfl ?_
        refine go_m rfl rfl (by first | decide | (unfold vp_in; decide)) ?_
        refine go_s 2 rfl ?_
        refine go_st kX12_runTold_107 okX12_isBranch rfl rfl rfl (Nat.zero_le _) (Nat.zero_le _) ?_
        refine c_X12_isBranch ?_
        refine go_s 1 rfl ?_
        refine go_if (fun c110 => absurd c110 nb) (fun c110 => ?_)
        refine go_s 3 rfl ?_
        refine go_if (fun c117 => ?_) (fun c117 => absurd rfl c117)
        refine go_s 3 rfl ?_
        refine go_if (fun c135 => absurd c135 n28) (fun c135 => ?_)
        refine go_s 1 rfl ?_
        refine go_st kX12_runTold_151 okX12_isCall rfl rfl rfl (Nat.zero_le _) (Nat.zero_le _) ?_
        refine c_X12_isCall ?_
        refine go_s 1 rfl ?_
        refine go_if (fun c154 => ?_) (fun c154 => absurd ncl c154)
        refine go_s 3 rfl ?_
        refine go_if (fun c161 => absurd c161 n33) (fun c161 => ?_)
        refine go_s 3 rfl ?_
        refine go_if (fun c248 => absurd c248 n31) (fun c248 => ?_)
        refine go_s 4 rfl ?_
        refine go_m rfl rfl (by first | decide | (unfold vp_in; decide)) ?_
        refine go_s 4 rfl ?_
        refine go_m rfl rfl (by first | decide | (unfold vp_in; decide)) ?_
        refine go_s 1 rfl ?_
        refine c_runT hN hN1 n (d + 1) (f) (p + 1) (am_go C) _ _ _ _ _ _ (by omega) (am_PT_nx (am_RT_st (am_RT_goes (hR0.u59 (by decide)))) j94 j95 f24 (by omega) ((am_u_nj (by decide)).trans hT.cf) (am_u_eq.trans (by rw [hT.cp]; exact nI_1 p))) (am_PG_FT hP hcfr (am_FT_nx (am_FT_st hft) hFT0)) (rfl) (nI_1 p) (Or.inr ⟨?_, ?_⟩) ?_
        · exact am_nx96.trans (rfl)
        · exact am_nx97.trans (nI_1 p)
        · exact fun D2 y1 y2 => q D2 y1 (fun c j a1 a2 a3 a4 a5 a6 a7 => (y2 c j a1 a2 a3 a4 a5 a6 a7).trans (am_FT_nx (am_FT_st hft) hFT0 c j a1 a2 a3 a4 a5 a6 a7))
      · subst hv
        rw [if_neg (show ¬ (1 : Int32) = 0 by decide)] at q hcfr
        dsimp only at q
        rw [if_neg (show ¬ (3 : Int32) = 2 by decide)] at q
        have T : ∀ k, k < 28 → 22 ≤ k → am_kC (nI k) = 5 := by decide +kernel
        have gc := hI.g.2.2.2
        rw [T k gB hk22] at gc
        obtain ⟨p2, hp2, ep2⟩ := am_gPl gc
        have ep3 : am_u (am_u D0 69 40 1) 94 0 (am_u D0 69 40 1 94 0 + 1) 74 (nI X).toNatClampNeg = nI p2 := by rw [am_u_ne (by decide), am_u_ne (by decide), hcl]; exact ep2
        refine go_s 4 rfl ?_
        refine go_m rfl rfl (by first | decide | (unfold vp_in; decide)) ?_
        refine go_s 2 rfl ?_
        refine go_m rfl rfl (by first | decide | (unfold vp_in; decide)) ?_
        refine go_s 2 rfl ?_
        refine go_st kX12_runTold_107 okX12_isBranch rfl rfl rfl (Nat.zero_le _) (Nat.zero_le _) ?_
        refine c_X12_isBranch ?_
        refine go_s 1 rfl ?_
        refine go_if (fun c110 => absurd c110 nb) (fun c110 => ?_)
        refine go_s 3 rfl ?_
        refine go_if (fun c117 => absurd c117 (by show ¬ (1 : Int32) = 0; decide)) (fun c117 => ?_)
        refine go_s 3 rfl ?_
        refine go_m rfl rfl (show vp_in (nI X) 960 from hX) ?_
        refine go_s 6 rfl ?_
        refine go_m rfl rfl (by first | decide | (unfold vp_in; decide)) ?_
        refine go_s 4 rfl ?_
        refine go_m rfl rfl (by first | decide | (unfold vp_in; decide)) ?_
        refine go_s 1 rfl ?_
        refine c_runT hN hN1 n (d + 1) (f) (p2) (am_u (am_u C 59 10 (C 59 10)) 59 11 (D0 74 X)) _ _ _ _ _ _ (by omega) (am_PT_nx (am_RT_st (am_RT_goes ((hR0.u59 (by decide)).u59 (by decide)))) j94 j95 f24 (by omega) ((am_u_nj (by decide)).trans (am_u_eq.trans hT.cf)) (am_u_eq.trans ep2)) (am_PG_FT hP hcfr (am_FT_nx (am_FT_st hft) hFT0)) (rfl) (ep3) (Or.inr ⟨?_, ?_⟩) ?_
        · exact am_nx96.trans (rfl)
        · exact am_nx97.trans (ep3)
        · exact fun D2 y1 y2 => q D2 y1 (fun c j a1 a2 a3 a4 a5 a6 a7 => (y2 c j a1 a2 a3 a4 a5 a6 a7).trans (am_FT_nx (am_FT_st hft) hFT0 c j a1 a2 a3 a4 a5 a6 a7))
    have j94 : am_u D0 94 0 (D0 94 0 + 1) 94 0 = nI (d + 1) := by rw [am_u_eq, k94, nI_1]
    have j95 : ∃ m', m' ≤ d + 1 ∧ am_u D0 94 0 (D0 94 0 + 1) 95 0 = nI m' := ⟨m, by omega, by rw [am_u_ne (by decide)]; exact k95⟩
    have hft : am_FT D0 D0 := fun _ _ _ _ _ _ _ _ _ => rfl
    have hwr := (am_RT_st (v := D0 94 0 + 1) hR0).wr (k := 1) (s := 2) (v := nI (64 * f + (p + 1))) (by unfold vp_in; decide) ⟨fun y => absurd y (by decide), fun _ => Or.inr ⟨64 * f + (p + 1), by omega, rfl⟩⟩
    have ebk : (C 59 10 <<< (6 : Int32) ||| (C 59 11 + 1)) = nI (64 * f + (p + 1)) := by
      rw [hT.cf, hT.cp, nI_1]
      exact am_bk f f24 (p + 1) (by omega)
    have hftc : am_FT (am_u (am_u (am_u D0 94 0 (D0 94 0 + 1)) 102 1 (nI (64 * f + (p + 1)))) 107 1 2) D0 := fun c j a1 a2 a3 a4 a5 a6 a7 => by
      rw [am_u_ne a4, am_u_ne a2]
      exact am_FT_st hft c j a1 a2 a3 a4 a5 a6 a7
    have j94c : am_u (am_u (am_u D0 94 0 (D0 94 0 + 1)) 102 1 (nI (64 * f + (p + 1)))) 107 1 2 94 0 = nI (d + 1) := by rw [am_u_ne (by decide), am_u_ne (by decide)]; exact j94
    have j95c : ∃ m', m' ≤ d + 1 ∧ am_u (am_u (am_u D0 94 0 (D0 94 0 + 1)) 102 1 (nI (64 * f + (p + 1)))) 107 1 2 95 0 = nI m' := by
      obtain ⟨m', w1, w2⟩ := j95
      exact ⟨m', w1, by rw [am_u_ne (by decide), am_u_ne (by decide)]; exact w2⟩
    by_cases g28 : k = 28
    · subst g28
      have r0 : am_mdo D0 X = (1, D0) := by
        unfold am_mdo
        rw [hI.n]
        rfl
      have t0 : am_tsn C (nI (am_st sz f + p)) (nI 28) = (3, am_u (am_u C 59 10 (C 59 10)) 59 11 (D0 72 X)) := by
        rw [← hI.fa (by decide) (by decide)]
        rfl
      rw [r0]
      rw [t0] at q hcfr
      dsimp only at q
      rw [if_neg (show ¬ (3 : Int32) = 2 by decide)] at q
      refine go_if (fun c => absurd c (show ¬ (1 : Int32) = 0 by decide)) (fun c => ?_)
      obtain ⟨p2, hp2, ep2⟩ := am_gPl (v := D0 72 X) hI.g.2.1
      have ep3 : am_u D0 94 0 (D0 94 0 + 1) 72 (nI X).toNatClampNeg = nI p2 := by rw [am_u_ne (by decide), hcl]; exact ep2
      refine go_s 4 rfl ?_
      refine go_m rfl rfl (by first | decide | (unfold vp_in; decide)) ?_
      refine go_s 2 rfl ?_
      refine go_m rfl rfl (by first | decide | (unfold vp_in; decide)) ?_
      refine go_s 2 rfl ?_
      refine go_st kX12_runTold_107 okX12_isBranch rfl rfl rfl (Nat.zero_le _) (Nat.zero_le _) ?_
      refine c_X12_isBranch ?_
      refine go_s 1 rfl ?_
      refine go_if (fun c110 => ?_) (fun c110 => absurd (by decide) c110)
      refine go_s 3 rfl ?_
      refine go_if (fun c135 => ?_) (fun c135 => absurd rfl c135)
      refine go_s 3 rfl ?_
      refine go_m rfl rfl (show vp_in (nI X) 960 from hX) ?_
      refine go_s 6 rfl ?_
      refine go_m rfl rfl (by first | decide | (unfold vp_in; decide)) ?_
      refine go_s 4 rfl ?_
      refine go_m rfl rfl (by first | decide | (unfold vp_in; decide)) ?_
      refine go_s 1 rfl ?_
      refine c_runT hN hN1 n (d + 1) (f) (p2) (am_u (am_u C 59 10 (C 59 10)) 59 11 (D0 72 X)) _ _ _ _ _ _ (by omega) (am_PT_nx (am_RT_st ((hR0.u59 (by decide)).u59 (by decide))) j94 j95 f24 (by omega) ((am_u_nj (by decide)).trans (am_u_eq.trans hT.cf)) (am_u_eq.trans ep2)) (am_PG_FT hP hcfr (am_FT_nx (am_FT_st hft) hFT0)) (rfl) (ep3) (Or.inr ⟨?_, ?_⟩) ?_
      · exact am_nx96.trans (rfl)
      · exact am_nx97.trans (ep3)
      · exact fun D2 y1 y2 => q D2 y1 (fun c j a1 a2 a3 a4 a5 a6 a7 => (y2 c j a1 a2 a3 a4 a5 a6 a7).trans (am_FT_nx (am_FT_st hft) hFT0 c j a1 a2 a3 a4 a5 a6 a7))
    by_cases g29 : k = 29
    · subst g29
      have r0 : am_mdo D0 X = (1, D0) := by
        unfold am_mdo
        rw [hI.n]
        rfl
      have t0 : am_tsn C (nI (am_st sz f + p)) (nI 29) = (3, am_u (am_u (am_wr C 1 2 (nI (64 * f + (p + 1)))) 59 10 (D0 72 X)) 59 11 0) := by
        rw [← hI.fa (by decide) (by decide), ← ebk]
        rfl
      rw [r0]
      rw [t0] at q hcfr
      dsimp only at q
      rw [if_neg (show ¬ (3 : Int32) = 2 by decide)] at q
      refine go_if (fun c => absurd c (show ¬ (1 : Int32) = 0 by decide)) (fun c => ?_)
      obtain ⟨f2, hf2, ef2⟩ := am_gFn (v := D0 72 X) hI.g.2.1
      have ef3 : am_u D0 94 0 (D0 94 0 + 1) 72 (nI X).toNatClampNeg = nI f2 := by rw [am_u_ne (by decide), hcl]; exact ef2
      refine go_s 4 rfl ?_
      refine go_m rfl rfl (by first | decide | (unfold vp_in; decide)) ?_
      refine go_s 2 rfl ?_
      refine go_m rfl rfl (by first | decide | (unfold vp_in; decide)) ?_
      refine go_s 2 rfl ?_
      refine go_st kX12_runTold_107 okX12_isBranch rfl rfl rfl (Nat.zero_le _) (Nat.zero_le _) ?_
      refine c_X12_isBranch ?_
      refine go_s 1 rfl ?_
      refine go_if (fun c110 => ?_) (fun c110 => absurd (by decide) c110)
      refine go_s 3 rfl ?_
      refine go_if (fun c135 => absurd c135 (by decide)) (fun c135 => ?_)
      refine go_s 1 rfl ?_
      refine go_st kX12_runTold_151 okX12_isCall rfl rfl rfl (Nat.zero_le _) (Nat.zero_le _) ?_
      refine c_X12_isCall ?_
      refine go_s 1 rfl ?_
      refine go_if (fun c154 => absurd c154 (by decide)) (fun c154 => ?_)
      refine go_s 3 rfl ?_
      refine go_if (fun c168 => absurd c168 (by decide)) (fun c168 => ?_)
      refine go_s 6 (pc' := 179) (ls' := [.ref 69, .int (nI N), .int (nI f), .int (nI p + 1), .int (nI X), .int (nI 29), .int (nI (64 * f + (p + 1)))]) (st' := []) (h' := hp (am_u D0 94 0 (D0 94 0 + 1)) e) (by rw [show nI (64 * f + (p + 1)) = nI 64 * nI f + (nI p + 1) by rw [nI_mul, nI_1, nI_add]]; rfl) ?_
      refine go_s 3 rfl ?_
      refine go_if (fun c183 => ?_) (fun c183 => absurd rfl c183)
      refine go_s 3 rfl ?_
      refine go_m rfl rfl (show vp_in (nI X) 960 from hX) ?_
      refine go_s 5 rfl ?_
      refine go_m rfl rfl (by first | decide | (unfold vp_in; decide)) ?_
      refine go_s 2 rfl ?_
      refine go_m rfl rfl (by first | decide | (unfold vp_in; decide)) ?_
      refine go_s 4 rfl ?_
      refine go_m rfl rfl (by first | decide | (unfold vp_in; decide)) ?_
      refine go_s 8 rfl ?_
      refine go_m rfl rfl (by first | decide | (unfold vp_in; decide)) ?_
      refine go_s 4 rfl ?_
      refine go_m rfl rfl (by first | decide | (unfold vp_in; decide)) ?_
      refine go_s 1 rfl ?_
      refine c_runT hN hN1 n (d + 1) (f2) (0) (am_u (am_u (am_wr C 1 2 (nI (64 * f + (p + 1)))) 59 10 (D0 72 X)) 59 11 0) _ _ _ _ _ _ (by omega) (am_PT_nx ((hwr.u59 (by decide)).u59 (by decide)) j94c j95c (by omega) (by omega) ((am_u_nj (by decide)).trans (am_u_eq.trans ef2)) (am_u_eq)) (am_PG_FT hP hcfr (am_FT_nx hftc hFT0)) (ef3) (rfl) (Or.inr ⟨?_, ?_⟩) ?_
      · exact am_nx96.trans (ef3)
      · exact am_nx97.trans (rfl)
      · exact fun D2 y1 y2 => q D2 y1 (fun c j a1 a2 a3 a4 a5 a6 a7 => (y2 c j a1 a2 a3 a4 a5 a6 a7).trans (am_FT_nx hftc hFT0 c j a1 a2 a3 a4 a5 a6 a7))
    by_cases g30 : k = 30
    · subst g30
      have r0 : am_mdo D0 X = (1, D0) := by
        unfold am_mdo
        rw [hI.n]
        rfl
      have t0 : am_tsn C (nI (am_st sz f + p)) (nI 30) = (3, am_u (am_u C 59 10 (D0 72 X)) 59 11 0) := by
        rw [← hI.fa (by decide) (by decide)]
        rfl
      rw [r0]
      rw [t0] at q hcfr
      dsimp only at q
      rw [if_neg (show ¬ (3 : Int32) = 2 by decide)] at q
      refine go_if (fun c => absurd c (show ¬ (1 : Int32) = 0 by decide)) (fun c => ?_)
      obtain ⟨f2, hf2, ef2⟩ := am_gFn (v := D0 72 X) hI.g.2.1
      have ef3 : am_u D0 94 0 (D0 94 0 + 1) 72 (nI X).toNatClampNeg = nI f2 := by rw [am_u_ne (by decide), hcl]; exact ef2
      refine go_s 4 rfl ?_
      refine go_m rfl rfl (by first | decide | (unfold vp_in; decide)) ?_
      refine go_s 2 rfl ?_
      refine go_m rfl rfl (by first | decide | (unfold vp_in; decide)) ?_
      refine go_s 2 rfl ?_
      refine go_st kX12_runTold_107 okX12_isBranch rfl rfl rfl (Nat.zero_le _) (Nat.zero_le _) ?_
      refine c_X12_isBranch ?_
      refine go_s 1 rfl ?_
      refine go_if (fun c110 => ?_) (fun c110 => absurd (by decide) c110)
      refine go_s 3 rfl ?_
      refine go_if (fun c135 => absurd c135 (by decide)) (fun c135 => ?_)
      refine go_s 1 rfl ?_
      refine go_st kX12_runTold_151 okX12_isCall rfl rfl rfl (Nat.zero_le _) (Nat.zero_le _) ?_
      refine c_X12_isCall ?_
      refine go_s 1 rfl ?_
      refine go_if (fun c154 => absurd c154 (by decide)) (fun c154 => ?_)
      refine go_s 3 rfl ?_
      refine go_if (fun c168 => ?_) (fun c168 => absurd rfl c168)
      refine go_s 3 rfl ?_
      refine go_m rfl rfl (show vp_in (nI X) 960 from hX) ?_
      refine go_s 8 rfl ?_
      refine go_m rfl rfl (by first | decide | (unfold vp_in; decide)) ?_
      refine go_s 4 rfl ?_
      refine go_m rfl rfl (by first | decide | (unfold vp_in; decide)) ?_
      refine go_s 1 rfl ?_
      refine c_runT hN hN1 n (d + 1) (f2) (0) (am_u (am_u C 59 10 (D0 72 X)) 59 11 0) _ _ _ _ _ _ (by omega) (am_PT_nx (am_RT_st ((hR0.u59 (by decide)).u59 (by decide))) j94 j95 (by omega) (by omega) ((am_u_nj (by decide)).trans (am_u_eq.trans ef2)) (am_u_eq)) (am_PG_FT hP hcfr (am_FT_nx (am_FT_st hft) hFT0)) (ef3) (rfl) (Or.inr ⟨?_, ?_⟩) ?_
      · exact am_nx96.trans (ef3)
      · exact am_nx97.trans (rfl)
      · exact fun D2 y1 y2 => q D2 y1 (fun c j a1 a2 a3 a4 a5 a6 a7 => (y2 c j a1 a2 a3 a4 a5 a6 a7).trans (am_FT_nx (am_FT_st hft) hFT0 c j a1 a2 a3 a4 a5 a6 a7))
    by_cases g33 : k = 33
    · subst g33
      have ga := hI.ga (by omega)
      obtain ⟨a1, a2, a3⟩ := hR0.srt ga
      have r0 : am_mdo D0 X = (if D0 107 (D0 72 X).toNatClampNeg = 1 then (1, D0) else (0, D0)) := by
        unfold am_mdo
        rw [hI.n]
        rfl
      have t0 : am_tsn C (nI (am_st sz f + p)) (nI 33) = (if D0 107 (D0 72 X).toNatClampNeg = 1 then (3, am_u (am_u (am_wr C 1 2 (nI (64 * f + (p + 1)))) 59 10 (D0 102 (D0 72 X).toNatClampNeg)) 59 11 0) else (2, C)) := by
        rw [← a1, ← a2, ← hI.fa (by decide) (by decide), ← ebk]
        rfl
      rw [r0]
      by_cases e1 : D0 107 (D0 72 X).toNatClampNeg = 1
      rotate_left
      · rw [if_neg e1]
        rw [if_neg e1] at t0
        refine go_if (fun c => ?_) (fun c => absurd rfl c)
        refine go_s 1 rfl ?_
        exact go_ret rfl rfl (end2 (z.trans t0))
      rw [if_pos e1] at t0 ⊢
      rw [t0] at q hcfr
      dsimp only at q
      rw [if_neg (show ¬ (3 : Int32) = 2 by decide)] at q
      refine go_if (fun c => absurd c (show ¬ (1 : Int32) = 0 by decide)) (fun c => ?_)
      rw [a1, a2] at a3
      obtain ⟨f2, hf2, ef2⟩ := a3.1 e1
      have hga : vp_in (am_u D0 94 0 (D0 94 0 + 1) 72 (nI X).toNatClampNeg) 32 := by rw [am_u_ne (by decide), hcl]; exact ga
      have ef3 : am_u D0 94 0 (D0 94 0 + 1) 102 (am_u D0 94 0 (D0 94 0 + 1) 72 (nI X).toNatClampNeg).toNatClampNeg = nI f2 := by rw [am_u_ne (by decide), am_u_ne (by decide), hcl]; exact ef2
      refine go_s 4 rfl ?_
      refine go_m rfl rfl (by first | decide | (unfold vp_in; decide)) ?_
      refine go_s 2 rfl ?_
      refine go_m rfl rfl (by first | decide | (unfold vp_in; decide)) ?_
      refine go_s 2 rfl ?_
      refine go_st kX12_runTold_107 okX12_isBranch rfl rfl rfl (Nat.zero_le _) (Nat.zero_le _) ?_
      refine c_X12_isBranch ?_
      refine go_s 1 rfl ?_
      refine go_if (fun c110 => ?_) (fun c110 => absurd (by decide) c110)
      refine go_s 3 rfl ?_
      refine go_if (fun c135 => absurd c135 (by decide)) (fun c135 => ?_)
      refine go_s 1 rfl ?_
      refine go_st kX12_runTold_151 okX12_isCall rfl rfl rfl (Nat.zero_le _) (Nat.zero_le _) ?_
      refine c_X12_isCall ?_
      refine go_s 1 rfl ?_
      refine go_if (fun c154 => ?_) (fun c154 => absurd (by decide) c154)
      refine go_s 3 rfl ?_
      refine go_if (fun c161 => ?_) (fun c161 => absurd rfl c161)
      refine go_s 3 rfl ?_
      refine go_if (fun c168 => absurd c168 (by decide)) (fun c168 => ?_)
      refine go_s 6 (pc' := 179) (ls' := [.ref 69, .int (nI N), .int (nI f), .int (nI p + 1), .int (nI X), .int (nI 33), .int (nI (64 * f + (p + 1)))]) (st' := []) (h' := hp (am_u D0 94 0 (D0 94 0 + 1)) e) (by rw [show nI (64 * f + (p + 1)) = nI 64 * nI f + (nI p + 1) by rw [nI_mul, nI_1, nI_add]]; rfl) ?_
      refine go_s 3 rfl ?_
      refine go_if (fun c183 => absurd c183 (by decide)) (fun c183 => ?_)
      refine go_s 3 rfl ?_
      refine go_m rfl rfl (by first | decide | (unfold vp_in; decide)) ?_
      refine go_s 3 rfl ?_
      refine go_m rfl rfl (show vp_in (nI X) 960 from hX) ?_
      refine go_m rfl rfl hga ?_
      refine go_s 4 rfl ?_
      refine go_m rfl rfl (by first | decide | (unfold vp_in; decide)) ?_
      refine go_s 2 rfl ?_
      refine go_m rfl rfl (by first | decide | (unfold vp_in; decide)) ?_
      refine go_s 4 rfl ?_
      refine go_m rfl rfl (by first | decide | (unfold vp_in; decide)) ?_
      refine go_s 8 rfl ?_
      refine go_m rfl rfl (by first | decide | (unfold vp_in; decide)) ?_
      refine go_s 4 rfl ?_
      refine go_m rfl rfl (by first | decide | (unfold vp_in; decide)) ?_
      refine go_s 1 rfl ?_
      refine c_runT hN hN1 n (d + 1) (f2) (0) (am_u (am_u (am_wr C 1 2 (nI (64 * f + (p + 1)))) 59 10 (D0 102 (D0 72 X).toNatClampNeg)) 59 11 0) _ _ _ _ _ _ (by omega) (am_PT_nx ((hwr.u59 (by decide)).u59 (by decide)) j94c j95c (by omega) (by omega) ((am_u_nj (by decide)).trans (am_u_eq.trans ef2)) (am_u_eq)) (am_PG_FT hP hcfr (am_FT_nx hftc hFT0)) (ef3) (rfl) (Or.inr ⟨?_, ?_⟩) ?_
      · exact am_nx96.trans (ef3)
      · exact am_nx97.trans (rfl)
      · exact fun D2 y1 y2 => q D2 y1 (fun c j a1 a2 a3 a4 a5 a6 a7 => (y2 c j a1 a2 a3 a4 a5 a6 a7).trans (am_FT_nx hftc hFT0 c j a1 a2 a3 a4 a5 a6 a7))
    have g31 : k = 31 := by omega
    subst g31
    obtain ⟨a1, a2, a3⟩ := hR0.srt (k := 1) (by unfold vp_in; decide)
    have r0 : am_mdo D0 X = (if D0 107 1 = 2 then (1, D0) else (0, D0)) := by
      unfold am_mdo
      rw [hI.n]
      rfl
    have t0 : am_tsn C (nI (am_st sz f + p)) (nI 31) = (if D0 107 1 = 2 then (if D0 102 1 = -1 then (0, C) else (3, am_u (am_u C 59 10 (D0 102 1 >>> (6 : Int32))) 59 11 (D0 102 1 &&& (63 : Int32)))) else (2, C)) := by
      show am_tgb C = _
      unfold am_tgb
      rw [a1, a2]
      rfl
    rw [r0]
    by_cases e1 : D0 107 1 = 2
    rotate_left
    · rw [if_neg e1]
      rw [if_neg e1] at t0
      refine go_if (fun c => ?_) (fun c => absurd rfl c)
      refine go_s 1 rfl ?_
      exact go_ret rfl rfl (end2 (z.trans t0))
    rw [if_pos e1] at t0 ⊢
    refine go_if (fun c => absurd c (show ¬ (1 : Int32) = 0 by decide)) (fun c => ?_)
    rw [a1, a2] at a3
    by_cases e2 : D0 102 1 = -1
    · rw [if_pos e2] at t0
      rw [t0] at q
      dsimp only at q
      rw [if_neg (show ¬ (0 : Int32) = 2 by decide), am_drv_n3 (show ¬ (0 : Int32) = 3 by decide)] at q
      refine go_s 4 rfl ?_
      refine go_m rfl rfl (by first | decide | (unfold vp_in; decide)) ?_
      refine go_s 2 rfl ?_
      refine go_m rfl rfl (by first | decide | (unfold vp_in; decide)) ?_
      refine go_s 2 rfl ?_
      refine go_st kX12_runTold_107 okX12_isBranch rfl rfl rfl (Nat.zero_le _) (Nat.zero_le _) ?_
      refine c_X12_isBranch ?_
      refine go_s 1 rfl ?_
      refine go_if (fun c110 => ?_) (fun c110 => absurd (by decide) c110)
      refine go_s 3 rfl ?_
      refine go_if (fun c135 => absurd c135 (by decide)) (fun c135 => ?_)
      refine go_s 1 rfl ?_
      refine go_st kX12_runTold_151 okX12_isCall rfl rfl rfl (Nat.zero_le _) (Nat.zero_le _) ?_
      refine c_X12_isCall ?_
      refine go_s 1 rfl ?_
      refine go_if (fun c154 => ?_) (fun c154 => absurd (by decide) c154)
      refine go_s 3 rfl ?_
      refine go_if (fun c161 => absurd c161 (by decide)) (fun c161 => ?_)
      refine go_s 3 rfl ?_
      refine go_if (fun c248 => ?_) (fun c248 => absurd rfl c248)
      refine go_s 3 rfl ?_
      refine go_m rfl rfl (by first | decide | (unfold vp_in; decide)) ?_
      refine go_s 1 rfl ?_
      refine go_m rfl rfl (by first | decide | (unfold vp_in; decide)) ?_
      refine go_s 2 rfl ?_
      refine go_if (fun c260 => ?_) (fun c260 => absurd e2 c260)
      refine go_s 4 rfl ?_
      refine go_m rfl rfl (by first | decide | (unfold vp_in; decide)) ?_
      refine go_s 4 rfl ?_
      refine go_m rfl rfl (by first | decide | (unfold vp_in; decide)) ?_
      refine go_s 1 rfl ?_
      refine go_ret rfl rfl (q (am_u (am_u (am_u D0 94 0 (D0 94 0 + 1)) 96 0 (-1)) 97 0 (-1)) ⟨(am_RT_st hR0).fr (fun c j hc => (am_u_ne (by omega)).trans (am_u_ne (by omega))), (am_u_ne (by decide)).trans ((am_u_ne (by decide)).trans j94), ?_⟩ (am_FT_nx (am_FT_st hft) hFT0))
      show if (0 : Int32) = 0 then _ else _
      rw [if_pos rfl]
      exact ⟨am_nx96, am_nx97⟩
    · rw [if_neg e2] at t0
      rw [t0] at q hcfr
      dsimp only at q
      rw [if_neg (show ¬ (3 : Int32) = 2 by decide)] at q
      obtain ⟨b, hb, eb⟩ := (a3.2 e1).resolve_left e2
      have eb : D0 102 1 = nI b := eb
      obtain ⟨y1, y2, y3, y4⟩ := am_bk2 b hb
      have v1 : am_u D0 94 0 (D0 94 0 + 1) 102 1 / 64 = nI (b / 64) := by rw [am_u_ne (by decide), eb]; exact y1
      have v2 : am_u D0 94 0 (D0 94 0 + 1) 102 1 - am_u D0 94 0 (D0 94 0 + 1) 102 1 / 64 * 64 = nI (b % 64) := by rw [am_u_ne (by decide), eb]; exact y2
      refine go_s 4 rfl ?_
      refine go_m rfl rfl (by first | decide | (unfold vp_in; decide)) ?_
      refine go_s 2 rfl ?_
      refine go_m rfl rfl (by first | decide | (unfold vp_in; decide)) ?_
      refine go_s 2 rfl ?_
      refine go_st kX12_runTold_107 okX12_isBranch rfl rfl rfl (Nat.zero_le _) (Nat.zero_le _) ?_
      refine c_X12_isBranch ?_
      refine go_s 1 rfl ?_
      refine go_if (fun c110 => ?_) (fun c110 => absurd (by decide) c110)
      refine go_s 3 rfl ?_
      refine go_if (fun c135 => absurd c135 (by decide)) (fun c135 => ?_)
      refine go_s 1 rfl ?_
      refine go_st kX12_runTold_151 okX12_isCall rfl rfl rfl (Nat.zero_le _) (Nat.zero_le _) ?_
      refine c_X12_isCall ?_
      refine go_s 1 rfl ?_
      refine go_if (fun c154 => ?_) (fun c154 => absurd (by decide) c154)
      refine go_s 3 rfl ?_
      refine go_if (fun c161 => absurd c161 (by decide)) (fun c161 => ?_)
      refine go_s 3 rfl ?_
      refine go_if (fun c248 => ?_) (fun c248 => absurd rfl c248)
      refine go_s 3 rfl ?_
      refine go_m rfl rfl (by first | decide | (unfold vp_in; decide)) ?_
      refine go_s 1 rfl ?_
      refine go_m rfl rfl (by first | decide | (unfold vp_in; decide)) ?_
      refine go_s 2 rfl ?_
      refine go_if (fun c260 => absurd c260 e2) (fun c260 => ?_)
      refine go_s 3 rfl ?_
      refine go_m rfl rfl (by first | decide | (unfold vp_in; decide)) ?_
      refine go_s 1 rfl ?_
      refine go_m rfl rfl (by first | decide | (unfold vp_in; decide)) ?_
      refine go_s 1 rfl ?_
      refine go_m rfl rfl (by first | decide | (unfold vp_in; decide)) ?_
      refine go_s 4 rfl ?_
      refine go_m rfl rfl (by first | decide | (unfold vp_in; decide)) ?_
      refine go_s 1 rfl ?_
      refine go_m rfl rfl (by first | decide | (unfold vp_in; decide)) ?_
      refine go_s 1 rfl ?_
      refine go_m rfl rfl (by first | decide | (unfold vp_in; decide)) ?_
      refine go_s 5 rfl ?_
      refine go_m rfl rfl (by first | decide | (unfold vp_in; decide)) ?_
      refine go_s 4 rfl ?_
      refine go_m rfl rfl (by first | decide | (unfold vp_in; decide)) ?_
      refine go_s 1 rfl ?_
      refine c_runT hN hN1 n (d + 1) (b / 64) (b % 64) (am_u (am_u C 59 10 (D0 102 1 >>> (6 : Int32))) 59 11 (D0 102 1 &&& (63 : Int32))) _ _ _ _ _ _ (by omega) (am_PT_nx (am_RT_st ((hR0.u59 (by decide)).u59 (by decide))) j94 j95 (by omega) (by omega) ((am_u_nj (by decide)).trans (am_u_eq.trans (by rw [eb]; exact y3))) (am_u_eq.trans (by rw [eb]; exact y4))) (am_PG_FT hP hcfr (am_FT_nx (am_FT_st hft) hFT0)) (v1) (v2) (Or.inr ⟨?_, ?_⟩) ?_
      · exact am_nx96.trans (v1)
      · exact am_nx97.trans (v2)
      · exact fun D2 y1 y2 => q D2 y1 (fun c j a1 a2 a3 a4 a5 a6 a7 => (y2 c j a1 a2 a3 a4 a5 a6 a7).trans (am_FT_nx (am_FT_st hft) hFT0 c j a1 a2 a3 a4 a5 a6 a7))
