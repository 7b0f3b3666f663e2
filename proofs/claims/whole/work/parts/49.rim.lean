/-! what holds between two calls: the program, the image and the machines of both sides -/
def am_st (sz : Nat → Nat) : Nat → Nat
  | 0 => 0
  | f + 1 => am_st sz f + sz f
def am_gd (n a b c : Int32) : Prop := (0 ≤ n ∧ n < 35) ∧ ¬ am_su (am_kA n) a = 0 ∧ ¬ am_su (am_kB n) b = 0 ∧ ¬ am_su (am_kC n) c = 0
def am_IN (C D : Nat → Nat → Int32) (s x : Nat) : Prop := C 2 s = D 71 x ∧ C 3 s = am_kpt (am_kA (D 71 x)) (D 72 x) ∧ C 4 s = am_kpt (am_kB (D 71 x)) (D 73 x) ∧ C 5 s = am_kpt (am_kC (D 71 x)) (D 74 x) ∧ am_gd (D 71 x) (D 72 x) (D 73 x) (D 74 x)
def am_PG (C D : Nat → Nat → Int32) (F : Nat) (sz : Nat → Nat) : Prop := (F ≤ 24) ∧ (C 1 5 = nI F) ∧ (D 69 1 = nI F) ∧ (∀ f, f < F → sz f ≤ 40) ∧ (∀ f, f < F → D 70 f = nI (sz f)) ∧ (∀ f, f ≤ F → C 6 f = nI (am_st sz f)) ∧ (am_st sz F ≤ 300) ∧ (C 1 6 = nI (am_st sz F)) ∧ (D 69 2 = nI (am_st sz F)) ∧ (∀ f p, f < F → p < sz f → am_IN C D (am_st sz f + p) (40 * f + p))
theorem am_PG.hF {C D : Nat → Nat → Int32} {F : Nat} {sz : Nat → Nat} (h : am_PG C D F sz) : F ≤ 24 := h.1
theorem am_PG.c5 {C D : Nat → Nat → Int32} {F : Nat} {sz : Nat → Nat} (h : am_PG C D F sz) : C 1 5 = nI F := h.2.1
theorem am_PG.m1 {C D : Nat → Nat → Int32} {F : Nat} {sz : Nat → Nat} (h : am_PG C D F sz) : D 69 1 = nI F := h.2.2.1
theorem am_PG.s40 {C D : Nat → Nat → Int32} {F : Nat} {sz : Nat → Nat} (h : am_PG C D F sz) : ∀ f, f < F → sz f ≤ 40 := h.2.2.2.1
theorem am_PG.m70 {C D : Nat → Nat → Int32} {F : Nat} {sz : Nat → Nat} (h : am_PG C D F sz) : ∀ f, f < F → D 70 f = nI (sz f) := h.2.2.2.2.1
theorem am_PG.c6 {C D : Nat → Nat → Int32} {F : Nat} {sz : Nat → Nat} (h : am_PG C D F sz) : ∀ f, f ≤ F → C 6 f = nI (am_st sz f) := h.2.2.2.2.2.1
theorem am_PG.t300 {C D : Nat → Nat → Int32} {F : Nat} {sz : Nat → Nat} (h : am_PG C D F sz) : am_st sz F ≤ 300 := h.2.2.2.2.2.2.1
theorem am_PG.cS {C D : Nat → Nat → Int32} {F : Nat} {sz : Nat → Nat} (h : am_PG C D F sz) : C 1 6 = nI (am_st sz F) := h.2.2.2.2.2.2.2.1
theorem am_PG.mS {C D : Nat → Nat → Int32} {F : Nat} {sz : Nat → Nat} (h : am_PG C D F sz) : D 69 2 = nI (am_st sz F) := h.2.2.2.2.2.2.2.2.1
theorem am_PG.ins {C D : Nat → Nat → Int32} {F : Nat} {sz : Nat → Nat} (h : am_PG C D F sz) : ∀ f p, f < F → p < sz f → am_IN C D (am_st sz f + p) (40 * f + p) := h.2.2.2.2.2.2.2.2.2
theorem am_PG.fr {C D C' D' : Nat → Nat → Int32} {F : Nat} {sz : Nat → Nat} (h : am_PG C D F sz) (hc : ∀ c j, 1 ≤ c → c ≤ 6 → (c = 1 → j = 5 ∨ j = 6) → C' c j = C c j) (hd : ∀ c j, 69 ≤ c → c ≤ 74 → (c = 69 → j = 1 ∨ j = 2) → D' c j = D c j) : am_PG C' D' F sz := by
  refine ⟨h.hF, ?_, ?_, h.s40, fun f hf => ?_, fun f hf => ?_, h.t300, ?_, ?_, fun f p hf hp => ?_⟩
  · rw [hc 1 5 (by decide) (by decide) (by omega)]; exact h.c5
  · rw [hd 69 1 (by decide) (by decide) (by omega)]; exact h.m1
  · rw [hd 70 f (by decide) (by decide) (by omega)]; exact h.m70 f hf
  · rw [hc 6 f (by decide) (by decide) (by omega)]; exact h.c6 f hf
  · rw [hc 1 6 (by decide) (by decide) (by omega)]; exact h.cS
  · rw [hd 69 2 (by decide) (by decide) (by omega)]; exact h.mS
  · have := h.ins f p hf hp
    unfold am_IN at this ⊢
    rw [hc 2 _ (by decide) (by decide) (by omega), hc 3 _ (by decide) (by decide) (by omega), hc 4 _ (by decide) (by decide) (by omega), hc 5 _ (by decide) (by decide) (by omega), hd 71 _ (by decide) (by decide) (by omega), hd 72 _ (by decide) (by decide) (by omega), hd 73 _ (by decide) (by decide) (by omega), hd 74 _ (by decide) (by decide) (by omega)]
    exact this
theorem am_st_le {sz : Nat → Nat} : ∀ {f g : Nat}, f ≤ g → am_st sz f ≤ am_st sz g
  | f, 0, h => by have : f = 0 := by omega
                  subst this; exact Nat.le_refl _
  | f, g + 1, h => by
    by_cases e : f = g + 1
    · subst e; exact Nat.le_refl _
    · exact Nat.le_trans (am_st_le (show f ≤ g by omega)) (Nat.le_add_right _ _)
/-- the machine of the image -/
def am_MI (D : Nat → Nat → Int32) : Prop := ((D 65 1 = 0 ∧ D 93 1 = -1 ∧ D 65 4 = 0 ∧ (∀ k, k < 32 → D 67 k = 0) ∧ ∀ k, k < 64 → D 68 k = 0) ∨ (D 65 1 = 1 ∧ ¬ D 93 1 = -1 ∧ D 93 1 = D 65 2 ∧ D 94 1 = D 65 3 ∧ D 96 1 = D 65 8)) ∧ am_RI D D
def am_IG (D : Nat → Nat → Int32) (W G R O : Nat) : Prop := (D 69 10 = 1) ∧ (1 ≤ W) ∧ (am_WI D D W) ∧ (1 ≤ G) ∧ (G ≤ 24) ∧ (D 11 4 = nI G) ∧ (D 69 11 = nI G) ∧ (∀ f, f < G → ∃ b, b < G ∧ D 13 f = nI b ∧ D 77 f = nI b ∧ 4096 + 4 * D 14 b = D 78 f) ∧ (R ≤ 60) ∧ (O ≤ 150) ∧ (D 15 10 = nI R) ∧ (D 69 13 = nI R) ∧ (D 15 11 = nI O) ∧ (∀ k, k < R → ∃ o t, o + t ≤ O ∧ D 18 k = nI o ∧ D 19 k = nI t ∧ D 81 k = nI t ∧ D 17 k = D 80 k ∧ 4 * ((D 19 k - 1) * D 17 k - 1 - D 19 k) = D 82 k ∧ 4096 + 4 * D 20 k = D 83 k ∧ ∀ i, i < t → ∃ x, x < 960 ∧ D 85 (150 * k + i) = nI x ∧ D 22 (o + i) = nI (x / 40) ∧ D 23 (o + i) = nI (x % 40) ∧ 4096 + 4 * D 24 (o + i) = D 86 (150 * k + i))
theorem am_IG.hi {D : Nat → Nat → Int32} {W G R O : Nat} (h : am_IG D W G R O) : D 69 10 = 1 := h.1
theorem am_IG.w1 {D : Nat → Nat → Int32} {W G R O : Nat} (h : am_IG D W G R O) : 1 ≤ W := h.2.1
theorem am_IG.wi {D : Nat → Nat → Int32} {W G R O : Nat} (h : am_IG D W G R O) : am_WI D D W := h.2.2.1
theorem am_IG.g1 {D : Nat → Nat → Int32} {W G R O : Nat} (h : am_IG D W G R O) : 1 ≤ G := h.2.2.2.1
theorem am_IG.g24 {D : Nat → Nat → Int32} {W G R O : Nat} (h : am_IG D W G R O) : G ≤ 24 := h.2.2.2.2.1
theorem am_IG.c4 {D : Nat → Nat → Int32} {W G R O : Nat} (h : am_IG D W G R O) : D 11 4 = nI G := h.2.2.2.2.2.1
theorem am_IG.m11 {D : Nat → Nat → Int32} {W G R O : Nat} (h : am_IG D W G R O) : D 69 11 = nI G := h.2.2.2.2.2.2.1
theorem am_IG.bd {D : Nat → Nat → Int32} {W G R O : Nat} (h : am_IG D W G R O) : ∀ f, f < G → ∃ b, b < G ∧ D 13 f = nI b ∧ D 77 f = nI b ∧ 4096 + 4 * D 14 b = D 78 f := h.2.2.2.2.2.2.2.1
theorem am_IG.r60 {D : Nat → Nat → Int32} {W G R O : Nat} (h : am_IG D W G R O) : R ≤ 60 := h.2.2.2.2.2.2.2.2.1
theorem am_IG.o150 {D : Nat → Nat → Int32} {W G R O : Nat} (h : am_IG D W G R O) : O ≤ 150 := h.2.2.2.2.2.2.2.2.2.1
theorem am_IG.cR {D : Nat → Nat → Int32} {W G R O : Nat} (h : am_IG D W G R O) : D 15 10 = nI R := h.2.2.2.2.2.2.2.2.2.2.1
theorem am_IG.mR {D : Nat → Nat → Int32} {W G R O : Nat} (h : am_IG D W G R O) : D 69 13 = nI R := h.2.2.2.2.2.2.2.2.2.2.2.1
theorem am_IG.cO {D : Nat → Nat → Int32} {W G R O : Nat} (h : am_IG D W G R O) : D 15 11 = nI O := h.2.2.2.2.2.2.2.2.2.2.2.2.1
theorem am_IG.rt {D : Nat → Nat → Int32} {W G R O : Nat} (h : am_IG D W G R O) : ∀ k, k < R → ∃ o t, o + t ≤ O ∧ D 18 k = nI o ∧ D 19 k = nI t ∧ D 81 k = nI t ∧ D 17 k = D 80 k ∧ 4 * ((D 19 k - 1) * D 17 k - 1 - D 19 k) = D 82 k ∧ 4096 + 4 * D 20 k = D 83 k ∧ ∀ i, i < t → ∃ x, x < 960 ∧ D 85 (150 * k + i) = nI x ∧ D 22 (o + i) = nI (x / 40) ∧ D 23 (o + i) = nI (x % 40) ∧ 4096 + 4 * D 24 (o + i) = D 86 (150 * k + i) := h.2.2.2.2.2.2.2.2.2.2.2.2.2
def am_IM (D : Nat → Nat → Int32) : Prop := (D 69 10 = 0 ∧ D 11 3 = 0 ∧ D 11 4 = 0 ∧ D 15 10 = 0 ∧ D 15 11 = 0) ∨ ∃ W G R O, am_IG D W G R O
theorem am_isp_fr {C : Nat → Nat → Int32} {c j : Nat} (h1 : c ≠ 66) (h2 : c ≠ 67) (h3 : c ≠ 68) (h : c = 65 → j ≠ 4 ∧ j ≠ 8) : (am_isp C).2 c j = C c j := by
  unfold am_isp
  split
  · rfl
  · exact am_isw_fr h1 h2 h3 h
theorem am_drv_fr {sf : (Nat → Nat → Int32) → Int32 × (Nat → Nat → Int32)} {c j : Nat} (h : ∀ C, (sf C).2 c j = C c j) : ∀ n s d C, (am_drv sf n s d C).2.2 c j = C c j
  | 0, s, d, C => rfl
  | n + 1, s, d, C => by
    unfold am_drv
    split
    · rw [am_drv_fr h n]; exact h C
    · rfl
theorem am_fil_ne {D : Nat → Nat → Int32} {o n c j : Nat} {v : Int32} (h : c ≠ o) : am_fil D o n v c j = D c j := by
  unfold am_fil
  rw [if_neg (fun z => h z.1)]
theorem am_fil_eq {D : Nat → Nat → Int32} {o n j : Nat} {v : Int32} (h : j < n) : am_fil D o n v o j = v := by
  unfold am_fil
  rw [if_pos ⟨rfl, h⟩]
theorem am_fil_nj {D : Nat → Nat → Int32} {o n j : Nat} {v : Int32} (h : n ≤ j) : am_fil D o n v o j = D o j := by
  unfold am_fil
  rw [if_neg (fun z => by omega)]
theorem am_drv_o {sf : (Nat → Nat → Int32) → Int32 × (Nat → Nat → Int32)} (h : ∀ C, ¬ (sf C).1 = -1) : ∀ n s d C, ¬ s = -1 → ¬ (am_drv sf n s d C).1 = -1
  | 0, s, d, C, hs => hs
  | n + 1, s, d, C, hs => by
    unfold am_drv
    split
    · exact am_drv_o h n _ _ _ (h C)
    · exact hs
theorem am_drv_d {sf : (Nat → Nat → Int32) → Int32 × (Nat → Nat → Int32)} : ∀ n s d C, (am_drv sf n s d C).2.1 ≤ d + n
  | 0, s, d, C => Nat.le_refl _
  | n + 1, s, d, C => by
    unfold am_drv
    split
    · refine Nat.le_trans (am_drv_d n _ _ _) ?_
      split <;> omega
    · show d ≤ _
      omega
theorem am_gi_m {D : Nat → Nat → Int32} {g : Int32} : ¬ (am_gi D g).1 = -1 := by
  unfold am_gi
  dsimp only
  split <;> decide
theorem am_isp_m (C : Nat → Nat → Int32) : ¬ (am_isp C).1 = -1 := by
  unfold am_isp
  split
  · exact show ¬ (2 : Int32) = -1 by decide
  · unfold am_isw am_ild am_wgi am_isr am_ibr am_ijp
    repeat' split
    all_goals first | exact am_gi_m | exact show ¬ (2 : Int32) = -1 by decide
theorem am_bg1_ne {D : Nat → Nat → Int32} {c j : Nat} (h1 : c ≠ 103) (h2 : c ≠ 106) (h : (c ≠ 94 ∧ c ≠ 95 ∧ c ≠ 97) ∨ j ≠ 1) : am_bg1 D c j = D c j := by
  unfold am_bg1
  rw [am_fil_ne h2, am_fil_ne h1]
  unfold am_u
  rw [if_neg (by omega), if_neg (by omega), if_neg (by omega)]
theorem c_X12_runImage {e : am_E} {kc ks N W : Nat} {Q : am_Q} {C D : Nat → Nat → Int32} (hN : N ≤ 20000) (hR : am_RI C D) (h78 : C 65 8 = D 78 0) (h94 : D 94 1 = 0) (h95 : D 95 1 = 0) (hW : am_WI C D W) (q : ∀ D', am_PI (am_drv am_isp N 3 0 C).2.2 D' (am_drv am_isp N 3 0 C).2.1 → am_FI D' D → Q (some (.int (if (am_drv am_isp N 3 0 C).1 = 3 then 1 else (am_drv am_isp N 3 0 C).1))) (hp D' e)) : am_Go (mX12_runImage, 0, am_ent mX12_runImage [.ref 69, .int (nI N)], [], hp D e, kc, ks, Q) := by
  refine go_s 3 rfl ?_
  refine go_m rfl rfl (by first | decide | (unfold vp_in; decide)) ?_
  refine go_s 5 rfl ?_
  refine go_m rfl rfl (show vp_in _ 2 from vp_in_nI (n := 1) (by decide) (by decide)) ?_
  have h0 := c_runI (e := e) (kc := kc) (ks := ks) (W := W) (Q := Q) hN N 0 C (am_u D 96 1 (D 78 0)) (.long 0) (.long 0) (by omega) ?_ ?_ ?_
  · rw [h78] at h0
    exact h0
  · obtain ⟨u1, u2, u3, u4⟩ := hR
    refine ⟨⟨fun k hk => ?_, fun k hk => ?_, fun k hk => ?_, ?_⟩, ?_, ?_, 0, Nat.le_refl _, ?_⟩
    · rw [am_u_ne (by decide)]; exact u1 k hk
    · rw [am_u_ne (by decide)]; exact u2 k hk
    · rw [am_u_ne (by decide)]; exact u3 k hk
    · rw [am_u_ne (by decide)]; exact u4
    · rw [am_u_eq]; exact h78.symm
    · rw [am_u_ne (by decide), h94]; exact nI_0.symm
    · rw [am_u_ne (by decide), h95]; exact nI_0.symm
  · obtain ⟨w1, w2, w3, w4, w5⟩ := hW
    refine ⟨w1, w2, ?_, fun i hi => ?_, fun i hi => ?_⟩
    · rw [am_u_ne (by decide)]; exact w3
    · rw [am_u_ne (by decide)]; exact w4 i hi
    · rw [am_u_ne (by decide)]; exact w5 i hi
  · intro D' a1 a2
    refine q D' a1 (fun c j b1 b2 b3 b4 => ?_)
    rw [a2 c j b1 b2 b3 b4]
    by_cases e6 : c = 96
    · subst e6; rw [am_u_nj (by omega)]
    · rw [am_u_ne e6]
theorem am_wl {x : Int32} {n N : Nat} (h : x = nI n) (hn : n ≤ N) (hN : N < 2 ^ 31) : x.toInt ≤ N := by
  rw [h, nI_toInt (by omega)]
  omega
def am_C65 (D : Nat → Nat → Int32) : Nat → Nat → Int32 := am_ir0 (am_u (am_u D 65 1 1) 65 4 0)
theorem am_C65_ne {D : Nat → Nat → Int32} {c j : Nat} (h1 : c ≠ 65) (h2 : c ≠ 67) (h3 : c ≠ 68) : am_C65 D c j = D c j := by
  unfold am_C65 am_ir0 am_ir1
  rw [am_u_ne h1, am_fil_ne h3, am_fil_ne h2, am_u_ne h1, am_u_ne h1]
def am_E65 (D : Nat → Nat → Int32) (N : Nat) : Nat → Nat → Int32 := am_u (am_u (am_dv_65 D N).2.2 65 3 (nI (am_dv_65 D N).2.1)) 65 2 (am_oc_65 D N)
theorem am_E65_ne {D : Nat → Nat → Int32} {N c j : Nat} (h0 : c ≠ 65) (h1 : c ≠ 66) (h2 : c ≠ 67) (h3 : c ≠ 68) : am_E65 D N c j = D c j := by
  unfold am_E65
  rw [am_u_ne h0, am_u_ne h0]
  unfold am_dv_65
  rw [am_drv_fr (fun C => am_isp_fr h1 h2 h3 (fun z => absurd z h0))]
  exact am_C65_ne h0 h2 h3
theorem c_X12_run_1 {D : Nat → Nat → Int32} {e : am_E} {kc ks N : Nat} {Q : am_Q} (hN1 : 1 ≤ N) (hN2 : N ≤ 20000) (hI : am_IM D) (hC : am_MI D) (q : ∀ D', (∀ c j, c < 69 → D' c j = (am_rn_65 D N).2 c j) → (∀ c j, 69 ≤ c → c ≠ 100 → c ≠ 103 → c ≠ 106 → ((c ≠ 93 ∧ c ≠ 94 ∧ c ≠ 95 ∧ c ≠ 96 ∧ c ≠ 97) ∨ j ≠ 1) → D' c j = D c j) → am_MI D' → Q (some (.int (am_rn_65 D N).1)) (hp D' e)) : am_Go (mX12_run, 0, am_ent mX12_run [.ref 69, .int 1, .int (nI N)], [], hp (am_rn_65 D N).2 e, kc, ks, Q) := by
  refine go_s 3 rfl ?_
  refine go_st kX12_run_3 okX12_in rfl rfl rfl (Nat.zero_le _) (Nat.zero_le _) ?_
  refine c_X12_in ?_
  refine go_s 1 rfl ?_
  refine go_if (fun c => absurd c (by decide)) (fun c => ?_)
  refine go_s 3 rfl ?_
  refine go_st kX12_run_14 okX12_in rfl rfl rfl (Nat.zero_le _) (Nat.zero_le _) ?_
  refine c_X12_in ?_
  refine go_s 1 rfl ?_
  refine go_if (fun c => absurd ⟨nI_nlt (a := N) (b := 1) hN1 (by omega), nI_nlt (a := 20000) (b := N) hN2 (by decide)⟩ (zb_0.mp c)) (fun c => ?_)
  refine go_s 2 rfl ?_
  refine go_if (fun c => absurd c (by decide)) (fun c => ?_)
  refine go_s 3 rfl ?_
  rcases hI with ⟨i1, i2, i3, i4, i5⟩ | ⟨W, G, R, O, hG⟩
  · have hr : am_rn_65 D N = (-1, D) := by
      unfold am_rn_65
      rw [i2]
      exact if_pos rfl
    rw [hr] at q ⊢
    refine go_if (fun c => ?_) (fun c => absurd i1 c)
    refine go_s 1 rfl ?_
    exact go_ret rfl rfl (q D (fun _ _ _ => rfl) (fun _ _ _ _ _ _ _ => rfl) hC)
  · have hr : am_rn_65 D N = (am_oc_65 D N, am_E65 D N) := by
      unfold am_rn_65
      rw [hG.wi.2.1]
      exact if_neg (fun z => zb_0.mp z (nI_lt (a := 0) (b := W) hG.w1 (Nat.lt_of_le_of_lt hG.wi.1 (by decide))))
    rw [hr] at q ⊢
    dsimp only at q ⊢
    have f1 : am_E65 D N 69 10 = 1 := by rw [am_E65_ne (by decide) (by decide) (by decide) (by decide)]; exact hG.hi
    refine go_if (fun c => absurd (f1.symm.trans c) (by decide)) (fun c => ?_)
    refine go_s 2 rfl ?_
    refine go_v kX12_run_45 okX12_begin rfl rfl rfl rfl (Nat.zero_le _) (Nat.zero_le _) ?_
    refine c_X12_begin_1 ?_
    refine go_s 5 rfl ?_
    refine go_if (fun c => absurd c (by decide)) (fun c => ?_)
    refine go_s 2 rfl ?_
    refine go_v kX12_run_67 okX12_runImage rfl rfl rfl rfl (Nat.zero_le _) (Nat.zero_le _) ?_
    have hE : ∀ c j, 69 ≤ c → am_E65 D N c j = D c j := fun c j hc => am_E65_ne (by omega) (by omega) (by omega) (by omega)
    obtain ⟨b, hb1, hb2, hb3, hb4⟩ := hG.bd 0 hG.g1
    obtain ⟨hC1, hC2⟩ := hC
    obtain ⟨r1, r2, r3, r4⟩ := hC2
    have a1 : am_ir1 (am_u (am_u D 65 1 1) 65 4 0) 11 4 = nI G := by
      unfold am_ir1
      rw [am_fil_ne (by decide), am_fil_ne (by decide), am_u_ne (by decide), am_u_ne (by decide)]; exact hG.c4
    have a2 : ∀ j, am_ir1 (am_u (am_u D 65 1 1) 65 4 0) 13 j = D 13 j := fun j => by
      unfold am_ir1
      rw [am_fil_ne (by decide), am_fil_ne (by decide), am_u_ne (by decide), am_u_ne (by decide)]
    have a3 : ∀ j, am_ir1 (am_u (am_u D 65 1 1) 65 4 0) 14 j = D 14 j := fun j => by
      unfold am_ir1
      rw [am_fil_ne (by decide), am_fil_ne (by decide), am_u_ne (by decide), am_u_ne (by decide)]
    have hG24 := hG.g24
    have hG1 := hG.g1
    have p8 : am_C65 D 65 8 = D 78 0 := by
      unfold am_C65 am_ir0
      rw [am_u_eq]
      have : am_bdy (am_ir1 (am_u (am_u D 65 1 1) 65 4 0)) 0 = nI b := by
        unfold am_bdy
        rw [a1, if_pos ⟨by decide, nI_lt (a := 0) (b := G) hG1 (by omega)⟩, a2]
        exact hb2
      rw [this]
      unfold am_adr
      rw [a1, if_pos ⟨nI_pos' (by omega), nI_lt hb1 (by omega)⟩, nI_clamp (by omega), a3]
      exact hb4
    have p1 : am_C65 D 65 1 = 1 := by
      unfold am_C65 am_ir0 am_ir1
      rw [am_u_nj (by decide), am_fil_ne (by decide), am_fil_ne (by decide), am_u_nj (by decide), am_u_eq]
    have p4 : am_C65 D 65 4 = 0 := by
      unfold am_C65 am_ir0 am_ir1
      rw [am_u_nj (by decide), am_fil_ne (by decide), am_fil_ne (by decide), am_u_eq]
    have p67 : ∀ k, k < 32 → am_C65 D 67 k = 0 := fun k hk => by
      unfold am_C65 am_ir0 am_ir1
      rw [am_u_ne (by decide), am_fil_ne (by decide), am_fil_eq hk]
    have p68 : ∀ k, k < 64 → am_C65 D 68 k = 0 := fun k hk => by
      unfold am_C65 am_ir0 am_ir1
      rw [am_u_ne (by decide), am_fil_eq hk]
    have g78 : am_bg1 (am_E65 D N) 78 0 = D 78 0 := by rw [am_bg1_ne (by decide) (by decide) (Or.inl (by decide)), hE _ _ (by decide)]
    refine c_X12_runImage (C := am_C65 D) (W := W) hN2 ?_ ?_ ?_ ?_ ?_ ?_
    · refine ⟨fun k hk => ?_, fun k hk => ?_, fun k hk => ?_, ?_⟩
      · rw [p67 k hk]
        unfold am_bg1
        rw [am_fil_ne (by decide), am_fil_eq hk]
      · rw [p68 k hk]
        unfold am_bg1
        rw [am_fil_eq hk]
      · rw [am_bg1_ne (by decide) (by decide) (Or.inl (by decide)), hE _ _ (by decide), am_C65_ne (by decide) (by decide) (by decide)]
        exact r3 k hk
      · rw [p4]
        unfold am_bg1
        rw [am_fil_ne (by decide), am_fil_ne (by decide), am_u_ne (by decide), am_u_eq]
    · rw [p8, g78]
    · unfold am_bg1
      rw [am_fil_ne (by decide), am_fil_ne (by decide), am_u_ne (by decide), am_u_ne (by decide), am_u_eq]
    · unfold am_bg1
      rw [am_fil_ne (by decide), am_fil_ne (by decide), am_u_ne (by decide), am_u_eq]
    · obtain ⟨w1, w2, w3, w4, w5⟩ := hG.wi
      have k79 : ∀ i, am_bg1 (am_E65 D N) 79 i = D 79 i := fun i => by rw [am_bg1_ne (by decide) (by decide) (Or.inl (by decide)), hE _ _ (by decide)]
      refine ⟨w1, ?_, ?_, fun i hi => ?_, fun i hi => ?_⟩
      · rw [am_C65_ne (by decide) (by decide) (by decide)]; exact w2
      · rw [am_bg1_ne (by decide) (by decide) (Or.inl (by decide)), hE _ _ (by decide)]; exact w3
      · rw [am_C65_ne (by decide) (by decide) (by decide), k79]; exact w4 i hi
      · rw [k79]; exact w5 i hi
    · intro D' hP hFI
      have hdv : am_dv_65 D N = am_drv am_isp N 3 0 (am_C65 D) := rfl
      rw [← hdv] at hP
      obtain ⟨t1, t2, t3, m, hm, t4⟩ := hP
      refine go_m rfl rfl (show vp_in _ 2 from vp_in_nI (n := 1) (by decide) (by decide)) ?_
      refine go_s 3 rfl ?_
      refine go_m rfl rfl (show vp_in _ 2 from vp_in_nI (n := 1) (by decide) (by decide)) ?_
      have hb : ∀ c j, c ≠ 94 → c ≠ 95 → c ≠ 96 → c ≠ 97 → c ≠ 93 → c ≠ 100 → c ≠ 103 → c ≠ 106 → D' c j = am_E65 D N c j := fun c j z1 z2 z3 z4 z5 z6 z7 z8 => by
        rw [hFI c j z6 z7 z8 (Or.inl ⟨z5, z1, z2, z3, z4⟩), am_bg1_ne z7 z8 (Or.inl ⟨z1, z2, z4⟩)]
      have hx : ∀ c j, c ≠ 65 → am_E65 D N c j = (am_dv_65 D N).2.2 c j := fun c j z => by
        unfold am_E65
        rw [am_u_ne z, am_u_ne z]
      have h0 : am_oc_65 D N = am_u D' 93 1 (am_oc_65 D N) 93 1 := am_u_eq.symm
      have key : am_MI (am_u D' 93 1 (am_oc_65 D N)) := by
        refine ⟨Or.inr ⟨?_, ?_, ?_, ?_, ?_⟩, fun k hk => ?_, fun k hk => ?_, fun k hk => ?_, ?_⟩
        · rw [am_u_ne (by decide), hb _ _ (by decide) (by decide) (by decide) (by decide) (by decide) (by decide) (by decide) (by decide)]
          unfold am_E65
          rw [am_u_nj (by decide), am_u_nj (by decide), hdv, am_drv_fr (fun C => am_isp_fr (by decide) (by decide) (by decide) (fun _ => ⟨by decide, by decide⟩))]
          exact p1
        · rw [am_u_eq]
          unfold am_oc_65
          split
          · decide
          · rw [hdv]
            exact am_drv_o am_isp_m _ _ _ _ (by decide)
        · rw [am_u_eq, am_u_ne (by decide), hb _ _ (by decide) (by decide) (by decide) (by decide) (by decide) (by decide) (by decide) (by decide)]
          unfold am_E65
          rw [am_u_eq]
        · rw [am_u_ne (by decide), am_u_ne (by decide), t3, hb _ _ (by decide) (by decide) (by decide) (by decide) (by decide) (by decide) (by decide) (by decide)]
          unfold am_E65
          rw [am_u_nj (by decide), am_u_eq]
        · rw [am_u_ne (by decide), am_u_ne (by decide), t2, hb _ _ (by decide) (by decide) (by decide) (by decide) (by decide) (by decide) (by decide) (by decide)]
          unfold am_E65
          rw [am_u_nj (by decide), am_u_nj (by decide)]
        · rw [am_u_ne (by decide), am_u_ne (by decide), hb _ _ (by decide) (by decide) (by decide) (by decide) (by decide) (by decide) (by decide) (by decide), hx _ _ (by decide)]
          exact t1.1 k hk
        · rw [am_u_ne (by decide), am_u_ne (by decide), hb _ _ (by decide) (by decide) (by decide) (by decide) (by decide) (by decide) (by decide) (by decide), hx _ _ (by decide)]
          exact t1.2.1 k hk
        · rw [am_u_ne (by decide), am_u_ne (by decide), hb _ _ (by decide) (by decide) (by decide) (by decide) (by decide) (by decide) (by decide) (by decide), hx _ _ (by decide)]
          exact t1.2.2.1 k hk
        · rw [am_u_ne (by decide), am_u_ne (by decide), hb _ _ (by decide) (by decide) (by decide) (by decide) (by decide) (by decide) (by decide) (by decide)]
          unfold am_E65
          rw [am_u_nj (by decide), am_u_nj (by decide)]
          exact t1.2.2.2
      refine go_ret rfl rfl (am_qi (q (am_u D' 93 1 (am_oc_65 D N)) (fun c j hc => ?_) (fun c j hc z6 z7 z8 z => ?_) key) ?_ ?_)
      · rw [am_u_ne (by omega), hb _ _ (by omega) (by omega) (by omega) (by omega) (by omega) (by omega) (by omega) (by omega)]
      · by_cases e3 : c = 93
        · subst e3
          rw [am_u_nj (by omega), hFI _ _ z6 z7 z8 (Or.inr (by omega)), am_bg1_ne z7 z8 (Or.inr (by omega)), hE _ _ hc]
        · rw [am_u_ne e3, hFI _ _ z6 z7 z8 z, am_bg1_ne z7 z8 (by omega), hE _ _ hc]
      · rfl
      · rfl
