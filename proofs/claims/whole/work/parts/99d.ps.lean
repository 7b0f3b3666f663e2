/-! press, on the side of the class -/
def ps_ok (X : Nat → Nat → Int32) (F : Nat) (sz : Nat → Nat) (fl rt : Int32) (B : Nat → Prop) (bo ln sp : Nat → Nat) (K : Nat) : Prop := (∀ f, B f ↔ bo f = f) ∧ (∃ i, am_fx X F sz i ∧ ∀ f, f < F → (fl = 0 ∧ bo f = f) ∨ (¬ fl = 0 ∧ am_bd X F sz (am_fE X F sz i) f (bo f))) ∧ ((rt = 0 ∧ K = 0) ∨ (¬ rt = 0 ∧ sq_F (am_st sz F) (am_op X F sz B) (am_en X F sz B) (am_sS X) ln sp K))
theorem ps_ok.bb {X : Nat → Nat → Int32} {F : Nat} {sz : Nat → Nat} {fl rt : Int32} {B : Nat → Prop} {bo ln sp : Nat → Nat} {K : Nat} (h : ps_ok X F sz fl rt B bo ln sp K) : ∀ f, B f ↔ bo f = f := h.1
theorem ps_ok.bo {X : Nat → Nat → Int32} {F : Nat} {sz : Nat → Nat} {fl rt : Int32} {B : Nat → Prop} {bo ln sp : Nat → Nat} {K : Nat} (h : ps_ok X F sz fl rt B bo ln sp K) : ∃ i, am_fx X F sz i ∧ ∀ f, f < F → (fl = 0 ∧ bo f = f) ∨ (¬ fl = 0 ∧ am_bd X F sz (am_fE X F sz i) f (bo f)) := h.2.1
theorem ps_ok.rt {X : Nat → Nat → Int32} {F : Nat} {sz : Nat → Nat} {fl rt : Int32} {B : Nat → Prop} {bo ln sp : Nat → Nat} {K : Nat} (h : ps_ok X F sz fl rt B bo ln sp K) : (rt = 0 ∧ K = 0) ∨ (¬ rt = 0 ∧ sq_F (am_st sz F) (am_op X F sz B) (am_en X F sz B) (am_sS X) ln sp K) := h.2.2
theorem am_bd_F {D : Nat → Nat → Int32} {F : Nat} {sz : Nat → Nat} {E : Nat → Nat → Prop} {f b : Nat} (hf : f < F) (h : am_bd D F sz E f b) : b < F := by
  rcases h with ⟨_, rfl⟩ | ⟨_, ⟨h, _⟩ | ⟨_, h⟩⟩
  · exact hf
  · exact h
  · have := h.1; omega
theorem am_bd_u {D : Nat → Nat → Int32} {F : Nat} {sz : Nat → Nat} {E E' : Nat → Nat → Prop} {f b c : Nat} (hf : f < F) (he : ∀ g, g < F → (E g f ↔ E' g f)) (h : am_bd D F sz E f b) (h' : am_bd D F sz E' f c) : b = c := by
  rcases h with ⟨t, rfl⟩ | ⟨t, h⟩
  · rcases h' with ⟨_, rfl⟩ | ⟨t', _⟩
    · rfl
    · exact absurd t t'
  · rcases h' with ⟨t', _⟩ | ⟨_, h'⟩
    · exact absurd t' t
    · rcases h with ⟨b1, b2, b3⟩ | ⟨b1, b2⟩
      · rcases h' with ⟨c1, c2, c3⟩ | ⟨c1, c2⟩
        · have x : ¬ b < c := fun z => c3 b z ⟨b2.1, (he b b1).mp b2.2⟩
          have y : ¬ c < b := fun z => b3 c z ⟨c2.1, (he c c1).mpr c2.2⟩
          omega
        · exact absurd ⟨b2.1, (he b b1).mp b2.2⟩ (c1 b b1)
      · rcases h' with ⟨c1, c2, c3⟩ | ⟨c1, c2⟩
        · exact absurd ⟨c2.1, (he c c1).mpr c2.2⟩ (b1 c c1)
        · have l1 := b2.1
          have l2 := c2.1
          have x : ¬ b < c := fun z => c2.2.2 b z ((he b (by omega)).mp b2.2.1)
          have y : ¬ c < b := fun z => b2.2.2 c z ((he c (by omega)).mpr c2.2.1)
          omega
theorem am_bd_id {D : Nat → Nat → Int32} {F : Nat} {sz : Nat → Nat} {E : Nat → Nat → Prop} (he : am_eqv E) {f b c : Nat} (h : am_bd D F sz E f b) (h' : am_bd D F sz E b c) : c = b := by
  rcases h' with ⟨_, rfl⟩ | ⟨nt, h'⟩
  · rfl
  · rcases h with ⟨t, rfl⟩ | ⟨_, ⟨_, h, _⟩ | ⟨h1, h2⟩⟩
    · exact absurd t nt
    · exact absurd h.1 nt
    · rcases h' with ⟨c1, c2, _⟩ | ⟨_, c2⟩
      · exact absurd ⟨c2.1, he.2.2 _ _ _ c2.2 h2.2.1⟩ (h1 c c1)
      · have hb : am_lst E b b := ⟨Nat.le_refl _, he.1 b, fun k hk z => h2.2.2 k hk (he.2.2 _ _ _ z h2.2.1)⟩
        exact am_lst_u c2 hb
theorem ps_boF {X : Nat → Nat → Int32} {F i : Nat} {sz : Nat → Nat} {fl : Int32} {bo : Nat → Nat} (hF : F ≤ 24) (h : ∀ f, f < F → (fl = 0 ∧ bo f = f) ∨ (¬ fl = 0 ∧ am_bd X F sz (am_fE X F sz i) f (bo f))) {f : Nat} (hf : f < F) : bo f < F ∧ bo (bo f) = bo f := by
  rcases h f hf with ⟨_, e⟩ | ⟨n, e⟩
  · rw [e]; exact ⟨hf, e⟩
  · have b := am_bd_F hf e
    refine ⟨b, ?_⟩
    rcases h (bo f) b with ⟨z, _⟩ | ⟨_, e2⟩
    · exact absurd z n
    · exact am_bd_id (am_fE_eqv hF i) e e2
theorem am_FR.u {C C' D : Nat → Nat → Int32} {F i : Nat} {sz : Nat → Nat} (h : am_FR C D F sz i) (hc : ∀ c j, (c = 7 ∧ j = 4) ∨ c = 8 ∨ c = 9 → C' c j = C c j) : am_FR C' D F sz i := ⟨h.fx, am_FV_cg (fun f => hc 9 f (by omega)) h.fv, (hc 7 4 (by omega)).trans h.cl, fun f hf => by rw [hc 8 f (by omega)]; exact h.tk f hf⟩
/-- the loop over the bodies -/
theorem c_pb {C X : Nat → Nat → Int32} {F i : Nat} {sz : Nat → Nat} {fl rt : Int32} {e : am_E} {Q : am_Q} {kc ks : Nat} {x3 : Value} (hP : am_PG C X F sz) (h4 : C 11 4 = nI F) (hR : am_FR C X F sz i) (KK : ∀ C' x4, (∀ c j, c ≠ 13 → C' c j = C c j) → (∀ f, f < F → ∃ b, C' 13 f = nI b ∧ ((fl = 0 ∧ b = f) ∨ (¬ fl = 0 ∧ am_bd X F sz (am_fE X F sz i) f b))) → am_Go (mX11_press, 84, [.ref 0, .int fl, .int rt, x3, x4], [], hp C' e, kc, ks, Q)) : ∀ (n f : Nat) (C' : Nat → Nat → Int32), F < n + f → f ≤ F → (∀ c j, c ≠ 13 → C' c j = C c j) → (∀ g, g < f → ∃ b, C' 13 g = nI b ∧ ((fl = 0 ∧ b = g) ∨ (¬ fl = 0 ∧ am_bd X F sz (am_fE X F sz i) g b))) → am_Go (mX11_press, 39, [.ref 0, .int fl, .int rt, x3, .int (nI f)], [], hp C' e, kc, ks, Q)
  | 0, f, C', g1, g2, hfr, hb => by omega
  | n + 1, f, C', g1, g2, hfr, hb => by
    have hF := hP.hF
    have hP' : am_PG C' X F sz := hP.fr (fun c j h1 h2 _ => hfr c j (by omega)) (fun _ _ _ _ _ => rfl)
    have hR' : am_FR C' X F sz i := hR.u (fun c j hc => hfr c j (by omega))
    have r4 : C' 11 4 = nI F := (hfr 11 4 (by decide)).trans h4
    refine go_s 3 rfl ?_
    refine go_v kX11_press_45 okX5_functions rfl rfl rfl rfl (Nat.zero_le _) (Nat.zero_le _) ?_
    refine c_X5_functions ?_
    rw [hP'.c5]
    refine go_s 1 rfl ?_
    refine go_if (fun c48 => ?_) (fun c48 => ?_)
    rotate_left
    · have hge := mt (nI_lt (a := f) (b := F) · (by omega)) c48
      have ef : f = F := by omega
      subst ef
      exact KK C' _ hfr hb
    have hf := (nI_ltI (a := f) (b := F) (by omega) (by omega)).mp c48
    have KB : ∀ b, ((fl = 0 ∧ b = f) ∨ (¬ fl = 0 ∧ am_bd X F sz (am_fE X F sz i) f b)) → am_Go (mX11_press, 75, [.ref 0, .int fl, .int rt, x3, .int (nI f)], [.int (nI b), .int (nI f), .ref 11], hp C' e, kc, ks, Q) := fun b hbb => by
      refine go_v kX11_press_75 okX1_setBody rfl rfl rfl rfl (Nat.zero_le _) (Nat.zero_le _) ?_
      refine c_X1_setBody (am_wl r4 hF (by decide)) ?_
      rw [if_pos ⟨nI_pos' (by omega), by rw [r4]; exact nI_lt hf (by omega)⟩, nI_clamp (by omega)]
      refine go_s 2 (pc' := 39) (ls' := [.ref 0, .int fl, .int rt, x3, .int (nI (f + 1))]) (st' := []) (h' := hp (am_u C' 13 f (nI b)) e) (by rw [← nI_1 f]; rfl) ?_
      refine c_pb hP h4 hR KK n (f + 1) _ (by omega) (by omega) (fun c j hc => (am_u_ne hc).trans (hfr c j hc)) (fun g hg => ?_)
      by_cases eg : g = f
      · subst eg; exact ⟨b, am_u_eq, hbb⟩
      · rw [am_u_nj eg]; exact hb g (by omega)
    refine go_s 5 rfl ?_
    refine go_if (fun c58 => ?_) (fun c58 => ?_)
    · refine go_s 1 rfl ?_
      exact KB f (Or.inl ⟨c58, rfl⟩)
    · refine go_s 3 rfl ?_
      refine go_v kX11_press_67 okX0_bodyOf rfl rfl rfl rfl (Nat.zero_le _) (Nat.zero_le _) ?_
      refine c_X0_bodyOf hP' hR' hf (fun b hbb => ?_)
      refine go_s 1 rfl ?_
      exact KB b (Or.inr ⟨c58, hbb⟩)
theorem c_X11_press {X : Nat → Nat → Int32} {F : Nat} {sz : Nat → Nat} {fl rt : Int32} {e : am_E} {Q : am_Q} {kc ks : Nat} (hP : am_PG X X F sz) (hc : X 7 5 = X 1 7 → ∃ i, am_FR X X F sz i)
    (q0 : ∀ r, 1 ≤ r → r < 5 → am_rfs X F sz r → Q (some (.int (-nI r))) (hp X e))
    (q1 : ∀ C C1 C' B bo ln sp K i, am_rfs X F sz 0 → ps_ok X F sz fl rt B bo ln sp K → ly_E2 C X F sz B bo (am_sS X) ln sp K → ly_L2 C X F sz B (am_sS X) ln sp K C1 K → ly_L4 C X F sz B bo (am_sS X) ln sp K C1 C' K 0 → (∀ c j, (c < 7 ∨ (c = 7 ∧ j ≠ 4 ∧ j ≠ 5) ∨ 56 < c) → C c j = X c j) → C 7 5 = X 1 7 → am_FR C X F sz i → Q (some (.int (C' 11 3))) (hp C' e)) : am_Go (mX11_press, 0, am_ent mX11_press [.ref 0, .int fl, .int rt], [], hp X e, kc, ks, Q) := by
  have hF := hP.hF
  refine go_s 2 rfl ?_
  refine go_v kX11_press_4 okX5_refusal rfl rfl rfl rfl (Nat.zero_le _) (Nat.zero_le _) ?_
  refine c_X5_refusal hP (fun r hr5 hrf => ?_)
  refine go_s 3 rfl ?_
  by_cases hr : r = 0
  rotate_left
  · refine go_if (fun c => absurd c (nI_ne0 (by omega) (by omega))) (fun c => ?_)
    refine go_s 2 rfl ?_
    exact go_ret rfl rfl (q0 r (by omega) hr5 hrf)
  subst hr
  refine go_if (fun c => ?_) (fun c => absurd rfl c)
  have hrf0 := hrf
  have hne : (¬ ∃ f, f < F ∧ am_Op X sz f) ∧ (¬ ∃ f p, f < F ∧ p < sz f ∧ am_Np X (40 * f + p) (sz f)) ∧ (¬ ∃ f p, f < F ∧ p < sz f ∧ am_Nf X (40 * f + p) F) := by
    rcases hrf with ⟨z, _⟩ | ⟨_, ⟨z, _⟩ | ⟨y1, ⟨z, _⟩ | ⟨y2, ⟨z, _⟩ | ⟨y3, _⟩⟩⟩⟩
    · exact absurd z (by decide)
    · exact absurd z (by decide)
    · exact absurd z (by decide)
    · exact absurd z (by decide)
    · first | exact ⟨y1, y2, y3⟩ | exact ⟨y1, y2, (by assumption)⟩
  refine go_s 2 rfl ?_
  refine go_v kX11_press_19 okX0_refresh rfl rfl rfl rfl (Nat.zero_le _) (Nat.zero_le _) ?_
  refine c_X0_refresh hP hc (fun C1 i fr1 e75 hR => ?_)
  have hP1 : am_PG C1 X F sz := hP.fr (fun c j h1 h2 _ => fr1 c j (by omega) (by omega) (by omega) (Or.inl (by omega))) (fun _ _ _ _ _ => rfl)
  refine go_s 4 rfl ?_
  refine go_v kX11_press_30 okX5_functions rfl rfl rfl rfl (Nat.zero_le _) (Nat.zero_le _) ?_
  refine c_X5_functions ?_
  rw [hP1.c5]
  refine go_v kX11_press_33 okX1_begin rfl rfl rfl rfl (Nat.zero_le _) (Nat.zero_le _) ?_
  refine c_X1_begin ?_
  rw [if_neg (show ¬ (24 : Int32) < nI F from nI_nlt (a := 24) (b := F) hF (by decide))]
  have fr2 : ∀ c j, (c ≠ 11 ∨ (j ≠ 3 ∧ j ≠ 4)) → am_u (am_u C1 11 3 0) 11 4 (nI F) c j = C1 c j := fun c j h => by
    unfold am_u
    rw [if_neg (by omega), if_neg (by omega)]
  have e113 : am_u (am_u C1 11 3 0) 11 4 (nI F) 11 3 = 0 := by rw [am_u_nj (by decide), am_u_eq]
  have e114 : am_u (am_u C1 11 3 0) 11 4 (nI F) 11 4 = nI F := am_u_eq
  generalize am_u (am_u C1 11 3 0) 11 4 (nI F) = C2 at fr2 e113 e114 ⊢
  have hP2 : am_PG C2 X F sz := hP1.fr (fun c j h1 h2 _ => fr2 c j (Or.inl (by omega))) (fun _ _ _ _ _ => rfl)
  have hR2 : am_FR C2 X F sz i := hR.u (fun c j hc => fr2 c j (Or.inl (by omega)))
  refine go_s 2 rfl ?_
  refine c_pb hP2 e114 hR2 (fun C3 y4 fr3 hbo => ?_) (F + 1) 0 C2 (by omega) (Nat.zero_le _) (fun _ _ _ => rfl) (fun g hg => absurd hg (Nat.not_lt_zero _))
  obtain ⟨bo, hbo⟩ := Classical.axiomOfChoice (show ∀ f, ∃ b, f < F → (C3 13 f = nI b ∧ ((fl = 0 ∧ b = f) ∨ (¬ fl = 0 ∧ am_bd X F sz (am_fE X F sz i) f b))) from fun f => by
    by_cases hf : f < F
    · obtain ⟨b, hb⟩ := hbo f hf
      exact ⟨b, fun _ => hb⟩
    · exact ⟨0, fun z => absurd z hf⟩)
  have hbo2 : ∀ f, f < F → (fl = 0 ∧ bo f = f) ∨ (¬ fl = 0 ∧ am_bd X F sz (am_fE X F sz i) f (bo f)) := fun f hf => (hbo f hf).2
  have hbF := fun (f : Nat) (hf : f < F) => ps_boF hF hbo2 hf
  have hBd : ∀ C' : Nat → Nat → Int32, (∀ f, C' 13 f = C3 13 f) → ∀ f, f < F → (C' 13 f = nI f ↔ bo f = f) := fun C' h f hf => by
    have := hbF f hf
    rw [h, (hbo f hf).1]
    exact nI_eq (by omega) (by omega)
  refine go_s 2 rfl ?_
  refine go_v kX11_press_88 okX7_drop rfl rfl rfl rfl (Nat.zero_le _) (Nat.zero_le _) ?_
  refine c_X7_drop ?_
  have fr4 : ∀ c j, c ≠ 25 → c ≠ 15 → am_u (am_u (am_fil C3 25 300 (-1)) 15 10 0) 15 11 0 c j = C3 c j := fun c j h1 h2 => by
    rw [am_u_ne h2, am_u_ne h2, am_fil_ne h1]
  have r10 : am_u (am_u (am_fil C3 25 300 (-1)) 15 10 0) 15 11 0 15 10 = 0 := by rw [am_u_nj (by decide), am_u_eq]
  have r11 : am_u (am_u (am_fil C3 25 300 (-1)) 15 10 0) 15 11 0 15 11 = 0 := am_u_eq
  have r25 : ∀ j, j < 300 → am_u (am_u (am_fil C3 25 300 (-1)) 15 10 0) 15 11 0 25 j = -1 := fun j hj => by
    rw [am_u_ne (by decide), am_u_ne (by decide), am_fil_eq hj]
  generalize am_u (am_u (am_fil C3 25 300 (-1)) 15 10 0) 15 11 0 = C4 at fr4 r10 r11 r25 ⊢
  have hP4 : am_PG C4 X F sz := hP2.fr (fun c j h1 h2 _ => (fr4 c j (by omega) (by omega)).trans (fr3 c j (by omega))) (fun _ _ _ _ _ => rfl)
  have frX : ∀ c j, (c < 7 ∨ (c = 7 ∧ j ≠ 4 ∧ j ≠ 5) ∨ 56 < c) → C4 c j = X c j := fun c j h => by
    rw [fr4 c j (by omega) (by omega), fr3 c j (by omega), fr2 c j (by omega), fr1 c j (by omega) (by omega) (by omega) (by omega)]
  have f4b : ∀ c j, c < 11 → C4 c j = C1 c j := fun c j h => by
    rw [fr4 c j (by omega) (by omega), fr3 c j (by omega), fr2 c j (by omega)]
  have g3 : C4 11 3 = 0 := by rw [fr4 11 3 (by decide) (by decide), fr3 11 3 (by decide)]; exact e113
  have g4 : C4 11 4 = nI F := by rw [fr4 11 4 (by decide) (by decide), fr3 11 4 (by decide)]; exact e114
  have ssX : ∀ C' : Nat → Nat → Int32, (∀ c j, 2 ≤ c → c ≤ 5 → C' c j = X c j) → am_sS C' = am_sS X := fun C' h => am_sS_cg (fun c j g1 g2 => h c j g1 g2)
  have KK : ∀ (C : Nat → Nat → Int32) (ln sp : Nat → Nat) (K : Nat), (∀ c j, (c < 15 ∨ 56 < c) → C c j = C4 c j) → K ≤ 60 → sq_Q (am_st sz F) (am_op X F sz (fun f => bo f = f)) (am_en X F sz (fun f => bo f = f)) (am_sS X) ln sp K → sq_RS C F sz (am_op X F sz (fun f => bo f = f)) (am_en X F sz (fun f => bo f = f)) (am_sS X) ln sp K → ((rt = 0 ∧ K = 0) ∨ (¬ rt = 0 ∧ sq_F (am_st sz F) (am_op X F sz (fun f => bo f = f)) (am_en X F sz (fun f => bo f = f)) (am_sS X) ln sp K)) → am_Go (mX11_press, 102, [.ref 0, .int fl, .int rt, .int (nI 0), y4], [], hp C e, kc, ks, Q) := fun C ln sp K hfr hK hQ hRS hps => by
    have e13 : ∀ f, C 13 f = C3 13 f := fun f => by rw [hfr 13 f (by decide), fr4 13 f (by decide) (by decide)]
    have hPC : am_PG C X F sz := hP4.fr (fun c j h1 h2 _ => hfr c j (by omega)) (fun _ _ _ _ _ => rfl)
    have hE : ly_E2 C X F sz (fun f => bo f = f) bo (am_sS X) ln sp K := by
      refine ⟨⟨hPC, fun f hf z => hne.1 ⟨f, hf, z⟩, (hfr 11 4 (by decide)).trans g4, hBd C e13, hRS, hQ, hK⟩, fun f p h1 h2 z => hne.2.1 ⟨f, p, h1, h2, z⟩, fun f p h1 h2 z => hne.2.2 ⟨f, p, h1, h2, z⟩, fun f hf => ⟨(hbF f hf).1, (hbF f hf).2, by rw [e13]; exact (hbo f hf).1⟩⟩
    refine go_s 2 rfl ?_
    refine go_v kX11_press_106 okX3_link rfl rfl rfl rfl (Nat.zero_le _) (Nat.zero_le _) ?_
    refine c_X3_link hE ((hfr 11 3 (by decide)).trans g3) (fun C5 C6 h5 h6 => ?_)
    refine go_s 2 rfl ?_
    refine go_v kX11_press_113 okX1_size rfl rfl rfl rfl (Nat.zero_le _) (Nat.zero_le _) ?_
    refine c_X1_size ?_
    refine go_ret rfl rfl ?_
    exact q1 C C5 C6 _ bo ln sp K i hrf0 ⟨fun _ => Iff.rfl, ⟨i, hR.fx, hbo2⟩, hps⟩ hE h5 h6 (fun c j h => (hfr c j (by omega)).trans (frX c j h)) (((hfr 7 5 (by decide)).trans (f4b 7 5 (by decide))).trans e75) (hR.u (fun c j h => (hfr c j (by omega)).trans (f4b c j (by omega))))
  refine go_s 2 rfl ?_
  refine go_if (fun c92 => ?_) (fun c92 => ?_)
  · refine KK C4 (fun _ => 0) (fun _ => 0) 0 (fun _ _ _ => rfl) (by decide) (fun k hk => absurd hk (Nat.not_lt_zero _)) ⟨r10, r11, fun k hk => absurd hk (Nat.not_lt_zero _), fun j hj _ => r25 j hj⟩ (Or.inl ⟨c92, rfl⟩)
  · refine go_s 2 rfl ?_
    refine go_v kX11_press_99 okX6_findAll rfl rfl rfl rfl (Nat.zero_le _) (Nat.zero_le _) ?_
    refine c_X6_findAll (B := fun f => bo f = f) hP4 g4 (hBd C4 (fun f => fr4 13 f (by decide) (by decide))) r10 r11 r25 (fun C5 ln sp K hfr hF5 hRS => ?_)
    rw [ssX C4 (fun c j g1 g2 => frX c j (by omega))] at hF5 hRS
    exact KK C5 ln sp K (fun c j h => hfr c j h) hF5.1 hF5.2.1 hRS (Or.inr ⟨c92, hF5⟩)
