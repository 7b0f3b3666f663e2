theorem c_X0_classes {D : Nat → Nat → Int32} {e : am_E} {kc ks : Nat} {Q : am_Q}   (q : Q (some (.int (D 7 4))) (hp D e)) : am_Go (mX0_classes, 0, am_ent mX0_classes [.ref 7], [], hp D e, kc, ks, Q) := by
  refine go_s 2 rfl ?_
  exact go_ret rfl rfl (am_qi q (by rfl) (by rfl))
theorem c_X11_count_0 {D : Nat → Nat → Int32} {e : am_E} {kc ks : Nat} {Q : am_Q}   (q : Q (some (.int (D 1 5))) (hp D e)) : am_Go (mX11_count, 0, am_ent mX11_count [.ref 0, .int 0], [], hp D e, kc, ks, Q) := by
  refine go_s 2 rfl ?_
  refine go_if (fun c1_0 => ?_) (fun c => absurd rfl c)
  refine go_s 2 rfl ?_
  refine go_v kX11_count_48 okX5_functions rfl rfl rfl rfl (Nat.zero_le _) (Nat.zero_le _) ?_
  refine c_X5_functions ?_
  exact go_ret rfl rfl (am_qi q (by rfl) (by rfl))
theorem c_X11_count_1 {D : Nat → Nat → Int32} {e : am_E} {kc ks : Nat} {Q : am_Q}   (q : Q (some (.int (D 1 6))) (hp D e)) : am_Go (mX11_count, 0, am_ent mX11_count [.ref 0, .int 1], [], hp D e, kc, ks, Q) := by
  refine go_s 2 rfl ?_
  refine go_if (fun c => absurd c (by decide)) (fun c1_0 => ?_)
  refine go_if (fun c1_1 => ?_) (fun c => absurd rfl c)
  refine go_s 2 rfl ?_
  refine go_v kX11_count_56 okX5_size rfl rfl rfl rfl (Nat.zero_le _) (Nat.zero_le _) ?_
  refine c_X5_size ?_
  exact go_ret rfl rfl (am_qi q (by rfl) (by rfl))
theorem c_X11_count_3 {D : Nat → Nat → Int32} {e : am_E} {kc ks : Nat} {Q : am_Q}   (q : Q (some (.int (D 11 3))) (hp D e)) : am_Go (mX11_count, 0, am_ent mX11_count [.ref 0, .int 3], [], hp D e, kc, ks, Q) := by
  refine go_s 2 rfl ?_
  refine go_if (fun c => absurd c (by decide)) (fun c1_0 => ?_)
  refine go_if (fun c => absurd c (by decide)) (fun c1_1 => ?_)
  refine go_if (fun c => absurd c (by decide)) (fun c1_2 => ?_)
  refine go_if (fun c1_3 => ?_) (fun c => absurd rfl c)
  refine go_s 2 rfl ?_
  refine go_v kX11_count_79 okX1_size rfl rfl rfl rfl (Nat.zero_le _) (Nat.zero_le _) ?_
  refine c_X1_size ?_
  exact go_ret rfl rfl (am_qi q (by rfl) (by rfl))
theorem c_X11_count_5 {D : Nat → Nat → Int32} {e : am_E} {kc ks : Nat} {Q : am_Q}   (q : Q (some (.int (D 15 10))) (hp D e)) : am_Go (mX11_count, 0, am_ent mX11_count [.ref 0, .int 5], [], hp D e, kc, ks, Q) := by
  refine go_s 2 rfl ?_
  refine go_if (fun c => absurd c (by decide)) (fun c1_0 => ?_)
  refine go_if (fun c => absurd c (by decide)) (fun c1_1 => ?_)
  refine go_if (fun c => absurd c (by decide)) (fun c1_2 => ?_)
  refine go_if (fun c => absurd c (by decide)) (fun c1_3 => ?_)
  refine go_if (fun c => absurd c (by decide)) (fun c1_4 => ?_)
  refine go_if (fun c1_5 => ?_) (fun c => absurd rfl c)
  refine go_s 2 rfl ?_
  refine go_v kX11_count_95 okX7_size rfl rfl rfl rfl (Nat.zero_le _) (Nat.zero_le _) ?_
  refine c_X7_size ?_
  exact go_ret rfl rfl (am_qi q (by rfl) (by rfl))
theorem c_X12_count_0 {D : Nat → Nat → Int32} {e : am_E} {kc ks : Nat} {Q : am_Q}   (q : Q (some (.int (D 69 1))) (hp D e)) : am_Go (mX12_count, 0, am_ent mX12_count [.ref 69, .int 0], [], hp D e, kc, ks, Q) := by
  refine go_s 4 rfl ?_
  refine go_if (fun c3_0 => ?_) (fun c => absurd rfl c)
  refine go_s 2 rfl ?_
  exact go_ret rfl rfl (am_qi q (by rfl) (by rfl))
theorem c_X12_count_1 {D : Nat → Nat → Int32} {e : am_E} {kc ks : Nat} {Q : am_Q}   (q : Q (some (.int (D 69 2))) (hp D e)) : am_Go (mX12_count, 0, am_ent mX12_count [.ref 69, .int 1], [], hp D e, kc, ks, Q) := by
  refine go_s 4 rfl ?_
  refine go_if (fun c => absurd c (by decide)) (fun c3_0 => ?_)
  refine go_if (fun c3_1 => ?_) (fun c => absurd rfl c)
  refine go_s 2 rfl ?_
  exact go_ret rfl rfl (am_qi q (by rfl) (by rfl))
theorem c_X12_count_3 {D : Nat → Nat → Int32} {e : am_E} {kc ks : Nat} {Q : am_Q}   (q : Q (some (.int (if D 69 10 = 0 then 0 else D 69 12))) (hp D e)) : am_Go (mX12_count, 0, am_ent mX12_count [.ref 69, .int 3], [], hp D e, kc, ks, Q) := by
  refine go_s 4 rfl ?_
  refine go_if (fun c => absurd c (by decide)) (fun c3_0 => ?_)
  refine go_if (fun c => absurd c (by decide)) (fun c3_1 => ?_)
  refine go_if (fun c => absurd c (by decide)) (fun c3_2 => ?_)
  refine go_if (fun c3_3 => ?_) (fun c => absurd rfl c)
  refine go_s 3 rfl ?_
  refine go_if (fun c63 => ?_) (fun c63 => ?_)
  · refine go_s 1 rfl ?_
    exact go_ret rfl rfl (am_qi q (by exact (if_pos c63).symm) (by rfl))
  · refine go_s 3 rfl ?_
    exact go_ret rfl rfl (am_qi q (by exact (if_neg c63).symm) (by rfl))
theorem c_X12_count_5 {D : Nat → Nat → Int32} {e : am_E} {kc ks : Nat} {Q : am_Q}   (q : Q (some (.int (if D 69 10 = 0 then 0 else D 69 13))) (hp D e)) : am_Go (mX12_count, 0, am_ent mX12_count [.ref 69, .int 5], [], hp D e, kc, ks, Q) := by
  refine go_s 4 rfl ?_
  refine go_if (fun c => absurd c (by decide)) (fun c3_0 => ?_)
  refine go_if (fun c => absurd c (by decide)) (fun c3_1 => ?_)
  refine go_if (fun c => absurd c (by decide)) (fun c3_2 => ?_)
  refine go_if (fun c => absurd c (by decide)) (fun c3_3 => ?_)
  refine go_if (fun c => absurd c (by decide)) (fun c3_4 => ?_)
  refine go_if (fun c3_5 => ?_) (fun c => absurd rfl c)
  refine go_s 3 rfl ?_
  refine go_if (fun c122 => ?_) (fun c122 => ?_)
  · refine go_s 1 rfl ?_
    exact go_ret rfl rfl (am_qi q (by exact (if_pos c122).symm) (by rfl))
  · refine go_s 3 rfl ?_
    exact go_ret rfl rfl (am_qi q (by exact (if_neg c122).symm) (by rfl))
theorem c_X11_count_x {D : Nat → Nat → Int32} {e : am_E} {kc ks : Nat} {Q : am_Q} {w : Int32} (h0 : ¬ w = 0) (h1 : ¬ w = 1) (h2 : ¬ w = 2) (h3 : ¬ w = 3) (h4 : ¬ w = 4) (h5 : ¬ w = 5) (h6 : ¬ w = 6) (q : Q (some (.int (-1))) (hp D e)) : am_Go (mX11_count, 0, am_ent mX11_count [.ref 0, .int w], [], hp D e, kc, ks, Q) := by
  refine go_s 2 rfl ?_
  refine go_if (fun c => absurd c h0) (fun _ => ?_)
  refine go_if (fun c => absurd c h1) (fun _ => ?_)
  refine go_if (fun c => absurd c h2) (fun _ => ?_)
  refine go_if (fun c => absurd c h3) (fun _ => ?_)
  refine go_if (fun c => absurd c h4) (fun _ => ?_)
  refine go_if (fun c => absurd c h5) (fun _ => ?_)
  refine go_if (fun c => absurd c h6) (fun _ => ?_)
  refine go_s 1 rfl ?_
  exact go_ret rfl rfl q
theorem c_X12_count_x {D : Nat → Nat → Int32} {e : am_E} {kc ks : Nat} {Q : am_Q} {w : Int32} (h0 : ¬ w = 0) (h1 : ¬ w = 1) (h2 : ¬ w = 2) (h3 : ¬ w = 3) (h4 : ¬ w = 4) (h5 : ¬ w = 5) (h6 : ¬ w = 6) (q : Q (some (.int (-1))) (hp D e)) : am_Go (mX12_count, 0, am_ent mX12_count [.ref 69, .int w], [], hp D e, kc, ks, Q) := by
  refine go_s 4 rfl ?_
  refine go_if (fun c => absurd c h0) (fun _ => ?_)
  refine go_if (fun c => absurd c h1) (fun _ => ?_)
  refine go_if (fun c => absurd c h2) (fun _ => ?_)
  refine go_if (fun c => absurd c h3) (fun _ => ?_)
  refine go_if (fun c => absurd c h4) (fun _ => ?_)
  refine go_if (fun c => absurd c h5) (fun _ => ?_)
  refine go_if (fun c => absurd c h6) (fun _ => ?_)
  refine go_s 1 rfl ?_
  exact go_ret rfl rfl q
theorem c_cbl {X : Nat → Nat → Int32} {e : am_E} {Q : am_Q} {kc ks G : Nat} (hG : G ≤ 24) (h4 : X 11 4 = nI G) (q : Q (some (.int (nI (am_ct (fun f => X 13 f = nI f) G)))) (hp X e)) : ∀ (n g : Nat), G < n + g → g ≤ G → am_Go (mX1_bodies, 4, [.ref 11, .int (nI (am_ct (fun f => X 13 f = nI f) g)), .int (nI g)], [], hp X e, kc, ks, Q)
  | 0, g, g1, g2 => by omega
  | n + 1, g, g1, g2 => by
    refine go_s 4 rfl ?_
    refine go_if (fun c9 => ?_) (fun c9 => ?_)
    rotate_left
    · have c9 : ¬ nI g < X 11 4 := c9
      rw [h4] at c9
      have hge := mt (nI_lt (a := g) (b := G) · (by omega)) c9
      have ef : g = G := by omega
      subst ef
      refine go_s 1 rfl ?_
      exact go_ret rfl rfl q
    have c9 : nI g < X 11 4 := c9
    rw [h4] at c9
    have hg := (nI_ltI (a := g) (b := G) (by omega) (by omega)).mp c9
    refine go_s 2 rfl ?_
    refine go_v kX1_bodies_14 okX1_isBody rfl rfl rfl rfl (Nat.zero_le _) (Nat.zero_le _) ?_
    refine c_X1_isBody (am_wl h4 hG (by decide)) ?_
    have ez : zb ((0 ≤ nI g ∧ nI g < X 11 4) ∧ X 13 (nI g).toNatClampNeg = nI g) = 0 ↔ ¬ X 13 g = nI g := by
      rw [zb_0, nI_clamp (by omega)]
      exact ⟨fun z y => z ⟨⟨nI_pos' (by omega), by rw [h4]; exact nI_lt hg (by omega)⟩, y⟩, fun z y => z y.2⟩
    refine go_s 1 rfl ?_
    by_cases hb : X 13 g = nI g
    · refine go_if (fun c => absurd hb (ez.mp c)) (fun c => ?_)
      refine go_s 3 (pc' := 4) (ls' := [.ref 11, .int (nI (am_ct (fun f => X 13 f = nI f) (g + 1))), .int (nI (g + 1))]) (st' := []) (h' := hp X e) (by rw [am_ct_t (P := fun f => X 13 f = nI f) hb, ← nI_1 g, ← nI_1 (am_ct (fun f => X 13 f = nI f) g)]; rfl) ?_
      exact c_cbl hG h4 q n (g + 1) (by omega) (by omega)
    · refine go_if (fun c => ?_) (fun c => absurd (ez.mpr hb) c)
      refine go_s 2 (pc' := 4) (ls' := [.ref 11, .int (nI (am_ct (fun f => X 13 f = nI f) (g + 1))), .int (nI (g + 1))]) (st' := []) (h' := hp X e) (by rw [am_ct_f (P := fun f => X 13 f = nI f) hb, ← nI_1 g]; rfl) ?_
      exact c_cbl hG h4 q n (g + 1) (by omega) (by omega)
theorem c_mbl {X : Nat → Nat → Int32} {e : am_E} {Q : am_Q} {kc ks G : Nat} {w : Value} (hG : G ≤ 24) (hi : X 69 10 = 1) (h4 : X 69 11 = nI G) (hb : ∀ f, f < G → X 77 f = X 13 f) (q : Q (some (.int (nI (am_ct (fun f => X 13 f = nI f) G)))) (hp X e)) : ∀ (n g : Nat), G < n + g → g ≤ G → am_Go (mX12_count, 77, [.ref 69, w, .int (nI (am_ct (fun f => X 13 f = nI f) g)), .int (nI g)], [], hp X e, kc, ks, Q)
  | 0, g, g1, g2 => by omega
  | n + 1, g, g1, g2 => by
    refine go_s 3 rfl ?_
    refine go_if (fun c => absurd (hi.symm.trans c) (by decide)) (fun c => ?_)
    refine go_s 4 rfl ?_
    refine go_if (fun c9 => ?_) (fun c9 => ?_)
    rotate_left
    · have c9 : ¬ nI g < X 69 11 := c9
      rw [h4] at c9
      have hge := mt (nI_lt (a := g) (b := G) · (by omega)) c9
      have ef : g = G := by omega
      subst ef
      refine go_s 1 rfl ?_
      exact go_ret rfl rfl q
    have c9 : nI g < X 69 11 := c9
    rw [h4] at c9
    have hg := (nI_ltI (a := g) (b := G) (by omega) (by omega)).mp c9
    refine go_s 4 rfl ?_
    refine go_m rfl rfl (show vp_in (nI g) 24 from vp_in_nI (by omega) (by decide)) ?_
    refine go_s 2 rfl ?_
    have e77 : X 77 (nI g).toNatClampNeg = X 13 g := by rw [nI_clamp (by omega)]; exact hb g hg
    by_cases hb2 : X 13 g = nI g
    · refine go_if (fun c => ?_) (fun c => absurd (e77.trans hb2) c)
      refine go_s 6 (pc' := 77) (ls' := [.ref 69, w, .int (nI (am_ct (fun f => X 13 f = nI f) (g + 1))), .int (nI (g + 1))]) (st' := []) (h' := hp X e) (by rw [am_ct_t (P := fun f => X 13 f = nI f) hb2, ← nI_1 g, ← nI_1 (am_ct (fun f => X 13 f = nI f) g)]; rfl) ?_
      exact c_mbl hG hi h4 hb q n (g + 1) (by omega) (by omega)
    · refine go_if (fun c => absurd (e77.symm.trans c) hb2) (fun c => ?_)
      refine go_s 5 (pc' := 77) (ls' := [.ref 69, w, .int (nI (am_ct (fun f => X 13 f = nI f) g) + 0), .int (nI (g + 1))]) (st' := []) (h' := hp X e) (by rw [← nI_1 g]; rfl) ?_
      rw [Int32.add_zero, ← am_ct_f (P := fun f => X 13 f = nI f) hb2]
      exact c_mbl hG hi h4 hb q n (g + 1) (by omega) (by omega)
def am_sm (g : Nat → Int32) : Nat → Int32
  | 0 => 0
  | k + 1 => am_sm g k + g k
theorem c_csl {X : Nat → Nat → Int32} {e : am_E} {Q : am_Q} {kc ks R : Nat} (hR : R ≤ 60) (h10 : X 15 10 = nI R) (hs : ∀ k, k < R → 4 * ((X 19 k - 1) * X 17 k - 1 - X 19 k) = X 82 k) (q : Q (some (.int (am_sm (X 82) R))) (hp X e)) : ∀ (n g : Nat), R < n + g → g ≤ R → am_Go (mX7_savesInAll, 4, [.ref 15, .int (am_sm (X 82) g), .int (nI g)], [], hp X e, kc, ks, Q)
  | 0, g, g1, g2 => by omega
  | n + 1, g, g1, g2 => by
    refine go_s 4 rfl ?_
    refine go_if (fun c9 => ?_) (fun c9 => ?_)
    rotate_left
    · have c9 : ¬ nI g < X 15 10 := c9
      rw [h10] at c9
      have hge := mt (nI_lt (a := g) (b := R) · (by omega)) c9
      have ef : g = R := by omega
      subst ef
      refine go_s 1 rfl ?_
      exact go_ret rfl rfl q
    have c9 : nI g < X 15 10 := c9
    rw [h10] at c9
    have hg := (nI_ltI (a := g) (b := R) (by omega) (by omega)).mp c9
    refine go_s 3 rfl ?_
    refine go_v kX7_savesInAll_15 okX7_savesOf rfl rfl rfl rfl (Nat.zero_le _) (Nat.zero_le _) ?_
    refine c_X7_savesOf (am_wl h10 hR (by decide)) ?_
    rw [if_pos ⟨nI_pos' (by omega), by rw [h10]; exact nI_lt hg (by omega)⟩, nI_clamp (by omega), hs g hg]
    refine go_s 4 (pc' := 4) (ls' := [.ref 15, .int (am_sm (X 82) (g + 1)), .int (nI (g + 1))]) (st' := []) (h' := hp X e) (by rw [← nI_1 g]; rfl) ?_
    exact c_csl hR h10 hs q n (g + 1) (by omega) (by omega)
theorem c_msl {X : Nat → Nat → Int32} {e : am_E} {Q : am_Q} {kc ks R : Nat} {w : Value} (hR : R ≤ 60) (hi : X 69 10 = 1) (h13 : X 69 13 = nI R) (q : Q (some (.int (am_sm (X 82) R))) (hp X e)) : ∀ (n g : Nat), R < n + g → g ≤ R → am_Go (mX12_count, 136, [.ref 69, w, .int (am_sm (X 82) g), .int (nI g)], [], hp X e, kc, ks, Q)
  | 0, g, g1, g2 => by omega
  | n + 1, g, g1, g2 => by
    refine go_s 3 rfl ?_
    refine go_if (fun c => absurd (hi.symm.trans c) (by decide)) (fun c => ?_)
    refine go_s 4 rfl ?_
    refine go_if (fun c9 => ?_) (fun c9 => ?_)
    rotate_left
    · have c9 : ¬ nI g < X 69 13 := c9
      rw [h13] at c9
      have hge := mt (nI_lt (a := g) (b := R) · (by omega)) c9
      have ef : g = R := by omega
      subst ef
      refine go_s 1 rfl ?_
      exact go_ret rfl rfl q
    have c9 : nI g < X 69 13 := c9
    rw [h13] at c9
    have hg := (nI_ltI (a := g) (b := R) (by omega) (by omega)).mp c9
    refine go_s 4 rfl ?_
    refine go_m rfl rfl (show vp_in (nI g) 60 from vp_in_nI (by omega) (by decide)) ?_
    show am_Go (mX12_count, 158, [.ref 69, w, .int (am_sm (X 82) g), .int (nI g)], [.int (X 82 (nI g).toNatClampNeg), .int (am_sm (X 82) g)], hp X e, _, _, Q)
    rw [nI_clamp (show g < 2 ^ 31 by omega)]
    refine go_s 4 (pc' := 136) (ls' := [.ref 69, w, .int (am_sm (X 82) (g + 1)), .int (nI (g + 1))]) (st' := []) (h' := hp X e) (by rw [← nI_1 g]; rfl) ?_
    exact c_msl hR hi h13 q n (g + 1) (by omega) (by omega)
/-- behind a refresh; behind parts -/
theorem in_B.rf {X C : Nat → Nat → Int32} {F m i : Nat} {sz : Nat → Nat} (h : in_B X F sz m) (fr : ∀ c j, c ≠ 8 → c ≠ 9 → c ≠ 10 → (c ≠ 7 ∨ (j ≠ 4 ∧ j ≠ 5)) → C c j = X c j) (h75 : C 7 5 = X 1 7) (hR : am_FR C X F sz i) : in_B C F sz m := by
  have f : ∀ c j, (c < 7 ∨ 10 < c) → C c j = X c j := fun c j hc => fr c j (by omega) (by omega) (by omega) (by omega)
  exact ⟨h.pg.fr (fun c j a1 a2 _ => f c j (by omega)) (fun c j a1 a2 _ => f c j (by omega)), h.im.fr (fun c j a1 a2 => f c j (by omega)) (fun j _ _ => f 69 j (by decide)) (fun c j a1 a2 => f c j (by omega)), h.mi.fr (fun c j a1 a2 => f c j (by omega)) (fun c a1 a2 => f c 1 (by omega)) (fun c j a1 => f c j (by omega)), h.mt.fr (fun c j a1 a2 => f c j (by omega)) (fun c a1 a2 => f c 0 (by omega)) (fun c j a1 => f c j (by omega)), fun _ => ⟨i, am_FR_cg (D := X) (fun c j a1 a2 => f c j (by omega)) hR⟩, (f 1 7 (by decide)).trans h.ch, Or.inr ⟨m, Nat.le_refl _, h75.trans h.ch⟩, by rw [f 69 12 (by decide)]; exact h.wd⟩
theorem in_B.pa {X S : Nat → Nat → Int32} {F m : Nat} {sz : Nat → Nat} (h : in_B X F sz m) (f : ∀ c j, c ≠ 75 → c ≠ 76 → S c j = X c j) : in_B S F sz m :=
  h.fr (fun c j a1 a2 => f c j (by omega) (by omega)) (fun c j a1 a2 => f c j (by omega) (by omega)) (fun j _ _ => f 69 j (by decide) (by decide)) (fun c j a1 => f c j (by omega) (by omega)) (h.mi.fr (fun c j a1 a2 => f c j (by omega) (by omega)) (fun c a1 a2 => f c 1 (by omega) (by omega)) (fun c j a1 => f c j (by omega) (by omega))) (h.mt.fr (fun c j a1 a2 => f c j (by omega) (by omega)) (fun c a1 a2 => f c 0 (by omega) (by omega)) (fun c j a1 => f c j (by omega) (by omega)))
section PCT
variable {X : Nat → Nat → Int32} {e : am_E} {Q : am_Q} {kc ks n : Nat} {w : Int32}
theorem p_count (hA : in_A X n) (hw : 109 ≤ e.2.1) (K : ∀ v X', md mX12_count [.int w] v X' e (n + 1) → Q (some (.int v)) (hp X' e)) : am_Go (mX11_count, 0, am_ent mX11_count [.ref 0, .int w], [], hp X e, kc, ks, Q) := by
  have hA2 := hA.s
  obtain ⟨F, sz, m, hm, hB⟩ := hA
  have hP := hB.pg
  by_cases h0 : w = 0
  · subst h0
    exact c_X11_count_0 (K _ X (fun Q' q' => c_X12_count_0 (am_qi (q' X e hA2 hw rfl) (hP.m1.trans hP.c5.symm) rfl)))
  by_cases h1 : w = 1
  · subst h1
    exact c_X11_count_1 (K _ X (fun Q' q' => c_X12_count_1 (am_qi (q' X e hA2 hw rfl) (hP.mS.trans hP.cS.symm) rfl)))
  by_cases h2 : w = 2
  · subst h2
    refine go_s 2 rfl ?_
    refine go_if (fun c => absurd c (by decide)) (fun _ => ?_)
    refine go_if (fun c => absurd c (by decide)) (fun _ => ?_)
    refine go_if (fun _ => ?_) (fun c => absurd rfl c)
    refine go_s 2 rfl ?_
    refine go_v kX11_count_64 okX0_refresh rfl rfl rfl rfl (Nat.zero_le _) (Nat.zero_le _) ?_
    refine c_X0_refresh hP hB.fc (fun C i fr h75 hR => ?_)
    have hB2 := hB.rf fr h75 hR
    refine go_s 2 rfl ?_
    refine go_v kX11_count_71 okX0_classes rfl rfl rfl rfl (Nat.zero_le _) (Nat.zero_le _) ?_
    refine c_X0_classes ?_
    refine go_ret rfl rfl (K _ C (fun Q' q' => ?_))
    refine go_s 4 rfl ?_
    refine go_if (fun c => absurd c (by decide)) (fun _ => ?_)
    refine go_if (fun c => absurd c (by decide)) (fun _ => ?_)
    refine go_if (fun _ => ?_) (fun c => absurd rfl c)
    refine go_s 1 rfl ?_
    refine go_v kX12_count_55 okX12_parts rfl rfl rfl rfl (Nat.zero_le _) (Nat.zero_le _) ?_
    have hS : am_MS C X := ⟨fr 69 1 (by decide) (by decide) (by decide) (by decide), fr 69 2 (by decide) (by decide) (by decide) (by decide), fun c j a1 a2 => fr c j (by omega) (by omega) (by omega) (by omega)⟩
    refine c_X12_parts hP hS (fun S i' fS hfx hMV => ?_)
    refine go_ret rfl rfl (am_qi (q' S e ⟨F, sz, m, by omega, hB2.pa fS⟩ hw rfl) ?_ rfl)
    rw [hR.cl, am_fC_u hfx hR.fx]
  by_cases h3 : w = 3
  · subst h3
    refine c_X11_count_3 (K _ X (fun Q' q' => c_X12_count_3 (am_qi (q' X e hA2 hw rfl) ?_ rfl)))
    rcases hB.im with ⟨i1, i2, i3, i4, i5⟩ | ⟨W, G, R, O, hG⟩
    · rw [if_pos i1, i2]
    · rw [if_neg (show ¬ X 69 10 = 0 by rw [hG.hi]; decide), hG.wi.2.2.1, hG.wi.2.1]
  by_cases h4 : w = 4
  · subst h4
    refine go_s 2 rfl ?_
    refine go_if (fun c => absurd c (by decide)) (fun _ => ?_)
    refine go_if (fun c => absurd c (by decide)) (fun _ => ?_)
    refine go_if (fun c => absurd c (by decide)) (fun _ => ?_)
    refine go_if (fun c => absurd c (by decide)) (fun _ => ?_)
    refine go_if (fun _ => ?_) (fun c => absurd rfl c)
    refine go_s 2 rfl ?_
    refine go_v kX11_count_87 okX1_bodies rfl rfl rfl rfl (Nat.zero_le _) (Nat.zero_le _) ?_
    refine go_s 4 rfl ?_
    rcases hB.im with ⟨i1, i2, i3, i4, i5⟩ | ⟨W, G, R, O, hG⟩
    · refine c_cbl (G := 0) (by decide) i3 ?_ 1 0 (by decide) (by decide)
      refine go_ret rfl rfl (K _ X (fun Q' q' => ?_))
      refine go_s 4 rfl ?_
      refine go_if (fun c => absurd c (by decide)) (fun _ => ?_)
      refine go_if (fun c => absurd c (by decide)) (fun _ => ?_)
      refine go_if (fun c => absurd c (by decide)) (fun _ => ?_)
      refine go_if (fun c => absurd c (by decide)) (fun _ => ?_)
      refine go_if (fun _ => ?_) (fun c => absurd rfl c)
      refine go_s 2 rfl ?_
      refine go_s 3 rfl ?_
      refine go_if (fun _ => ?_) (fun c => absurd i1 c)
      refine go_s 1 rfl ?_
      exact go_ret rfl rfl (q' X e hA2 hw rfl)
    · refine c_cbl hG.g24 hG.c4 ?_ (G + 1) 0 (by omega) (by omega)
      refine go_ret rfl rfl (K _ X (fun Q' q' => ?_))
      refine go_s 4 rfl ?_
      refine go_if (fun c => absurd c (by decide)) (fun _ => ?_)
      refine go_if (fun c => absurd c (by decide)) (fun _ => ?_)
      refine go_if (fun c => absurd c (by decide)) (fun _ => ?_)
      refine go_if (fun c => absurd c (by decide)) (fun _ => ?_)
      refine go_if (fun _ => ?_) (fun c => absurd rfl c)
      refine go_s 2 rfl ?_
      exact c_mbl hG.g24 hG.hi hG.m11 (fun f hf => by
        obtain ⟨b, _, b2, b3, _⟩ := hG.bd f hf
        rw [b2, b3]) (q' X e hA2 hw rfl) (G + 1) 0 (by omega) (by omega)
  by_cases h5 : w = 5
  · subst h5
    refine c_X11_count_5 (K _ X (fun Q' q' => c_X12_count_5 (am_qi (q' X e hA2 hw rfl) ?_ rfl)))
    rcases hB.im with ⟨i1, i2, i3, i4, i5⟩ | ⟨W, G, R, O, hG⟩
    · rw [if_pos i1, i4]
    · rw [if_neg (show ¬ X 69 10 = 0 by rw [hG.hi]; decide), hG.mR, hG.cR]
  by_cases h6 : w = 6
  · subst h6
    refine go_s 2 rfl ?_
    refine go_if (fun c => absurd c (by decide)) (fun _ => ?_)
    refine go_if (fun c => absurd c (by decide)) (fun _ => ?_)
    refine go_if (fun c => absurd c (by decide)) (fun _ => ?_)
    refine go_if (fun c => absurd c (by decide)) (fun _ => ?_)
    refine go_if (fun c => absurd c (by decide)) (fun _ => ?_)
    refine go_if (fun c => absurd c (by decide)) (fun _ => ?_)
    refine go_if (fun _ => ?_) (fun c => absurd rfl c)
    refine go_s 2 rfl ?_
    refine go_v kX11_count_103 okX7_savesInAll rfl rfl rfl rfl (Nat.zero_le _) (Nat.zero_le _) ?_
    refine go_s 4 rfl ?_
    rcases hB.im with ⟨i1, i2, i3, i4, i5⟩ | ⟨W, G, R, O, hG⟩
    · refine c_csl (R := 0) (by decide) i4 (fun k hk => absurd hk (Nat.not_lt_zero _)) ?_ 1 0 (by decide) (by decide)
      refine go_ret rfl rfl (K _ X (fun Q' q' => ?_))
      refine go_s 4 rfl ?_
      refine go_if (fun c => absurd c (by decide)) (fun _ => ?_)
      refine go_if (fun c => absurd c (by decide)) (fun _ => ?_)
      refine go_if (fun c => absurd c (by decide)) (fun _ => ?_)
      refine go_if (fun c => absurd c (by decide)) (fun _ => ?_)
      refine go_if (fun c => absurd c (by decide)) (fun _ => ?_)
      refine go_if (fun c => absurd c (by decide)) (fun _ => ?_)
      refine go_if (fun _ => ?_) (fun c => absurd rfl c)
      refine go_s 2 rfl ?_
      refine go_s 3 rfl ?_
      refine go_if (fun _ => ?_) (fun c => absurd i1 c)
      refine go_s 1 rfl ?_
      exact go_ret rfl rfl (q' X e hA2 hw rfl)
    · refine c_csl hG.r60 hG.cR (fun k hk => by
        obtain ⟨o, t, a1, a2, a3, a4, a5, a6, _⟩ := hG.rt k hk
        exact a6) ?_ (R + 1) 0 (by omega) (by omega)
      refine go_ret rfl rfl (K _ X (fun Q' q' => ?_))
      refine go_s 4 rfl ?_
      refine go_if (fun c => absurd c (by decide)) (fun _ => ?_)
      refine go_if (fun c => absurd c (by decide)) (fun _ => ?_)
      refine go_if (fun c => absurd c (by decide)) (fun _ => ?_)
      refine go_if (fun c => absurd c (by decide)) (fun _ => ?_)
      refine go_if (fun c => absurd c (by decide)) (fun _ => ?_)
      refine go_if (fun c => absurd c (by decide)) (fun _ => ?_)
      refine go_if (fun _ => ?_) (fun c => absurd rfl c)
      refine go_s 2 rfl ?_
      exact c_msl hG.r60 hG.hi hG.mR (q' X e hA2 hw rfl) (R + 1) 0 (by omega) (by omega)
  · exact c_X11_count_x h0 h1 h2 h3 h4 h5 h6 (K _ X (fun Q' q' => c_X12_count_x h0 h1 h2 h3 h4 h5 h6 (q' X e hA2 hw rfl)))
end PCT
