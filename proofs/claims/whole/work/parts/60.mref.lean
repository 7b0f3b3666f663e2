theorem go_bl {M : am_M} {pc kc ks o n : Nat} {ls rest : List Value} {h : am_H} {Q : am_Q} {x : Int32} (hi : am_lk pc (am_code M) = some (.baload, 1)) (ho : h.1 o = .inr (1, n)) (hx : vp_in x n) (g : am_Go (M, pc + 1, ls, .int (h.2.2.1 o x.toNatClampNeg) :: rest, h, kc, ks, Q)) : am_Go (M, pc, ls, .int x :: .ref o :: rest, h, kc, ks, Q) := by
  refine go_m (P := vp_in x n) hi ?_ hx g
  unfold am_mem
  dsimp only
  rw [ho]
  rfl
theorem go_bs {M : am_M} {pc kc ks o n : Nat} {ls rest : List Value} {h : am_H} {Q : am_Q} {x v : Int32} (hi : am_lk pc (am_code M) = some (.bastore, 1)) (ho : h.1 o = .inr (1, n)) (hx : vp_in x n) (g : am_Go (M, pc + 1, ls, rest, (h.1, h.2.1, am_u h.2.2.1 o x.toNatClampNeg (v &&& 1), h.2.2.2), kc, ks, Q)) : am_Go (M, pc, ls, .int v :: .int x :: .ref o :: rest, h, kc, ks, Q) := by
  refine go_m (P := vp_in x n) hi ?_ hx g
  unfold am_mem
  dsimp only
  rw [ho]
  rfl
theorem am_sh109 {w : Nat} (hw : 109 ≤ w) (s : am_S) : am_sh0.getD w s = s := by
  rw [List.getD_eq_getElem?_getD, List.getElem?_eq_none (by show am_sh0.length ≤ w; exact hw)]
  rfl
theorem am_rf109 {w : Nat} (hw : 109 ≤ w) (k : Nat) : am_rf0 w k = none := by
  have h0 : am_rfl.getD w [] = [] := by
    rw [List.getD_eq_getElem?_getD, List.getElem?_eq_none (by show am_rfl.length ≤ w; exact hw)]
    rfl
  unfold am_rf0
  rw [h0]
  rfl
theorem am_new_hp {D : Nat → Nat → Int32} {e : am_E} {s : am_S} (hw : 109 ≤ e.2.1) : am_new (hp D e) s = hp (am_dz D e.2.1) (am_us e.1 e.2.1 s, e.2.1 + 1, e.2.2) := by
  unfold am_new hp
  have h1 : am_us (fun i => am_sh0.getD i (e.1 i)) e.2.1 s = fun i => am_sh0.getD i (am_us e.1 e.2.1 s i) := by
    funext i
    unfold am_us
    by_cases hi : i = e.2.1
    · rw [if_pos hi, if_pos hi, hi, am_sh109 hw]
    · rw [if_neg hi, if_neg hi]
  have h2 : am_rz am_rf0 e.2.1 = am_rf0 := by
    funext i j
    unfold am_rz
    by_cases hi : i = e.2.1
    · rw [if_pos hi, hi, am_rf109 hw]
    · rw [if_neg hi]
  dsimp only
  rw [h1, h2]
/-- of the functions before f, and of the places of f before p -/
def am_bf (sz : Nat → Nat) (P : Nat → Nat → Prop) (f p : Nat) : Prop := ∃ g r, (g < f ∧ r < sz g ∨ g = f ∧ r < p) ∧ P g r
theorem am_bf_s {sz : Nat → Nat} {P : Nat → Nat → Prop} {f p : Nat} : am_bf sz P f (p + 1) ↔ (am_bf sz P f p ∨ P f p) := by
  constructor
  · rintro ⟨g, r, h | h, z⟩
    · exact Or.inl ⟨g, r, Or.inl h, z⟩
    · by_cases e : r = p
      · rw [h.1, e] at z; exact Or.inr z
      · exact Or.inl ⟨g, r, Or.inr ⟨h.1, by omega⟩, z⟩
  · rintro (⟨g, r, h | h, z⟩ | z)
    · exact ⟨g, r, Or.inl h, z⟩
    · exact ⟨g, r, Or.inr ⟨h.1, by omega⟩, z⟩
    · exact ⟨f, p, Or.inr ⟨rfl, by omega⟩, z⟩
theorem am_bf_n {sz : Nat → Nat} {P : Nat → Nat → Prop} {f : Nat} : am_bf sz P f (sz f) ↔ am_bf sz P (f + 1) 0 := by
  constructor
  · rintro ⟨g, r, h | h, z⟩
    · exact ⟨g, r, Or.inl ⟨by omega, h.2⟩, z⟩
    · exact ⟨g, r, Or.inl ⟨by omega, by rw [h.1]; exact h.2⟩, z⟩
  · rintro ⟨g, r, h | h, z⟩
    · by_cases e : g = f
      · exact ⟨g, r, Or.inr ⟨e, by rw [← e]; exact h.2⟩, z⟩
      · exact ⟨g, r, Or.inl ⟨by omega, h.2⟩, z⟩
    · omega
theorem am_bf_F {sz : Nat → Nat} {P : Nat → Nat → Prop} {F : Nat} : am_bf sz P F 0 ↔ ∃ f p, f < F ∧ p < sz f ∧ P f p := by
  constructor
  · rintro ⟨g, r, h | h, z⟩
    · exact ⟨g, r, h.1, h.2, z⟩
    · omega
  · rintro ⟨g, r, h1, h2, z⟩
    exact ⟨g, r, Or.inl ⟨h1, h2⟩, z⟩
theorem am_bf_t {sz : Nat → Nat} {P : Nat → Nat → Prop} {f p : Nat} {a : Int32} (h : am_bz a (am_bf sz P f p)) (z : ¬ a = 0) : am_bz 1 (am_bf sz P f (p + 1)) := Or.inr ⟨rfl, am_bf_s.mpr (Or.inl (am_bz_n h z))⟩
theorem am_bf_y {sz : Nat → Nat} {P : Nat → Nat → Prop} {f p : Nat} (z : P f p) : am_bz 1 (am_bf sz P f (p + 1)) := Or.inr ⟨rfl, am_bf_s.mpr (Or.inr z)⟩
theorem am_bf_o {sz : Nat → Nat} {P : Nat → Nat → Prop} {f p : Nat} {a : Int32} (h : am_bz a (am_bf sz P f p)) (z : a = 0) (n : ¬ P f p) : am_bz 0 (am_bf sz P f (p + 1)) := Or.inl ⟨rfl, fun y => (am_bf_s.mp y).elim (am_bz_0 h z) n⟩
def am_RV (D : Nat → Nat → Int32) (F : Nat) (sz : Nat → Nat) (w : Nat) (D' : Nat → Nat → Int32) (f p p' g : Nat) : Prop := (∀ c j, c ≠ w → D' c j = D c j) ∧ (am_bz (D' w 2) (∃ f, f < g ∧ am_Op D sz f)) ∧ (am_bz (D' w 3) (am_bf sz (fun f p => am_Np D (40 * f + p) (sz f)) f p)) ∧ (am_bz (D' w 4) (am_bf sz (fun f p => am_Nf D (40 * f + p) F) f p'))
theorem am_RV.fr {D : Nat → Nat → Int32} {F : Nat} {sz : Nat → Nat} {w : Nat} {D' : Nat → Nat → Int32} {f p p' g : Nat} (h : am_RV D F sz w D' f p p' g) : ∀ c j, c ≠ w → D' c j = D c j := h.1
theorem am_RV.b2 {D : Nat → Nat → Int32} {F : Nat} {sz : Nat → Nat} {w : Nat} {D' : Nat → Nat → Int32} {f p p' g : Nat} (h : am_RV D F sz w D' f p p' g) : am_bz (D' w 2) (∃ f, f < g ∧ am_Op D sz f) := h.2.1
theorem am_RV.b3 {D : Nat → Nat → Int32} {F : Nat} {sz : Nat → Nat} {w : Nat} {D' : Nat → Nat → Int32} {f p p' g : Nat} (h : am_RV D F sz w D' f p p' g) : am_bz (D' w 3) (am_bf sz (fun f p => am_Np D (40 * f + p) (sz f)) f p) := h.2.2.1
theorem am_RV.b4 {D : Nat → Nat → Int32} {F : Nat} {sz : Nat → Nat} {w : Nat} {D' : Nat → Nat → Int32} {f p p' g : Nat} (h : am_RV D F sz w D' f p p' g) : am_bz (D' w 4) (am_bf sz (fun f p => am_Nf D (40 * f + p) F) f p') := h.2.2.2
theorem c_mrB {C D : Nat → Nat → Int32} {F : Nat} {sz : Nat → Nat} {e : am_E} {Q : am_Q} {w f : Nat} {x3 : Value} (hP : am_PG C D F sz) (hw : 109 ≤ w) (hsh : e.1 w = .inr (1, 5)) (hf : f < F) {kc ks p : Nat} {D' : Nat → Nat → Int32} (hp40 : p < sz f) (hI : am_RV D F sz w D' f (p + 1) p (f + 1)) (K : ∀ D'', am_RV D F sz w D'' f (p + 1) (p + 1) (f + 1) → am_Go (mX12_refusal, 247, [.ref 69, .ref w, .int (nI f), x3, .int (nI (40 * f + p))], [], hp D'' e, kc, ks, Q)) : am_Go (mX12_refusal, 180, [.ref 69, .ref w, .int (nI f), x3, .int (nI (40 * f + p))], [], hp D' e, kc, ks, Q) := by
  have hF := hP.hF
  have h40 := hP.s40 f hf
  have hX : vp_in (nI (40 * f + p)) 960 := vp_in_nI (by omega) (by decide)
  have hcl := nI_clamp (show 40 * f + p < 2 ^ 31 by omega)
  have hcf := nI_clamp (show f < 2 ^ 31 by omega)
  have hV := vp_in_nI (show f < 24 by omega) (by decide)
  have r70 : D' 70 (nI f).toNatClampNeg = nI (sz f) := by rw [hcf, hI.fr 70 f (by omega)]; exact hP.m70 f hf
  have r71 : D' 71 (nI (40 * f + p)).toNatClampNeg = D 71 (40 * f + p) := by rw [hcl, hI.fr 71 _ (by omega)]
  have r72 : D' 72 (nI (40 * f + p)).toNatClampNeg = D 72 (40 * f + p) := by rw [hcl, hI.fr 72 _ (by omega)]
  have r73 : D' 73 (nI (40 * f + p)).toNatClampNeg = D 73 (40 * f + p) := by rw [hcl, hI.fr 73 _ (by omega)]
  have r74 : D' 74 (nI (40 * f + p)).toNatClampNeg = D 74 (40 * f + p) := by rw [hcl, hI.fr 74 _ (by omega)]
  have r69 : D' 69 1 = nI F := by rw [hI.fr 69 1 (by omega)]; exact hP.m1
  refine go_s 4 rfl ?_
  refine go_bl rfl (by show am_sh0.getD w (e.1 w) = _; rw [hsh]; exact am_sh109 hw _) (by first | decide | (unfold vp_in; decide)) ?_
  refine go_s 1 rfl ?_
  refine go_if (fun c185 => ?_) (fun c185 => ?_)
  · refine go_s 3 rfl ?_
    refine go_m rfl rfl hX ?_
    refine go_st kX12_refusal_195 okX12_isCall rfl rfl rfl (Nat.zero_le _) (Nat.zero_le _) ?_
    refine c_X12_isCall ?_
    refine go_s 1 rfl ?_
    refine go_if (fun c198 => ?_) (fun c198 => ?_)
    · refine go_s 3 rfl ?_
      refine go_m rfl rfl hX ?_
      refine go_s 2 rfl ?_
      refine go_if (fun c224 => ?_) (fun c224 => ?_)
      · refine go_s 3 rfl ?_
        refine go_m rfl rfl hX ?_
        refine go_s 3 rfl ?_
        refine go_if (fun c238 => ?_) (fun c238 => ?_)
        · refine go_s 1 rfl ?_
          refine go_bs rfl (by show am_sh0.getD w (e.1 w) = _; rw [hsh]; exact am_sh109 hw _) (by first | decide | (unfold vp_in; decide)) ?_
          have c185 : D' w 4 = 0 := c185
          have c198 : zb (D' 71 (nI (40 * f + p)).toNatClampNeg = 29 ∨ D' 71 (nI (40 * f + p)).toNatClampNeg = 30) = 0 := c198
          rw [r71] at c198
          have c224 : D' 71 (nI (40 * f + p)).toNatClampNeg = 32 := c224
          rw [r71] at c224
          have c238 : D' 73 (nI (40 * f + p)).toNatClampNeg < D' 69 1 := c238
          rw [r73, r69] at c238
          refine K (am_u D' w 4 0) ⟨fun c j hc => (am_u_ne hc).trans (hI.fr c j hc), ?_, ?_, ?_⟩
          · rw [am_u_nj (by decide)]; exact hI.b2
          · rw [am_u_nj (by decide)]; exact hI.b3
          · rw [am_u_eq]; exact am_bf_o hI.b4 c185 (fun z => z.elim (fun z => zb_0.mp c198 z.1) (fun z => z.2 c238))
        · refine go_s 2 rfl ?_
          refine go_bs rfl (by show am_sh0.getD w (e.1 w) = _; rw [hsh]; exact am_sh109 hw _) (by first | decide | (unfold vp_in; decide)) ?_
          have c185 : D' w 4 = 0 := c185
          have c198 : zb (D' 71 (nI (40 * f + p)).toNatClampNeg = 29 ∨ D' 71 (nI (40 * f + p)).toNatClampNeg = 30) = 0 := c198
          rw [r71] at c198
          have c224 : D' 71 (nI (40 * f + p)).toNatClampNeg = 32 := c224
          rw [r71] at c224
          have c238 : ¬ (D' 73 (nI (40 * f + p)).toNatClampNeg < D' 69 1) := c238
          rw [r73, r69] at c238
          refine K (am_u D' w 4 1) ⟨fun c j hc => (am_u_ne hc).trans (hI.fr c j hc), ?_, ?_, ?_⟩
          · rw [am_u_nj (by decide)]; exact hI.b2
          · rw [am_u_nj (by decide)]; exact hI.b3
          · rw [am_u_eq]; exact am_bf_y (Or.inr ⟨c224, c238⟩)
      · refine go_s 1 rfl ?_
        refine go_bs rfl (by show am_sh0.getD w (e.1 w) = _; rw [hsh]; exact am_sh109 hw _) (by first | decide | (unfold vp_in; decide)) ?_
        have c185 : D' w 4 = 0 := c185
        have c198 : zb (D' 71 (nI (40 * f + p)).toNatClampNeg = 29 ∨ D' 71 (nI (40 * f + p)).toNatClampNeg = 30) = 0 := c198
        rw [r71] at c198
        have c224 : ¬ (D' 71 (nI (40 * f + p)).toNatClampNeg = 32) := c224
        rw [r71] at c224
        refine K (am_u D' w 4 0) ⟨fun c j hc => (am_u_ne hc).trans (hI.fr c j hc), ?_, ?_, ?_⟩
        · rw [am_u_nj (by decide)]; exact hI.b2
        · rw [am_u_nj (by decide)]; exact hI.b3
        · rw [am_u_eq]; exact am_bf_o hI.b4 c185 (fun z => z.elim (fun z => zb_0.mp c198 z.1) (fun z => c224 z.1))
    · refine go_s 3 rfl ?_
      refine go_m rfl rfl hX ?_
      refine go_s 3 rfl ?_
      refine go_if (fun c212 => ?_) (fun c212 => ?_)
      · refine go_s 3 rfl ?_
        refine go_m rfl rfl hX ?_
        refine go_s 2 rfl ?_
        refine go_if (fun c224 => ?_) (fun c224 => ?_)
        · refine go_s 3 rfl ?_
          refine go_m rfl rfl hX ?_
          refine go_s 3 rfl ?_
          refine go_if (fun c238 => ?_) (fun c238 => ?_)
          · refine go_s 1 rfl ?_
            refine go_bs rfl (by show am_sh0.getD w (e.1 w) = _; rw [hsh]; exact am_sh109 hw _) (by first | decide | (unfold vp_in; decide)) ?_
            have c185 : D' w 4 = 0 := c185
            have c198 : ¬ (zb (D' 71 (nI (40 * f + p)).toNatClampNeg = 29 ∨ D' 71 (nI (40 * f + p)).toNatClampNeg = 30) = 0) := c198
            rw [r71] at c198
            have c212 : D' 72 (nI (40 * f + p)).toNatClampNeg < D' 69 1 := c212
            rw [r72, r69] at c212
            have c224 : D' 71 (nI (40 * f + p)).toNatClampNeg = 32 := c224
            rw [r71] at c224
            have c238 : D' 73 (nI (40 * f + p)).toNatClampNeg < D' 69 1 := c238
            rw [r73, r69] at c238
            refine K (am_u D' w 4 0) ⟨fun c j hc => (am_u_ne hc).trans (hI.fr c j hc), ?_, ?_, ?_⟩
            · rw [am_u_nj (by decide)]; exact hI.b2
            · rw [am_u_nj (by decide)]; exact hI.b3
            · rw [am_u_eq]; exact am_bf_o hI.b4 c185 (fun z => z.elim (fun z => z.2 c212) (fun z => z.2 c238))
          · refine go_s 2 rfl ?_
            refine go_bs rfl (by show am_sh0.getD w (e.1 w) = _; rw [hsh]; exact am_sh109 hw _) (by first | decide | (unfold vp_in; decide)) ?_
            have c185 : D' w 4 = 0 := c185
            have c198 : ¬ (zb (D' 71 (nI (40 * f + p)).toNatClampNeg = 29 ∨ D' 71 (nI (40 * f + p)).toNatClampNeg = 30) = 0) := c198
            rw [r71] at c198
            have c212 : D' 72 (nI (40 * f + p)).toNatClampNeg < D' 69 1 := c212
            rw [r72, r69] at c212
            have c224 : D' 71 (nI (40 * f + p)).toNatClampNeg = 32 := c224
            rw [r71] at c224
            have c238 : ¬ (D' 73 (nI (40 * f + p)).toNatClampNeg < D' 69 1) := c238
            rw [r73, r69] at c238
            refine K (am_u D' w 4 1) ⟨fun c j hc => (am_u_ne hc).trans (hI.fr c j hc), ?_, ?_, ?_⟩
            · rw [am_u_nj (by decide)]; exact hI.b2
            · rw [am_u_nj (by decide)]; exact hI.b3
            · rw [am_u_eq]; exact am_bf_y (Or.inr ⟨c224, c238⟩)
        · refine go_s 1 rfl ?_
          refine go_bs rfl (by show am_sh0.getD w (e.1 w) = _; rw [hsh]; exact am_sh109 hw _) (by first | decide | (unfold vp_in; decide)) ?_
          have c185 : D' w 4 = 0 := c185
          have c198 : ¬ (zb (D' 71 (nI (40 * f + p)).toNatClampNeg = 29 ∨ D' 71 (nI (40 * f + p)).toNatClampNeg = 30) = 0) := c198
          rw [r71] at c198
          have c212 : D' 72 (nI (40 * f + p)).toNatClampNeg < D' 69 1 := c212
          rw [r72, r69] at c212
          have c224 : ¬ (D' 71 (nI (40 * f + p)).toNatClampNeg = 32) := c224
          rw [r71] at c224
          refine K (am_u D' w 4 0) ⟨fun c j hc => (am_u_ne hc).trans (hI.fr c j hc), ?_, ?_, ?_⟩
          · rw [am_u_nj (by decide)]; exact hI.b2
          · rw [am_u_nj (by decide)]; exact hI.b3
          · rw [am_u_eq]; exact am_bf_o hI.b4 c185 (fun z => z.elim (fun z => z.2 c212) (fun z => c224 z.1))
      · refine go_s 2 rfl ?_
        refine go_bs rfl (by show am_sh0.getD w (e.1 w) = _; rw [hsh]; exact am_sh109 hw _) (by first | decide | (unfold vp_in; decide)) ?_
        have c185 : D' w 4 = 0 := c185
        have c198 : ¬ (zb (D' 71 (nI (40 * f + p)).toNatClampNeg = 29 ∨ D' 71 (nI (40 * f + p)).toNatClampNeg = 30) = 0) := c198
        rw [r71] at c198
        have c212 : ¬ (D' 72 (nI (40 * f + p)).toNatClampNeg < D' 69 1) := c212
        rw [r72, r69] at c212
        refine K (am_u D' w 4 1) ⟨fun c j hc => (am_u_ne hc).trans (hI.fr c j hc), ?_, ?_, ?_⟩
        · rw [am_u_nj (by decide)]; exact hI.b2
        · rw [am_u_nj (by decide)]; exact hI.b3
        · rw [am_u_eq]; exact am_bf_y (Or.inl ⟨zb_ne.mp c198, c212⟩)
  · refine go_s 2 rfl ?_
    refine go_bs rfl (by show am_sh0.getD w (e.1 w) = _; rw [hsh]; exact am_sh109 hw _) (by first | decide | (unfold vp_in; decide)) ?_
    have c185 : ¬ (D' w 4 = 0) := c185
    refine K (am_u D' w 4 1) ⟨fun c j hc => (am_u_ne hc).trans (hI.fr c j hc), ?_, ?_, ?_⟩
    · rw [am_u_nj (by decide)]; exact hI.b2
    · rw [am_u_nj (by decide)]; exact hI.b3
    · rw [am_u_eq]; exact am_bf_t hI.b4 c185
theorem c_mrA {C D : Nat → Nat → Int32} {F : Nat} {sz : Nat → Nat} {e : am_E} {Q : am_Q} {w f : Nat} {x3 : Value} (hP : am_PG C D F sz) (hw : 109 ≤ w) (hsh : e.1 w = .inr (1, 5)) (hf : f < F) {kc ks p : Nat} {D' : Nat → Nat → Int32} (hp40 : p < sz f) (hI : am_RV D F sz w D' f p p (f + 1)) (K : ∀ D'', am_RV D F sz w D'' f (p + 1) (p + 1) (f + 1) → am_Go (mX12_refusal, 247, [.ref 69, .ref w, .int (nI f), x3, .int (nI (40 * f + p))], [], hp D'' e, kc, ks, Q)) : am_Go (mX12_refusal, 109, [.ref 69, .ref w, .int (nI f), x3, .int (nI (40 * f + p))], [], hp D' e, kc, ks, Q) := by
  have hF := hP.hF
  have h40 := hP.s40 f hf
  have hX : vp_in (nI (40 * f + p)) 960 := vp_in_nI (by omega) (by decide)
  have hcl := nI_clamp (show 40 * f + p < 2 ^ 31 by omega)
  have hcf := nI_clamp (show f < 2 ^ 31 by omega)
  have hV := vp_in_nI (show f < 24 by omega) (by decide)
  have r70 : D' 70 (nI f).toNatClampNeg = nI (sz f) := by rw [hcf, hI.fr 70 f (by omega)]; exact hP.m70 f hf
  have r71 : D' 71 (nI (40 * f + p)).toNatClampNeg = D 71 (40 * f + p) := by rw [hcl, hI.fr 71 _ (by omega)]
  have r72 : D' 72 (nI (40 * f + p)).toNatClampNeg = D 72 (40 * f + p) := by rw [hcl, hI.fr 72 _ (by omega)]
  have r73 : D' 73 (nI (40 * f + p)).toNatClampNeg = D 73 (40 * f + p) := by rw [hcl, hI.fr 73 _ (by omega)]
  have r74 : D' 74 (nI (40 * f + p)).toNatClampNeg = D 74 (40 * f + p) := by rw [hcl, hI.fr 74 _ (by omega)]
  have r69 : D' 69 1 = nI F := by rw [hI.fr 69 1 (by omega)]; exact hP.m1
  refine go_s 4 rfl ?_
  refine go_bl rfl (by show am_sh0.getD w (e.1 w) = _; rw [hsh]; exact am_sh109 hw _) (by first | decide | (unfold vp_in; decide)) ?_
  refine go_s 1 rfl ?_
  refine go_if (fun c114 => ?_) (fun c114 => ?_)
  · refine go_s 3 rfl ?_
    refine go_m rfl rfl hX ?_
    refine go_st kX12_refusal_124 okX12_isBranch rfl rfl rfl (Nat.zero_le _) (Nat.zero_le _) ?_
    refine c_X12_isBranch ?_
    refine go_s 1 rfl ?_
    refine go_if (fun c127 => ?_) (fun c127 => ?_)
    · refine go_s 3 rfl ?_
      refine go_m rfl rfl hX ?_
      refine go_s 2 rfl ?_
      refine go_if (fun c155 => ?_) (fun c155 => ?_)
      · refine go_s 3 rfl ?_
        refine go_m rfl rfl hX ?_
        refine go_s 3 rfl ?_
        refine go_m rfl rfl hV ?_
        refine go_s 1 rfl ?_
        refine go_if (fun c171 => ?_) (fun c171 => ?_)
        · refine go_s 1 rfl ?_
          refine go_bs rfl (by show am_sh0.getD w (e.1 w) = _; rw [hsh]; exact am_sh109 hw _) (by first | decide | (unfold vp_in; decide)) ?_
          have c114 : D' w 3 = 0 := c114
          have c127 : zb (¬ D' 71 (nI (40 * f + p)).toNatClampNeg < 22 ∧ ¬ 27 < D' 71 (nI (40 * f + p)).toNatClampNeg) = 0 := c127
          rw [r71] at c127
          have c155 : D' 71 (nI (40 * f + p)).toNatClampNeg = 28 := c155
          rw [r71] at c155
          have c171 : D' 72 (nI (40 * f + p)).toNatClampNeg < D' 70 (nI f).toNatClampNeg := c171
          rw [r72, r70] at c171
          refine c_mrB hP hw hsh hf (D' := am_u D' w 3 0) hp40 ⟨fun c j hc => (am_u_ne hc).trans (hI.fr c j hc), ?_, ?_, ?_⟩ K
          · rw [am_u_nj (by decide)]; exact hI.b2
          · rw [am_u_eq]; exact am_bf_o hI.b3 c114 (fun z => z.elim (fun z => zb_0.mp c127 z.1) (fun z => z.2 c171))
          · rw [am_u_nj (by decide)]; exact hI.b4
        · refine go_s 2 rfl ?_
          refine go_bs rfl (by show am_sh0.getD w (e.1 w) = _; rw [hsh]; exact am_sh109 hw _) (by first | decide | (unfold vp_in; decide)) ?_
          have c114 : D' w 3 = 0 := c114
          have c127 : zb (¬ D' 71 (nI (40 * f + p)).toNatClampNeg < 22 ∧ ¬ 27 < D' 71 (nI (40 * f + p)).toNatClampNeg) = 0 := c127
          rw [r71] at c127
          have c155 : D' 71 (nI (40 * f + p)).toNatClampNeg = 28 := c155
          rw [r71] at c155
          have c171 : ¬ (D' 72 (nI (40 * f + p)).toNatClampNeg < D' 70 (nI f).toNatClampNeg) := c171
          rw [r72, r70] at c171
          refine c_mrB hP hw hsh hf (D' := am_u D' w 3 1) hp40 ⟨fun c j hc => (am_u_ne hc).trans (hI.fr c j hc), ?_, ?_, ?_⟩ K
          · rw [am_u_nj (by decide)]; exact hI.b2
          · rw [am_u_eq]; exact am_bf_y (Or.inr ⟨c155, c171⟩)
          · rw [am_u_nj (by decide)]; exact hI.b4
      · refine go_s 1 rfl ?_
        refine go_bs rfl (by show am_sh0.getD w (e.1 w) = _; rw [hsh]; exact am_sh109 hw _) (by first | decide | (unfold vp_in; decide)) ?_
        have c114 : D' w 3 = 0 := c114
        have c127 : zb (¬ D' 71 (nI (40 * f + p)).toNatClampNeg < 22 ∧ ¬ 27 < D' 71 (nI (40 * f + p)).toNatClampNeg) = 0 := c127
        rw [r71] at c127
        have c155 : ¬ (D' 71 (nI (40 * f + p)).toNatClampNeg = 28) := c155
        rw [r71] at c155
        refine c_mrB hP hw hsh hf (D' := am_u D' w 3 0) hp40 ⟨fun c j hc => (am_u_ne hc).trans (hI.fr c j hc), ?_, ?_, ?_⟩ K
        · rw [am_u_nj (by decide)]; exact hI.b2
        · rw [am_u_eq]; exact am_bf_o hI.b3 c114 (fun z => z.elim (fun z => zb_0.mp c127 z.1) (fun z => c155 z.1))
        · rw [am_u_nj (by decide)]; exact hI.b4
    · refine go_s 3 rfl ?_
      refine go_m rfl rfl hX ?_
      refine go_s 3 rfl ?_
      refine go_m rfl rfl hV ?_
      refine go_s 1 rfl ?_
      refine go_if (fun c143 => ?_) (fun c143 => ?_)
      · refine go_s 3 rfl ?_
        refine go_m rfl rfl hX ?_
        refine go_s 2 rfl ?_
        refine go_if (fun c155 => ?_) (fun c155 => ?_)
        · refine go_s 3 rfl ?_
          refine go_m rfl rfl hX ?_
          refine go_s 3 rfl ?_
          refine go_m rfl rfl hV ?_
          refine go_s 1 rfl ?_
          refine go_if (fun c171 => ?_) (fun c171 => ?_)
          · refine go_s 1 rfl ?_
            refine go_bs rfl (by show am_sh0.getD w (e.1 w) = _; rw [hsh]; exact am_sh109 hw _) (by first | decide | (unfold vp_in; decide)) ?_
            have c114 : D' w 3 = 0 := c114
            have c127 : ¬ (zb (¬ D' 71 (nI (40 * f + p)).toNatClampNeg < 22 ∧ ¬ 27 < D' 71 (nI (40 * f + p)).toNatClampNeg) = 0) := c127
            rw [r71] at c127
            have c143 : D' 74 (nI (40 * f + p)).toNatClampNeg < D' 70 (nI f).toNatClampNeg := c143
            rw [r74, r70] at c143
            have c155 : D' 71 (nI (40 * f + p)).toNatClampNeg = 28 := c155
            rw [r71] at c155
            have c171 : D' 72 (nI (40 * f + p)).toNatClampNeg < D' 70 (nI f).toNatClampNeg := c171
            rw [r72, r70] at c171
            refine c_mrB hP hw hsh hf (D' := am_u D' w 3 0) hp40 ⟨fun c j hc => (am_u_ne hc).trans (hI.fr c j hc), ?_, ?_, ?_⟩ K
            · rw [am_u_nj (by decide)]; exact hI.b2
            · rw [am_u_eq]; exact am_bf_o hI.b3 c114 (fun z => z.elim (fun z => z.2 c143) (fun z => z.2 c171))
            · rw [am_u_nj (by decide)]; exact hI.b4
          · refine go_s 2 rfl ?_
            refine go_bs rfl (by show am_sh0.getD w (e.1 w) = _; rw [hsh]; exact am_sh109 hw _) (by first | decide | (unfold vp_in; decide)) ?_
            have c114 : D' w 3 = 0 := c114
            have c127 : ¬ (zb (¬ D' 71 (nI (40 * f + p)).toNatClampNeg < 22 ∧ ¬ 27 < D' 71 (nI (40 * f + p)).toNatClampNeg) = 0) := c127
            rw [r71] at c127
            have c143 : D' 74 (nI (40 * f + p)).toNatClampNeg < D' 70 (nI f).toNatClampNeg := c143
            rw [r74, r70] at c143
            have c155 : D' 71 (nI (40 * f + p)).toNatClampNeg = 28 := c155
            rw [r71] at c155
            have c171 : ¬ (D' 72 (nI (40 * f + p)).toNatClampNeg < D' 70 (nI f).toNatClampNeg) := c171
            rw [r72, r70] at c171
            refine c_mrB hP hw hsh hf (D' := am_u D' w 3 1) hp40 ⟨fun c j hc => (am_u_ne hc).trans (hI.fr c j hc), ?_, ?_, ?_⟩ K
            · rw [am_u_nj (by decide)]; exact hI.b2
            · rw [am_u_eq]; exact am_bf_y (Or.inr ⟨c155, c171⟩)
            · rw [am_u_nj (by decide)]; exact hI.b4
        · refine go_s 1 rfl ?_
          refine go_bs rfl (by show am_sh0.getD w (e.1 w) = _; rw [hsh]; exact am_sh109 hw _) (by first | decide | (unfold vp_in; decide)) ?_
          have c114 : D' w 3 = 0 := c114
          have c127 : ¬ (zb (¬ D' 71 (nI (40 * f + p)).toNatClampNeg < 22 ∧ ¬ 27 < D' 71 (nI (40 * f + p)).toNatClampNeg) = 0) := c127
          rw [r71] at c127
          have c143 : D' 74 (nI (40 * f + p)).toNatClampNeg < D' 70 (nI f).toNatClampNeg := c143
          rw [r74, r70] at c143
          have c155 : ¬ (D' 71 (nI (40 * f + p)).toNatClampNeg = 28) := c155
          rw [r71] at c155
          refine c_mrB hP hw hsh hf (D' := am_u D' w 3 0) hp40 ⟨fun c j hc => (am_u_ne hc).trans (hI.fr c j hc), ?_, ?_, ?_⟩ K
          · rw [am_u_nj (by decide)]; exact hI.b2
          · rw [am_u_eq]; exact am_bf_o hI.b3 c114 (fun z => z.elim (fun z => z.2 c143) (fun z => c155 z.1))
          · rw [am_u_nj (by decide)]; exact hI.b4
      · refine go_s 2 rfl ?_
        refine go_bs rfl (by show am_sh0.getD w (e.1 w) = _; rw [hsh]; exact am_sh109 hw _) (by first | decide | (unfold vp_in; decide)) ?_
        have c114 : D' w 3 = 0 := c114
        have c127 : ¬ (zb (¬ D' 71 (nI (40 * f + p)).toNatClampNeg < 22 ∧ ¬ 27 < D' 71 (nI (40 * f + p)).toNatClampNeg) = 0) := c127
        rw [r71] at c127
        have c143 : ¬ (D' 74 (nI (40 * f + p)).toNatClampNeg < D' 70 (nI f).toNatClampNeg) := c143
        rw [r74, r70] at c143
        refine c_mrB hP hw hsh hf (D' := am_u D' w 3 1) hp40 ⟨fun c j hc => (am_u_ne hc).trans (hI.fr c j hc), ?_, ?_, ?_⟩ K
        · rw [am_u_nj (by decide)]; exact hI.b2
        · rw [am_u_eq]; exact am_bf_y (Or.inl ⟨zb_ne.mp c127, c143⟩)
        · rw [am_u_nj (by decide)]; exact hI.b4
  · refine go_s 2 rfl ?_
    refine go_bs rfl (by show am_sh0.getD w (e.1 w) = _; rw [hsh]; exact am_sh109 hw _) (by first | decide | (unfold vp_in; decide)) ?_
    have c114 : ¬ (D' w 3 = 0) := c114
    refine c_mrB hP hw hsh hf (D' := am_u D' w 3 1) hp40 ⟨fun c j hc => (am_u_ne hc).trans (hI.fr c j hc), ?_, ?_, ?_⟩ K
    · rw [am_u_nj (by decide)]; exact hI.b2
    · rw [am_u_eq]; exact am_bf_t hI.b3 c114
    · rw [am_u_nj (by decide)]; exact hI.b4
theorem c_mri {C D : Nat → Nat → Int32} {F : Nat} {sz : Nat → Nat} {e : am_E} {Q : am_Q} {w f : Nat} {x3 : Value} (hP : am_PG C D F sz) (hw : 109 ≤ w) (hsh : e.1 w = .inr (1, 5)) (hf : f < F) {kc ks : Nat} (K : ∀ D' x, am_RV D F sz w D' f (sz f) (sz f) (f + 1) → am_Go (mX12_refusal, 253, [.ref 69, .ref w, .int (nI f), x3, x], [], hp D' e, kc, ks, Q)) : ∀ (n p : Nat) (D' : Nat → Nat → Int32), sz f < n + p → p ≤ sz f → am_RV D F sz w D' f p p (f + 1) → am_Go (mX12_refusal, 93, [.ref 69, .ref w, .int (nI f), x3, .int (nI (40 * f + p))], [], hp D' e, kc, ks, Q)
  | 0, p, D', h1, h2, hI => by omega
  | n + 1, p, D', h1, h2, hI => by
    have hF := hP.hF
    have h40 := hP.s40 f hf
    have hcl := nI_clamp (show 40 * f + p < 2 ^ 31 by omega)
    have hcf := nI_clamp (show f < 2 ^ 31 by omega)
    have hV := vp_in_nI (show f < 24 by omega) (by decide)
    have r70 : D' 70 (nI f).toNatClampNeg = nI (sz f) := by rw [hcf, hI.fr 70 f (by omega)]; exact hP.m70 f hf
    have r71 : D' 71 (nI (40 * f + p)).toNatClampNeg = D 71 (40 * f + p) := by rw [hcl, hI.fr 71 _ (by omega)]
    have r72 : D' 72 (nI (40 * f + p)).toNatClampNeg = D 72 (40 * f + p) := by rw [hcl, hI.fr 72 _ (by omega)]
    have r73 : D' 73 (nI (40 * f + p)).toNatClampNeg = D 73 (40 * f + p) := by rw [hcl, hI.fr 73 _ (by omega)]
    have r74 : D' 74 (nI (40 * f + p)).toNatClampNeg = D 74 (40 * f + p) := by rw [hcl, hI.fr 74 _ (by omega)]
    have r69 : D' 69 1 = nI F := by rw [hI.fr 69 1 (by omega)]; exact hP.m1
    refine go_s 7 rfl ?_
    refine go_m rfl rfl hV ?_
    refine go_s 2 rfl ?_
    refine go_if (fun c106 => ?_) (fun c106 => ?_)
    · have e105 : nI 40 * nI f + D' 70 (nI f).toNatClampNeg = nI (40 * f + sz f) := by rw [r70, nI_mul, nI_add]
      have c106 : nI (40 * f + p) < nI 40 * nI f + D' 70 (nI f).toNatClampNeg := c106
      rw [e105] at c106
      have hlt : p < sz f := by
            have := (nI_ltI (a := 40 * f + p) (b := 40 * f + sz f) (by omega) (by omega)).mp c106
            omega
      refine c_mrA hP hw hsh hf hlt hI (fun D2 h2 => ?_)
      refine go_s 2 (pc' := 93) (ls' := [.ref 69, .ref w, .int (nI f), x3, .int (nI (40 * f + (p + 1)))]) (st' := []) (h' := hp D2 e) (by rw [← Nat.add_assoc, ← nI_1]; rfl) ?_
      exact c_mri hP hw hsh hf K n (p + 1) D2 (by omega) (by omega) h2
    · have e105 : nI 40 * nI f + D' 70 (nI f).toNatClampNeg = nI (40 * f + sz f) := by rw [r70, nI_mul, nI_add]
      have c106 : ¬ nI (40 * f + p) < nI 40 * nI f + D' 70 (nI f).toNatClampNeg := c106
      rw [e105] at c106
      have hge := mt (nI_lt (a := 40 * f + p) (b := 40 * f + sz f) · (by omega)) c106
      have e : p = sz f := by omega
      subst e
      exact K _ _ hI
theorem c_mrO {D : Nat → Nat → Int32} {F : Nat} {sz : Nat → Nat} {e : am_E} {Q : am_Q} {w f : Nat} {x4 : Value} {v : Int32} (hw : 109 ≤ w) (hsh : e.1 w = .inr (1, 5)) (hv : am_Op D sz f ↔ ¬ (v = 28 ∨ v = 30 ∨ v = 31)) {kc ks : Nat} {D' : Nat → Nat → Int32} (hI : am_RV D F sz w D' f 0 0 f) (K : ∀ D'', am_RV D F sz w D'' f 0 0 (f + 1) → am_Go (mX12_refusal, 87, [.ref 69, .ref w, .int (nI f), .int v, x4], [], hp D'' e, kc, ks, Q)) : am_Go (mX12_refusal, 55, [.ref 69, .ref w, .int (nI f), .int v, x4], [], hp D' e, kc, ks, Q) := by
  refine go_s 4 rfl ?_
  refine go_bl rfl (by show am_sh0.getD w (e.1 w) = _; rw [hsh]; exact am_sh109 hw _) (by first | decide | (unfold vp_in; decide)) ?_
  refine go_s 1 rfl ?_
  refine go_if (fun c60 => ?_) (fun c60 => ?_)
  · refine go_s 3 rfl ?_
    refine go_if (fun c66 => ?_) (fun c66 => ?_)
    · refine go_s 1 rfl ?_
      refine go_bs rfl (by show am_sh0.getD w (e.1 w) = _; rw [hsh]; exact am_sh109 hw _) (by first | decide | (unfold vp_in; decide)) ?_
      have c60 : D' w 2 = 0 := c60
      have c66 : v = 28 := c66
      refine K (am_u D' w 2 0) ⟨fun c j hc => (am_u_ne hc).trans (hI.fr c j hc), ?_, ?_, ?_⟩
      · rw [am_u_eq]; exact Or.inl ⟨rfl, fun ⟨g, hg, z⟩ => by
          by_cases eg : g = f
          · subst eg; exact hv.mp z (Or.inl c66)
          · exact am_bz_0 hI.b2 c60 ⟨g, by omega, z⟩⟩
      · rw [am_u_nj (by decide)]; exact hI.b3
      · rw [am_u_nj (by decide)]; exact hI.b4
    · refine go_s 3 rfl ?_
      refine go_if (fun c72 => ?_) (fun c72 => ?_)
      · refine go_s 1 rfl ?_
        refine go_bs rfl (by show am_sh0.getD w (e.1 w) = _; rw [hsh]; exact am_sh109 hw _) (by first | decide | (unfold vp_in; decide)) ?_
        have c60 : D' w 2 = 0 := c60
        have c66 : ¬ v = 28 := c66
        have c72 : v = 30 := c72
        refine K (am_u D' w 2 0) ⟨fun c j hc => (am_u_ne hc).trans (hI.fr c j hc), ?_, ?_, ?_⟩
        · rw [am_u_eq]; exact Or.inl ⟨rfl, fun ⟨g, hg, z⟩ => by
            by_cases eg : g = f
            · subst eg; exact hv.mp z (Or.inr (Or.inl c72))
            · exact am_bz_0 hI.b2 c60 ⟨g, by omega, z⟩⟩
        · rw [am_u_nj (by decide)]; exact hI.b3
        · rw [am_u_nj (by decide)]; exact hI.b4
      · refine go_s 3 rfl ?_
        refine go_if (fun c78 => ?_) (fun c78 => ?_)
        · refine go_s 1 rfl ?_
          refine go_bs rfl (by show am_sh0.getD w (e.1 w) = _; rw [hsh]; exact am_sh109 hw _) (by first | decide | (unfold vp_in; decide)) ?_
          have c60 : D' w 2 = 0 := c60
          have c66 : ¬ v = 28 := c66
          have c72 : ¬ v = 30 := c72
          have c78 : v = 31 := c78
          refine K (am_u D' w 2 0) ⟨fun c j hc => (am_u_ne hc).trans (hI.fr c j hc), ?_, ?_, ?_⟩
          · rw [am_u_eq]; exact Or.inl ⟨rfl, fun ⟨g, hg, z⟩ => by
              by_cases eg : g = f
              · subst eg; exact hv.mp z (Or.inr (Or.inr c78))
              · exact am_bz_0 hI.b2 c60 ⟨g, by omega, z⟩⟩
          · rw [am_u_nj (by decide)]; exact hI.b3
          · rw [am_u_nj (by decide)]; exact hI.b4
        · refine go_s 2 rfl ?_
          refine go_bs rfl (by show am_sh0.getD w (e.1 w) = _; rw [hsh]; exact am_sh109 hw _) (by first | decide | (unfold vp_in; decide)) ?_
          have c60 : D' w 2 = 0 := c60
          have c66 : ¬ v = 28 := c66
          have c72 : ¬ v = 30 := c72
          have c78 : ¬ v = 31 := c78
          refine K (am_u D' w 2 1) ⟨fun c j hc => (am_u_ne hc).trans (hI.fr c j hc), ?_, ?_, ?_⟩
          · rw [am_u_eq]; exact Or.inr ⟨rfl, f, by omega, hv.mpr (fun z => z.elim c66 (fun z => z.elim c72 c78))⟩
          · rw [am_u_nj (by decide)]; exact hI.b3
          · rw [am_u_nj (by decide)]; exact hI.b4
  · refine go_s 2 rfl ?_
    refine go_bs rfl (by show am_sh0.getD w (e.1 w) = _; rw [hsh]; exact am_sh109 hw _) (by first | decide | (unfold vp_in; decide)) ?_
    have c60 : ¬ D' w 2 = 0 := c60
    refine K (am_u D' w 2 1) ⟨fun c j hc => (am_u_ne hc).trans (hI.fr c j hc), ?_, ?_, ?_⟩
    · rw [am_u_eq]; exact Or.inr ⟨rfl, (am_bz_n hI.b2 c60).elim (fun g hg => ⟨g, by omega, hg.2⟩)⟩
    · rw [am_u_nj (by decide)]; exact hI.b3
    · rw [am_u_nj (by decide)]; exact hI.b4
theorem c_mrf {C D : Nat → Nat → Int32} {F : Nat} {sz : Nat → Nat} {e : am_E} {Q : am_Q} {w : Nat} (hP : am_PG C D F sz) (hw : 109 ≤ w) (hsh : e.1 w = .inr (1, 5)) (hn0 : F ≠ 0) (q : ∀ r D', r < 5 → am_rfs D F sz r → (∀ c j, c ≠ w → D' c j = D c j) → Q (some (.int (-nI r))) (hp D' e)) : ∀ (n kc ks f : Nat) (x3 x4 : Value) (D' : Nat → Nat → Int32), F < n + f → f ≤ F → am_RV D F sz w D' f 0 0 f → am_Go (mX12_refusal, 15, [.ref 69, .ref w, .int (nI f), x3, x4], [], hp D' e, kc, ks, Q)
  | 0, kc, ks, f, x3, x4, D', h1, h2, hI => by omega
  | n + 1, kc, ks, f, x3, x4, D', h1, h2, hI => by
    have hF := hP.hF
    have hcf := nI_clamp (show f < 2 ^ 31 by omega)
    have r69 : D' 69 1 = nI F := by rw [hI.fr 69 1 (by omega)]; exact hP.m1
    refine go_s 4 rfl ?_
    refine go_if (fun c20 => ?_) (fun c20 => ?_)
    · refine go_s 3 rfl ?_
      refine go_m rfl rfl (show vp_in (nI f) 24 from vp_in_nI (by have h0 := (nI_ltI (a := f) (b := F) (by omega) (by omega)).mp (by rw [← r69]; exact c20); omega) (by decide)) ?_
      refine go_s 1 rfl ?_
      refine go_if (fun c29 => ?_) (fun c29 => ?_)
      · refine go_s 2 rfl ?_
        have c20 : nI f < D' 69 1 := c20
        rw [r69] at c20
        have hf : f < F := (nI_ltI (by omega) (by omega)).mp c20
        have r70 : D' 70 (nI f).toNatClampNeg = nI (sz f) := by rw [hcf, hI.fr 70 f (by omega)]; exact hP.m70 f hf
        have h40 := hP.s40 f hf
        have c29 : D' 70 (nI f).toNatClampNeg = 0 := c29
        rw [r70] at c29
        have h0 : sz f = 0 := (nI_eq (b := 0) (by omega) (by decide)).mp c29
        refine go_s 1 rfl ?_
        refine c_mrO (v := -1) hw hsh ⟨fun _ => by decide, fun _ => Or.inl h0⟩ hI (fun D1 h1 => ?_)
        refine go_s 4 (pc' := 93) (ls' := [.ref 69, .ref w, .int (nI f), .int (-1), .int (nI (40 * f + 0))]) (st' := []) (h' := hp D1 e) (by rw [Nat.add_zero, ← nI_mul]; rfl) ?_
        refine c_mri hP hw hsh hf (fun D2 x h2 => ?_) (sz f + 1) 0 D1 (by omega) (by omega) h1
        refine go_s 2 (pc' := 15) (ls' := [.ref 69, .ref w, .int (nI (f + 1)), .int (-1), x]) (st' := []) (h' := hp D2 e) (by rw [← nI_1]; rfl) ?_
        exact c_mrf hP hw hsh hn0 q n _ _ (f + 1) _ _ D2 (by omega) (by omega) ⟨h2.fr, h2.b2, am_bz_iff h2.b3 am_bf_n, am_bz_iff h2.b4 am_bf_n⟩
      · refine go_s 8 rfl ?_
        refine go_m rfl rfl (show vp_in (nI f) 24 from vp_in_nI (by have h0 := (nI_ltI (a := f) (b := F) (by omega) (by omega)).mp (by rw [← r69]; exact c20); omega) (by decide)) ?_
        refine go_s 3 rfl ?_
        refine go_m rfl rfl (show vp_in (nI 40 * nI f + D' 70 (nI f).toNatClampNeg - 1) 960 by have h0 := (nI_ltI (a := f) (b := F) (by omega) (by omega)).mp (by rw [← r69]; exact c20); have h40 := hP.s40 f h0; have r70 : D' 70 (nI f).toNatClampNeg = nI (sz f) := (by rw [hcf, hI.fr 70 f (by omega)]; exact hP.m70 f h0); have c29 : ¬ D' 70 (nI f).toNatClampNeg = 0 := c29; rw [r70] at c29; have h0' : ¬ sz f = 0 := fun z => c29 (by rw [z]; rfl); rw [r70, nI_mul, nI_add, show 40 * f + sz f = (40 * f + (sz f - 1)) + 1 by omega, nI_pred]; exact vp_in_nI (by omega) (by decide)) ?_
        have c20 : nI f < D' 69 1 := c20
        rw [r69] at c20
        have hf : f < F := (nI_ltI (by omega) (by omega)).mp c20
        have r70 : D' 70 (nI f).toNatClampNeg = nI (sz f) := by rw [hcf, hI.fr 70 f (by omega)]; exact hP.m70 f hf
        have h40 := hP.s40 f hf
        have c29 : ¬ D' 70 (nI f).toNatClampNeg = 0 := c29
        rw [r70] at c29
        have h0 : ¬ sz f = 0 := fun z => c29 (by rw [z]; rfl)
        refine go_s 1 (pc' := 55) (ls' := [.ref 69, .ref w, .int (nI f), .int (D 71 (40 * f + (sz f - 1))), x4]) (st' := []) (h' := hp D' e) (by rw [show D 71 (40 * f + (sz f - 1)) = D' 71 (nI 40 * nI f + D' 70 (nI f).toNatClampNeg - 1).toNatClampNeg by rw [r70, nI_mul, nI_add, show 40 * f + sz f = (40 * f + (sz f - 1)) + 1 by omega, nI_pred, nI_clamp (by omega), hI.fr 71 _ (by omega)]]; rfl) ?_
        refine c_mrO (v := D 71 (40 * f + (sz f - 1))) hw hsh ⟨fun z => z.resolve_left h0, fun z => Or.inr z⟩ hI (fun D1 h1 => ?_)
        refine go_s 4 (pc' := 93) (ls' := [.ref 69, .ref w, .int (nI f), .int (D 71 (40 * f + (sz f - 1))), .int (nI (40 * f + 0))]) (st' := []) (h' := hp D1 e) (by rw [Nat.add_zero, ← nI_mul]; rfl) ?_
        refine c_mri hP hw hsh hf (fun D2 x h2 => ?_) (sz f + 1) 0 D1 (by omega) (by omega) h1
        refine go_s 2 (pc' := 15) (ls' := [.ref 69, .ref w, .int (nI (f + 1)), .int (D 71 (40 * f + (sz f - 1))), x]) (st' := []) (h' := hp D2 e) (by rw [← nI_1]; rfl) ?_
        exact c_mrf hP hw hsh hn0 q n _ _ (f + 1) _ _ D2 (by omega) (by omega) ⟨h2.fr, h2.b2, am_bz_iff h2.b3 am_bf_n, am_bz_iff h2.b4 am_bf_n⟩
    · refine go_s 2 rfl ?_
      refine go_bl rfl (by show am_sh0.getD w (e.1 w) = _; rw [hsh]; exact am_sh109 hw _) (by first | decide | (unfold vp_in; decide)) ?_
      refine go_s 1 rfl ?_
      refine go_if (fun c262 => ?_) (fun c262 => ?_)
      · refine go_s 2 rfl ?_
        refine go_bl rfl (by show am_sh0.getD w (e.1 w) = _; rw [hsh]; exact am_sh109 hw _) (by first | decide | (unfold vp_in; decide)) ?_
        refine go_s 1 rfl ?_
        refine go_if (fun c273 => ?_) (fun c273 => ?_)
        · refine go_s 2 rfl ?_
          refine go_bl rfl (by show am_sh0.getD w (e.1 w) = _; rw [hsh]; exact am_sh109 hw _) (by first | decide | (unfold vp_in; decide)) ?_
          refine go_s 1 rfl ?_
          refine go_if (fun c284 => ?_) (fun c284 => ?_)
          · refine go_s 1 rfl ?_
            have c20 : ¬ nI f < D' 69 1 := c20
            rw [r69] at c20
            have hge := mt (nI_lt (a := f) (b := F) · (by omega)) c20
            have e0 : f = F := by omega
            subst e0
            have b3 := am_bz_iff hI.b3 am_bf_F
            have b4 := am_bz_iff hI.b4 am_bf_F
            have c262 : D' w 2 = 0 := c262
            have c273 : D' w 3 = 0 := c273
            have c284 : D' w 4 = 0 := c284
            exact go_ret rfl rfl (am_qi (q 0 D' (by decide) (Or.inr ⟨hn0, Or.inr ⟨am_bz_0 hI.b2 c262, Or.inr ⟨am_bz_0 b3 c273, Or.inr ⟨rfl, am_bz_0 b4 c284⟩⟩⟩⟩) hI.fr) (by decide) rfl)
          · refine go_s 2 rfl ?_
            have c20 : ¬ nI f < D' 69 1 := c20
            rw [r69] at c20
            have hge := mt (nI_lt (a := f) (b := F) · (by omega)) c20
            have e0 : f = F := by omega
            subst e0
            have b3 := am_bz_iff hI.b3 am_bf_F
            have b4 := am_bz_iff hI.b4 am_bf_F
            have c262 : D' w 2 = 0 := c262
            have c273 : D' w 3 = 0 := c273
            have c284 : ¬ D' w 4 = 0 := c284
            exact go_ret rfl rfl (am_qi (q 4 D' (by decide) (Or.inr ⟨hn0, Or.inr ⟨am_bz_0 hI.b2 c262, Or.inr ⟨am_bz_0 b3 c273, Or.inl ⟨rfl, am_bz_n b4 c284⟩⟩⟩⟩) hI.fr) (by decide) rfl)
        · refine go_s 2 rfl ?_
          have c20 : ¬ nI f < D' 69 1 := c20
          rw [r69] at c20
          have hge := mt (nI_lt (a := f) (b := F) · (by omega)) c20
          have e0 : f = F := by omega
          subst e0
          have b3 := am_bz_iff hI.b3 am_bf_F
          have b4 := am_bz_iff hI.b4 am_bf_F
          have c262 : D' w 2 = 0 := c262
          have c273 : ¬ D' w 3 = 0 := c273
          exact go_ret rfl rfl (am_qi (q 3 D' (by decide) (Or.inr ⟨hn0, Or.inr ⟨am_bz_0 hI.b2 c262, Or.inl ⟨rfl, am_bz_n b3 c273⟩⟩⟩) hI.fr) (by decide) rfl)
      · refine go_s 2 rfl ?_
        have c20 : ¬ nI f < D' 69 1 := c20
        rw [r69] at c20
        have hge := mt (nI_lt (a := f) (b := F) · (by omega)) c20
        have e0 : f = F := by omega
        subst e0
        have b3 := am_bz_iff hI.b3 am_bf_F
        have b4 := am_bz_iff hI.b4 am_bf_F
        have c262 : ¬ D' w 2 = 0 := c262
        exact go_ret rfl rfl (am_qi (q 2 D' (by decide) (Or.inr ⟨hn0, Or.inl ⟨rfl, am_bz_n hI.b2 c262⟩⟩) hI.fr) (by decide) rfl)
theorem c_X12_refusal {C D : Nat → Nat → Int32} {F : Nat} {sz : Nat → Nat} {e : am_E} {Q : am_Q} {kc ks : Nat} (hP : am_PG C D F sz) (hw : 109 ≤ e.2.1) (hkc : 1 ≤ kc) (hks : 5 ≤ ks) (q : ∀ r D' e', r < 5 → am_rfs D F sz r → (∀ c j, c < 109 → D' c j = D c j) → 109 ≤ e'.2.1 → e'.2.2 = e.2.2 → Q (some (.int (-nI r))) (hp D' e')) : am_Go (mX12_refusal, 0, am_ent mX12_refusal [.ref 69], [], hp D e, kc, ks, Q) := by
  have hF := hP.hF
  have m1 := hP.m1
  refine go_s 3 rfl ?_
  by_cases h0 : F = 0
  · have e0 : D 69 1 = 0 := by rw [m1, h0]; rfl
    refine go_if (fun c => ?_) (fun c => absurd e0 c)
    refine go_s 1 rfl ?_
    exact go_ret rfl rfl (am_qi (q 1 D e (by decide) (Or.inl ⟨rfl, h0⟩) (fun _ _ _ => rfl) hw rfl) (by decide) rfl)
  refine go_if (fun c => absurd (show D 69 1 = 0 from c) (by rw [m1]; exact nI_ne0 (by omega) (by omega))) (fun c => ?_)
  refine go_s 1 rfl ?_
  refine go_newa 5 rfl rfl rfl (by simp only [Bool.and_eq_true]; exact ⟨⟨rfl, Nat.ble_eq_true_of_le hkc⟩, Nat.ble_eq_true_of_le hks⟩) ?_
  rw [am_new_hp hw]
  refine go_s 3 rfl ?_
  have z : ∀ j, am_dz D e.2.1 e.2.1 j = 0 := fun j => by
    unfold am_dz
    rw [if_pos rfl]
  refine c_mrf (w := e.2.1) hP hw ?_ h0 (fun r D' h1 h2 h3 => ?_) (F + 1) _ _ 0 _ _ _ (by omega) (by omega) ⟨fun c j hc => ?_, ?_, ?_, ?_⟩
  · show am_us e.1 e.2.1 (.inr (1, 5)) e.2.1 = _
    unfold am_us
    rw [if_pos rfl]
  · exact q r D' _ h1 h2 (fun c j hc => h3 c j (by omega)) (Nat.le_succ_of_le hw) rfl
  · unfold am_dz
    rw [if_neg hc]
  · rw [z]; exact Or.inl ⟨rfl, fun ⟨g, hg, _⟩ => by omega⟩
  · rw [z]; exact Or.inl ⟨rfl, fun ⟨g, r, hg, _⟩ => by omega⟩
  · rw [z]; exact Or.inl ⟨rfl, fun ⟨g, r, hg, _⟩ => by omega⟩
