theorem am_z1 {v : Int32} (h : v = 0 ∨ v = 1) : v &&& 1 = v := by
  rcases h with h | h <;> subst h <;> decide
def am_bef (sz : Nat → Nat) (f p g r : Nat) : Prop := g < f ∧ r < sz g ∨ g = f ∧ r < p
def am_FM (S D : Nat → Nat → Int32) (F : Nat) (sz : Nat → Nat) (B U : Nat → Prop) (S' : Nat → Nat → Int32) (f p : Nat) : Prop := (∀ c j, c ≠ 90 → c ≠ 91 → S' c j = S c j) ∧ (∀ g r, g < F → r < sz g → am_bef sz f p g r → am_bz (S' 90 (40 * g + r)) (am_op D F sz B (am_st sz g + r) ∧ ¬ U (am_st sz g + r))) ∧ (∀ g r, g < F → r < sz g → am_bef sz f p g r → am_bz (S' 91 (40 * g + r)) (∃ t, t < sz g ∧ am_te D (40 * g + t) r))
theorem am_FM.fr {S D : Nat → Nat → Int32} {F : Nat} {sz : Nat → Nat} {B U : Nat → Prop} {S' : Nat → Nat → Int32} {f p : Nat} (h : am_FM S D F sz B U S' f p) : ∀ c j, c ≠ 90 → c ≠ 91 → S' c j = S c j := h.1
theorem am_FM.my {S D : Nat → Nat → Int32} {F : Nat} {sz : Nat → Nat} {B U : Nat → Prop} {S' : Nat → Nat → Int32} {f p : Nat} (h : am_FM S D F sz B U S' f p) : ∀ g r, g < F → r < sz g → am_bef sz f p g r → am_bz (S' 90 (40 * g + r)) (am_op D F sz B (am_st sz g + r) ∧ ¬ U (am_st sz g + r)) := h.2.1
theorem am_FM.tg {S D : Nat → Nat → Int32} {F : Nat} {sz : Nat → Nat} {B U : Nat → Prop} {S' : Nat → Nat → Int32} {f p : Nat} (h : am_FM S D F sz B U S' f p) : ∀ g r, g < F → r < sz g → am_bef sz f p g r → am_bz (S' 91 (40 * g + r)) (∃ t, t < sz g ∧ am_te D (40 * g + t) r) := h.2.2
theorem c_fm1 {C D S : Nat → Nat → Int32} {F : Nat} {sz : Nat → Nat} {B U : Nat → Prop} {e : am_E} {Q : am_Q} (hP : am_PG C D F sz) (hS : am_MS S D) (hBd : ∀ f, f < F → (S 77 f = nI f ↔ B f)) (hin : ∀ f p, f < F → p < sz f → (S 87 (40 * f + p) = -1 ↔ ¬ U (am_st sz f + p))) {f kc ks : Nat} {x4 x5 x6 x7 x8 : Value} (hf : f < F) (K : ∀ S' x2 x3, am_FM S D F sz B U S' f (sz f) → am_Go (mX12_findRoutine, 106, [.ref 69, .int (nI f), x2, x3, x4, x5, x6, x7, x8], [], hp S' e, kc, ks, Q)) : ∀ (n p : Nat) (x3 : Value) (S' : Nat → Nat → Int32), sz f < n + p → p ≤ sz f → am_FM S D F sz B U S' f p → am_Go (mX12_findRoutine, 12, [.ref 69, .int (nI f), .int (nI p), x3, x4, x5, x6, x7, x8], [], hp S' e, kc, ks, Q)
  | 0, p, x3, S', g1, g2, hI => by omega
  | n + 1, p, x3, S', g1, g2, hI => by
    have hF := hP.hF
    have h40 := hP.s40 f hf
    have hB' := hBd f hf
    have hS' : am_MS S' D := hS.u (fun c j h1 h2 _ => hI.fr c j (by omega) (by omega))
    have e70 : S' 70 (nI f).toNatClampNeg = nI (sz f) := by rw [nI_clamp (by omega), hS'.me 70 f (by decide) (by decide)]; exact hP.m70 f hf
    have KK : ∀ v, p < sz f → am_bz v (am_op D F sz B (am_st sz f + p) ∧ ¬ U (am_st sz f + p)) → am_Go (mX12_findRoutine, 88, [.ref 69, .int (nI f), .int (nI p), .int (nI (40 * f + p)), x4, x5, x6, x7, x8], [], hp (am_u S' 90 (40 * f + p) v) e, kc, ks, Q) := fun v hp1 hv => by
      have hX : vp_in (nI (40 * f + p)) 960 := vp_in_nI (by omega) (by decide)
      have hcx := nI_clamp (show 40 * f + p < 2 ^ 31 by omega)
      refine go_s 6 rfl ?_
      refine go_v kX12_findRoutine_96 okX12_isTarget rfl rfl rfl rfl (Nat.zero_le _) (Nat.zero_le _) ?_
      refine c_X12_isTarget hP (hS'.u (fun c j h1 h2 _ => am_u_ne (by omega))) hf (fun r3 hr3 => ?_)
      refine go_m rfl rfl hX ?_
      show am_Go (mX12_findRoutine, 100, _, [], hp (am_u (am_u S' 90 (40 * f + p) v) 91 (nI (40 * f + p)).toNatClampNeg (r3 &&& 1)) e, _, _, Q)
      rw [hcx, am_z1 (hr3.imp (fun z => z.1) (fun z => z.1))]
      refine go_s 2 (pc' := 12) (ls' := [.ref 69, .int (nI f), .int (nI (p + 1)), .int (nI (40 * f + p)), x4, x5, x6, x7, x8]) (st' := []) (h' := hp (am_u (am_u S' 90 (40 * f + p) v) 91 (40 * f + p) r3) e) (by rw [← nI_1 p]; rfl) ?_
      refine c_fm1 hP hS hBd hin hf K n (p + 1) _ _ (by omega) (by omega) ⟨fun c j a1 a2 => (am_u_ne a2).trans ((am_u_ne a1).trans (hI.fr c j a1 a2)), fun g r a1 a2 a3 => ?_, fun g r a1 a2 a3 => ?_⟩
      · rw [am_u_ne (by decide)]
        by_cases e1 : g = f ∧ r = p
        · obtain ⟨e2, e3⟩ := e1
          rw [e2, e3, am_u_eq]; exact hv
        · have hne : 40 * g + r ≠ 40 * f + p := by
            have := hP.s40 g a1
            omega
          rw [am_u_nj hne]
          refine hI.my g r a1 a2 ?_
          rcases a3 with z | z
          · exact Or.inl z
          · exact Or.inr ⟨z.1, by omega⟩
      · by_cases e1 : g = f ∧ r = p
        · obtain ⟨e2, e3⟩ := e1
          rw [e2, e3, am_u_eq]; exact hr3
        · have hne : 40 * g + r ≠ 40 * f + p := by
            have := hP.s40 g a1
            omega
          rw [am_u_nj hne, am_u_ne (by decide)]
          refine hI.tg g r a1 a2 ?_
          rcases a3 with z | z
          · exact Or.inl z
          · exact Or.inr ⟨z.1, by omega⟩
    refine go_s 4 rfl ?_
    refine go_m rfl rfl (show vp_in (nI f) 24 from vp_in_nI (by omega) (by decide)) ?_
    refine go_s 1 rfl ?_
    refine go_if (fun c19 => ?_) (fun c19 => ?_)
    · have c19 : nI p < S' 70 (nI f).toNatClampNeg := c19
      rw [e70] at c19
      have hp1 := (nI_ltI (a := p) (b := sz f) (by omega) (by omega)).mp c19
      have hX : vp_in (nI (40 * f + p)) 960 := vp_in_nI (by omega) (by decide)
      have hcx := nI_clamp (show 40 * f + p < 2 ^ 31 by omega)
      have gx := am_gd_n (hP.gd hf hp1)
      refine go_s 6 (pc' := 29) (ls' := [.ref 69, .int (nI f), .int (nI p), .int (nI (40 * f + p)), x4, x5, x6, x7, x8]) (st' := []) (h' := hp S' e) (by rw [am_x1 f p]; rfl) ?_
      refine go_s 5 rfl ?_
      refine go_v kX12_findRoutine_36 okX12_isBody rfl rfl rfl rfl (Nat.zero_le _) (Nat.zero_le _) ?_
      refine c_X12_isBody (by omega) (fun rb hb => ?_)
      rw [hI.fr 77 f (by decide) (by decide)] at hb
      refine go_s 1 rfl ?_
      refine go_if (fun c39 => ?_) (fun c39 => ?_)
      · refine go_s 1 rfl ?_
        refine go_m rfl rfl hX ?_
        have hop0 := am_op_i (D := D) (B := B) hf hp1
        show am_Go (mX12_findRoutine, 88, _, [], hp (am_u S' 90 (nI (40 * f + p)).toNatClampNeg 0) e, _, _, Q)
        rw [hcx]
        exact KK 0 hp1 (Or.inl ⟨rfl, fun z => am_bz_0 hb c39 ((hB' ).mpr (hop0.mp z.1).1)⟩)
      · refine go_s 3 rfl ?_
        refine go_m rfl rfl hX ?_
        refine go_s 2 rfl ?_
        refine go_if (fun c50 => ?_) (fun c50 => ?_)
        · refine go_s 3 rfl ?_
          refine go_m rfl rfl hX ?_
          refine go_s 2 rfl ?_
          refine go_if (fun c61 => ?_) (fun c61 => ?_)
          · refine go_s 2 rfl ?_
            refine go_v kX12_findRoutine_66 okX12_namesOne rfl rfl rfl rfl (Nat.zero_le _) (Nat.zero_le _) ?_
            refine c_X12_namesOne (by omega) (fun r2 hr2 => ?_)
            refine go_s 1 rfl ?_
            refine go_if (fun c69 => ?_) (fun c69 => ?_)
            · refine go_s 3 rfl ?_
              refine go_m rfl rfl hX ?_
              refine go_s 2 rfl ?_
              refine go_if (fun c79 => ?_) (fun c79 => ?_)
              · refine go_s 2 rfl ?_
                refine go_m rfl rfl hX ?_
                have c50 : 21 < S' 71 (nI (40 * f + p)).toNatClampNeg := c50
                rw [hcx, hS'.me 71 _ (by decide) (by decide)] at c50
                have c61 : S' 71 (nI (40 * f + p)).toNatClampNeg = 34 := c61
                rw [hcx, hS'.me 71 _ (by decide) (by decide)] at c61
                have c79 : S' 87 (nI (40 * f + p)).toNatClampNeg = -1 := c79
                rw [hcx, hI.fr 87 _ (by decide) (by decide), hin f p hf hp1] at c79
                have hop0 := am_op_i (D := D) (B := B) hf hp1
                have ho : ¬ 21 < D 71 (40 * f + p) ∨ D 71 (40 * f + p) = 34 := Or.inr c61
                have hn1 : am_bz r2 (am_n1 D (40 * f + p)) := am_bz_iff hr2 (by rw [hS'.me 71 _ (by decide) (by decide), hS'.me 72 _ (by decide) (by decide), hS'.me 73 _ (by decide) (by decide), hS'.me 74 _ (by decide) (by decide)]; exact (am_n1_m gx ho).symm)
                show am_Go (mX12_findRoutine, 88, _, [], hp (am_u S' 90 (nI (40 * f + p)).toNatClampNeg 1) e, _, _, Q)
                rw [hcx]
                exact KK 1 hp1 (Or.inr ⟨rfl, hop0.mpr ⟨hB'.mp (am_bz_n hb c39), ho, am_bz_0 hn1 c69⟩, c79⟩)
              · refine go_s 1 rfl ?_
                refine go_m rfl rfl hX ?_
                have c50 : 21 < S' 71 (nI (40 * f + p)).toNatClampNeg := c50
                rw [hcx, hS'.me 71 _ (by decide) (by decide)] at c50
                have c61 : S' 71 (nI (40 * f + p)).toNatClampNeg = 34 := c61
                rw [hcx, hS'.me 71 _ (by decide) (by decide)] at c61
                have c79 : ¬ (S' 87 (nI (40 * f + p)).toNatClampNeg = -1) := c79
                rw [hcx, hI.fr 87 _ (by decide) (by decide), hin f p hf hp1] at c79
                have hop0 := am_op_i (D := D) (B := B) hf hp1
                have ho : ¬ 21 < D 71 (40 * f + p) ∨ D 71 (40 * f + p) = 34 := Or.inr c61
                have hn1 : am_bz r2 (am_n1 D (40 * f + p)) := am_bz_iff hr2 (by rw [hS'.me 71 _ (by decide) (by decide), hS'.me 72 _ (by decide) (by decide), hS'.me 73 _ (by decide) (by decide), hS'.me 74 _ (by decide) (by decide)]; exact (am_n1_m gx ho).symm)
                show am_Go (mX12_findRoutine, 88, _, [], hp (am_u S' 90 (nI (40 * f + p)).toNatClampNeg 0) e, _, _, Q)
                rw [hcx]
                exact KK 0 hp1 (Or.inl ⟨rfl, fun z => c79 z.2⟩)
            · refine go_s 1 rfl ?_
              refine go_m rfl rfl hX ?_
              have c50 : 21 < S' 71 (nI (40 * f + p)).toNatClampNeg := c50
              rw [hcx, hS'.me 71 _ (by decide) (by decide)] at c50
              have c61 : S' 71 (nI (40 * f + p)).toNatClampNeg = 34 := c61
              rw [hcx, hS'.me 71 _ (by decide) (by decide)] at c61
              have hop0 := am_op_i (D := D) (B := B) hf hp1
              have ho : ¬ 21 < D 71 (40 * f + p) ∨ D 71 (40 * f + p) = 34 := Or.inr c61
              have hn1 : am_bz r2 (am_n1 D (40 * f + p)) := am_bz_iff hr2 (by rw [hS'.me 71 _ (by decide) (by decide), hS'.me 72 _ (by decide) (by decide), hS'.me 73 _ (by decide) (by decide), hS'.me 74 _ (by decide) (by decide)]; exact (am_n1_m gx ho).symm)
              show am_Go (mX12_findRoutine, 88, _, [], hp (am_u S' 90 (nI (40 * f + p)).toNatClampNeg 0) e, _, _, Q)
              rw [hcx]
              exact KK 0 hp1 (Or.inl ⟨rfl, fun z => (hop0.mp z.1).2.2 (am_bz_n hn1 c69)⟩)
          · refine go_s 1 rfl ?_
            refine go_m rfl rfl hX ?_
            have c50 : 21 < S' 71 (nI (40 * f + p)).toNatClampNeg := c50
            rw [hcx, hS'.me 71 _ (by decide) (by decide)] at c50
            have c61 : ¬ (S' 71 (nI (40 * f + p)).toNatClampNeg = 34) := c61
            rw [hcx, hS'.me 71 _ (by decide) (by decide)] at c61
            have hop0 := am_op_i (D := D) (B := B) hf hp1
            show am_Go (mX12_findRoutine, 88, _, [], hp (am_u S' 90 (nI (40 * f + p)).toNatClampNeg 0) e, _, _, Q)
            rw [hcx]
            exact KK 0 hp1 (Or.inl ⟨rfl, fun z => (hop0.mp z.1).2.1.elim (fun y => y c50) c61⟩)
        · refine go_s 2 rfl ?_
          refine go_v kX12_findRoutine_66 okX12_namesOne rfl rfl rfl rfl (Nat.zero_le _) (Nat.zero_le _) ?_
          refine c_X12_namesOne (by omega) (fun r2 hr2 => ?_)
          refine go_s 1 rfl ?_
          refine go_if (fun c69 => ?_) (fun c69 => ?_)
          · refine go_s 3 rfl ?_
            refine go_m rfl rfl hX ?_
            refine go_s 2 rfl ?_
            refine go_if (fun c79 => ?_) (fun c79 => ?_)
            · refine go_s 2 rfl ?_
              refine go_m rfl rfl hX ?_
              have c50 : ¬ (21 < S' 71 (nI (40 * f + p)).toNatClampNeg) := c50
              rw [hcx, hS'.me 71 _ (by decide) (by decide)] at c50
              have c79 : S' 87 (nI (40 * f + p)).toNatClampNeg = -1 := c79
              rw [hcx, hI.fr 87 _ (by decide) (by decide), hin f p hf hp1] at c79
              have hop0 := am_op_i (D := D) (B := B) hf hp1
              have ho : ¬ 21 < D 71 (40 * f + p) ∨ D 71 (40 * f + p) = 34 := Or.inl c50
              have hn1 : am_bz r2 (am_n1 D (40 * f + p)) := am_bz_iff hr2 (by rw [hS'.me 71 _ (by decide) (by decide), hS'.me 72 _ (by decide) (by decide), hS'.me 73 _ (by decide) (by decide), hS'.me 74 _ (by decide) (by decide)]; exact (am_n1_m gx ho).symm)
              show am_Go (mX12_findRoutine, 88, _, [], hp (am_u S' 90 (nI (40 * f + p)).toNatClampNeg 1) e, _, _, Q)
              rw [hcx]
              exact KK 1 hp1 (Or.inr ⟨rfl, hop0.mpr ⟨hB'.mp (am_bz_n hb c39), ho, am_bz_0 hn1 c69⟩, c79⟩)
            · refine go_s 1 rfl ?_
              refine go_m rfl rfl hX ?_
              have c50 : ¬ (21 < S' 71 (nI (40 * f + p)).toNatClampNeg) := c50
              rw [hcx, hS'.me 71 _ (by decide) (by decide)] at c50
              have c79 : ¬ (S' 87 (nI (40 * f + p)).toNatClampNeg = -1) := c79
              rw [hcx, hI.fr 87 _ (by decide) (by decide), hin f p hf hp1] at c79
              have hop0 := am_op_i (D := D) (B := B) hf hp1
              have ho : ¬ 21 < D 71 (40 * f + p) ∨ D 71 (40 * f + p) = 34 := Or.inl c50
              have hn1 : am_bz r2 (am_n1 D (40 * f + p)) := am_bz_iff hr2 (by rw [hS'.me 71 _ (by decide) (by decide), hS'.me 72 _ (by decide) (by decide), hS'.me 73 _ (by decide) (by decide), hS'.me 74 _ (by decide) (by decide)]; exact (am_n1_m gx ho).symm)
              show am_Go (mX12_findRoutine, 88, _, [], hp (am_u S' 90 (nI (40 * f + p)).toNatClampNeg 0) e, _, _, Q)
              rw [hcx]
              exact KK 0 hp1 (Or.inl ⟨rfl, fun z => c79 z.2⟩)
          · refine go_s 1 rfl ?_
            refine go_m rfl rfl hX ?_
            have c50 : ¬ (21 < S' 71 (nI (40 * f + p)).toNatClampNeg) := c50
            rw [hcx, hS'.me 71 _ (by decide) (by decide)] at c50
            have hop0 := am_op_i (D := D) (B := B) hf hp1
            have ho : ¬ 21 < D 71 (40 * f + p) ∨ D 71 (40 * f + p) = 34 := Or.inl c50
            have hn1 : am_bz r2 (am_n1 D (40 * f + p)) := am_bz_iff hr2 (by rw [hS'.me 71 _ (by decide) (by decide), hS'.me 72 _ (by decide) (by decide), hS'.me 73 _ (by decide) (by decide), hS'.me 74 _ (by decide) (by decide)]; exact (am_n1_m gx ho).symm)
            show am_Go (mX12_findRoutine, 88, _, [], hp (am_u S' 90 (nI (40 * f + p)).toNatClampNeg 0) e, _, _, Q)
            rw [hcx]
            exact KK 0 hp1 (Or.inl ⟨rfl, fun z => (hop0.mp z.1).2.2 (am_bz_n hn1 c69)⟩)
    · have c19 : ¬ nI p < S' 70 (nI f).toNatClampNeg := c19
      rw [e70] at c19
      have hge := mt (nI_lt (a := p) (b := sz f) · (by omega)) c19
      have ep : p = sz f := by omega
      rw [ep] at hI
      exact K _ _ _ hI
theorem c_fm2 {C D S : Nat → Nat → Int32} {F : Nat} {sz : Nat → Nat} {B U : Nat → Prop} {e : am_E} {Q : am_Q} (hP : am_PG C D F sz) (hS : am_MS S D) (hBd : ∀ f, f < F → (S 77 f = nI f ↔ B f)) (hin : ∀ f p, f < F → p < sz f → (S 87 (40 * f + p) = -1 ↔ ¬ U (am_st sz f + p))) {kc ks : Nat} {x4 x5 x6 x7 x8 : Value} (K : ∀ S' x2 x3, am_SM S' D F sz B U → (∀ c j, c ≠ 90 → c ≠ 91 → S' c j = S c j) → am_Go (mX12_findRoutine, 112, [.ref 69, .int (nI F), x2, x3, x4, x5, x6, x7, x8], [], hp S' e, kc, ks, Q)) : ∀ (n f : Nat) (x2 x3 : Value) (S' : Nat → Nat → Int32), F < n + f → f ≤ F → am_FM S D F sz B U S' f 0 → am_Go (mX12_findRoutine, 2, [.ref 69, .int (nI f), x2, x3, x4, x5, x6, x7, x8], [], hp S' e, kc, ks, Q)
  | 0, f, x2, x3, S', g1, g2, hI => by omega
  | n + 1, f, x2, x3, S', g1, g2, hI => by
    have hF := hP.hF
    have hS' : am_MS S' D := hS.u (fun c j h1 h2 _ => hI.fr c j (by omega) (by omega))
    refine go_s 4 rfl ?_
    refine go_if (fun c7 => ?_) (fun c7 => ?_)
    · have c7 : nI f < S' 69 1 := c7
      rw [hS'.m1, hP.m1] at c7
      have hf : f < F := (nI_ltI (by omega) (by omega)).mp c7
      refine go_s 2 (pc' := 12) (ls' := [.ref 69, .int (nI f), .int (nI 0), x3, x4, x5, x6, x7, x8]) (st' := []) (h' := hp S' e) rfl ?_
      refine c_fm1 hP hS hBd hin hf (fun S2 y2 y3 h2 => ?_) (sz f + 1) 0 _ S' (by omega) (by omega) hI
      refine go_s 2 (pc' := 2) (ls' := [.ref 69, .int (nI (f + 1)), y2, y3, x4, x5, x6, x7, x8]) (st' := []) (h' := hp S2 e) (by rw [← nI_1 f]; rfl) ?_
      refine c_fm2 hP hS hBd hin K n (f + 1) _ _ S2 (by omega) (by omega) ⟨h2.fr, fun g r a1 a2 a3 => h2.my g r a1 a2 ?_, fun g r a1 a2 a3 => h2.tg g r a1 a2 ?_⟩
      · rcases a3 with z | z
        · by_cases eg : g = f
          · exact Or.inr ⟨eg, by rw [← eg]; exact z.2⟩
          · exact Or.inl ⟨by omega, z.2⟩
        · omega
      · rcases a3 with z | z
        · by_cases eg : g = f
          · exact Or.inr ⟨eg, by rw [← eg]; exact z.2⟩
          · exact Or.inl ⟨by omega, z.2⟩
        · omega
    · have c7 : ¬ nI f < S' 69 1 := c7
      rw [hS'.m1, hP.m1] at c7
      have hge := mt (nI_lt (a := f) (b := F) · (by omega)) c7
      have ef : f = F := by omega
      subst ef
      exact K _ _ _ ⟨hS', fun g hg => by rw [hI.fr 77 g (by decide) (by decide)]; exact hBd g hg, fun g r a1 a2 => hI.my g r a1 a2 (Or.inl ⟨a1, a2⟩), fun g r a1 a2 => hI.tg g r a1 a2 (Or.inl ⟨a1, a2⟩)⟩ hI.fr
