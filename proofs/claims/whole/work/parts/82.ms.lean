theorem am_st_u {sz : Nat → Nat} {f g p q : Nat} (hp : p < sz f) (hq : q < sz g) (h : am_st sz f + p = am_st sz g + q) : f = g ∧ p = q := by
  have a : ¬ f < g := fun z => by
    have : am_st sz (f + 1) ≤ am_st sz g := am_st_le z
    have e : am_st sz (f + 1) = am_st sz f + sz f := rfl
    omega
  have b : ¬ g < f := fun z => by
    have : am_st sz (g + 1) ≤ am_st sz f := am_st_le z
    have e : am_st sz (g + 1) = am_st sz g + sz g := rfl
    omega
  have e : f = g := by omega
  subst e
  exact ⟨rfl, by omega⟩
theorem am_op_i {D : Nat → Nat → Int32} {F f p : Nat} {sz : Nat → Nat} {B : Nat → Prop} (hf : f < F) (hp : p < sz f) : am_op D F sz B (am_st sz f + p) ↔ (B f ∧ am_mw D (40 * f + p)) := by
  unfold am_op
  rw [am_bf_F]
  constructor
  · rintro ⟨g, q, h1, h2, h3, h4, h5⟩
    obtain ⟨e1, e2⟩ := am_st_u hp h2 h3
    subst e1; subst e2
    exact ⟨h4, h5⟩
  · rintro ⟨h1, h2⟩
    exact ⟨f, p, hf, hp, rfl, h1, h2⟩
theorem am_en_i {D : Nat → Nat → Int32} {F f p : Nat} {sz : Nat → Nat} {B : Nat → Prop} (hf : f < F) (hp : p < sz f) : am_en D F sz B (am_st sz f + p) ↔ (B f ∧ ∃ r, r < sz f ∧ am_te D (40 * f + r) p) := by
  unfold am_en
  rw [am_bf_F]
  constructor
  · rintro ⟨g, r, h1, h2, h3, q, h4, h5, h6⟩
    obtain ⟨e1, e2⟩ := am_st_u hp h4 h5
    subst e1; subst e2
    exact ⟨h3, r, h2, h6⟩
  · rintro ⟨h1, r, h2, h3⟩
    exact ⟨f, r, hf, h2, h1, p, hp, rfl, h3⟩
theorem am_fS_sS {C D : Nat → Nat → Int32} {F f g p q : Nat} {sz : Nat → Nat} (hP : am_PG C D F sz) (hf : f < F) (hg : g < F) (hp : p < sz f) (hq : q < sz g) : am_fS D (40 * f + p) (40 * g + q) ↔ am_sS C (am_st sz f + p) (am_st sz g + q) := by
  obtain ⟨a1, a2, a3, a4, _⟩ := hP.ins f p hf hp
  obtain ⟨b1, b2, b3, b4, _⟩ := hP.ins g q hg hq
  unfold am_fS am_sS
  rw [a1, a2, a3, a4, b1, b2, b3, b4]
theorem am_cl_mw {D : Nat → Nat → Int32} {x : Nat} (h : D 71 x = 28 ∨ D 71 x = 30 ∨ D 71 x = 31) : ¬ am_mw D x := by
  rintro ⟨h1, _⟩
  rcases h with h | h | h <;> rw [h] at h1 <;> exact absurd h1 (by decide)
/-- no fit row goes beyond its function -/
theorem sq_ft_in {D : Nat → Nat → Int32} {F f p n : Nat} {sz : Nat → Nat} {B U : Nat → Prop} (hop : ∀ f, f < F → ¬ am_Op D sz f) (hf : f < F) (hp : p < sz f) (h1 : 1 ≤ n) (h : sq_ft (am_st sz F) (am_op D F sz B) (am_en D F sz B) U (am_st sz f + p) n) : p + n ≤ sz f := by
  apply Nat.le_of_not_lt
  intro z
  have hc : D 71 (40 * f + (sz f - 1)) = 28 ∨ D 71 (40 * f + (sz f - 1)) = 30 ∨ D 71 (40 * f + (sz f - 1)) = 31 := Classical.not_not.mp (fun y => hop f hf (Or.inr y))
  have o := (h.2 (sz f - 1 - p) (by omega)).1
  rw [show am_st sz f + p + (sz f - 1 - p) = am_st sz f + (sz f - 1) by omega, am_op_i hf (by omega)] at o
  exact am_cl_mw hc o.2
theorem am_n1_m {D : Nat → Nat → Int32} {x : Nat} (hk : ∃ k, k < 35 ∧ D 71 x = nI k) (h : ¬ 21 < D 71 x ∨ D 71 x = 34) : am_n1 D x ↔ (¬ D 71 x = 34 ∧ (D 72 x = 1 ∨ (¬ D 71 x = 19 ∧ D 73 x = 1) ∨ (¬ 9 < D 71 x ∧ D 74 x = 1))) := by
  obtain ⟨k, hk, e⟩ := hk
  unfold am_n1
  rw [e] at h ⊢
  have T : ∀ k, k < 35 → (¬ 21 < nI k ∨ nI k = 34) → ((am_kA (nI k) = 1 ↔ ¬ nI k = 34) ∧ (am_kB (nI k) = 1 ↔ (¬ nI k = 34 ∧ ¬ nI k = 19)) ∧ (am_kC (nI k) = 1 ↔ (¬ nI k = 34 ∧ ¬ 9 < nI k))) := by decide +kernel
  obtain ⟨t1, t2, t3⟩ := T k hk h
  rw [t1, t2, t3]
  constructor
  · rintro (z | z | z)
    · exact ⟨z.1, Or.inl z.2⟩
    · exact ⟨z.1.1, Or.inr (Or.inl ⟨z.1.2, z.2⟩)⟩
    · exact ⟨z.1.1, Or.inr (Or.inr ⟨z.1.2, z.2⟩)⟩
  · rintro ⟨z0, z | z | z⟩
    · exact Or.inl ⟨z0, z⟩
    · exact Or.inr (Or.inl ⟨⟨z0, z.1⟩, z.2⟩)
    · exact Or.inr (Or.inr ⟨⟨z0, z.1⟩, z.2⟩)
theorem c_X12_isBody {S : Nat → Nat → Int32} {e : am_E} {kc ks f : Nat} {Q : am_Q} (hf : f < 24) (q : ∀ r, am_bz r (S 77 f = nI f) → Q (some (.int r)) (hp S e)) : am_Go (mX12_isBody, 0, am_ent mX12_isBody [.ref 69, .int (nI f)], [], hp S e, kc, ks, Q) := by
  refine go_s 3 rfl ?_
  refine go_m rfl rfl (show vp_in (nI f) 24 from vp_in_nI hf (by decide)) ?_
  refine go_s 2 rfl ?_
  refine go_if (fun c7 => ?_) (fun c7 => ?_)
  · refine go_s 2 rfl ?_
    have c7 : S 77 (nI f).toNatClampNeg = nI f := c7
    rw [nI_clamp (by omega)] at c7
    exact go_retz rfl rfl (Or.inr rfl) (q 1 (Or.inr ⟨rfl, c7⟩))
  · refine go_s 1 rfl ?_
    have c7 : ¬ S 77 (nI f).toNatClampNeg = nI f := c7
    rw [nI_clamp (by omega)] at c7
    exact go_retz rfl rfl (Or.inl rfl) (q 0 (Or.inl ⟨rfl, c7⟩))
theorem c_X12_namesOne {S : Nat → Nat → Int32} {e : am_E} {kc ks x : Nat} {Q : am_Q} (hx : x < 960) (q : ∀ r, am_bz r (¬ S 71 x = 34 ∧ (S 72 x = 1 ∨ (¬ S 71 x = 19 ∧ S 73 x = 1) ∨ (¬ 9 < S 71 x ∧ S 74 x = 1))) → Q (some (.int r)) (hp S e)) : am_Go (mX12_namesOne, 0, am_ent mX12_namesOne [.ref 69, .int (nI x)], [], hp S e, kc, ks, Q) := by
  have hcx := nI_clamp (show x < 2 ^ 31 by omega)
  refine go_s 3 rfl ?_
  refine go_m rfl rfl (show vp_in (nI x) 960 from vp_in_nI hx (by decide)) ?_
  refine go_s 4 rfl ?_
  refine go_if (fun c10 => ?_) (fun c10 => ?_)
  · refine go_s 1 rfl ?_
    have c10 : S 71 (nI x).toNatClampNeg = 34 := c10
    rw [hcx] at c10
    exact go_retz rfl rfl (Or.inl rfl) (q 0 (Or.inl ⟨rfl, fun z => z.1 c10⟩))
  · refine go_s 3 rfl ?_
    refine go_m rfl rfl (show vp_in (nI x) 960 from vp_in_nI hx (by decide)) ?_
    refine go_s 2 rfl ?_
    refine go_if (fun c22 => ?_) (fun c22 => ?_)
    · refine go_s 6 rfl ?_
      refine go_if (fun c34 => ?_) (fun c34 => ?_)
      · refine go_s 5 rfl ?_
        refine go_if (fun c57 => ?_) (fun c57 => ?_)
        · refine go_s 4 rfl ?_
          refine go_if (fun c78 => absurd c78 (by decide)) (fun c78 => ?_)
          refine go_s 2 rfl ?_
          have c10 : ¬ (S 71 (nI x).toNatClampNeg = 34) := c10
          rw [hcx] at c10
          have c22 : S 72 (nI x).toNatClampNeg = 1 := c22
          rw [hcx] at c22
          have c34 : S 71 (nI x).toNatClampNeg = 19 := c34
          rw [hcx] at c34
          have c57 : 9 < S 71 (nI x).toNatClampNeg := c57
          rw [hcx] at c57
          exact go_retz rfl rfl (Or.inr rfl) (q 1 (Or.inr ⟨rfl, c10, Or.inl c22⟩))
        · refine go_s 3 rfl ?_
          refine go_m rfl rfl (show vp_in (nI x) 960 from vp_in_nI hx (by decide)) ?_
          refine go_s 2 rfl ?_
          refine go_if (fun c67 => ?_) (fun c67 => ?_)
          · refine go_s 5 rfl ?_
            refine go_if (fun c78 => absurd c78 (by decide)) (fun c78 => ?_)
            refine go_s 2 rfl ?_
            have c10 : ¬ (S 71 (nI x).toNatClampNeg = 34) := c10
            rw [hcx] at c10
            have c22 : S 72 (nI x).toNatClampNeg = 1 := c22
            rw [hcx] at c22
            have c34 : S 71 (nI x).toNatClampNeg = 19 := c34
            rw [hcx] at c34
            have c57 : ¬ (9 < S 71 (nI x).toNatClampNeg) := c57
            rw [hcx] at c57
            have c67 : S 74 (nI x).toNatClampNeg = 1 := c67
            rw [hcx] at c67
            exact go_retz rfl rfl (Or.inr rfl) (q 1 (Or.inr ⟨rfl, c10, Or.inl c22⟩))
          · refine go_s 4 rfl ?_
            refine go_if (fun c78 => absurd c78 (by decide)) (fun c78 => ?_)
            refine go_s 2 rfl ?_
            have c10 : ¬ (S 71 (nI x).toNatClampNeg = 34) := c10
            rw [hcx] at c10
            have c22 : S 72 (nI x).toNatClampNeg = 1 := c22
            rw [hcx] at c22
            have c34 : S 71 (nI x).toNatClampNeg = 19 := c34
            rw [hcx] at c34
            have c57 : ¬ (9 < S 71 (nI x).toNatClampNeg) := c57
            rw [hcx] at c57
            have c67 : ¬ (S 74 (nI x).toNatClampNeg = 1) := c67
            rw [hcx] at c67
            exact go_retz rfl rfl (Or.inr rfl) (q 1 (Or.inr ⟨rfl, c10, Or.inl c22⟩))
      · refine go_s 3 rfl ?_
        refine go_m rfl rfl (show vp_in (nI x) 960 from vp_in_nI hx (by decide)) ?_
        refine go_s 2 rfl ?_
        refine go_if (fun c44 => ?_) (fun c44 => ?_)
        · refine go_s 6 rfl ?_
          refine go_if (fun c57 => ?_) (fun c57 => ?_)
          · refine go_s 4 rfl ?_
            refine go_if (fun c78 => absurd c78 (by decide)) (fun c78 => ?_)
            refine go_s 2 rfl ?_
            have c10 : ¬ (S 71 (nI x).toNatClampNeg = 34) := c10
            rw [hcx] at c10
            have c22 : S 72 (nI x).toNatClampNeg = 1 := c22
            rw [hcx] at c22
            have c34 : ¬ (S 71 (nI x).toNatClampNeg = 19) := c34
            rw [hcx] at c34
            have c44 : S 73 (nI x).toNatClampNeg = 1 := c44
            rw [hcx] at c44
            have c57 : 9 < S 71 (nI x).toNatClampNeg := c57
            rw [hcx] at c57
            exact go_retz rfl rfl (Or.inr rfl) (q 1 (Or.inr ⟨rfl, c10, Or.inl c22⟩))
          · refine go_s 3 rfl ?_
            refine go_m rfl rfl (show vp_in (nI x) 960 from vp_in_nI hx (by decide)) ?_
            refine go_s 2 rfl ?_
            refine go_if (fun c67 => ?_) (fun c67 => ?_)
            · refine go_s 5 rfl ?_
              refine go_if (fun c78 => absurd c78 (by decide)) (fun c78 => ?_)
              refine go_s 2 rfl ?_
              have c10 : ¬ (S 71 (nI x).toNatClampNeg = 34) := c10
              rw [hcx] at c10
              have c22 : S 72 (nI x).toNatClampNeg = 1 := c22
              rw [hcx] at c22
              have c34 : ¬ (S 71 (nI x).toNatClampNeg = 19) := c34
              rw [hcx] at c34
              have c44 : S 73 (nI x).toNatClampNeg = 1 := c44
              rw [hcx] at c44
              have c57 : ¬ (9 < S 71 (nI x).toNatClampNeg) := c57
              rw [hcx] at c57
              have c67 : S 74 (nI x).toNatClampNeg = 1 := c67
              rw [hcx] at c67
              exact go_retz rfl rfl (Or.inr rfl) (q 1 (Or.inr ⟨rfl, c10, Or.inl c22⟩))
            · refine go_s 4 rfl ?_
              refine go_if (fun c78 => absurd c78 (by decide)) (fun c78 => ?_)
              refine go_s 2 rfl ?_
              have c10 : ¬ (S 71 (nI x).toNatClampNeg = 34) := c10
              rw [hcx] at c10
              have c22 : S 72 (nI x).toNatClampNeg = 1 := c22
              rw [hcx] at c22
              have c34 : ¬ (S 71 (nI x).toNatClampNeg = 19) := c34
              rw [hcx] at c34
              have c44 : S 73 (nI x).toNatClampNeg = 1 := c44
              rw [hcx] at c44
              have c57 : ¬ (9 < S 71 (nI x).toNatClampNeg) := c57
              rw [hcx] at c57
              have c67 : ¬ (S 74 (nI x).toNatClampNeg = 1) := c67
              rw [hcx] at c67
              exact go_retz rfl rfl (Or.inr rfl) (q 1 (Or.inr ⟨rfl, c10, Or.inl c22⟩))
        · refine go_s 5 rfl ?_
          refine go_if (fun c57 => ?_) (fun c57 => ?_)
          · refine go_s 4 rfl ?_
            refine go_if (fun c78 => absurd c78 (by decide)) (fun c78 => ?_)
            refine go_s 2 rfl ?_
            have c10 : ¬ (S 71 (nI x).toNatClampNeg = 34) := c10
            rw [hcx] at c10
            have c22 : S 72 (nI x).toNatClampNeg = 1 := c22
            rw [hcx] at c22
            have c34 : ¬ (S 71 (nI x).toNatClampNeg = 19) := c34
            rw [hcx] at c34
            have c44 : ¬ (S 73 (nI x).toNatClampNeg = 1) := c44
            rw [hcx] at c44
            have c57 : 9 < S 71 (nI x).toNatClampNeg := c57
            rw [hcx] at c57
            exact go_retz rfl rfl (Or.inr rfl) (q 1 (Or.inr ⟨rfl, c10, Or.inl c22⟩))
          · refine go_s 3 rfl ?_
            refine go_m rfl rfl (show vp_in (nI x) 960 from vp_in_nI hx (by decide)) ?_
            refine go_s 2 rfl ?_
            refine go_if (fun c67 => ?_) (fun c67 => ?_)
            · refine go_s 5 rfl ?_
              refine go_if (fun c78 => absurd c78 (by decide)) (fun c78 => ?_)
              refine go_s 2 rfl ?_
              have c10 : ¬ (S 71 (nI x).toNatClampNeg = 34) := c10
              rw [hcx] at c10
              have c22 : S 72 (nI x).toNatClampNeg = 1 := c22
              rw [hcx] at c22
              have c34 : ¬ (S 71 (nI x).toNatClampNeg = 19) := c34
              rw [hcx] at c34
              have c44 : ¬ (S 73 (nI x).toNatClampNeg = 1) := c44
              rw [hcx] at c44
              have c57 : ¬ (9 < S 71 (nI x).toNatClampNeg) := c57
              rw [hcx] at c57
              have c67 : S 74 (nI x).toNatClampNeg = 1 := c67
              rw [hcx] at c67
              exact go_retz rfl rfl (Or.inr rfl) (q 1 (Or.inr ⟨rfl, c10, Or.inl c22⟩))
            · refine go_s 4 rfl ?_
              refine go_if (fun c78 => absurd c78 (by decide)) (fun c78 => ?_)
              refine go_s 2 rfl ?_
              have c10 : ¬ (S 71 (nI x).toNatClampNeg = 34) := c10
              rw [hcx] at c10
              have c22 : S 72 (nI x).toNatClampNeg = 1 := c22
              rw [hcx] at c22
              have c34 : ¬ (S 71 (nI x).toNatClampNeg = 19) := c34
              rw [hcx] at c34
              have c44 : ¬ (S 73 (nI x).toNatClampNeg = 1) := c44
              rw [hcx] at c44
              have c57 : ¬ (9 < S 71 (nI x).toNatClampNeg) := c57
              rw [hcx] at c57
              have c67 : ¬ (S 74 (nI x).toNatClampNeg = 1) := c67
              rw [hcx] at c67
              exact go_retz rfl rfl (Or.inr rfl) (q 1 (Or.inr ⟨rfl, c10, Or.inl c22⟩))
    · refine go_s 5 rfl ?_
      refine go_if (fun c34 => ?_) (fun c34 => ?_)
      · refine go_s 5 rfl ?_
        refine go_if (fun c57 => ?_) (fun c57 => ?_)
        · refine go_s 4 rfl ?_
          refine go_if (fun c78 => ?_) (fun c78 => absurd (by decide) c78)
          refine go_s 2 rfl ?_
          refine go_if (fun c83 => ?_) (fun c83 => absurd (by decide) c83)
          refine go_s 2 rfl ?_
          refine go_if (fun c88 => ?_) (fun c88 => absurd (by decide) c88)
          refine go_s 1 rfl ?_
          have c10 : ¬ (S 71 (nI x).toNatClampNeg = 34) := c10
          rw [hcx] at c10
          have c22 : ¬ (S 72 (nI x).toNatClampNeg = 1) := c22
          rw [hcx] at c22
          have c34 : S 71 (nI x).toNatClampNeg = 19 := c34
          rw [hcx] at c34
          have c57 : 9 < S 71 (nI x).toNatClampNeg := c57
          rw [hcx] at c57
          exact go_retz rfl rfl (Or.inl rfl) (q 0 (Or.inl ⟨rfl, fun z => z.2.elim c22 (fun z => z.elim (fun z => z.1 c34) (fun z => z.1 c57))⟩))
        · refine go_s 3 rfl ?_
          refine go_m rfl rfl (show vp_in (nI x) 960 from vp_in_nI hx (by decide)) ?_
          refine go_s 2 rfl ?_
          refine go_if (fun c67 => ?_) (fun c67 => ?_)
          · refine go_s 5 rfl ?_
            refine go_if (fun c78 => ?_) (fun c78 => absurd (by decide) c78)
            refine go_s 2 rfl ?_
            refine go_if (fun c83 => ?_) (fun c83 => absurd (by decide) c83)
            refine go_s 2 rfl ?_
            refine go_if (fun c88 => absurd c88 (by decide)) (fun c88 => ?_)
            refine go_s 2 rfl ?_
            have c10 : ¬ (S 71 (nI x).toNatClampNeg = 34) := c10
            rw [hcx] at c10
            have c22 : ¬ (S 72 (nI x).toNatClampNeg = 1) := c22
            rw [hcx] at c22
            have c34 : S 71 (nI x).toNatClampNeg = 19 := c34
            rw [hcx] at c34
            have c57 : ¬ (9 < S 71 (nI x).toNatClampNeg) := c57
            rw [hcx] at c57
            have c67 : S 74 (nI x).toNatClampNeg = 1 := c67
            rw [hcx] at c67
            exact go_retz rfl rfl (Or.inr rfl) (q 1 (Or.inr ⟨rfl, c10, Or.inr (Or.inr ⟨c57, c67⟩)⟩))
          · refine go_s 4 rfl ?_
            refine go_if (fun c78 => ?_) (fun c78 => absurd (by decide) c78)
            refine go_s 2 rfl ?_
            refine go_if (fun c83 => ?_) (fun c83 => absurd (by decide) c83)
            refine go_s 2 rfl ?_
            refine go_if (fun c88 => ?_) (fun c88 => absurd (by decide) c88)
            refine go_s 1 rfl ?_
            have c10 : ¬ (S 71 (nI x).toNatClampNeg = 34) := c10
            rw [hcx] at c10
            have c22 : ¬ (S 72 (nI x).toNatClampNeg = 1) := c22
            rw [hcx] at c22
            have c34 : S 71 (nI x).toNatClampNeg = 19 := c34
            rw [hcx] at c34
            have c57 : ¬ (9 < S 71 (nI x).toNatClampNeg) := c57
            rw [hcx] at c57
            have c67 : ¬ (S 74 (nI x).toNatClampNeg = 1) := c67
            rw [hcx] at c67
            exact go_retz rfl rfl (Or.inl rfl) (q 0 (Or.inl ⟨rfl, fun z => z.2.elim c22 (fun z => z.elim (fun z => z.1 c34) (fun z => c67 z.2))⟩))
      · refine go_s 3 rfl ?_
        refine go_m rfl rfl (show vp_in (nI x) 960 from vp_in_nI hx (by decide)) ?_
        refine go_s 2 rfl ?_
        refine go_if (fun c44 => ?_) (fun c44 => ?_)
        · refine go_s 6 rfl ?_
          refine go_if (fun c57 => ?_) (fun c57 => ?_)
          · refine go_s 4 rfl ?_
            refine go_if (fun c78 => ?_) (fun c78 => absurd (by decide) c78)
            refine go_s 2 rfl ?_
            refine go_if (fun c83 => absurd c83 (by decide)) (fun c83 => ?_)
            refine go_s 2 rfl ?_
            have c10 : ¬ (S 71 (nI x).toNatClampNeg = 34) := c10
            rw [hcx] at c10
            have c22 : ¬ (S 72 (nI x).toNatClampNeg = 1) := c22
            rw [hcx] at c22
            have c34 : ¬ (S 71 (nI x).toNatClampNeg = 19) := c34
            rw [hcx] at c34
            have c44 : S 73 (nI x).toNatClampNeg = 1 := c44
            rw [hcx] at c44
            have c57 : 9 < S 71 (nI x).toNatClampNeg := c57
            rw [hcx] at c57
            exact go_retz rfl rfl (Or.inr rfl) (q 1 (Or.inr ⟨rfl, c10, Or.inr (Or.inl ⟨c34, c44⟩)⟩))
          · refine go_s 3 rfl ?_
            refine go_m rfl rfl (show vp_in (nI x) 960 from vp_in_nI hx (by decide)) ?_
            refine go_s 2 rfl ?_
            refine go_if (fun c67 => ?_) (fun c67 => ?_)
            · refine go_s 5 rfl ?_
              refine go_if (fun c78 => ?_) (fun c78 => absurd (by decide) c78)
              refine go_s 2 rfl ?_
              refine go_if (fun c83 => absurd c83 (by decide)) (fun c83 => ?_)
              refine go_s 2 rfl ?_
              have c10 : ¬ (S 71 (nI x).toNatClampNeg = 34) := c10
              rw [hcx] at c10
              have c22 : ¬ (S 72 (nI x).toNatClampNeg = 1) := c22
              rw [hcx] at c22
              have c34 : ¬ (S 71 (nI x).toNatClampNeg = 19) := c34
              rw [hcx] at c34
              have c44 : S 73 (nI x).toNatClampNeg = 1 := c44
              rw [hcx] at c44
              have c57 : ¬ (9 < S 71 (nI x).toNatClampNeg) := c57
              rw [hcx] at c57
              have c67 : S 74 (nI x).toNatClampNeg = 1 := c67
              rw [hcx] at c67
              exact go_retz rfl rfl (Or.inr rfl) (q 1 (Or.inr ⟨rfl, c10, Or.inr (Or.inl ⟨c34, c44⟩)⟩))
            · refine go_s 4 rfl ?_
              refine go_if (fun c78 => ?_) (fun c78 => absurd (by decide) c78)
              refine go_s 2 rfl ?_
              refine go_if (fun c83 => absurd c83 (by decide)) (fun c83 => ?_)
              refine go_s 2 rfl ?_
              have c10 : ¬ (S 71 (nI x).toNatClampNeg = 34) := c10
              rw [hcx] at c10
              have c22 : ¬ (S 72 (nI x).toNatClampNeg = 1) := c22
              rw [hcx] at c22
              have c34 : ¬ (S 71 (nI x).toNatClampNeg = 19) := c34
              rw [hcx] at c34
              have c44 : S 73 (nI x).toNatClampNeg = 1 := c44
              rw [hcx] at c44
              have c57 : ¬ (9 < S 71 (nI x).toNatClampNeg) := c57
              rw [hcx] at c57
              have c67 : ¬ (S 74 (nI x).toNatClampNeg = 1) := c67
              rw [hcx] at c67
              exact go_retz rfl rfl (Or.inr rfl) (q 1 (Or.inr ⟨rfl, c10, Or.inr (Or.inl ⟨c34, c44⟩)⟩))
        · refine go_s 5 rfl ?_
          refine go_if (fun c57 => ?_) (fun c57 => ?_)
          · refine go_s 4 rfl ?_
            refine go_if (fun c78 => ?_) (fun c78 => absurd (by decide) c78)
            refine go_s 2 rfl ?_
            refine go_if (fun c83 => ?_) (fun c83 => absurd (by decide) c83)
            refine go_s 2 rfl ?_
            refine go_if (fun c88 => ?_) (fun c88 => absurd (by decide) c88)
            refine go_s 1 rfl ?_
            have c10 : ¬ (S 71 (nI x).toNatClampNeg = 34) := c10
            rw [hcx] at c10
            have c22 : ¬ (S 72 (nI x).toNatClampNeg = 1) := c22
            rw [hcx] at c22
            have c34 : ¬ (S 71 (nI x).toNatClampNeg = 19) := c34
            rw [hcx] at c34
            have c44 : ¬ (S 73 (nI x).toNatClampNeg = 1) := c44
            rw [hcx] at c44
            have c57 : 9 < S 71 (nI x).toNatClampNeg := c57
            rw [hcx] at c57
            exact go_retz rfl rfl (Or.inl rfl) (q 0 (Or.inl ⟨rfl, fun z => z.2.elim c22 (fun z => z.elim (fun z => c44 z.2) (fun z => z.1 c57))⟩))
          · refine go_s 3 rfl ?_
            refine go_m rfl rfl (show vp_in (nI x) 960 from vp_in_nI hx (by decide)) ?_
            refine go_s 2 rfl ?_
            refine go_if (fun c67 => ?_) (fun c67 => ?_)
            · refine go_s 5 rfl ?_
              refine go_if (fun c78 => ?_) (fun c78 => absurd (by decide) c78)
              refine go_s 2 rfl ?_
              refine go_if (fun c83 => ?_) (fun c83 => absurd (by decide) c83)
              refine go_s 2 rfl ?_
              refine go_if (fun c88 => absurd c88 (by decide)) (fun c88 => ?_)
              refine go_s 2 rfl ?_
              have c10 : ¬ (S 71 (nI x).toNatClampNeg = 34) := c10
              rw [hcx] at c10
              have c22 : ¬ (S 72 (nI x).toNatClampNeg = 1) := c22
              rw [hcx] at c22
              have c34 : ¬ (S 71 (nI x).toNatClampNeg = 19) := c34
              rw [hcx] at c34
              have c44 : ¬ (S 73 (nI x).toNatClampNeg = 1) := c44
              rw [hcx] at c44
              have c57 : ¬ (9 < S 71 (nI x).toNatClampNeg) := c57
              rw [hcx] at c57
              have c67 : S 74 (nI x).toNatClampNeg = 1 := c67
              rw [hcx] at c67
              exact go_retz rfl rfl (Or.inr rfl) (q 1 (Or.inr ⟨rfl, c10, Or.inr (Or.inr ⟨c57, c67⟩)⟩))
            · refine go_s 4 rfl ?_
              refine go_if (fun c78 => ?_) (fun c78 => absurd (by decide) c78)
              refine go_s 2 rfl ?_
              refine go_if (fun c83 => ?_) (fun c83 => absurd (by decide) c83)
              refine go_s 2 rfl ?_
              refine go_if (fun c88 => ?_) (fun c88 => absurd (by decide) c88)
              refine go_s 1 rfl ?_
              have c10 : ¬ (S 71 (nI x).toNatClampNeg = 34) := c10
              rw [hcx] at c10
              have c22 : ¬ (S 72 (nI x).toNatClampNeg = 1) := c22
              rw [hcx] at c22
              have c34 : ¬ (S 71 (nI x).toNatClampNeg = 19) := c34
              rw [hcx] at c34
              have c44 : ¬ (S 73 (nI x).toNatClampNeg = 1) := c44
              rw [hcx] at c44
              have c57 : ¬ (9 < S 71 (nI x).toNatClampNeg) := c57
              rw [hcx] at c57
              have c67 : ¬ (S 74 (nI x).toNatClampNeg = 1) := c67
              rw [hcx] at c67
              exact go_retz rfl rfl (Or.inl rfl) (q 0 (Or.inl ⟨rfl, fun z => z.2.elim c22 (fun z => z.elim (fun z => c44 z.2) (fun z => c67 z.2))⟩))
theorem c_itg {C D S : Nat → Nat → Int32} {F : Nat} {sz : Nat → Nat} {e : am_E} {Q : am_Q} (hP : am_PG C D F sz) (hS : am_MS S D) {f p : Nat} (hf : f < F) (q : ∀ r, am_bz r (∃ r, r < sz f ∧ am_te D (40 * f + r) p) → Q (some (.int r)) (hp S e)) : ∀ (n kc ks r : Nat), sz f < n + r → r ≤ sz f → (∀ t, t < r → ¬ am_te D (40 * f + t) p) → am_Go (mX12_isTarget, 5, [.ref 69, .int (nI f), .int (nI p), .int (nI (40 * f + r))], [], hp S e, kc, ks, Q)
  | 0, kc, ks, r, h1, h2, hI => by omega
  | n + 1, kc, ks, r, h1, h2, hI => by
    have hF := hP.hF
    have h40 := hP.s40 f hf
    refine go_s 7 rfl ?_
    refine go_m rfl rfl (show vp_in (nI f) 24 from vp_in_nI (by omega) (by decide)) ?_
    refine go_s 2 rfl ?_
    refine go_if (fun c17 => ?_) (fun c17 => ?_)
    · have e16 : nI 40 * nI f + S 70 (nI f).toNatClampNeg = nI (40 * f + sz f) := by rw [nI_clamp (by omega), hS.me 70 f (by decide) (by decide), hP.m70 f hf, nI_mul, nI_add]
      have c17 : nI (40 * f + r) < nI 40 * nI f + S 70 (nI f).toNatClampNeg := c17
      rw [e16] at c17
      have hr : r < sz f := by
        have := (nI_ltI (a := 40 * f + r) (b := 40 * f + sz f) (by omega) (by omega)).mp c17
        omega
      have hX : vp_in (nI (40 * f + r)) 960 := vp_in_nI (by omega) (by decide)
      have hcx := nI_clamp (show 40 * f + r < 2 ^ 31 by omega)
      refine go_s 3 rfl ?_
      refine go_m rfl rfl hX ?_
      refine go_st kX12_isTarget_26 okX12_isBranch rfl rfl rfl (Nat.zero_le _) (Nat.zero_le _) ?_
      refine c_X12_isBranch ?_
      refine go_s 1 rfl ?_
      refine go_if (fun c29 => ?_) (fun c29 => ?_)
      · refine go_s 3 rfl ?_
        refine go_m rfl rfl hX ?_
        refine go_s 2 rfl ?_
        refine go_if (fun c50 => ?_) (fun c50 => ?_)
        · refine go_s 3 rfl ?_
          refine go_m rfl rfl hX ?_
          refine go_s 2 rfl ?_
          refine go_if (fun c60 => ?_) (fun c60 => ?_)
          · refine go_s 1 rfl ?_
            have c29 : zb (¬ S 71 (nI (40 * f + r)).toNatClampNeg < 22 ∧ ¬ 27 < S 71 (nI (40 * f + r)).toNatClampNeg) = 0 := c29
            rw [hcx, hS.me 71 _ (by decide) (by decide)] at c29
            have c50 : S 71 (nI (40 * f + r)).toNatClampNeg = 28 := c50
            rw [hcx, hS.me 71 _ (by decide) (by decide)] at c50
            have c60 : S 72 (nI (40 * f + r)).toNatClampNeg = nI p := c60
            rw [hcx, hS.me 72 _ (by decide) (by decide)] at c60
            exact go_retz rfl rfl (Or.inr rfl) (q 1 (Or.inr ⟨rfl, r, hr, Or.inr ⟨c50, c60⟩⟩))
          · have c29 : zb (¬ S 71 (nI (40 * f + r)).toNatClampNeg < 22 ∧ ¬ 27 < S 71 (nI (40 * f + r)).toNatClampNeg) = 0 := c29
            rw [hcx, hS.me 71 _ (by decide) (by decide)] at c29
            have c50 : S 71 (nI (40 * f + r)).toNatClampNeg = 28 := c50
            rw [hcx, hS.me 71 _ (by decide) (by decide)] at c50
            have c60 : ¬ (S 72 (nI (40 * f + r)).toNatClampNeg = nI p) := c60
            rw [hcx, hS.me 72 _ (by decide) (by decide)] at c60
            refine go_s 2 (pc' := 5) (ls' := [.ref 69, .int (nI f), .int (nI p), .int (nI (40 * f + (r + 1)))]) (st' := []) (h' := hp S e) (by rw [← Nat.add_assoc, ← nI_1]; rfl) ?_
            refine c_itg hP hS hf q n _ _ (r + 1) (by omega) (by omega) (fun t ht => ?_)
            by_cases et : t = r
            · rw [et]; exact fun z => z.elim (fun z => zb_0.mp c29 z.1) (fun z => c60 z.2)
            · exact hI t (by omega)
        · have c29 : zb (¬ S 71 (nI (40 * f + r)).toNatClampNeg < 22 ∧ ¬ 27 < S 71 (nI (40 * f + r)).toNatClampNeg) = 0 := c29
          rw [hcx, hS.me 71 _ (by decide) (by decide)] at c29
          have c50 : ¬ (S 71 (nI (40 * f + r)).toNatClampNeg = 28) := c50
          rw [hcx, hS.me 71 _ (by decide) (by decide)] at c50
          refine go_s 2 (pc' := 5) (ls' := [.ref 69, .int (nI f), .int (nI p), .int (nI (40 * f + (r + 1)))]) (st' := []) (h' := hp S e) (by rw [← Nat.add_assoc, ← nI_1]; rfl) ?_
          refine c_itg hP hS hf q n _ _ (r + 1) (by omega) (by omega) (fun t ht => ?_)
          by_cases et : t = r
          · rw [et]; exact fun z => z.elim (fun z => zb_0.mp c29 z.1) (fun z => c50 z.1)
          · exact hI t (by omega)
      · refine go_s 3 rfl ?_
        refine go_m rfl rfl hX ?_
        refine go_s 2 rfl ?_
        refine go_if (fun c39 => ?_) (fun c39 => ?_)
        · refine go_s 1 rfl ?_
          have c29 : ¬ (zb (¬ S 71 (nI (40 * f + r)).toNatClampNeg < 22 ∧ ¬ 27 < S 71 (nI (40 * f + r)).toNatClampNeg) = 0) := c29
          rw [hcx, hS.me 71 _ (by decide) (by decide)] at c29
          have c39 : S 74 (nI (40 * f + r)).toNatClampNeg = nI p := c39
          rw [hcx, hS.me 74 _ (by decide) (by decide)] at c39
          exact go_retz rfl rfl (Or.inr rfl) (q 1 (Or.inr ⟨rfl, r, hr, Or.inl ⟨zb_ne.mp c29, c39⟩⟩))
        · refine go_s 3 rfl ?_
          refine go_m rfl rfl hX ?_
          refine go_s 2 rfl ?_
          refine go_if (fun c50 => ?_) (fun c50 => ?_)
          · refine go_s 3 rfl ?_
            refine go_m rfl rfl hX ?_
            refine go_s 2 rfl ?_
            refine go_if (fun c60 => ?_) (fun c60 => ?_)
            · refine go_s 1 rfl ?_
              have c29 : ¬ (zb (¬ S 71 (nI (40 * f + r)).toNatClampNeg < 22 ∧ ¬ 27 < S 71 (nI (40 * f + r)).toNatClampNeg) = 0) := c29
              rw [hcx, hS.me 71 _ (by decide) (by decide)] at c29
              have c39 : ¬ (S 74 (nI (40 * f + r)).toNatClampNeg = nI p) := c39
              rw [hcx, hS.me 74 _ (by decide) (by decide)] at c39
              have c50 : S 71 (nI (40 * f + r)).toNatClampNeg = 28 := c50
              rw [hcx, hS.me 71 _ (by decide) (by decide)] at c50
              have c60 : S 72 (nI (40 * f + r)).toNatClampNeg = nI p := c60
              rw [hcx, hS.me 72 _ (by decide) (by decide)] at c60
              exact go_retz rfl rfl (Or.inr rfl) (q 1 (Or.inr ⟨rfl, r, hr, Or.inr ⟨c50, c60⟩⟩))
            · have c29 : ¬ (zb (¬ S 71 (nI (40 * f + r)).toNatClampNeg < 22 ∧ ¬ 27 < S 71 (nI (40 * f + r)).toNatClampNeg) = 0) := c29
              rw [hcx, hS.me 71 _ (by decide) (by decide)] at c29
              have c39 : ¬ (S 74 (nI (40 * f + r)).toNatClampNeg = nI p) := c39
              rw [hcx, hS.me 74 _ (by decide) (by decide)] at c39
              have c50 : S 71 (nI (40 * f + r)).toNatClampNeg = 28 := c50
              rw [hcx, hS.me 71 _ (by decide) (by decide)] at c50
              have c60 : ¬ (S 72 (nI (40 * f + r)).toNatClampNeg = nI p) := c60
              rw [hcx, hS.me 72 _ (by decide) (by decide)] at c60
              refine go_s 2 (pc' := 5) (ls' := [.ref 69, .int (nI f), .int (nI p), .int (nI (40 * f + (r + 1)))]) (st' := []) (h' := hp S e) (by rw [← Nat.add_assoc, ← nI_1]; rfl) ?_
              refine c_itg hP hS hf q n _ _ (r + 1) (by omega) (by omega) (fun t ht => ?_)
              by_cases et : t = r
              · rw [et]; exact fun z => z.elim (fun z => c39 z.2) (fun z => c60 z.2)
              · exact hI t (by omega)
          · have c29 : ¬ (zb (¬ S 71 (nI (40 * f + r)).toNatClampNeg < 22 ∧ ¬ 27 < S 71 (nI (40 * f + r)).toNatClampNeg) = 0) := c29
            rw [hcx, hS.me 71 _ (by decide) (by decide)] at c29
            have c39 : ¬ (S 74 (nI (40 * f + r)).toNatClampNeg = nI p) := c39
            rw [hcx, hS.me 74 _ (by decide) (by decide)] at c39
            have c50 : ¬ (S 71 (nI (40 * f + r)).toNatClampNeg = 28) := c50
            rw [hcx, hS.me 71 _ (by decide) (by decide)] at c50
            refine go_s 2 (pc' := 5) (ls' := [.ref 69, .int (nI f), .int (nI p), .int (nI (40 * f + (r + 1)))]) (st' := []) (h' := hp S e) (by rw [← Nat.add_assoc, ← nI_1]; rfl) ?_
            refine c_itg hP hS hf q n _ _ (r + 1) (by omega) (by omega) (fun t ht => ?_)
            by_cases et : t = r
            · rw [et]; exact fun z => z.elim (fun z => c39 z.2) (fun z => c50 z.1)
            · exact hI t (by omega)
    · refine go_s 1 rfl ?_
      have e16 : nI 40 * nI f + S 70 (nI f).toNatClampNeg = nI (40 * f + sz f) := by rw [nI_clamp (by omega), hS.me 70 f (by decide) (by decide), hP.m70 f hf, nI_mul, nI_add]
      have c17 : ¬ nI (40 * f + r) < nI 40 * nI f + S 70 (nI f).toNatClampNeg := c17
      rw [e16] at c17
      have hge := mt (nI_lt (a := 40 * f + r) (b := 40 * f + sz f) · (by omega)) c17
      exact go_retz rfl rfl (Or.inl rfl) (q 0 (Or.inl ⟨rfl, fun ⟨t, y1, y2⟩ => hI t (by omega) y2⟩))
theorem c_X12_isTarget {C D S : Nat → Nat → Int32} {F : Nat} {sz : Nat → Nat} {e : am_E} {Q : am_Q} (hP : am_PG C D F sz) (hS : am_MS S D) {f p : Nat} (hf : f < F) (q : ∀ r, am_bz r (∃ r, r < sz f ∧ am_te D (40 * f + r) p) → Q (some (.int r)) (hp S e)) {kc ks : Nat} : am_Go (mX12_isTarget, 0, am_ent mX12_isTarget [.ref 69, .int (nI f), .int (nI p)], [], hp S e, kc, ks, Q) := by
  refine go_s 4 (pc' := 5) (ls' := [.ref 69, .int (nI f), .int (nI p), .int (nI (40 * f + 0))]) (st' := []) (h' := hp S e) (by rw [Nat.add_zero, ← nI_mul]; rfl) ?_
  exact c_itg hP hS hf q (sz f + 1) _ _ 0 (by omega) (by omega) (fun t ht => by omega)
theorem c_ift {C D S : Nat → Nat → Int32} {F : Nat} {sz : Nat → Nat} {B U : Nat → Prop} {e : am_E} {Q : am_Q} (hP : am_PG C D F sz) (hS : am_MS S D) (hop : ∀ f, f < F → ¬ am_Op D sz f) (hm : ∀ f p, f < F → p < sz f → am_bz (S 90 (40 * f + p)) (am_op D F sz B (am_st sz f + p) ∧ ¬ U (am_st sz f + p))) (ht : ∀ f p, f < F → p < sz f → am_bz (S 91 (40 * f + p)) (∃ r, r < sz f ∧ am_te D (40 * f + r) p)) {f p m : Nat} (hf : f < F) (hpf : p < sz f) (h1 : 1 ≤ m) (hm20 : m ≤ 20) (q : ∀ r, am_bz r (sq_ft (am_st sz F) (am_op D F sz B) (am_en D F sz B) U (am_st sz f + p) m) → Q (some (.int r)) (hp S e)) (hpm : p + m ≤ sz f) : ∀ (n kc ks i : Nat) (v : Int32), m < n + i → i ≤ m → am_bz v (∀ t, t < i → am_op D F sz B (am_st sz f + p + t) ∧ ¬ U (am_st sz f + p + t) ∧ (t = 0 ∨ ¬ am_en D F sz B (am_st sz f + p + t))) → am_Go (mX12_isFit, 20, [.ref 69, .int (nI f), .int (nI p), .int (nI m), .int v, .int (nI i)], [], hp S e, kc, ks, Q)
  | 0, kc, ks, i, v, g1, g2, hI => by omega
  | n + 1, kc, ks, i, v, g1, g2, hI => by
    have hF := hP.hF
    have h40 := hP.s40 f hf
    have hlt := hP.lt hf (show sz f - 1 < sz f by omega)
    refine go_s 3 rfl ?_
    refine go_if (fun c23 => ?_) (fun c23 => ?_)
    · refine go_s 2 rfl ?_
      refine go_if (fun c28 => ?_) (fun c28 => ?_)
      · refine go_s 1 rfl ?_
        exact go_retz rfl rfl (Or.inl c28) (q v (Or.inl ⟨c28, fun z => am_bz_0 hI c28 (fun t ht => z.2 t (by omega))⟩))
      · have c23 : nI i < nI m := c23
        have him := (nI_ltI (a := i) (b := m) (by omega) (by omega)).mp c23
        have eX : nI 40 * nI f + nI p + nI i = nI (40 * f + (p + i)) := by rw [nI_mul, nI_add, nI_add, Nat.add_assoc]
        have hX : vp_in (nI 40 * nI f + nI p + nI i) 960 := by rw [eX]; exact vp_in_nI (by omega) (by decide)
        have hcx : (nI 40 * nI f + nI p + nI i).toNatClampNeg = 40 * f + (p + i) := by rw [eX]; exact nI_clamp (by omega)
        have w := am_bz_n hI c28
        have hmi := hm f (p + i) hf (by omega)
        have hti := ht f (p + i) hf (by omega)
        rw [← Nat.add_assoc (am_st sz f)] at hmi
        refine go_s 9 rfl ?_
        refine go_m rfl rfl hX ?_
        refine go_s 1 rfl ?_
        refine go_if (fun c45 => ?_) (fun c45 => ?_)
        · have c45 : S 90 (nI 40 * nI f + nI p + nI i).toNatClampNeg = 0 := c45
          rw [hcx] at c45
          refine go_s 4 (pc' := 20) (ls' := [.ref 69, .int (nI f), .int (nI p), .int (nI m), .int 0, .int (nI (i + 1))]) (st' := []) (h' := hp S e) (by rw [← nI_1 i]; rfl) ?_
          exact c_ift hP hS hop hm ht hf hpf h1 hm20 q hpm n _ _ (i + 1) _ (by omega) (by omega) (Or.inl ⟨rfl, fun z => am_bz_0 hmi c45 ⟨(z i (by omega)).1, (z i (by omega)).2.1⟩⟩)
        · refine go_s 2 rfl ?_
          refine go_if (fun c50 => ?_) (fun c50 => ?_)
          · have c45 : ¬ S 90 (nI 40 * nI f + nI p + nI i).toNatClampNeg = 0 := c45
            rw [hcx] at c45
            have c50 : nI i = 0 := c50
            have hmo := am_bz_n hmi c45
            have hB : B f := ((am_op_i (D := D) (sz := sz) (B := B) (p := p + i) hf (by omega)).mp (by rw [← Nat.add_assoc]; exact hmo.1)).1
            have hnew : (i = 0 ∨ ¬ am_en D F sz B (am_st sz f + p + i)) → ∀ t, t < i + 1 → am_op D F sz B (am_st sz f + p + t) ∧ ¬ U (am_st sz f + p + t) ∧ (t = 0 ∨ ¬ am_en D F sz B (am_st sz f + p + t)) := fun z t ht => by
              by_cases et : t = i
              · rw [et]; exact ⟨hmo.1, hmo.2, z⟩
              · exact w t (by omega)
            refine go_s 5 (pc' := 20) (ls' := [.ref 69, .int (nI f), .int (nI p), .int (nI m), .int 1, .int (nI (i + 1))]) (st' := []) (h' := hp S e) (by rw [← nI_1 i]; rfl) ?_
            exact c_ift hP hS hop hm ht hf hpf h1 hm20 q hpm n _ _ (i + 1) _ (by omega) (by omega) (Or.inr ⟨rfl, hnew (Or.inl ((nI_eq (b := 0) (by omega) (by decide)).mp c50))⟩)
          · refine go_s 9 rfl ?_
            refine go_m rfl rfl hX ?_
            refine go_s 1 rfl ?_
            refine go_if (fun c67 => ?_) (fun c67 => ?_)
            · have c45 : ¬ S 90 (nI 40 * nI f + nI p + nI i).toNatClampNeg = 0 := c45
              rw [hcx] at c45
              have c50 : ¬ nI i = 0 := c50
              have c67 : S 91 (nI 40 * nI f + nI p + nI i).toNatClampNeg = 0 := c67
              rw [hcx] at c67
              have hmo := am_bz_n hmi c45
              have hB : B f := ((am_op_i (D := D) (sz := sz) (B := B) (p := p + i) hf (by omega)).mp (by rw [← Nat.add_assoc]; exact hmo.1)).1
              have hnew : (i = 0 ∨ ¬ am_en D F sz B (am_st sz f + p + i)) → ∀ t, t < i + 1 → am_op D F sz B (am_st sz f + p + t) ∧ ¬ U (am_st sz f + p + t) ∧ (t = 0 ∨ ¬ am_en D F sz B (am_st sz f + p + t)) := fun z t ht => by
                by_cases et : t = i
                · rw [et]; exact ⟨hmo.1, hmo.2, z⟩
                · exact w t (by omega)
              refine go_s 5 (pc' := 20) (ls' := [.ref 69, .int (nI f), .int (nI p), .int (nI m), .int 1, .int (nI (i + 1))]) (st' := []) (h' := hp S e) (by rw [← nI_1 i]; rfl) ?_
              exact c_ift hP hS hop hm ht hf hpf h1 hm20 q hpm n _ _ (i + 1) _ (by omega) (by omega) (Or.inr ⟨rfl, hnew (Or.inr (fun z => am_bz_0 hti c67 ((am_en_i (D := D) (sz := sz) (B := B) (p := p + i) hf (by omega)).mp (by rw [← Nat.add_assoc]; exact z)).2))⟩)
            · have c45 : ¬ S 90 (nI 40 * nI f + nI p + nI i).toNatClampNeg = 0 := c45
              rw [hcx] at c45
              have c50 : ¬ nI i = 0 := c50
              have c67 : ¬ S 91 (nI 40 * nI f + nI p + nI i).toNatClampNeg = 0 := c67
              rw [hcx] at c67
              have hmo := am_bz_n hmi c45
              have hB : B f := ((am_op_i (D := D) (sz := sz) (B := B) (p := p + i) hf (by omega)).mp (by rw [← Nat.add_assoc]; exact hmo.1)).1
              have hnew : (i = 0 ∨ ¬ am_en D F sz B (am_st sz f + p + i)) → ∀ t, t < i + 1 → am_op D F sz B (am_st sz f + p + t) ∧ ¬ U (am_st sz f + p + t) ∧ (t = 0 ∨ ¬ am_en D F sz B (am_st sz f + p + t)) := fun z t ht => by
                by_cases et : t = i
                · rw [et]; exact ⟨hmo.1, hmo.2, z⟩
                · exact w t (by omega)
              refine go_s 4 (pc' := 20) (ls' := [.ref 69, .int (nI f), .int (nI p), .int (nI m), .int 0, .int (nI (i + 1))]) (st' := []) (h' := hp S e) (by rw [← nI_1 i]; rfl) ?_
              exact c_ift hP hS hop hm ht hf hpf h1 hm20 q hpm n _ _ (i + 1) _ (by omega) (by omega) (Or.inl ⟨rfl, fun z => (z i (by omega)).2.2.elim (fun y => c50 (by rw [y]; rfl)) (fun y => y (by rw [Nat.add_assoc]; exact (am_en_i (D := D) (sz := sz) (B := B) (p := p + i) hf (by omega)).mpr ⟨hB, am_bz_n hti c67⟩))⟩)
    · refine go_s 1 rfl ?_
      have c23 := mt (nI_lt (a := i) (b := m) · (by omega)) c23
      exact go_retz rfl rfl (hI.imp (fun z => z.1) (fun z => z.1)) (q v (am_bz_iff hI ⟨fun z => ⟨by omega, fun t ht => z t (by omega)⟩, fun z t ht => z.2 t (by omega)⟩))
theorem c_X12_isFit {C D S : Nat → Nat → Int32} {F : Nat} {sz : Nat → Nat} {B U : Nat → Prop} {e : am_E} {Q : am_Q} (hP : am_PG C D F sz) (hS : am_MS S D) (hop : ∀ f, f < F → ¬ am_Op D sz f) (hm : ∀ f p, f < F → p < sz f → am_bz (S 90 (40 * f + p)) (am_op D F sz B (am_st sz f + p) ∧ ¬ U (am_st sz f + p))) (ht : ∀ f p, f < F → p < sz f → am_bz (S 91 (40 * f + p)) (∃ r, r < sz f ∧ am_te D (40 * f + r) p)) {f p m : Nat} (hf : f < F) (hpf : p < sz f) (h1 : 1 ≤ m) (hm20 : m ≤ 20) (q : ∀ r, am_bz r (sq_ft (am_st sz F) (am_op D F sz B) (am_en D F sz B) U (am_st sz f + p) m) → Q (some (.int r)) (hp S e)) {kc ks : Nat} : am_Go (mX12_isFit, 0, am_ent mX12_isFit [.ref 69, .int (nI f), .int (nI p), .int (nI m)], [], hp S e, kc, ks, Q) := by
  have hF := hP.hF
  have h40 := hP.s40 f hf
  have e70 : S 70 (nI f).toNatClampNeg = nI (sz f) := by rw [nI_clamp (by omega), hS.me 70 f (by decide) (by decide)]; exact hP.m70 f hf
  refine go_s 6 rfl ?_
  refine go_m rfl rfl (show vp_in (nI f) 24 from vp_in_nI (by omega) (by decide)) ?_
  refine go_s 1 rfl ?_
  refine go_if (fun c9 => ?_) (fun c9 => ?_)
  · refine go_s 1 rfl ?_
    have c9 : S 70 (nI f).toNatClampNeg < nI p + nI m := c9
    rw [e70, nI_add] at c9
    have c9 := (nI_ltI (by omega) (by omega)).mp c9
    exact go_retz rfl rfl (Or.inl rfl) (q 0 (Or.inl ⟨rfl, fun z => by have := sq_ft_in hop hf hpf h1 z; omega⟩))
  · have c9 : ¬ S 70 (nI f).toNatClampNeg < nI p + nI m := c9
    rw [e70, nI_add] at c9
    have c9 := mt (nI_lt (a := sz f) (b := p + m) · (by omega)) c9
    refine go_s 4 (pc' := 20) (ls' := [.ref 69, .int (nI f), .int (nI p), .int (nI m), .int 1, .int (nI 0)]) (st' := []) (h' := hp S e) rfl ?_
    exact c_ift hP hS hop hm ht hf hpf h1 hm20 q (by omega) (m + 1) _ _ 0 _ (by omega) (by omega) (Or.inr ⟨rfl, fun t ht => by omega⟩)
