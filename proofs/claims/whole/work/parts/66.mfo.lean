def am_MS (S D : Nat → Nat → Int32) : Prop := (S 69 1 = D 69 1) ∧ (S 69 2 = D 69 2) ∧ (∀ c j, 70 ≤ c → c ≤ 74 → S c j = D c j)
theorem am_MS.m1 {S D : Nat → Nat → Int32} (h : am_MS S D) : S 69 1 = D 69 1 := h.1
theorem am_MS.m2 {S D : Nat → Nat → Int32} (h : am_MS S D) : S 69 2 = D 69 2 := h.2.1
theorem am_MS.me {S D : Nat → Nat → Int32} (h : am_MS S D) : ∀ c j, 70 ≤ c → c ≤ 74 → S c j = D c j := h.2.2
theorem am_MS.pg {C D S : Nat → Nat → Int32} {F : Nat} {sz : Nat → Nat} (h : am_MS S D) (hP : am_PG C D F sz) : am_PG C S F sz := hP.fr (fun _ _ _ _ _ => rfl) (fun c j h1 h2 h3 => by
  by_cases e : c = 69
  · subst e
    rcases h3 rfl with h3 | h3
    · rw [h3]; exact h.m1
    · rw [h3]; exact h.m2
  · exact h.me c j (by omega) h2)
theorem am_MS.u {D S S' : Nat → Nat → Int32} (h : am_MS S D) (hf : ∀ c j, 69 ≤ c → c ≤ 74 → (c = 69 → j = 1 ∨ j = 2) → S' c j = S c j) : am_MS S' D := ⟨(hf 69 1 (by decide) (by decide) (by decide)).trans h.m1, (hf 69 2 (by decide) (by decide) (by decide)).trans h.m2, fun c j h1 h2 => (hf c j (by omega) h2 (by omega)).trans (h.me c j h1 h2)⟩
theorem am_kpt_iff {k a b : Int32} : am_kpt k a = am_kpt k b ↔ (¬ k = 0 → a = b) := by
  unfold am_kpt
  by_cases h : k = 0
  · rw [if_pos h, if_pos h]; exact ⟨fun _ z => absurd h z, fun _ => rfl⟩
  · rw [if_neg h, if_neg h]; exact ⟨fun z _ => z, fun z => z h⟩
theorem am_tA : ∀ k, k < 35 → ((¬ nI k = 31 ∧ ¬ nI k = 34) ↔ ¬ am_kA (nI k) = 0) := by decide +kernel
theorem am_tB : ∀ k, k < 35 → ((¬ 27 < nI k ∨ nI k = 32) ↔ ¬ am_kB (nI k) = 0) := by decide +kernel
theorem am_tC : ∀ k, k < 35 → ((¬ 27 < nI k ∧ ¬ nI k = 19) ↔ ¬ am_kC (nI k) = 0) := by decide +kernel
theorem am_fS_m {D : Nat → Nat → Int32} {x y : Nat} (hx : ∃ k, k < 35 ∧ D 71 x = nI k) : am_fS D x y ↔ (D 71 x = D 71 y ∧ ((¬ D 71 x = 31 ∧ ¬ D 71 x = 34) → D 72 x = D 72 y) ∧ ((¬ 27 < D 71 x ∨ D 71 x = 32) → D 73 x = D 73 y) ∧ ((¬ 27 < D 71 x ∧ ¬ D 71 x = 19) → D 74 x = D 74 y)) := by
  obtain ⟨k, hk, e⟩ := hx
  unfold am_fS
  constructor
  · rintro ⟨h1, h2, h3, h4⟩
    rw [← h1, am_kpt_iff, e] at h2 h3 h4
    rw [e]
    exact ⟨by rw [← e]; exact h1, fun z => h2 ((am_tA k hk).mp z), fun z => h3 ((am_tB k hk).mp z), fun z => h4 ((am_tC k hk).mp z)⟩
  · rintro ⟨h1, h2, h3, h4⟩
    rw [← h1, am_kpt_iff, am_kpt_iff, am_kpt_iff]
    rw [e] at h2 h3 h4 ⊢
    exact ⟨rfl, fun z => h2 ((am_tA k hk).mpr z), fun z => h3 ((am_tB k hk).mpr z), fun z => h4 ((am_tC k hk).mpr z)⟩
theorem c_X12_isSame {S : Nat → Nat → Int32} {e : am_E} {kc ks x y : Nat} {Q : am_Q} (hx : x < 960) (hy : y < 960) (hk : ∃ k, k < 35 ∧ S 71 x = nI k) (q : ∀ r, am_bz r (am_fS S x y) → Q (some (.int r)) (hp S e)) : am_Go (mX12_isSame, 0, am_ent mX12_isSame [.ref 69, .int (nI x), .int (nI y)], [], hp S e, kc, ks, Q) := by
  have hcx := nI_clamp (show x < 2 ^ 31 by omega)
  have hcy := nI_clamp (show y < 2 ^ 31 by omega)
  refine go_s 3 rfl ?_
  refine go_m rfl rfl (show vp_in (nI x) 960 from vp_in_nI hx (by decide)) ?_
  refine go_s 5 rfl ?_
  refine go_m rfl rfl (show vp_in (nI y) 960 from vp_in_nI hy (by decide)) ?_
  refine go_s 1 rfl ?_
  refine go_if (fun c14 => ?_) (fun c14 => ?_)
  · refine go_s 1 rfl ?_
    refine go_st kX12_isSame_18 okX12_tellsA rfl rfl rfl (Nat.zero_le _) (Nat.zero_le _) ?_
    refine c_X12_tellsA ?_
    refine go_s 1 rfl ?_
    refine go_if (fun c21 => ?_) (fun c21 => ?_)
    · refine go_s 1 rfl ?_
      refine go_st kX12_isSame_40 okX12_tellsB rfl rfl rfl (Nat.zero_le _) (Nat.zero_le _) ?_
      refine c_X12_tellsB ?_
      refine go_s 1 rfl ?_
      refine go_if (fun c43 => ?_) (fun c43 => ?_)
      · refine go_s 1 rfl ?_
        refine go_st kX12_isSame_62 okX12_tellsC rfl rfl rfl (Nat.zero_le _) (Nat.zero_le _) ?_
        refine c_X12_tellsC ?_
        refine go_s 1 rfl ?_
        refine go_if (fun c65 => ?_) (fun c65 => ?_)
        · refine go_s 2 rfl ?_
          have c14 : S 71 (nI x).toNatClampNeg = S 71 (nI y).toNatClampNeg := c14
          rw [hcx, hcy] at c14
          have c21 : zb (¬ S 71 (nI x).toNatClampNeg = 31 ∧ ¬ S 71 (nI x).toNatClampNeg = 34) = 0 := c21
          rw [hcx] at c21
          have c43 : zb (¬ 27 < S 71 (nI x).toNatClampNeg ∨ S 71 (nI x).toNatClampNeg = 32) = 0 := c43
          rw [hcx] at c43
          have c65 : zb (¬ 27 < S 71 (nI x).toNatClampNeg ∧ ¬ S 71 (nI x).toNatClampNeg = 19) = 0 := c65
          rw [hcx] at c65
          exact go_retz rfl rfl (Or.inr rfl) (q 1 (Or.inr ⟨rfl, (am_fS_m hk).mpr ⟨c14, (fun z => absurd z (zb_0.mp c21)), (fun z => absurd z (zb_0.mp c43)), (fun z => absurd z (zb_0.mp c65))⟩⟩))
        · refine go_s 3 rfl ?_
          refine go_m rfl rfl (show vp_in (nI x) 960 from vp_in_nI hx (by decide)) ?_
          refine go_s 3 rfl ?_
          refine go_m rfl rfl (show vp_in (nI y) 960 from vp_in_nI hy (by decide)) ?_
          refine go_s 1 rfl ?_
          refine go_if (fun c80 => ?_) (fun c80 => ?_)
          · refine go_s 2 rfl ?_
            have c14 : S 71 (nI x).toNatClampNeg = S 71 (nI y).toNatClampNeg := c14
            rw [hcx, hcy] at c14
            have c21 : zb (¬ S 71 (nI x).toNatClampNeg = 31 ∧ ¬ S 71 (nI x).toNatClampNeg = 34) = 0 := c21
            rw [hcx] at c21
            have c43 : zb (¬ 27 < S 71 (nI x).toNatClampNeg ∨ S 71 (nI x).toNatClampNeg = 32) = 0 := c43
            rw [hcx] at c43
            have c65 : ¬ (zb (¬ 27 < S 71 (nI x).toNatClampNeg ∧ ¬ S 71 (nI x).toNatClampNeg = 19) = 0) := c65
            rw [hcx] at c65
            have c80 : S 74 (nI x).toNatClampNeg = S 74 (nI y).toNatClampNeg := c80
            rw [hcx, hcy] at c80
            exact go_retz rfl rfl (Or.inr rfl) (q 1 (Or.inr ⟨rfl, (am_fS_m hk).mpr ⟨c14, (fun z => absurd z (zb_0.mp c21)), (fun z => absurd z (zb_0.mp c43)), (fun _ => c80)⟩⟩))
          · refine go_s 1 rfl ?_
            have c14 : S 71 (nI x).toNatClampNeg = S 71 (nI y).toNatClampNeg := c14
            rw [hcx, hcy] at c14
            have c21 : zb (¬ S 71 (nI x).toNatClampNeg = 31 ∧ ¬ S 71 (nI x).toNatClampNeg = 34) = 0 := c21
            rw [hcx] at c21
            have c43 : zb (¬ 27 < S 71 (nI x).toNatClampNeg ∨ S 71 (nI x).toNatClampNeg = 32) = 0 := c43
            rw [hcx] at c43
            have c65 : ¬ (zb (¬ 27 < S 71 (nI x).toNatClampNeg ∧ ¬ S 71 (nI x).toNatClampNeg = 19) = 0) := c65
            rw [hcx] at c65
            have c80 : ¬ (S 74 (nI x).toNatClampNeg = S 74 (nI y).toNatClampNeg) := c80
            rw [hcx, hcy] at c80
            exact go_retz rfl rfl (Or.inl rfl) (q 0 (Or.inl ⟨rfl, fun z => by rw [am_fS_m hk] at z; exact c80 (z.2.2.2 (zb_ne.mp c65))⟩))
      · refine go_s 3 rfl ?_
        refine go_m rfl rfl (show vp_in (nI x) 960 from vp_in_nI hx (by decide)) ?_
        refine go_s 3 rfl ?_
        refine go_m rfl rfl (show vp_in (nI y) 960 from vp_in_nI hy (by decide)) ?_
        refine go_s 1 rfl ?_
        refine go_if (fun c58 => ?_) (fun c58 => ?_)
        · refine go_s 1 rfl ?_
          refine go_st kX12_isSame_62 okX12_tellsC rfl rfl rfl (Nat.zero_le _) (Nat.zero_le _) ?_
          refine c_X12_tellsC ?_
          refine go_s 1 rfl ?_
          refine go_if (fun c65 => ?_) (fun c65 => ?_)
          · refine go_s 2 rfl ?_
            have c14 : S 71 (nI x).toNatClampNeg = S 71 (nI y).toNatClampNeg := c14
            rw [hcx, hcy] at c14
            have c21 : zb (¬ S 71 (nI x).toNatClampNeg = 31 ∧ ¬ S 71 (nI x).toNatClampNeg = 34) = 0 := c21
            rw [hcx] at c21
            have c43 : ¬ (zb (¬ 27 < S 71 (nI x).toNatClampNeg ∨ S 71 (nI x).toNatClampNeg = 32) = 0) := c43
            rw [hcx] at c43
            have c58 : S 73 (nI x).toNatClampNeg = S 73 (nI y).toNatClampNeg := c58
            rw [hcx, hcy] at c58
            have c65 : zb (¬ 27 < S 71 (nI x).toNatClampNeg ∧ ¬ S 71 (nI x).toNatClampNeg = 19) = 0 := c65
            rw [hcx] at c65
            exact go_retz rfl rfl (Or.inr rfl) (q 1 (Or.inr ⟨rfl, (am_fS_m hk).mpr ⟨c14, (fun z => absurd z (zb_0.mp c21)), (fun _ => c58), (fun z => absurd z (zb_0.mp c65))⟩⟩))
          · refine go_s 3 rfl ?_
            refine go_m rfl rfl (show vp_in (nI x) 960 from vp_in_nI hx (by decide)) ?_
            refine go_s 3 rfl ?_
            refine go_m rfl rfl (show vp_in (nI y) 960 from vp_in_nI hy (by decide)) ?_
            refine go_s 1 rfl ?_
            refine go_if (fun c80 => ?_) (fun c80 => ?_)
            · refine go_s 2 rfl ?_
              have c14 : S 71 (nI x).toNatClampNeg = S 71 (nI y).toNatClampNeg := c14
              rw [hcx, hcy] at c14
              have c21 : zb (¬ S 71 (nI x).toNatClampNeg = 31 ∧ ¬ S 71 (nI x).toNatClampNeg = 34) = 0 := c21
              rw [hcx] at c21
              have c43 : ¬ (zb (¬ 27 < S 71 (nI x).toNatClampNeg ∨ S 71 (nI x).toNatClampNeg = 32) = 0) := c43
              rw [hcx] at c43
              have c58 : S 73 (nI x).toNatClampNeg = S 73 (nI y).toNatClampNeg := c58
              rw [hcx, hcy] at c58
              have c65 : ¬ (zb (¬ 27 < S 71 (nI x).toNatClampNeg ∧ ¬ S 71 (nI x).toNatClampNeg = 19) = 0) := c65
              rw [hcx] at c65
              have c80 : S 74 (nI x).toNatClampNeg = S 74 (nI y).toNatClampNeg := c80
              rw [hcx, hcy] at c80
              exact go_retz rfl rfl (Or.inr rfl) (q 1 (Or.inr ⟨rfl, (am_fS_m hk).mpr ⟨c14, (fun z => absurd z (zb_0.mp c21)), (fun _ => c58), (fun _ => c80)⟩⟩))
            · refine go_s 1 rfl ?_
              have c14 : S 71 (nI x).toNatClampNeg = S 71 (nI y).toNatClampNeg := c14
              rw [hcx, hcy] at c14
              have c21 : zb (¬ S 71 (nI x).toNatClampNeg = 31 ∧ ¬ S 71 (nI x).toNatClampNeg = 34) = 0 := c21
              rw [hcx] at c21
              have c43 : ¬ (zb (¬ 27 < S 71 (nI x).toNatClampNeg ∨ S 71 (nI x).toNatClampNeg = 32) = 0) := c43
              rw [hcx] at c43
              have c58 : S 73 (nI x).toNatClampNeg = S 73 (nI y).toNatClampNeg := c58
              rw [hcx, hcy] at c58
              have c65 : ¬ (zb (¬ 27 < S 71 (nI x).toNatClampNeg ∧ ¬ S 71 (nI x).toNatClampNeg = 19) = 0) := c65
              rw [hcx] at c65
              have c80 : ¬ (S 74 (nI x).toNatClampNeg = S 74 (nI y).toNatClampNeg) := c80
              rw [hcx, hcy] at c80
              exact go_retz rfl rfl (Or.inl rfl) (q 0 (Or.inl ⟨rfl, fun z => by rw [am_fS_m hk] at z; exact c80 (z.2.2.2 (zb_ne.mp c65))⟩))
        · refine go_s 1 rfl ?_
          have c14 : S 71 (nI x).toNatClampNeg = S 71 (nI y).toNatClampNeg := c14
          rw [hcx, hcy] at c14
          have c21 : zb (¬ S 71 (nI x).toNatClampNeg = 31 ∧ ¬ S 71 (nI x).toNatClampNeg = 34) = 0 := c21
          rw [hcx] at c21
          have c43 : ¬ (zb (¬ 27 < S 71 (nI x).toNatClampNeg ∨ S 71 (nI x).toNatClampNeg = 32) = 0) := c43
          rw [hcx] at c43
          have c58 : ¬ (S 73 (nI x).toNatClampNeg = S 73 (nI y).toNatClampNeg) := c58
          rw [hcx, hcy] at c58
          exact go_retz rfl rfl (Or.inl rfl) (q 0 (Or.inl ⟨rfl, fun z => by rw [am_fS_m hk] at z; exact c58 (z.2.2.1 (zb_ne.mp c43))⟩))
    · refine go_s 3 rfl ?_
      refine go_m rfl rfl (show vp_in (nI x) 960 from vp_in_nI hx (by decide)) ?_
      refine go_s 3 rfl ?_
      refine go_m rfl rfl (show vp_in (nI y) 960 from vp_in_nI hy (by decide)) ?_
      refine go_s 1 rfl ?_
      refine go_if (fun c36 => ?_) (fun c36 => ?_)
      · refine go_s 1 rfl ?_
        refine go_st kX12_isSame_40 okX12_tellsB rfl rfl rfl (Nat.zero_le _) (Nat.zero_le _) ?_
        refine c_X12_tellsB ?_
        refine go_s 1 rfl ?_
        refine go_if (fun c43 => ?_) (fun c43 => ?_)
        · refine go_s 1 rfl ?_
          refine go_st kX12_isSame_62 okX12_tellsC rfl rfl rfl (Nat.zero_le _) (Nat.zero_le _) ?_
          refine c_X12_tellsC ?_
          refine go_s 1 rfl ?_
          refine go_if (fun c65 => ?_) (fun c65 => ?_)
          · refine go_s 2 rfl ?_
            have c14 : S 71 (nI x).toNatClampNeg = S 71 (nI y).toNatClampNeg := c14
            rw [hcx, hcy] at c14
            have c21 : ¬ (zb (¬ S 71 (nI x).toNatClampNeg = 31 ∧ ¬ S 71 (nI x).toNatClampNeg = 34) = 0) := c21
            rw [hcx] at c21
            have c36 : S 72 (nI x).toNatClampNeg = S 72 (nI y).toNatClampNeg := c36
            rw [hcx, hcy] at c36
            have c43 : zb (¬ 27 < S 71 (nI x).toNatClampNeg ∨ S 71 (nI x).toNatClampNeg = 32) = 0 := c43
            rw [hcx] at c43
            have c65 : zb (¬ 27 < S 71 (nI x).toNatClampNeg ∧ ¬ S 71 (nI x).toNatClampNeg = 19) = 0 := c65
            rw [hcx] at c65
            exact go_retz rfl rfl (Or.inr rfl) (q 1 (Or.inr ⟨rfl, (am_fS_m hk).mpr ⟨c14, (fun _ => c36), (fun z => absurd z (zb_0.mp c43)), (fun z => absurd z (zb_0.mp c65))⟩⟩))
          · refine go_s 3 rfl ?_
            refine go_m rfl rfl (show vp_in (nI x) 960 from vp_in_nI hx (by decide)) ?_
            refine go_s 3 rfl ?_
            refine go_m rfl rfl (show vp_in (nI y) 960 from vp_in_nI hy (by decide)) ?_
            refine go_s 1 rfl ?_
            refine go_if (fun c80 => ?_) (fun c80 => ?_)
            · refine go_s 2 rfl ?_
              have c14 : S 71 (nI x).toNatClampNeg = S 71 (nI y).toNatClampNeg := c14
              rw [hcx, hcy] at c14
              have c21 : ¬ (zb (¬ S 71 (nI x).toNatClampNeg = 31 ∧ ¬ S 71 (nI x).toNatClampNeg = 34) = 0) := c21
              rw [hcx] at c21
              have c36 : S 72 (nI x).toNatClampNeg = S 72 (nI y).toNatClampNeg := c36
              rw [hcx, hcy] at c36
              have c43 : zb (¬ 27 < S 71 (nI x).toNatClampNeg ∨ S 71 (nI x).toNatClampNeg = 32) = 0 := c43
              rw [hcx] at c43
              have c65 : ¬ (zb (¬ 27 < S 71 (nI x).toNatClampNeg ∧ ¬ S 71 (nI x).toNatClampNeg = 19) = 0) := c65
              rw [hcx] at c65
              have c80 : S 74 (nI x).toNatClampNeg = S 74 (nI y).toNatClampNeg := c80
              rw [hcx, hcy] at c80
              exact go_retz rfl rfl (Or.inr rfl) (q 1 (Or.inr ⟨rfl, (am_fS_m hk).mpr ⟨c14, (fun _ => c36), (fun z => absurd z (zb_0.mp c43)), (fun _ => c80)⟩⟩))
            · refine go_s 1 rfl ?_
              have c14 : S 71 (nI x).toNatClampNeg = S 71 (nI y).toNatClampNeg := c14
              rw [hcx, hcy] at c14
              have c21 : ¬ (zb (¬ S 71 (nI x).toNatClampNeg = 31 ∧ ¬ S 71 (nI x).toNatClampNeg = 34) = 0) := c21
              rw [hcx] at c21
              have c36 : S 72 (nI x).toNatClampNeg = S 72 (nI y).toNatClampNeg := c36
              rw [hcx, hcy] at c36
              have c43 : zb (¬ 27 < S 71 (nI x).toNatClampNeg ∨ S 71 (nI x).toNatClampNeg = 32) = 0 := c43
              rw [hcx] at c43
              have c65 : ¬ (zb (¬ 27 < S 71 (nI x).toNatClampNeg ∧ ¬ S 71 (nI x).toNatClampNeg = 19) = 0) := c65
              rw [hcx] at c65
              have c80 : ¬ (S 74 (nI x).toNatClampNeg = S 74 (nI y).toNatClampNeg) := c80
              rw [hcx, hcy] at c80
              exact go_retz rfl rfl (Or.inl rfl) (q 0 (Or.inl ⟨rfl, fun z => by rw [am_fS_m hk] at z; exact c80 (z.2.2.2 (zb_ne.mp c65))⟩))
        · refine go_s 3 rfl ?_
          refine go_m rfl rfl (show vp_in (nI x) 960 from vp_in_nI hx (by decide)) ?_
          refine go_s 3 rfl ?_
          refine go_m rfl rfl (show vp_in (nI y) 960 from vp_in_nI hy (by decide)) ?_
          refine go_s 1 rfl ?_
          refine go_if (fun c58 => ?_) (fun c58 => ?_)
          · refine go_s 1 rfl ?_
            refine go_st kX12_isSame_62 okX12_tellsC rfl rfl rfl (Nat.zero_le _) (Nat.zero_le _) ?_
            refine c_X12_tellsC ?_
            refine go_s 1 rfl ?_
            refine go_if (fun c65 => ?_) (fun c65 => ?_)
            · refine go_s 2 rfl ?_
              have c14 : S 71 (nI x).toNatClampNeg = S 71 (nI y).toNatClampNeg := c14
              rw [hcx, hcy] at c14
              have c21 : ¬ (zb (¬ S 71 (nI x).toNatClampNeg = 31 ∧ ¬ S 71 (nI x).toNatClampNeg = 34) = 0) := c21
              rw [hcx] at c21
              have c36 : S 72 (nI x).toNatClampNeg = S 72 (nI y).toNatClampNeg := c36
              rw [hcx, hcy] at c36
              have c43 : ¬ (zb (¬ 27 < S 71 (nI x).toNatClampNeg ∨ S 71 (nI x).toNatClampNeg = 32) = 0) := c43
              rw [hcx] at c43
              have c58 : S 73 (nI x).toNatClampNeg = S 73 (nI y).toNatClampNeg := c58
              rw [hcx, hcy] at c58
              have c65 : zb (¬ 27 < S 71 (nI x).toNatClampNeg ∧ ¬ S 71 (nI x).toNatClampNeg = 19) = 0 := c65
              rw [hcx] at c65
              exact go_retz rfl rfl (Or.inr rfl) (q 1 (Or.inr ⟨rfl, (am_fS_m hk).mpr ⟨c14, (fun _ => c36), (fun _ => c58), (fun z => absurd z (zb_0.mp c65))⟩⟩))
            · refine go_s 3 rfl ?_
              refine go_m rfl rfl (show vp_in (nI x) 960 from vp_in_nI hx (by decide)) ?_
              refine go_s 3 rfl ?_
              refine go_m rfl rfl (show vp_in (nI y) 960 from vp_in_nI hy (by decide)) ?_
              refine go_s 1 rfl ?_
              refine go_if (fun c80 => ?_) (fun c80 => ?_)
              · refine go_s 2 rfl ?_
                have c14 : S 71 (nI x).toNatClampNeg = S 71 (nI y).toNatClampNeg := c14
                rw [hcx, hcy] at c14
                have c21 : ¬ (zb (¬ S 71 (nI x).toNatClampNeg = 31 ∧ ¬ S 71 (nI x).toNatClampNeg = 34) = 0) := c21
                rw [hcx] at c21
                have c36 : S 72 (nI x).toNatClampNeg = S 72 (nI y).toNatClampNeg := c36
                rw [hcx, hcy] at c36
                have c43 : ¬ (zb (¬ 27 < S 71 (nI x).toNatClampNeg ∨ S 71 (nI x).toNatClampNeg = 32) = 0) := c43
                rw [hcx] at c43
                have c58 : S 73 (nI x).toNatClampNeg = S 73 (nI y).toNatClampNeg := c58
                rw [hcx, hcy] at c58
                have c65 : ¬ (zb (¬ 27 < S 71 (nI x).toNatClampNeg ∧ ¬ S 71 (nI x).toNatClampNeg = 19) = 0) := c65
                rw [hcx] at c65
                have c80 : S 74 (nI x).toNatClampNeg = S 74 (nI y).toNatClampNeg := c80
                rw [hcx, hcy] at c80
                exact go_retz rfl rfl (Or.inr rfl) (q 1 (Or.inr ⟨rfl, (am_fS_m hk).mpr ⟨c14, (fun _ => c36), (fun _ => c58), (fun _ => c80)⟩⟩))
              · refine go_s 1 rfl ?_
                have c14 : S 71 (nI x).toNatClampNeg = S 71 (nI y).toNatClampNeg := c14
                rw [hcx, hcy] at c14
                have c21 : ¬ (zb (¬ S 71 (nI x).toNatClampNeg = 31 ∧ ¬ S 71 (nI x).toNatClampNeg = 34) = 0) := c21
                rw [hcx] at c21
                have c36 : S 72 (nI x).toNatClampNeg = S 72 (nI y).toNatClampNeg := c36
                rw [hcx, hcy] at c36
                have c43 : ¬ (zb (¬ 27 < S 71 (nI x).toNatClampNeg ∨ S 71 (nI x).toNatClampNeg = 32) = 0) := c43
                rw [hcx] at c43
                have c58 : S 73 (nI x).toNatClampNeg = S 73 (nI y).toNatClampNeg := c58
                rw [hcx, hcy] at c58
                have c65 : ¬ (zb (¬ 27 < S 71 (nI x).toNatClampNeg ∧ ¬ S 71 (nI x).toNatClampNeg = 19) = 0) := c65
                rw [hcx] at c65
                have c80 : ¬ (S 74 (nI x).toNatClampNeg = S 74 (nI y).toNatClampNeg) := c80
                rw [hcx, hcy] at c80
                exact go_retz rfl rfl (Or.inl rfl) (q 0 (Or.inl ⟨rfl, fun z => by rw [am_fS_m hk] at z; exact c80 (z.2.2.2 (zb_ne.mp c65))⟩))
          · refine go_s 1 rfl ?_
            have c14 : S 71 (nI x).toNatClampNeg = S 71 (nI y).toNatClampNeg := c14
            rw [hcx, hcy] at c14
            have c21 : ¬ (zb (¬ S 71 (nI x).toNatClampNeg = 31 ∧ ¬ S 71 (nI x).toNatClampNeg = 34) = 0) := c21
            rw [hcx] at c21
            have c36 : S 72 (nI x).toNatClampNeg = S 72 (nI y).toNatClampNeg := c36
            rw [hcx, hcy] at c36
            have c43 : ¬ (zb (¬ 27 < S 71 (nI x).toNatClampNeg ∨ S 71 (nI x).toNatClampNeg = 32) = 0) := c43
            rw [hcx] at c43
            have c58 : ¬ (S 73 (nI x).toNatClampNeg = S 73 (nI y).toNatClampNeg) := c58
            rw [hcx, hcy] at c58
            exact go_retz rfl rfl (Or.inl rfl) (q 0 (Or.inl ⟨rfl, fun z => by rw [am_fS_m hk] at z; exact c58 (z.2.2.1 (zb_ne.mp c43))⟩))
      · refine go_s 1 rfl ?_
        have c14 : S 71 (nI x).toNatClampNeg = S 71 (nI y).toNatClampNeg := c14
        rw [hcx, hcy] at c14
        have c21 : ¬ (zb (¬ S 71 (nI x).toNatClampNeg = 31 ∧ ¬ S 71 (nI x).toNatClampNeg = 34) = 0) := c21
        rw [hcx] at c21
        have c36 : ¬ (S 72 (nI x).toNatClampNeg = S 72 (nI y).toNatClampNeg) := c36
        rw [hcx, hcy] at c36
        exact go_retz rfl rfl (Or.inl rfl) (q 0 (Or.inl ⟨rfl, fun z => by rw [am_fS_m hk] at z; exact c36 (z.2.1 (zb_ne.mp c21))⟩))
  · refine go_s 1 rfl ?_
    have c14 : ¬ (S 71 (nI x).toNatClampNeg = S 71 (nI y).toNatClampNeg) := c14
    rw [hcx, hcy] at c14
    exact go_retz rfl rfl (Or.inl rfl) (q 0 (Or.inl ⟨rfl, fun z => by rw [am_fS_m hk] at z; exact c14 z.1⟩))
theorem c_X12_counts {D : Nat → Nat → Int32} {e : am_E} {kc ks : Nat} {Q : am_Q} {f : Int32} (hf : vp_in f 24) (q : Q (some (.int (if f < D 69 1 then D 75 f.toNatClampNeg else 100 + f))) (hp D e)) : am_Go (mX12_counts, 0, am_ent mX12_counts [.ref 69, .int f], [], hp D e, kc, ks, Q) := by
  refine go_s 4 rfl ?_
  refine go_if (fun c5 => ?_) (fun c5 => ?_)
  · refine go_s 3 rfl ?_
    refine go_m rfl rfl hf ?_
    refine go_s 1 rfl ?_
    exact go_ret rfl rfl (am_qi q (by first | exact (if_pos c5).symm | exact (if_neg c5).symm) (by rfl))
  · refine go_s 3 rfl ?_
    exact go_ret rfl rfl (am_qi q (by first | exact (if_pos c5).symm | exact (if_neg c5).symm) (by rfl))
def am_MV (S : Nat → Nat → Int32) (F : Nat) (E : Nat → Nat → Prop) : Prop := (∀ a b, a < F → b < F → (S 75 a = S 75 b ↔ E a b)) ∧ (∀ a, a < F → ∃ m, m < 24 ∧ S 75 a = nI m)
theorem am_MV.eq {S : Nat → Nat → Int32} {F : Nat} {E : Nat → Nat → Prop} (h : am_MV S F E) : ∀ a b, a < F → b < F → (S 75 a = S 75 b ↔ E a b) := h.1
theorem am_MV.bd {S : Nat → Nat → Int32} {F : Nat} {E : Nat → Nat → Prop} (h : am_MV S F E) : ∀ a, a < F → ∃ m, m < 24 ∧ S 75 a = nI m := h.2
def am_cts (S : Nat → Nat → Int32) (f : Int32) : Int32 := if f < S 69 1 then S 75 f.toNatClampNeg else 100 + f
theorem am_cts_i {S : Nat → Nat → Int32} {F a b : Nat} {E : Nat → Nat → Prop} (hF : F ≤ 24) (h1 : S 69 1 = nI F) (hM : am_MV S F E) (ha : a < 24) (hb : b < 24) (he : am_eqv E) : am_cts S (nI a) = am_cts S (nI b) ↔ am_fT F E (nI a) (nI b) := by
  have key : ∀ a, a < 24 → am_cts S (nI a) = if a < F then S 75 a else nI (100 + a) := fun a ha => by
    unfold am_cts
    rw [h1, nI_clamp (by omega)]
    by_cases h : a < F
    · rw [if_pos (nI_lt h (by omega)), if_pos h]
    · rw [if_neg (nI_nlt (by omega) (by omega)), if_neg h, ← nI_add]; rfl
  rw [key a ha, key b hb]
  unfold am_fT
  by_cases h : a < F
  · rw [if_pos h]
    by_cases g : b < F
    · rw [if_pos g, hM.eq a b h g]
      constructor
      · intro z; exact Or.inr ⟨a, b, h, g, rfl, rfl, z⟩
      · rintro (z | ⟨a', b', _, _, e1, e2, z⟩)
        · rw [(nI_eq (by omega) (by omega)).mp z]; exact he.1 _
        · rw [(nI_eq (by omega) (by omega)).mp e1, (nI_eq (by omega) (by omega)).mp e2]; exact z
    · rw [if_neg g]
      obtain ⟨m, hm, em⟩ := hM.bd a h
      rw [em]
      constructor
      · intro z; exact absurd ((nI_eq (by omega) (by omega)).mp z) (by omega)
      · rintro (z | ⟨a', b', _, hb', e1, e2, z⟩)
        · have := (nI_eq (by omega) (by omega)).mp z; omega
        · have := (nI_eq (a := b) (b := b') (by omega) (by omega)).mp e2; omega
  · rw [if_neg h]
    by_cases g : b < F
    · rw [if_pos g]
      obtain ⟨m, hm, em⟩ := hM.bd b g
      rw [em]
      constructor
      · intro z; exact absurd ((nI_eq (by omega) (by omega)).mp z) (by omega)
      · rintro (z | ⟨a', b', ha', _, e1, e2, z⟩)
        · have := (nI_eq (by omega) (by omega)).mp z; omega
        · have := (nI_eq (a := a) (b := a') (by omega) (by omega)).mp e1; omega
    · rw [if_neg g]
      constructor
      · intro z; have := (nI_eq (by omega) (by omega)).mp z; exact Or.inl (by congr 1; omega)
      · rintro (z | ⟨a', b', ha', _, e1, e2, z⟩)
        · have := (nI_eq (by omega) (by omega)).mp z; rw [this]
        · have := (nI_eq (a := a) (b := a') (by omega) (by omega)).mp e1; omega
theorem am_fS_cg {D S : Nat → Nat → Int32} (h : am_MS S D) {x y : Nat} : am_fS S x y ↔ am_fS D x y := by
  unfold am_fS
  rw [h.me 71 x (by decide) (by decide), h.me 71 y (by decide) (by decide), h.me 72 x (by decide) (by decide), h.me 72 y (by decide) (by decide), h.me 73 x (by decide) (by decide), h.me 73 y (by decide) (by decide), h.me 74 x (by decide) (by decide), h.me 74 y (by decide) (by decide)]
theorem c_ilk {C D S : Nat → Nat → Int32} {F : Nat} {sz : Nat → Nat} {e : am_E} {Q : am_Q} (hP : am_PG C D F sz) (hS : am_MS S D) {E : Nat → Nat → Prop} (he : am_eqv E) (hM : am_MV S F E) {f g : Nat} (hf : f < F) (hg : g < F) (q : ∀ r, am_bz r (am_fN D F sz E f g) → Q (some (.int r)) (hp S e)) : ∀ (n kc ks p : Nat) (v : Int32) (x5 x6 : Value), sz f < n + p → p ≤ sz f → am_bz v (sz f = sz g ∧ E f g ∧ ∀ r, r < p → am_fA D F E (40 * f + r) (40 * g + r)) → am_Go (mX12_isLike, 39, [.ref 69, .int (nI f), .int (nI g), .int v, .int (nI p), x5, x6], [], hp S e, kc, ks, Q)
  | 0, kc, ks, p, v, x5, x6, h1, h2, hI => by omega
  | n + 1, kc, ks, p, v, x5, x6, h1, h2, hI => by
    have hF := hP.hF
    have h40 := hP.s40 f hf
    have hcf := nI_clamp (show f < 2 ^ 31 by omega)
    have s70 : S 70 f = nI (sz f) := by rw [hS.me 70 f (by decide) (by decide)]; exact hP.m70 f hf
    have s1 : S 69 1 = nI F := hS.m1.trans hP.m1
    refine go_s 4 rfl ?_
    refine go_m rfl rfl (show vp_in (nI f) 24 from vp_in_nI (by omega) (by decide)) ?_
    refine go_s 1 rfl ?_
    refine go_if (fun c47 => ?_) (fun c47 => ?_)
    · refine go_s 2 rfl ?_
      refine go_if (fun c51 => ?_) (fun c51 => ?_)
      · refine go_s 1 rfl ?_
        refine go_retz rfl rfl (Or.inl c51) (q v (Or.inl ⟨c51, fun z => am_bz_0 hI c51 ⟨z.2.1, z.1, fun t ht => z.2.2 t (by omega)⟩⟩))
      · have c47 : nI p < S 70 (nI f).toNatClampNeg := c47
        rw [hcf, s70] at c47
        have hpf : p < sz f := (nI_ltI (by omega) (by omega)).mp c47
        obtain ⟨w1, w2, w3⟩ := am_bz_n hI c51
        have hpg : p < sz g := by omega
        have gx := hP.gd hf hpf
        have gy := hP.gd hg hpg
        have hX : vp_in (nI (40 * f + p)) 960 := vp_in_nI (by omega) (by decide)
        have hY : vp_in (nI (40 * g + p)) 960 := vp_in_nI (by omega) (by decide)
        have cX := nI_clamp (show 40 * f + p < 2 ^ 31 by omega)
        have cY := nI_clamp (show 40 * g + p < 2 ^ 31 by omega)
        refine go_s 12 (pc' := 72) (ls' := [.ref 69, .int (nI f), .int (nI g), .int v, .int (nI p), .int (nI (40 * f + p)), .int (nI (40 * g + p))]) (st' := []) (h' := hp S e) (by rw [← nI_add, ← nI_add, ← nI_mul, ← nI_mul]; rfl) ?_
        refine go_s 3 rfl ?_
        refine go_m rfl rfl hX ?_
        refine go_st kX12_isLike_79 okX12_isCall rfl rfl rfl (Nat.zero_le _) (Nat.zero_le _) ?_
        refine c_X12_isCall ?_
        refine go_s 1 rfl ?_
        refine go_if (fun c82 => ?_) (fun c82 => ?_)
        · refine go_s 3 rfl ?_
          refine go_v kX12_isLike_140 okX12_isSame rfl rfl rfl rfl (Nat.zero_le _) (Nat.zero_le _) ?_
          refine c_X12_isSame (by omega) (by omega) (by rw [hS.me 71 _ (by decide) (by decide)]; exact am_gd_n gx) (fun r hr => ?_)
          have c82 : zb (S 71 (nI (40 * f + p)).toNatClampNeg = 29 ∨ S 71 (nI (40 * f + p)).toNatClampNeg = 30) = 0 := c82
          rw [cX, hS.me 71 _ (by decide) (by decide)] at c82
          have hv2 : am_bz r (am_fA D F E (40 * f + p) (40 * g + p)) := am_bz_iff hr ((am_fS_cg hS).trans ⟨fun z => Or.inr ⟨zb_0.mp c82, z⟩, fun z => z.elim (fun z => absurd z.1 (zb_0.mp c82)) (fun z => z.2)⟩)
          refine go_s 3 (pc' := 39) (ls' := [.ref 69, .int (nI f), .int (nI g), .int r, .int (nI (p + 1)), .int (nI (40 * f + p)), .int (nI (40 * g + p))]) (st' := []) (h' := hp S e) (by rw [← nI_1]; rfl) ?_
          refine c_ilk hP hS he hM hf hg q n _ _ (p + 1) _ _ _ (by omega) (by omega) ?_
          refine am_bz_iff hv2 ⟨fun z => ⟨w1, w2, fun t ht => ?_⟩, fun z => z.2.2 p (by omega)⟩
          by_cases et : t = p
          · rw [et]; exact z
          · exact w3 t (by omega)
        · refine go_s 3 rfl ?_
          refine go_m rfl rfl hX ?_
          refine go_s 3 rfl ?_
          refine go_m rfl rfl hY ?_
          refine go_s 1 rfl ?_
          refine go_if (fun c99 => ?_) (fun c99 => ?_)
          · have c82 : ¬ zb (S 71 (nI (40 * f + p)).toNatClampNeg = 29 ∨ S 71 (nI (40 * f + p)).toNatClampNeg = 30) = 0 := c82
            have c99 : S 71 (nI (40 * f + p)).toNatClampNeg = S 71 (nI (40 * g + p)).toNatClampNeg := c99
            rw [cX, hS.me 71 _ (by decide) (by decide)] at c82 c99
            rw [cY, hS.me 71 _ (by decide) (by decide)] at c99
            have cl := zb_ne.mp c82
            have T6 : ∀ n : Int32, (n = 29 ∨ n = 30) → am_kA n = 6 := fun n h => by rcases h with h | h <;> subst h <;> rfl
            obtain ⟨ua, hua, eua⟩ := am_gFn (by have := gx.2.1; rw [T6 _ cl] at this; exact this)
            obtain ⟨ub, hub, eub⟩ := am_gFn (by have := gy.2.1; rw [T6 _ (by rw [← c99]; exact cl)] at this; exact this)
            refine go_s 4 rfl ?_
            refine go_m rfl rfl hX ?_
            refine go_v kX12_isLike_110 okX12_counts rfl rfl rfl rfl (Nat.zero_le _) (Nat.zero_le _) ?_
            refine c_X12_counts (by show vp_in (S 72 (nI (40 * f + p)).toNatClampNeg) 24; rw [show S 72 (nI (40 * f + p)).toNatClampNeg = nI ua by rw [cX, hS.me 72 _ (by decide) (by decide)]; exact eua]; exact vp_in_nI hua (by decide)) ?_
            refine go_s 4 rfl ?_
            refine go_m rfl rfl hY ?_
            refine go_v kX12_isLike_121 okX12_counts rfl rfl rfl rfl (Nat.zero_le _) (Nat.zero_le _) ?_
            refine c_X12_counts (by show vp_in (S 72 (nI (40 * g + p)).toNatClampNeg) 24; rw [show S 72 (nI (40 * g + p)).toNatClampNeg = nI ub by rw [cY, hS.me 72 _ (by decide) (by decide)]; exact eub]; exact vp_in_nI hub (by decide)) ?_
            refine go_s 1 rfl ?_
            refine go_if (fun c124 => ?_) (fun c124 => ?_)
            · have c124 : am_cts S (S 72 (nI (40 * f + p)).toNatClampNeg) = am_cts S (S 72 (nI (40 * g + p)).toNatClampNeg) := c124
              rw [cX, cY, hS.me 72 _ (by decide) (by decide), hS.me 72 _ (by decide) (by decide), eua, eub, am_cts_i hF s1 hM hua hub he, ← eua, ← eub] at c124
              have hv2 : am_bz 1 (am_fA D F E (40 * f + p) (40 * g + p)) := Or.inr ⟨rfl, Or.inl ⟨cl, c99, c124⟩⟩
              refine go_s 5 (pc' := 39) (ls' := [.ref 69, .int (nI f), .int (nI g), .int 1, .int (nI (p + 1)), .int (nI (40 * f + p)), .int (nI (40 * g + p))]) (st' := []) (h' := hp S e) (by rw [← nI_1]; rfl) ?_
              refine c_ilk hP hS he hM hf hg q n _ _ (p + 1) _ _ _ (by omega) (by omega) ?_
              refine am_bz_iff hv2 ⟨fun z => ⟨w1, w2, fun t ht => ?_⟩, fun z => z.2.2 p (by omega)⟩
              by_cases et : t = p
              · rw [et]; exact z
              · exact w3 t (by omega)
            · have c124 : ¬ am_cts S (S 72 (nI (40 * f + p)).toNatClampNeg) = am_cts S (S 72 (nI (40 * g + p)).toNatClampNeg) := c124
              rw [cX, cY, hS.me 72 _ (by decide) (by decide), hS.me 72 _ (by decide) (by decide), eua, eub, am_cts_i hF s1 hM hua hub he, ← eua, ← eub] at c124
              have hv2 : am_bz 0 (am_fA D F E (40 * f + p) (40 * g + p)) := Or.inl ⟨rfl, fun z => z.elim (fun z => c124 z.2.2) (fun z => z.1 cl)⟩
              refine go_s 5 (pc' := 39) (ls' := [.ref 69, .int (nI f), .int (nI g), .int 0, .int (nI (p + 1)), .int (nI (40 * f + p)), .int (nI (40 * g + p))]) (st' := []) (h' := hp S e) (by rw [← nI_1]; rfl) ?_
              refine c_ilk hP hS he hM hf hg q n _ _ (p + 1) _ _ _ (by omega) (by omega) ?_
              refine am_bz_iff hv2 ⟨fun z => ⟨w1, w2, fun t ht => ?_⟩, fun z => z.2.2 p (by omega)⟩
              by_cases et : t = p
              · rw [et]; exact z
              · exact w3 t (by omega)
          · refine go_s 3 rfl ?_
            refine go_v kX12_isLike_140 okX12_isSame rfl rfl rfl rfl (Nat.zero_le _) (Nat.zero_le _) ?_
            refine c_X12_isSame (by omega) (by omega) (by rw [hS.me 71 _ (by decide) (by decide)]; exact am_gd_n gx) (fun r hr => ?_)
            have c82 : ¬ zb (S 71 (nI (40 * f + p)).toNatClampNeg = 29 ∨ S 71 (nI (40 * f + p)).toNatClampNeg = 30) = 0 := c82
            have c99 : ¬ S 71 (nI (40 * f + p)).toNatClampNeg = S 71 (nI (40 * g + p)).toNatClampNeg := c99
            rw [cX, hS.me 71 _ (by decide) (by decide)] at c82 c99
            rw [cY, hS.me 71 _ (by decide) (by decide)] at c99
            have hv2 : am_bz r (am_fA D F E (40 * f + p) (40 * g + p)) := am_bz_iff hr ((am_fS_cg hS).trans ⟨fun z => absurd z.1 c99, fun z => z.elim (fun z => absurd z.2.1 c99) (fun z => z.2)⟩)
            refine go_s 3 (pc' := 39) (ls' := [.ref 69, .int (nI f), .int (nI g), .int r, .int (nI (p + 1)), .int (nI (40 * f + p)), .int (nI (40 * g + p))]) (st' := []) (h' := hp S e) (by rw [← nI_1]; rfl) ?_
            refine c_ilk hP hS he hM hf hg q n _ _ (p + 1) _ _ _ (by omega) (by omega) ?_
            refine am_bz_iff hv2 ⟨fun z => ⟨w1, w2, fun t ht => ?_⟩, fun z => z.2.2 p (by omega)⟩
            by_cases et : t = p
            · rw [et]; exact z
            · exact w3 t (by omega)
    · refine go_s 1 rfl ?_
      have c47 : ¬ nI p < S 70 (nI f).toNatClampNeg := c47
      rw [hcf, s70] at c47
      have hge := mt (nI_lt (a := p) (b := sz f) · (by omega)) c47
      refine go_retz rfl rfl (hI.elim (fun z => Or.inl z.1) (fun z => Or.inr z.1)) (q v (am_bz_iff hI ⟨fun z => ⟨z.2.1, z.1, fun t ht => z.2.2 t (by omega)⟩, fun z => ⟨z.2.1, z.1, fun t ht => z.2.2 t (by omega)⟩⟩))
theorem c_X12_isLike {C D S : Nat → Nat → Int32} {F : Nat} {sz : Nat → Nat} {e : am_E} {Q : am_Q} (hP : am_PG C D F sz) (hS : am_MS S D) {E : Nat → Nat → Prop} (he : am_eqv E) (hM : am_MV S F E) {f g : Nat} (hf : f < F) (hg : g < F) (q : ∀ r, am_bz r (am_fN D F sz E f g) → Q (some (.int r)) (hp S e)) {kc ks : Nat} : am_Go (mX12_isLike, 0, am_ent mX12_isLike [.ref 69, .int (nI f), .int (nI g)], [], hp S e, kc, ks, Q) := by
  have hF := hP.hF
  have h40 := hP.s40 f hf
  have h41 := hP.s40 g hg
  have hcf := nI_clamp (show f < 2 ^ 31 by omega)
  have hcg := nI_clamp (show g < 2 ^ 31 by omega)
  have s70 : S 70 f = nI (sz f) := by rw [hS.me 70 f (by decide) (by decide)]; exact hP.m70 f hf
  have t70 : S 70 g = nI (sz g) := by rw [hS.me 70 g (by decide) (by decide)]; exact hP.m70 g hg
  refine go_s 3 rfl ?_
  refine go_m rfl rfl (show vp_in (nI f) 24 from vp_in_nI (by omega) (by decide)) ?_
  refine go_s 3 rfl ?_
  refine go_m rfl rfl (show vp_in (nI g) 24 from vp_in_nI (by omega) (by decide)) ?_
  refine go_s 1 rfl ?_
  refine go_if (fun c12 => ?_) (fun c12 => ?_)
  · refine go_s 3 rfl ?_
    refine go_m rfl rfl (show vp_in (nI f) 24 from vp_in_nI (by omega) (by decide)) ?_
    refine go_s 3 rfl ?_
    refine go_m rfl rfl (show vp_in (nI g) 24 from vp_in_nI (by omega) (by decide)) ?_
    refine go_s 1 rfl ?_
    refine go_if (fun c27 => ?_) (fun c27 => ?_)
    · have c12 : S 70 (nI f).toNatClampNeg = S 70 (nI g).toNatClampNeg := c12
      rw [hcf, hcg, s70, t70, nI_eq (by omega) (by omega)] at c12
      have c27 : S 75 (nI f).toNatClampNeg = S 75 (nI g).toNatClampNeg := c27
      rw [hcf, hcg, hM.eq f g hf hg] at c27
      refine go_s 5 (pc' := 39) (ls' := [.ref 69, .int (nI f), .int (nI g), .int 1, .int (nI 0), .long 0, .long 0]) (st' := []) (h' := hp S e) rfl ?_
      exact c_ilk hP hS he hM hf hg q (sz f + 1) _ _ 0 _ _ _ (by omega) (by omega) (Or.inr ⟨rfl, c12, c27, fun t ht => by omega⟩)
    · have c12 : S 70 (nI f).toNatClampNeg = S 70 (nI g).toNatClampNeg := c12
      rw [hcf, hcg, s70, t70, nI_eq (by omega) (by omega)] at c12
      have c27 : ¬ S 75 (nI f).toNatClampNeg = S 75 (nI g).toNatClampNeg := c27
      rw [hcf, hcg, hM.eq f g hf hg] at c27
      refine go_s 4 (pc' := 39) (ls' := [.ref 69, .int (nI f), .int (nI g), .int 0, .int (nI 0), .long 0, .long 0]) (st' := []) (h' := hp S e) rfl ?_
      exact c_ilk hP hS he hM hf hg q (sz f + 1) _ _ 0 _ _ _ (by omega) (by omega) (Or.inl ⟨rfl, fun z => c27 z.2.1⟩)
  · have c12 : ¬ S 70 (nI f).toNatClampNeg = S 70 (nI g).toNatClampNeg := c12
    rw [hcf, hcg, s70, t70, nI_eq (by omega) (by omega)] at c12
    refine go_s 4 (pc' := 39) (ls' := [.ref 69, .int (nI f), .int (nI g), .int 0, .int (nI 0), .long 0, .long 0]) (st' := []) (h' := hp S e) rfl ?_
    exact c_ilk hP hS he hM hf hg q (sz f + 1) _ _ 0 _ _ _ (by omega) (by omega) (Or.inl ⟨rfl, fun z => c12 z.1⟩)
