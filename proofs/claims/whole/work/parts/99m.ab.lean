/-! the pair about -/
section PAB
variable {X : Nat → Nat → Int32} {e : am_E} {Q : am_Q} {kc ks n : Nat} {f w : Int32}
/-- the model's road through about, for a function that is there -/
theorem c_mab {X C : Nat → Nat → Int32} {F k : Nat} {sz : Nat → Nat} (hP : am_PG X X F sz) (hS : am_MS C X) (hk : k < F) (K : ∀ S i, (∀ c j, c ≠ 75 → c ≠ 76 → S c j = C c j) → am_fx X F sz i → am_MV S F (am_fE X F sz i) → am_Go (mX12_about, 21, [.ref 69, .int (nI k), .int w], [], hp S e, kc, ks, Q)) : am_Go (mX12_about, 0, am_ent mX12_about [.ref 69, .int (nI k), .int w], [], hp C e, kc, ks, Q) := by
  have hF := hP.hF
  have m1 : C 69 1 = nI F := hS.1.trans hP.m1
  refine go_s 6 rfl ?_
  refine go_st kX12_about_8 okX12_in rfl rfl rfl (Nat.zero_le _) (Nat.zero_le _) ?_
  refine c_X12_in ?_
  refine go_s 1 rfl ?_
  refine go_if (fun c => absurd ((am_35 (m := F) (by omega) m1).mpr ⟨k, hk, rfl⟩) (zb_0.mp c)) (fun c => ?_)
  refine go_s 1 rfl ?_
  refine go_v kX12_about_17 okX12_parts rfl rfl rfl rfl (Nat.zero_le _) (Nat.zero_le _) ?_
  refine c_X12_parts hP hS (fun S i fS hfx hMV => ?_)
  refine go_s 1 rfl ?_
  exact K S i fS hfx hMV
theorem p_about (hA : in_A X n) (hw : 109 ≤ e.2.1) (K : ∀ v X', md mX12_about [.int f, .int w] v X' e (n + 1) → Q (some (.int v)) (hp X' e)) : am_Go (mX11_about, 0, am_ent mX11_about [.ref 0, .int f, .int w], [], hp X e, kc, ks, Q) := by
  have hA2 := hA.s
  obtain ⟨F, sz, m, hm, hB⟩ := hA
  have hP := hB.pg
  have hF := hP.hF
  refine go_s 3 rfl ?_
  refine go_v kX11_about_5 okX5_hasFunction rfl rfl rfl rfl (Nat.zero_le _) (Nat.zero_le _) ?_
  refine c_X5_hasFunction ?_
  refine go_s 1 rfl ?_
  by_cases hf : 0 ≤ f ∧ f < X 1 5
  rotate_left
  · refine go_if (fun c => ?_) (fun c => absurd (zb_ne.mp c) hf)
    refine go_s 1 rfl ?_
    refine go_ret rfl rfl (K _ X (fun Q' q' => ?_))
    refine go_s 6 rfl ?_
    refine go_st kX12_about_8 okX12_in rfl rfl rfl (Nat.zero_le _) (Nat.zero_le _) ?_
    refine c_X12_in ?_
    refine go_s 1 rfl ?_
    refine go_if (fun c => ?_) (fun c => absurd ((am_34 (m := F) (by omega) hP.c5).mpr ((am_35 (m := F) (by omega) hP.m1).mp (zb_ne.mp c))) hf)
    refine go_s 1 rfl ?_
    exact go_ret rfl rfl (q' X e hA2 hw rfl)
  obtain ⟨k, hk, rfl⟩ := (am_34 (m := F) (by omega) hP.c5).mp hf
  refine go_if (fun c => absurd hf (zb_0.mp c)) (fun c => ?_)
  refine go_s 2 rfl ?_
  have hSX : am_MS X X := ⟨rfl, rfl, fun _ _ _ _ => rfl⟩
  have hck := nI_clamp (show k < 2 ^ 31 by omega)
  by_cases h0 : w = 0
  · refine go_if (fun _ => ?_) (fun c => absurd h0 c)
    refine go_s 3 rfl ?_
    refine go_v kX11_about_45 okX5_lengthOf rfl rfl rfl rfl (Nat.zero_le _) (Nat.zero_le _) ?_
    refine c_X5_lengthOf hP.h5 ?_
    rw [hP.lof hk]
    refine go_ret rfl rfl (K _ X (fun Q' q' => ?_))
    refine c_mab hP hSX hk (fun S i fS hfx hMV => ?_)
    refine go_s 2 rfl ?_
    refine go_if (fun _ => ?_) (fun c => absurd h0 c)
    refine go_s 3 rfl ?_
    refine go_m rfl rfl (show vp_in (nI k) 24 from vp_in_nI (by omega) (by decide)) ?_
    refine go_s 1 rfl ?_
    refine go_ret rfl rfl (am_qi (q' S e ⟨F, sz, m, by omega, hB.pa fS⟩ hw rfl) ?_ rfl)
    show S 70 (nI k).toNatClampNeg = nI (sz k)
    rw [hck, fS 70 k (by decide) (by decide)]
    exact hP.m70 k hk
  refine go_if (fun c => absurd c h0) (fun _ => ?_)
  by_cases h1 : w = 1
  · refine go_if (fun _ => ?_) (fun c => absurd h1 c)
    refine go_s 2 rfl ?_
    refine go_v kX11_about_53 okX0_refresh rfl rfl rfl rfl (Nat.zero_le _) (Nat.zero_le _) ?_
    refine c_X0_refresh hP hB.fc (fun C i fr h75 hR => ?_)
    have hB2 := hB.rf fr h75 hR
    have hPC : am_PG C X F sz := hP.fr (fun c j a1 a2 _ => fr c j (by omega) (by omega) (by omega) (by omega)) (fun _ _ _ _ _ => rfl)
    have hS : am_MS C X := ⟨fr 69 1 (by decide) (by decide) (by decide) (by decide), fr 69 2 (by decide) (by decide) (by decide) (by decide), fun c j a1 a2 => fr c j (by omega) (by omega) (by omega) (by omega)⟩
    refine go_s 3 rfl ?_
    refine go_v kX11_about_61 okX0_isTaken rfl rfl rfl rfl (Nat.zero_le _) (Nat.zero_le _) ?_
    refine c_X0_isTaken hPC hR hk (fun r hr => ?_)
    refine go_s 1 rfl ?_
    have KM : ∀ v : Int32, am_bz v (am_tk X F sz k) → md mX12_about [.int (nI k), .int w] v C e (n + 1) := fun v hv Q' q' => by
      refine c_mab hP hS hk (fun S i' fS hfx hMV => ?_)
      have hS2 : am_MS S X := hS.u (fun c j a1 a2 _ => fS c j (by omega) (by omega))
      refine go_s 2 rfl ?_
      refine go_if (fun c => absurd c h0) (fun _ => ?_)
      refine go_s 3 rfl ?_
      refine go_if (fun _ => ?_) (fun c => absurd h1 c)
      refine go_s 2 rfl ?_
      refine go_v kX12_about_41 okX12_isTaken rfl rfl rfl rfl (Nat.zero_le _) (Nat.zero_le _) ?_
      refine c_X12_isTaken hP hS2 (by omega) (fun r2 hr2 => ?_)
      refine go_s 1 rfl ?_
      rcases hr2 with ⟨rfl, nt⟩ | ⟨rfl, tk⟩
      · refine go_if (fun _ => ?_) (fun c => absurd rfl c)
        refine go_s 2 rfl ?_
        rcases hv with ⟨rfl, _⟩ | ⟨_, z⟩
        · exact go_ret rfl rfl (q' S e ⟨F, sz, m, by omega, hB2.pa fS⟩ hw rfl)
        · exact absurd z nt
      · refine go_if (fun c => absurd c (by decide)) (fun _ => ?_)
        refine go_s 2 rfl ?_
        rcases hv with ⟨_, z⟩ | ⟨rfl, _⟩
        · exact absurd tk z
        · exact go_ret rfl rfl (q' S e ⟨F, sz, m, by omega, hB2.pa fS⟩ hw rfl)
    rcases hr with ⟨rfl, nt⟩ | ⟨rfl, tk⟩
    · refine go_if (fun _ => ?_) (fun c => absurd rfl c)
      refine go_s 1 rfl ?_
      exact go_ret rfl rfl (K _ C (KM 0 (Or.inl ⟨rfl, nt⟩)))
    · refine go_if (fun c => absurd c (by decide)) (fun _ => ?_)
      refine go_s 2 rfl ?_
      exact go_ret rfl rfl (K _ C (KM 1 (Or.inr ⟨rfl, tk⟩)))
  refine go_if (fun c => absurd c h1) (fun _ => ?_)
  by_cases h2 : w = 2
  · refine go_if (fun _ => ?_) (fun c => absurd h2 c)
    refine go_s 2 rfl ?_
    refine go_v kX11_about_77 okX0_refresh rfl rfl rfl rfl (Nat.zero_le _) (Nat.zero_le _) ?_
    refine c_X0_refresh hP hB.fc (fun C i fr h75 hR => ?_)
    have hB2 := hB.rf fr h75 hR
    have hPC : am_PG C X F sz := hP.fr (fun c j a1 a2 _ => fr c j (by omega) (by omega) (by omega) (by omega)) (fun _ _ _ _ _ => rfl)
    have hS : am_MS C X := ⟨fr 69 1 (by decide) (by decide) (by decide) (by decide), fr 69 2 (by decide) (by decide) (by decide) (by decide), fun c j a1 a2 => fr c j (by omega) (by omega) (by omega) (by omega)⟩
    refine go_s 3 rfl ?_
    refine go_v kX11_about_85 okX0_leastOf rfl rfl rfl rfl (Nat.zero_le _) (Nat.zero_le _) ?_
    refine c_X0_leastOf hPC hR hk (fun l hl => ?_)
    refine go_ret rfl rfl (K _ C (fun Q' q' => ?_))
    refine c_mab hP hS hk (fun S i' fS hfx hMV => ?_)
    have hS2 : am_MS S X := hS.u (fun c j a1 a2 _ => fS c j (by omega) (by omega))
    refine go_s 2 rfl ?_
    refine go_if (fun c => absurd c h0) (fun _ => ?_)
    refine go_s 3 rfl ?_
    refine go_if (fun c => absurd c h1) (fun _ => ?_)
    refine go_s 3 rfl ?_
    refine go_if (fun _ => ?_) (fun c => absurd h2 c)
    refine go_s 3 rfl ?_
    refine go_v kX12_about_63 okX12_leastOf rfl rfl rfl rfl (Nat.zero_le _) (Nat.zero_le _) ?_
    have he := am_fE_eqv (D := X) (sz := sz) hF i'
    refine c_X12_leastOf hP hS2 hMV hk (fun b b1 b2 b3 => ?_) (fun b3 => absurd ⟨he.1 k, Or.inl rfl⟩ (b3 k hk))
    refine go_s 1 rfl ?_
    have el : b = l := by
      have l1 := hl.1
      have x : ¬ b < l := fun z => hl.2.2 b z ((am_fx_u hR.fx hfx (by omega) hk).mpr b2.1)
      have y : ¬ l < b := fun z => b3 l z ⟨(am_fx_u hR.fx hfx (by omega) hk).mp hl.2.1, Or.inl rfl⟩
      omega
    rw [el]
    exact go_ret rfl rfl (q' S e ⟨F, sz, m, by omega, hB2.pa fS⟩ hw rfl)
  refine go_if (fun c => absurd c h2) (fun _ => ?_)
  refine go_s 1 rfl ?_
  refine go_ret rfl rfl (K _ X (fun Q' q' => ?_))
  refine c_mab hP hSX hk (fun S i fS hfx hMV => ?_)
  refine go_s 2 rfl ?_
  refine go_if (fun c => absurd c h0) (fun _ => ?_)
  refine go_s 3 rfl ?_
  refine go_if (fun c => absurd c h1) (fun _ => ?_)
  refine go_s 3 rfl ?_
  refine go_if (fun c => absurd c h2) (fun _ => ?_)
  refine go_s 1 rfl ?_
  exact go_ret rfl rfl (q' S e ⟨F, sz, m, by omega, hB.pa fS⟩ hw rfl)
end PAB
