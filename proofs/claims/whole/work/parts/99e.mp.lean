/-! press, on the side of the model -/
theorem am_MRS_u {S S' : Nat → Nat → Int32} {F : Nat} {sz : Nat → Nat} {op en : Nat → Prop} {sm : Nat → Nat → Prop} {ln sp : Nat → Nat} {K : Nat} (h : am_MRS S F sz op en sm ln sp K) (hf : ∀ c j, c = 80 ∨ c = 81 ∨ c = 82 ∨ c = 84 ∨ c = 85 ∨ c = 87 ∨ c = 89 → S' c j = S c j) : am_MRS S' F sz op en sm ln sp K := by
  refine ⟨fun k hk => ?_, fun f p h1 h2 => ?_, fun f p h1 h2 => ?_⟩
  · have r := h.ro k hk
    refine ⟨(hf 80 k (by omega)).trans r.s80, (hf 81 k (by omega)).trans r.s81, ?_, ?_, fun j hj => ?_⟩
    · rw [hf 82 k (by omega)]; exact r.s82
    · rw [hf 84 k (by omega)]; exact r.s84
    · rw [hf 85 _ (by omega)]; exact r.s85 j hj
  · rw [hf 87 _ (by omega)]; exact h.ir f p h1 h2
  · rw [hf 89 _ (by omega)]; exact h.bg f p h1 h2
theorem am_MRS_cg {S : Nat → Nat → Int32} {F : Nat} {sz : Nat → Nat} {op en : Nat → Prop} {sm : Nat → Nat → Prop} {ln sp ln' sp' : Nat → Nat} {K : Nat} (hN : am_st sz F ≤ 300) (h2 : ∀ k, k < K → 2 ≤ ln k) (hc : ∀ i, i < K → ln i = ln' i ∧ sp i = sp' i) (h : am_MRS S F sz op en sm ln sp K) : am_MRS S F sz op en sm ln' sp' K := by
  refine ⟨fun k hk => am_MR2_cg hN (h2 k hk) (fun i hi => hc i (by omega)) (h.ro k hk) (fun _ _ => rfl) (fun _ _ _ => rfl), fun f p a1 a2 => ?_, fun f p a1 a2 => ?_⟩
  · rcases h.ir f p a1 a2 with ⟨k, hk, e, j, j1, j2, j3⟩ | ⟨e, nu⟩
    · refine Or.inl ⟨k, hk, e, j, ?_, j2, by rw [← (hc k hk).1]; exact j3⟩
      rw [← sq_ok_cg (fun i hi => hc i (by omega))]; exact j1
    · refine Or.inr ⟨e, ?_⟩
      rw [← sq_U_cg K hc]; exact nu
  · refine am_bz_iff (h.bg f p a1 a2) ⟨fun ⟨k, b1, b2⟩ => ⟨k, b1, ?_⟩, fun ⟨k, b1, b2⟩ => ⟨k, b1, ?_⟩⟩
    · rw [← sq_ok_cg (fun i hi => hc i (by omega))]; exact b2
    · rw [sq_ok_cg (fun i hi => hc i (by omega))]; exact b2
theorem am_rfs_cg {D D' : Nat → Nat → Int32} {F r : Nat} {sz : Nat → Nat} (h : ∀ c j, 71 ≤ c → c ≤ 74 → D' c j = D c j) (z : am_rfs D' F sz r) : am_rfs D F sz r := by
  have e71 : D' 71 = D 71 := funext (fun j => h 71 j (by decide) (by decide))
  have e72 : D' 72 = D 72 := funext (fun j => h 72 j (by decide) (by decide))
  have e73 : D' 73 = D 73 := funext (fun j => h 73 j (by decide) (by decide))
  have e74 : D' 74 = D 74 := funext (fun j => h 74 j (by decide) (by decide))
  unfold am_rfs am_Op am_Np am_Nf at z ⊢
  rw [e71, e72, e73, e74] at z
  exact z
theorem am_neg_lt {r : Nat} (h1 : 1 ≤ r) (h5 : r < 5) : -nI r < 0 := by
  have T : ∀ r, r < 5 → 1 ≤ r → -nI r < 0 := by decide +kernel
  exact T r h5 h1
theorem c_X12_press_no {X : Nat → Nat → Int32} {F r : Nat} {sz : Nat → Nat} {fl rt : Int32} {e : am_E} {Q : am_Q} {kc ks : Nat} (hP : am_PG X X F sz) (hw : 109 ≤ e.2.1) (hkc : 1 ≤ kc) (hks : 5 ≤ ks) (h1 : 1 ≤ r) (h5 : r < 5) (hr : am_rfs X F sz r) (q : ∀ D' e', (∀ c j, c < 109 → D' c j = X c j) → 109 ≤ e'.2.1 → e'.2.2 = e.2.2 → Q (some (.int (-nI r))) (hp D' e')) : am_Go (mX12_press, 0, am_ent mX12_press [.ref 69, .int fl, .int rt], [], hp X e, kc, ks, Q) := by
  refine go_s 1 rfl ?_
  refine go_v kX12_press_1 okX12_refusal rfl rfl rfl rfl hkc hks ?_
  refine c_X12_refusal hP hw (by decide) (by decide) (fun r' D' e' hr5 hrf hD he1 he2 => ?_)
  have er : r' = r := am_rfs_u hrf hr
  subst er
  refine go_s 3 rfl ?_
  refine go_if (fun c => ?_) (fun c => absurd (am_neg_lt h1 h5) c)
  refine go_s 1 rfl ?_
  exact go_ret rfl rfl (q D' e' hD he1 he2)
/-- the loop over the bodies -/
theorem c_mpb {C X S : Nat → Nat → Int32} {F i : Nat} {sz : Nat → Nat} {bo : Nat → Nat} {fl : Int32} {e : am_E} {Q : am_Q} {kc ks : Nat} {x2 x3 : Value} (hP : am_PG C X F sz) (hS : am_MS S X) (hM : am_MV S F (am_fE X F sz i)) (hbo : ∀ f b, f < F → ((fl = 0 ∧ b = f) ∨ (¬ fl = 0 ∧ am_bd X F sz (am_fE X F sz i) f b)) → b = bo f) (KK : ∀ S' x4 x5, (∀ c j, c ≠ 77 → S' c j = S c j) → (∀ f, f < F → S' 77 f = nI (bo f)) → am_Go (mX12_press, 99, [.ref 69, .int fl, x2, x3, x4, x5], [], hp S' e, kc, ks, Q)) : ∀ (n f : Nat) (x5 : Value) (S' : Nat → Nat → Int32), F < n + f → f ≤ F → (∀ c j, c ≠ 77 → S' c j = S c j) → (∀ g, g < f → S' 77 g = nI (bo g)) → am_Go (mX12_press, 32, [.ref 69, .int fl, x2, x3, .int (nI f), x5], [], hp S' e, kc, ks, Q)
  | 0, f, x5, S', g1, g2, hfr, hb => by omega
  | n + 1, f, x5, S', g1, g2, hfr, hb => by
    have hF := hP.hF
    have hS' : am_MS S' X := hS.u (fun c j h1 h2 _ => hfr c j (by omega))
    have hM' : am_MV S' F (am_fE X F sz i) := by
      refine ⟨fun a b h1 h2 => ?_, fun a h1 => ?_⟩
      · rw [hfr 75 a (by decide), hfr 75 b (by decide)]; exact hM.1 a b h1 h2
      · rw [hfr 75 a (by decide)]; exact hM.2 a h1
    have m1 : S' 69 1 = nI F := hS'.1.trans hP.m1
    have he := am_fE_eqv (D := X) (sz := sz) hF i
    refine go_s 4 rfl ?_
    refine go_if (fun c38 => ?_) (fun c38 => ?_)
    rotate_left
    · have c38 : ¬ nI f < S' 69 1 := c38
      rw [m1] at c38
      have hge := mt (nI_lt (a := f) (b := F) · (by omega)) c38
      have ef : f = F := by omega
      subst ef
      exact KK S' _ _ hfr hb
    have c38 : nI f < S' 69 1 := c38
    rw [m1] at c38
    have hf := (nI_ltI (a := f) (b := F) (by omega) (by omega)).mp c38
    have KB : ∀ b x5, ((fl = 0 ∧ b = f) ∨ (¬ fl = 0 ∧ am_bd X F sz (am_fE X F sz i) f b)) → am_Go (mX12_press, 92, [.ref 69, .int fl, x2, x3, .int (nI f), x5], [.int (nI b), .int (nI f), .ref 77], hp S' e, kc, ks, Q) := fun b x5 hbb => by
      have eb := hbo f b hf hbb
      subst eb
      refine go_m rfl rfl (show vp_in (nI f) 24 from vp_in_nI (by omega) (by decide)) ?_
      show am_Go (mX12_press, 93, [.ref 69, .int fl, x2, x3, .int (nI f), x5], [], hp (am_u S' 77 (nI f).toNatClampNeg (nI (bo f))) e, _, _, Q)
      rw [nI_clamp (show f < 2 ^ 31 by omega)]
      refine go_s 2 (pc' := 32) (ls' := [.ref 69, .int fl, x2, x3, .int (nI (f + 1)), x5]) (st' := []) (h' := hp (am_u S' 77 f (nI (bo f))) e) (by rw [← nI_1 f]; rfl) ?_
      refine c_mpb hP hS hM hbo KK n (f + 1) _ _ (by omega) (by omega) (fun c j hc => (am_u_ne hc).trans (hfr c j hc)) (fun g hg => ?_)
      by_cases eg : g = f
      · subst eg; rw [am_u_eq]
      · rw [am_u_nj eg]; exact hb g (by omega)
    have KT : ∀ (v : Int32), ((∃ b, b < F ∧ v = nI b ∧ (am_fE X F sz i b f ∧ am_tk X F sz b) ∧ ∀ h, h < b → ¬ (am_fE X F sz i h f ∧ am_tk X F sz h)) ∨ (v = -1 ∧ ∀ h, h < F → ¬ (am_fE X F sz i h f ∧ am_tk X F sz h))) → am_Go (mX12_press, 48, [.ref 69, .int fl, x2, x3, .int (nI f), x5], [.int v], hp S' e, kc, ks, Q) := fun v hv => by
      refine go_s 6 rfl ?_
      refine go_if (fun c57 => ?_) (fun c57 => ?_)
      · refine go_s 2 rfl ?_
        exact KB f _ (Or.inl ⟨c57, rfl⟩)
      · refine go_s 2 rfl ?_
        refine go_v kX12_press_63 okX12_isTaken rfl rfl rfl rfl (Nat.zero_le _) (Nat.zero_le _) ?_
        refine c_X12_isTaken hP hS' (by omega) (fun r hr => ?_)
        refine go_s 1 rfl ?_
        rcases hr with ⟨rfl, nt⟩ | ⟨rfl, ht⟩
        · refine go_if (fun c => ?_) (fun c => absurd rfl c)
          refine go_s 3 rfl ?_
          rcases hv with ⟨b, hb1, rfl, hb2, hb3⟩ | ⟨rfl, hno⟩
          · refine go_if (fun c => absurd c (fun z => nI_pos (n := b) (by omega) (by rw [show nI b = -1 from z]; decide))) (fun c => ?_)
            refine go_s 2 rfl ?_
            exact KB b _ (Or.inr ⟨c57, Or.inr ⟨nt, Or.inl ⟨hb1, ⟨hb2.2, hb2.1⟩, fun h hh z => hb3 h hh ⟨z.2, z.1⟩⟩⟩⟩)
          · refine go_if (fun c => ?_) (fun c => absurd rfl c)
            refine go_s 3 rfl ?_
            refine go_v kX12_press_89 okX12_leastOf rfl rfl rfl rfl (Nat.zero_le _) (Nat.zero_le _) ?_
            refine c_X12_leastOf hP hS' hM' hf (fun b b1 b2 b3 => ?_) (fun b3 => ?_)
            · refine KB b _ (Or.inr ⟨c57, Or.inr ⟨nt, Or.inr ⟨fun h hh z => hno h hh ⟨z.2, z.1⟩, ?_, b2.1, fun h hh z => b3 h hh ⟨z, Or.inl rfl⟩⟩⟩⟩)
              apply Classical.byContradiction
              intro z
              exact b3 f (by omega) ⟨he.1 f, Or.inl rfl⟩
            · exact absurd ⟨he.1 f, Or.inl rfl⟩ (b3 f hf)
        · refine go_if (fun c => absurd c (by decide)) (fun c => ?_)
          refine go_s 2 rfl ?_
          exact KB f _ (Or.inr ⟨c57, Or.inl ⟨ht, rfl⟩⟩)
    refine go_s 3 rfl ?_
    refine go_v kX12_press_45 okX12_leastOf rfl rfl rfl rfl (Nat.zero_le _) (Nat.zero_le _) ?_
    refine c_X12_leastOf hP hS' hM' hf (fun b b1 b2 b3 => ?_) (fun b3 => ?_)
    · exact KT (nI b) (Or.inl ⟨b, b1, rfl, ⟨b2.1, b2.2.resolve_left (by decide)⟩, fun h hh z => b3 h hh ⟨z.1, Or.inr z.2⟩⟩)
    · exact KT (-1) (Or.inr ⟨rfl, fun h hh z => b3 h hh ⟨z.1, Or.inr z.2⟩⟩)
/-- the loop that clears what is in routines -/
theorem c_mpc {S : Nat → Nat → Int32} {e : am_E} {Q : am_Q} {kc ks : Nat} {x1 x2 x3 x5 : Value} (KK : ∀ S' x4, (∀ c j, c ≠ 87 → c ≠ 89 → S' c j = S c j) → (∀ y, y < 960 → S' 87 y = -1 ∧ S' 89 y = 0) → am_Go (mX12_press, 132, [.ref 69, x1, x2, x3, x4, x5], [], hp S' e, kc, ks, Q)) : ∀ (n y : Nat) (S' : Nat → Nat → Int32), 960 < n + y → y ≤ 960 → (∀ c j, c ≠ 87 → c ≠ 89 → S' c j = S c j) → (∀ z, z < y → S' 87 z = -1 ∧ S' 89 z = 0) → am_Go (mX12_press, 102, [.ref 69, x1, x2, x3, .int (nI y), x5], [], hp S' e, kc, ks, Q)
  | 0, y, S', g1, g2, hfr, hb => by omega
  | n + 1, y, S', g1, g2, hfr, hb => by
    refine go_s 3 rfl ?_
    refine go_if (fun c107 => ?_) (fun c107 => ?_)
    rotate_left
    · have c107 : ¬ nI y < nI 960 := c107
      have hge := mt (nI_lt (a := y) (b := 960) · (by decide)) c107
      have ef : y = 960 := by omega
      subst ef
      exact KK S' _ hfr hb
    have c107 : nI y < nI 960 := c107
    have hy := (nI_ltI (a := y) (b := 960) (by omega) (by decide)).mp c107
    have hX : vp_in (nI y) 960 := vp_in_nI hy (by decide)
    have hcy := nI_clamp (show y < 2 ^ 31 by omega)
    refine go_s 4 rfl ?_
    refine go_m rfl rfl hX ?_
    refine go_s 4 rfl ?_
    refine go_m rfl rfl hX ?_
    show am_Go (mX12_press, 126, [.ref 69, x1, x2, x3, .int (nI y), x5], [], hp (am_u (am_u S' 87 (nI y).toNatClampNeg (-1)) 89 (nI y).toNatClampNeg 0) e, _, _, Q)
    rw [hcy]
    refine go_s 2 (pc' := 102) (ls' := [.ref 69, x1, x2, x3, .int (nI (y + 1)), x5]) (st' := []) (h' := hp (am_u (am_u S' 87 y (-1)) 89 y 0) e) (by rw [← nI_1 y]; rfl) ?_
    refine c_mpc KK n (y + 1) _ (by omega) (by omega) (fun c j h1 h2 => (am_u_ne h2).trans ((am_u_ne h1).trans (hfr c j h1 h2))) (fun z hz => ?_)
    rw [am_u_ne (by decide)]
    by_cases ez : z = y
    · subst ez; exact ⟨am_u_eq, am_u_eq⟩
    · rw [am_u_nj ez, am_u_nj ez, am_u_ne (by decide)]; exact hb z (by omega)
/-- the loop over the routines -/
theorem c_mpr {C X S : Nat → Nat → Int32} {F : Nat} {sz : Nat → Nat} {B : Nat → Prop} {rt : Int32} {e : am_E} {Q : am_Q} {kc ks : Nat} {x1 x3 x4 x5 : Value} (hP : am_PG C X F sz) (hS : am_MS S X) (hBd : ∀ f, f < F → (S 77 f = nI f ↔ B f)) (hop : ∀ f, f < F → ¬ am_Op X sz f) (KK : ∀ S' ln sp K, (∀ c j, (c ≠ 69 ∨ j ≠ 13) → (c < 80 ∨ c = 83 ∨ c = 86 ∨ c = 88 ∨ 92 < c) → S' c j = S c j) → S' 69 13 = nI K → K ≤ 60 → (∀ k, k < K → 2 ≤ ln k) → am_MRS S' F sz (am_op X F sz B) (am_en X F sz B) (am_sS C) ln sp K → ((rt = 0 ∧ K = 0) ∨ (¬ rt = 0 ∧ sq_F (am_st sz F) (am_op X F sz B) (am_en X F sz B) (am_sS C) ln sp K)) → am_Go (mX12_press, 170, [.ref 69, x1, .int rt, x3, x4, x5], [], hp S' e, kc, ks, Q)) : ∀ (n K : Nat) (ln sp : Nat → Nat) (S' : Nat → Nat → Int32), 60 < n + K → K ≤ 60 → (rt = 0 → K = 0) → (∀ c j, (c ≠ 69 ∨ j ≠ 13) → (c < 80 ∨ c = 83 ∨ c = 86 ∨ c = 88 ∨ 92 < c) → S' c j = S c j) → S' 69 13 = nI K → sq_Q (am_st sz F) (am_op X F sz B) (am_en X F sz B) (am_sS C) ln sp K → am_MRS S' F sz (am_op X F sz B) (am_en X F sz B) (am_sS C) ln sp K → am_Go (mX12_press, 137, [.ref 69, x1, .int rt, x3, x4, x5], [], hp S' e, kc, ks, Q)
  | 0, K, ln, sp, S', g1, g2, h0, hfr, h13, hQ, hR => by omega
  | n + 1, K, ln, sp, S', g1, g2, h0, hfr, h13, hQ, hR => by
    have hl2 : ∀ k, k < K → 2 ≤ ln k := fun k hk => (hQ k hk).l2
    refine go_s 2 rfl ?_
    refine go_if (fun c138 => ?_) (fun c138 => ?_)
    · exact KK S' ln sp K hfr h13 g2 hl2 hR (Or.inl ⟨c138, h0 c138⟩)
    refine go_s 4 rfl ?_
    refine go_if (fun c147 => ?_) (fun c147 => ?_)
    rotate_left
    · have c147 : ¬ S' 69 13 < nI 60 := c147
      rw [h13] at c147
      have hge := mt (nI_lt (a := K) (b := 60) · (by decide)) c147
      have ek : K = 60 := by omega
      exact KK S' ln sp K hfr h13 g2 hl2 hR (Or.inr ⟨c138, g2, hQ, Or.inl ek⟩)
    have c147 : S' 69 13 < nI 60 := c147
    rw [h13] at c147
    have hK := (nI_ltI (a := K) (b := 60) (by omega) (by decide)).mp c147
    have hS' : am_MS S' X := hS.u (fun c j h1 h2 h3 => hfr c j (by omega) (by omega))
    refine go_s 1 rfl ?_
    refine go_v kX12_press_151 okX12_findRoutine rfl rfl rfl rfl (Nat.zero_le _) (Nat.zero_le _) ?_
    refine c_X12_findRoutine (B := B) hP hS' (fun f hf => by rw [hfr 77 f (Or.inl (by decide)) (by decide)]; exact hBd f hf) hop hK h13 hl2 hR (fun S2 hf2 hR2 hno => ?_) (fun S2 ln' sp' hf2 hcg hB hR2 => ?_)
    · refine go_s 1 rfl ?_
      refine go_if (fun c => ?_) (fun c => absurd rfl c)
      exact KK S2 ln sp K (fun c j h1 h2 => (hf2 c j h2).trans (hfr c j h1 h2)) ((hf2 69 13 (by decide)).trans h13) g2 hl2 hR2 (Or.inr ⟨c138, g2, hQ, Or.inr hno⟩)
    · refine go_s 1 rfl ?_
      refine go_if (fun c => absurd c (by decide)) (fun c => ?_)
      refine go_s 7 (pc' := 137) (ls' := [.ref 69, x1, .int rt, x3, x4, x5]) (st' := []) (h' := hp (am_u S2 69 13 (nI (K + 1))) e) (by rw [← nI_1 K, ← h13, ← hf2 69 13 (by decide)]; rfl) ?_
      refine c_mpr hP hS hBd hop KK n (K + 1) ln' sp' _ (by omega) (by omega) (fun z => absurd z c138) (fun c j h1 h2 => ?_) am_u_eq (fun k hk => ?_) (am_MRS_u hR2 (fun c j hc => am_u_ne (by omega)))
      · rw [show am_u S2 69 13 (nI (K + 1)) c j = S2 c j by unfold am_u; rw [if_neg (by omega)], hf2 c j h2]
        exact hfr c j h1 h2
      · by_cases ek : k = K
        · subst ek; exact hB
        · have b := hQ k (by omega)
          rw [sq_U_cg (N := am_st sz F) (op := am_op X F sz B) (en := am_en X F sz B) (sm := am_sS C) k (fun i hi => hcg i (by omega)), (hcg k (by omega)).1, (hcg k (by omega)).2] at b
          exact b
theorem c_X12_press_ok {C X Y : Nat → Nat → Int32} {F : Nat} {sz : Nat → Nat} {B : Nat → Prop} {bo ln sp : Nat → Nat} {K : Nat} {fl rt : Int32} {e : am_E} {Q : am_Q} {kc ks : Nat} (hPY : am_PG Y Y F sz) (hY : ∀ c j, 69 ≤ c → Y c j = X c j) (hw : 109 ≤ e.2.1) (hkc : 1 ≤ kc) (hks : 5 ≤ ks) (hrf : am_rfs X F sz 0) (hps : ps_ok X F sz fl rt B bo ln sp K) (hE : ly_E2 C X F sz B bo (am_sS X) ln sp K) (hCX : am_sS C = am_sS X)
    (q : ∀ S0 S1 S' e', (∀ c j, c < 109 → (c < 69 ∨ (c = 69 ∧ (j < 10 ∨ 13 < j)) ∨ (70 ≤ c ∧ c ≤ 74) ∨ 92 < c) → S' c j = Y c j) → S' 69 10 = 1 → S' 69 11 = nI F → ly_ME X S0 F sz B bo (am_sS X) ln sp K → ly_MO C X F sz B bo (am_sS X) ln sp K S0 S1 → ly_N4 C X F sz B bo (am_sS X) ln sp K S1 S' K 0 → 109 ≤ e'.2.1 → e'.2.2 = e.2.2 → Q (some (.int (S' 69 12))) (hp S' e')) : am_Go (mX12_press, 0, am_ent mX12_press [.ref 69, .int fl, .int rt], [], hp Y e, kc, ks, Q) := by
  have hP := hE.e.pg
  refine go_s 1 rfl ?_
  refine go_v kX12_press_1 okX12_refusal rfl rfl rfl rfl hkc hks ?_
  refine c_X12_refusal hPY hw (by decide) (by decide) (fun r' D' e' hr5 hrf' hD he1 he2 => ?_)
  have er : r' = 0 := am_rfs_u (am_rfs_cg (fun c j h1 h2 => hY c j (by omega)) hrf') hrf
  subst er
  refine go_s 3 rfl ?_
  refine go_if (fun c => absurd c (by decide)) (fun c => ?_)
  refine go_s 2 rfl ?_
  refine go_m rfl rfl (Or.inr rfl) ?_
  show am_Go (mX12_press, 16, [.ref 69, .int fl, .int rt, .int (-nI 0), .long 0, .long 0], [], hp (am_u D' 69 10 1) e', _, _, Q)
  refine go_s 5 rfl ?_
  show am_Go (mX12_press, 25, [.ref 69, .int fl, .int rt, .int (-nI 0), .long 0, .long 0], [.ref 69], hp (am_u (am_u D' 69 10 1) 69 11 (D' 69 1)) e', _, _, Q)
  have m1 : D' 69 1 = nI F := (hD 69 1 (by decide)).trans hPY.m1
  rw [m1]
  have f1 : ∀ c j, c < 109 → (c ≠ 69 ∨ (j ≠ 10 ∧ j ≠ 11)) → am_u (am_u D' 69 10 1) 69 11 (nI F) c j = Y c j := fun c j h1 h2 => by
    unfold am_u
    rw [if_neg (by omega), if_neg (by omega)]
    exact hD c j h1
  have f10 : am_u (am_u D' 69 10 1) 69 11 (nI F) 69 10 = 1 := by rw [am_u_nj (by decide), am_u_eq]
  have f11 : am_u (am_u D' 69 10 1) 69 11 (nI F) 69 11 = nI F := am_u_eq
  generalize am_u (am_u D' 69 10 1) 69 11 (nI F) = T1 at f1 f10 f11 ⊢
  have hS1 : am_MS T1 X := ⟨(f1 69 1 (by decide) (by decide)).trans (hY _ _ (by decide)), (f1 69 2 (by decide) (by decide)).trans (hY _ _ (by decide)), fun c j h1 h2 => (f1 c j (by omega) (by omega)).trans (hY _ _ (by omega))⟩
  refine go_v kX12_press_25 okX12_parts rfl rfl rfl rfl (Nat.zero_le _) (Nat.zero_le _) ?_
  refine c_X12_parts hP hS1 (fun T2 i f2 hfx hMV => ?_)
  have hS2 : am_MS T2 X := hS1.u (fun c j h1 h2 _ => f2 c j (by omega) (by omega))
  obtain ⟨i0, hfx0, hbo0⟩ := hps.bo
  have hF := hP.hF
  have hbu : ∀ f b, f < F → ((fl = 0 ∧ b = f) ∨ (¬ fl = 0 ∧ am_bd X F sz (am_fE X F sz i) f b)) → b = bo f := fun f b hf h => by
    rcases h with ⟨z, rfl⟩ | ⟨z, h⟩
    · rcases hbo0 b hf with ⟨_, e⟩ | ⟨z', _⟩
      · exact e.symm
      · exact absurd z z'
    · rcases hbo0 f hf with ⟨z', _⟩ | ⟨_, h'⟩
      · exact absurd z' z
      · exact am_bd_u hf (fun g hg => am_fx_u hfx hfx0 hg hf) h h'
  refine go_s 3 (pc' := 32) (ls' := [.ref 69, .int fl, .int rt, .int (-nI 0), .int (nI 0), .long 0]) (st' := []) (h' := hp T2 e') rfl ?_
  refine c_mpb hP hS2 hMV hbu (fun T3 y4 y5 f3 hb3 => ?_) (F + 1) 0 _ T2 (by omega) (Nat.zero_le _) (fun _ _ _ => rfl) (fun g hg => absurd hg (Nat.not_lt_zero _))
  refine go_s 2 (pc' := 102) (ls' := [.ref 69, .int fl, .int rt, .int (-nI 0), .int (nI 0), y5]) (st' := []) (h' := hp T3 e') rfl ?_
  refine c_mpc (fun T4 z4 f4 h4 => ?_) 961 0 T3 (by omega) (by omega) (fun _ _ _ _ => rfl) (fun z hz => absurd hz (Nat.not_lt_zero _))
  refine go_s 3 (pc' := 137) (ls' := [.ref 69, .int fl, .int rt, .int (-nI 0), z4, y5]) (st' := []) (h' := hp (am_u T4 69 13 0) e') rfl ?_
  have f5 : ∀ c j, (c ≠ 69 ∨ j ≠ 13) → am_u T4 69 13 0 c j = T4 c j := fun c j h => by
    unfold am_u
    rw [if_neg (by omega)]
  have g5 : am_u T4 69 13 0 69 13 = 0 := am_u_eq
  generalize am_u T4 69 13 0 = T5 at f5 g5 ⊢
  have fY : ∀ c j, c < 109 → (c ≠ 69 ∨ (j ≠ 10 ∧ j ≠ 11 ∧ j ≠ 13)) → c ≠ 75 → c ≠ 76 → c ≠ 77 → c ≠ 87 → c ≠ 89 → T5 c j = Y c j := fun c j h1 h2 h3 h4 h5 h6 h7 => by
    rw [f5 c j (by omega), f4 c j h6 h7, f3 c j h5, f2 c j h3 h4, f1 c j h1 (by omega)]
  have hS5 : am_MS T5 X := hS1.u (fun c j h1 h2 h3 => by rw [f5 c j (by omega), f4 c j (by omega) (by omega), f3 c j (by omega), f2 c j (by omega) (by omega)])
  have b77 : ∀ f, f < F → T5 77 f = nI (bo f) := fun f hf => by
    rw [f5 77 f (by omega), f4 77 f (by decide) (by decide)]; exact hb3 f hf
  have hbF := fun (f : Nat) (hf : f < F) => hE.bo f hf
  refine c_mpr (C := C) (B := B) hP hS5 (fun f hf => ?_) hE.e.op (fun T6 ln' sp' K' f6 h13 hK60 hl2 hR hd => ?_) 61 0 (fun _ => 0) (fun _ => 0) T5 (by omega) (by omega) (fun _ => rfl) (fun _ _ _ _ => rfl) g5 (fun k hk => absurd hk (Nat.not_lt_zero _)) ⟨fun k hk => absurd hk (Nat.not_lt_zero _), fun f p h1 h2 => ?_, fun f p h1 h2 => ?_⟩
  · rw [b77 f hf, hps.bb f]
    have := hbF f hf
    exact nI_eq (by omega) (by omega)
  · rw [hCX] at hR hd
    have hkk : K' = K ∧ ∀ i, i < K' → ln' i = ln i ∧ sp' i = sp i := by
      rcases hps.rt with ⟨z, e0⟩ | ⟨z, hF0⟩
      · rcases hd with ⟨_, e1⟩ | ⟨z', _⟩
        · exact ⟨e1.trans e0.symm, fun i hi => by omega⟩
        · exact absurd z z'
      · rcases hd with ⟨z', _⟩ | ⟨_, hF1⟩
        · exact absurd z' z
        · exact sq_F_u hF1 hF0
    obtain ⟨ek, hcg⟩ := hkk
    subst ek
    have hR2 := am_MRS_cg hP.t300 hl2 hcg hR
    have hME : ly_ME X T6 F sz B bo (am_sS X) ln sp K' := by
      refine ⟨hS5.u (fun c j h1 h2 h3 => f6 c j (by omega) (by omega)), fun f hf => (f6 77 f (by omega) (by decide)).trans (b77 f hf), fun f _ => hps.bb f, h13, hR2⟩
    refine go_s 1 rfl ?_
    refine go_v kX12_press_171 okX12_layOut rfl rfl rfl rfl (Nat.zero_le _) (Nat.zero_le _) ?_
    refine c_X12_layOut hE hME (fun T7 hO => ?_)
    refine go_s 1 rfl ?_
    refine go_v kX12_press_175 okX12_write rfl rfl rfl rfl (Nat.zero_le _) (Nat.zero_le _) ?_
    have hME7 : ly_ME X T7 F sz B bo (am_sS X) ln sp K' := hME.u (fun c j h0 h1 _ h3 h4 h5 => hO.fr c j h0 h1 h3 h4 h5)
    refine c_X12_write hE hME7 hO (fun T8 hN => ?_)
    refine go_s 2 rfl ?_
    refine go_ret rfl rfl (q T6 T7 T8 e' (fun c j h1 h2 => ?_) ?_ ?_ hME hO hN he1 he2)
    · rw [hN.fr c j (by omega), hO.fr c j (by omega) (by omega) (by omega) (by omega) (by omega), f6 c j (by omega) (by omega)]
      exact fY c j h1 (by omega) (by omega) (by omega) (by omega) (by omega) (by omega)
    · rw [hN.fr 69 10 (by decide), hO.fr 69 10 (by decide) (by decide) (by decide) (by decide) (by decide), f6 69 10 (by decide) (by decide), f5 69 10 (by decide), f4 69 10 (by decide) (by decide), f3 69 10 (by decide), f2 69 10 (by decide) (by decide)]
      exact f10
    · rw [hN.fr 69 11 (by decide), hO.fr 69 11 (by decide) (by decide) (by decide) (by decide) (by decide), f6 69 11 (by decide) (by decide), f5 69 11 (by decide), f4 69 11 (by decide) (by decide), f3 69 11 (by decide), f2 69 11 (by decide) (by decide)]
      exact f11
  · refine Or.inr ⟨?_, fun z => z⟩
    rw [f5 87 _ (by omega)]
    have := hP.s40 f h1
    have := hP.hF
    exact (h4 _ (by omega)).1
  · refine Or.inl ⟨?_, fun ⟨k, hk, _⟩ => absurd hk (Nat.not_lt_zero _)⟩
    rw [f5 89 _ (by omega)]
    have := hP.s40 f h1
    have := hP.hF
    exact (h4 _ (by omega)).2
