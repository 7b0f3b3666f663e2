theorem c_l1 {C D : Nat → Nat → Int32} {F : Nat} {sz : Nat → Nat} {B : Nat → Prop} {bo : Nat → Nat} {sm : Nat → Nat → Prop} {ln sp : Nat → Nat} {K : Nat} {e : am_E} {Q : am_Q} {kc ks : Nat} (hE : ly_E2 C D F sz B bo sm ln sp K) (KK : ∀ C', ly_L C D F sz B sm ln sp K C' (am_st sz F) F → am_Go (mX3_link, 39, [.ref 57, .int (nI (ly_W C D F sz B sm ln sp K (am_st sz F))), .int (nI F)], [], hp C' e, kc, ks, Q)) : ∀ (n f : Nat) (C' : Nat → Nat → Int32), F < n + f → f ≤ F → ly_L C D F sz B sm ln sp K C' (am_st sz f) f → am_Go (mX3_link, 4, [.ref 57, .int (nI (ly_W C D F sz B sm ln sp K (am_st sz f))), .int (nI f)], [], hp C' e, kc, ks, Q)
  | 0, f, C', g1, g2, hI => by omega
  | n + 1, f, C', g1, g2, hI => by
    have hP : am_PG C' D F sz := hE.e.pg.fr (fun c j h1 h2 _ => hI.fr c j (by omega) (by omega) (by omega)) (fun _ _ _ _ _ => rfl)
    have hF := hP.hF
    have r4 : C' 11 4 = nI F := (hI.fr 11 4 (by decide) (by decide) (by decide)).trans hE.e.c4
    refine go_s 3 rfl ?_
    refine go_v kX3_link_9 okX5_functions rfl rfl rfl rfl (Nat.zero_le _) (Nat.zero_le _) ?_
    refine c_X5_functions ?_
    rw [hP.c5]
    refine go_s 1 rfl ?_
    refine go_if (fun c12 => ?_) (fun c12 => ?_)
    rotate_left
    · have hge := mt (nI_lt (a := f) (b := F) · (by omega)) c12
      have ef : f = F := by omega
      subst ef
      exact KK C' hI
    have hf := (nI_ltI (a := f) (b := F) (by omega) (by omega)).mp c12
    have r13 : C' 13 f = C 13 f := hI.fr 13 f (by decide) (by decide) (by decide)
    refine go_s 3 rfl ?_
    refine go_v kX3_link_20 okX1_isBody rfl rfl rfl rfl (Nat.zero_le _) (Nat.zero_le _) ?_
    refine c_X1_isBody (am_wl r4 hF (by decide)) ?_
    have ez : zb ((0 ≤ nI f ∧ nI f < C' 11 4) ∧ C' 13 (nI f).toNatClampNeg = nI f) = 0 ↔ ¬ B f := by
      rw [zb_0, nI_clamp (by omega), r13]
      refine ⟨fun z y => z ⟨⟨nI_pos' (by omega), by rw [r4]; exact nI_lt hf (by omega)⟩, (hE.e.bd f hf).mpr y⟩, fun z y => z ((hE.e.bd f hf).mp y.2)⟩
    refine go_s 1 rfl ?_
    by_cases hB : B f
    · refine go_if (fun c => absurd hB (ez.mp c)) (fun c => ?_)
      refine go_s 3 rfl ?_
      refine go_v kX3_link_29 okX3_layOutBody rfl rfl rfl rfl (Nat.zero_le _) (Nat.zero_le _) ?_
      refine c_X3_layOutBody hE.e hf hB hI (fun C2 hI2 => ?_)
      refine go_s 3 (pc' := 4) (ls' := [.ref 57, .int (nI (ly_W C D F sz B sm ln sp K (am_st sz (f + 1)))), .int (nI (f + 1))]) (st' := []) (h' := hp C2 e) (by rw [← nI_1 f]; rfl) ?_
      exact c_l1 hE KK n (f + 1) C2 (by omega) (by omega) hI2
    · refine go_if (fun c => ?_) (fun c => absurd (ez.mpr hB) c)
      have ew : ly_W C D F sz B sm ln sp K (am_st sz (f + 1)) = ly_W C D F sz B sm ln sp K (am_st sz f) := ly_W_nb hf hB (sz f) (Nat.le_refl _)
      refine go_s 2 (pc' := 4) (ls' := [.ref 57, .int (nI (ly_W C D F sz B sm ln sp K (am_st sz (f + 1)))), .int (nI (f + 1))]) (st' := []) (h' := hp C' e) (by rw [← nI_1 f, ew]; rfl) ?_
      have est : am_st sz (f + 1) = am_st sz f + sz f := rfl
      have inb : ∀ t, am_st sz f ≤ t → t < am_st sz (f + 1) → ∃ p, p < sz f ∧ t = am_st sz f + p := fun t h1 h2 => ⟨t - am_st sz f, by omega, by omega⟩
      refine c_l1 hE KK n (f + 1) C' (by omega) (by omega) ⟨hI.fr, fun t ht b1 b2 => ?_, fun k j a1 a2 a3 => ?_, fun g a1 a2 a3 => ?_⟩
      · by_cases e : t < am_st sz f
        · exact hI.wo t e b1 b2
        · obtain ⟨p, hp, et⟩ := inb t (by omega) ht
          rw [et] at b1
          exact absurd ((ly_bd_i hf hp).mp b1) hB
      · by_cases e : j < am_st sz f
        · exact hI.oc k j a1 e a3
        · obtain ⟨p, hp, et⟩ := inb j (by omega) a2
          rw [et] at a3
          exact absurd (ly_ok_B (by have := (hE.e.l2 a1).1; omega) hf hp a3) hB
      · exact hI.fi g a1 a2 (by
          have : g ≠ f := fun z => hB (z ▸ a2)
          omega)
theorem c_l2 {C D : Nat → Nat → Int32} {F : Nat} {sz : Nat → Nat} {B : Nat → Prop} {bo : Nat → Nat} {sm : Nat → Nat → Prop} {ln sp : Nat → Nat} {K : Nat} {e : am_E} {Q : am_Q} {kc ks : Nat} (hE : ly_E2 C D F sz B bo sm ln sp K) (KK : ∀ C', ly_L2 C D F sz B sm ln sp K C' K → am_Go (mX3_link, 80, [.ref 57, .int (nI (ly_R C D F sz B sm ln sp K K)), .int (nI K)], [], hp C' e, kc, ks, Q)) : ∀ (n k : Nat) (C' : Nat → Nat → Int32), K < n + k → k ≤ K → ly_L2 C D F sz B sm ln sp K C' k → am_Go (mX3_link, 41, [.ref 57, .int (nI (ly_R C D F sz B sm ln sp K k)), .int (nI k)], [], hp C' e, kc, ks, Q)
  | 0, k, C', g1, g2, hI => by omega
  | n + 1, k, C', g1, g2, hI => by
    have hk60 := hE.e.k60
    have r10 : C' 15 10 = nI K := (hI.fr 15 10 (by decide) (by decide) (by decide) (by decide)).trans hE.e.rs.cR
    refine go_s 3 rfl ?_
    refine go_v kX3_link_46 okX7_size rfl rfl rfl rfl (Nat.zero_le _) (Nat.zero_le _) ?_
    refine c_X7_size ?_
    rw [r10]
    refine go_s 1 rfl ?_
    refine go_if (fun c49 => ?_) (fun c49 => ?_)
    rotate_left
    · have hge := mt (nI_lt (a := k) (b := K) · (by omega)) c49
      have ef : k = K := by omega
      subst ef
      exact KK C' hI
    have hk := (nI_ltI (a := k) (b := K) (by omega) (by omega)).mp c49
    refine go_s 4 rfl ?_
    refine go_v kX3_link_58 okX7_setFirstWord rfl rfl rfl rfl (Nat.zero_le _) (Nat.zero_le _) ?_
    refine c_X7_setFirstWord (am_wl r10 hk60 (by decide)) ?_
    rw [if_pos ⟨nI_pos' (by omega), by rw [r10]; exact nI_lt hk (by omega)⟩, nI_clamp (by omega)]
    have hI2 : ly_L2 C D F sz B sm ln sp K (am_u C' 20 k (nI (ly_R C D F sz B sm ln sp K k))) (k + 1) := by
      refine ⟨fun c j a1 a2 a3 a4 => (am_u_ne a2).trans (hI.fr c j a1 a2 a3 a4), fun t a1 a2 a3 => (am_u_ne (by decide)).trans (hI.wo t a1 a2 a3), fun m j a1 a2 => (am_u_ne (by decide)).trans (hI.oc m j a1 a2), fun g a1 a2 => (am_u_ne (by decide)).trans (hI.fi g a1 a2), fun m hm => ?_⟩
      by_cases em : m = k
      · subst em; rw [am_u_eq]
      · rw [am_u_nj em]; exact hI.ro m (by omega)
    generalize am_u C' 20 k (nI (ly_R C D F sz B sm ln sp K k)) = C2 at hI2 ⊢
    have r102 : C2 15 10 = nI K := (hI2.fr 15 10 (by decide) (by decide) (by decide) (by decide)).trans hE.e.rs.cR
    refine go_s 4 rfl ?_
    refine go_v kX3_link_67 okX7_lengthOf rfl rfl rfl rfl (Nat.zero_le _) (Nat.zero_le _) ?_
    refine c_X7_lengthOf (am_wl r102 hk60 (by decide)) ?_
    rw [if_pos ⟨nI_pos' (by omega), by rw [r102]; exact nI_lt hk (by omega)⟩, nI_clamp (by omega), hI2.fr 17 k (by decide) (by decide) (by decide) (by decide), (hE.e.rs.ro k hk).s17]
    refine go_s 6 (pc' := 41) (ls' := [.ref 57, .int (nI (ly_R C D F sz B sm ln sp K (k + 1))), .int (nI (k + 1))]) (st' := []) (h' := hp C2 e) (by rw [← nI_1 k, ly_R_s, ← nI_add (ly_R C D F sz B sm ln sp K k) (ln k + 1), ← nI_1 (ln k)]; rfl) ?_
    exact c_l2 hE KK n (k + 1) C2 (by omega) (by omega) hI2
theorem ly_L3_nb {C D : Nat → Nat → Int32} {F : Nat} {sz : Nat → Nat} {B : Nat → Prop} {bo : Nat → Nat} {sm : Nat → Nat → Prop} {ln sp : Nat → Nat} {K : Nat} {C1 C' : Nat → Nat → Int32} {f : Nat} (hf : f < F) (hB : ¬ B f) (hI : ly_L3 C D F sz B bo sm ln sp K C1 C' (am_st sz f)) : ∀ p, p ≤ sz f → ly_L3 C D F sz B bo sm ln sp K C1 C' (am_st sz f + p)
  | 0, _ => hI
  | p + 1, h => (ly_L3_nb hf hB hI p (by omega)).w0 (ly_w_nb (fun z => hB ((ly_bd_i hf (by omega)).mp z)))
theorem c_l3 {C D : Nat → Nat → Int32} {F : Nat} {sz : Nat → Nat} {B : Nat → Prop} {bo : Nat → Nat} {sm : Nat → Nat → Prop} {ln sp : Nat → Nat} {K : Nat} {C1 : Nat → Nat → Int32} {e : am_E} {Q : am_Q} (hE : ly_E2 C D F sz B bo sm ln sp K) (hL : ly_L2 C D F sz B sm ln sp K C1 K) {kc ks : Nat} {x1 : Value} (KK : ∀ C', ly_L3 C D F sz B bo sm ln sp K C1 C' (am_st sz F) → am_Go (mX3_link, 115, [.ref 57, x1, .int (nI F)], [], hp C' e, kc, ks, Q)) : ∀ (n f : Nat) (C' : Nat → Nat → Int32), F < n + f → f ≤ F → ly_L3 C D F sz B bo sm ln sp K C1 C' (am_st sz f) → am_Go (mX3_link, 82, [.ref 57, x1, .int (nI f)], [], hp C' e, kc, ks, Q)
  | 0, f, C', g1, g2, hI => by omega
  | n + 1, f, C', g1, g2, hI => by
    have hP := hI.pg hE hL
    have hF := hP.hF
    have r4 : C' 11 4 = nI F := (hI.fr 11 4 (by decide) (Or.inr (by decide))).trans ((hL.fr 11 4 (by decide) (by decide) (by decide) (by decide)).trans hE.e.c4)
    refine go_s 3 rfl ?_
    refine go_v kX3_link_87 okX5_functions rfl rfl rfl rfl (Nat.zero_le _) (Nat.zero_le _) ?_
    refine c_X5_functions ?_
    rw [hP.c5]
    refine go_s 1 rfl ?_
    refine go_if (fun c12 => ?_) (fun c12 => ?_)
    rotate_left
    · have hge := mt (nI_lt (a := f) (b := F) · (by omega)) c12
      have ef : f = F := by omega
      subst ef
      exact KK C' hI
    have hf := (nI_ltI (a := f) (b := F) (by omega) (by omega)).mp c12
    have r13 : C' 13 f = C 13 f := (hI.fr 13 f (by decide) (Or.inl (by decide))).trans (hL.fr 13 f (by decide) (by decide) (by decide) (by decide))
    refine go_s 3 rfl ?_
    refine go_v kX3_link_98 okX1_isBody rfl rfl rfl rfl (Nat.zero_le _) (Nat.zero_le _) ?_
    refine c_X1_isBody (am_wl r4 hF (by decide)) ?_
    have ez : zb ((0 ≤ nI f ∧ nI f < C' 11 4) ∧ C' 13 (nI f).toNatClampNeg = nI f) = 0 ↔ ¬ B f := by
      rw [zb_0, nI_clamp (by omega), r13]
      refine ⟨fun z y => z ⟨⟨nI_pos' (by omega), by rw [r4]; exact nI_lt hf (by omega)⟩, (hE.e.bd f hf).mpr y⟩, fun z y => z ((hE.e.bd f hf).mp y.2)⟩
    refine go_s 1 rfl ?_
    by_cases hB : B f
    · refine go_if (fun c => absurd hB (ez.mp c)) (fun c => ?_)
      refine go_s 2 rfl ?_
      refine go_v kX3_link_106 okX3_writeBody rfl rfl rfl rfl (Nat.zero_le _) (Nat.zero_le _) ?_
      refine c_X3_writeBody hE hL hf hB hI (fun C2 hI2 => ?_)
      refine go_s 2 (pc' := 82) (ls' := [.ref 57, x1, .int (nI (f + 1))]) (st' := []) (h' := hp C2 e) (by rw [← nI_1 f]; rfl) ?_
      exact c_l3 hE hL KK n (f + 1) C2 (by omega) (by omega) hI2
    · refine go_if (fun c => ?_) (fun c => absurd (ez.mpr hB) c)
      refine go_s 2 (pc' := 82) (ls' := [.ref 57, x1, .int (nI (f + 1))]) (st' := []) (h' := hp C' e) (by rw [← nI_1 f]; rfl) ?_
      exact c_l3 hE hL KK n (f + 1) C' (by omega) (by omega) (ly_L3_nb hf hB hI (sz f) (Nat.le_refl _))
theorem c_l4 {C D : Nat → Nat → Int32} {F : Nat} {sz : Nat → Nat} {B : Nat → Prop} {bo : Nat → Nat} {sm : Nat → Nat → Prop} {ln sp : Nat → Nat} {K : Nat} {C1 : Nat → Nat → Int32} {e : am_E} {Q : am_Q} (hE : ly_E2 C D F sz B bo sm ln sp K) (hL : ly_L2 C D F sz B sm ln sp K C1 K) {kc ks : Nat} {x1 : Value} (q : ∀ C', ly_L4 C D F sz B bo sm ln sp K C1 C' K 0 → Q none (hp C' e)) : ∀ (n k : Nat) (C' : Nat → Nat → Int32), K < n + k → k ≤ K → ly_L4 C D F sz B bo sm ln sp K C1 C' k 0 → am_Go (mX3_link, 117, [.ref 57, x1, .int (nI k)], [], hp C' e, kc, ks, Q)
  | 0, k, C', g1, g2, hI => by omega
  | n + 1, k, C', g1, g2, hI => by
    have hk60 := hE.e.k60
    have r10 : C' 15 10 = nI K := (hI.fr 15 10 (by decide) (Or.inl (by decide))).trans ((hL.fr 15 10 (by decide) (by decide) (by decide) (by decide)).trans hE.e.rs.cR)
    refine go_s 3 rfl ?_
    refine go_v kX3_link_122 okX7_size rfl rfl rfl rfl (Nat.zero_le _) (Nat.zero_le _) ?_
    refine c_X7_size ?_
    rw [r10]
    refine go_s 1 rfl ?_
    refine go_if (fun c49 => ?_) (fun c49 => ?_)
    rotate_left
    · have hge := mt (nI_lt (a := k) (b := K) · (by omega)) c49
      have ef : k = K := by omega
      subst ef
      exact go_retv rfl rfl (q C' hI)
    have hk := (nI_ltI (a := k) (b := K) (by omega) (by omega)).mp c49
    refine go_s 2 rfl ?_
    refine go_v kX3_link_130 okX3_writeRoutine rfl rfl rfl rfl (Nat.zero_le _) (Nat.zero_le _) ?_
    refine c_X3_writeRoutine hE hL hk hI (fun C2 hI2 => ?_)
    refine go_s 2 (pc' := 117) (ls' := [.ref 57, x1, .int (nI (k + 1))]) (st' := []) (h' := hp C2 e) (by rw [← nI_1 k]; rfl) ?_
    exact c_l4 hE hL q n (k + 1) C2 (by omega) (by omega) hI2
/-- all is laid out and written -/
theorem c_X3_link {C D : Nat → Nat → Int32} {F : Nat} {sz : Nat → Nat} {B : Nat → Prop} {bo : Nat → Nat} {sm : Nat → Nat → Prop} {ln sp : Nat → Nat} {K : Nat} {e : am_E} {Q : am_Q} {kc ks : Nat} (hE : ly_E2 C D F sz B bo sm ln sp K) (h3 : C 11 3 = 0) (q : ∀ C1 C', ly_L2 C D F sz B sm ln sp K C1 K → ly_L4 C D F sz B bo sm ln sp K C1 C' K 0 → Q none (hp C' e)) : am_Go (mX3_link, 0, am_ent mX3_link [.ref 57], [], hp C e, kc, ks, Q) := by
  refine go_s 4 rfl ?_
  refine c_l1 hE (fun C1 h1 => ?_) (F + 1) 0 C (by omega) (Nat.zero_le _) ⟨fun _ _ _ _ _ => rfl, fun t ht => absurd ht (Nat.not_lt_zero _), fun k j _ hj => absurd hj (Nat.not_lt_zero _), fun g _ _ hg => absurd hg (Nat.not_lt_zero _)⟩
  refine go_s 2 rfl ?_
  refine c_l2 hE (fun C2 h2 => ?_) (K + 1) 0 C1 (by omega) (Nat.zero_le _) ⟨fun c j a1 a2 a3 a4 => h1.fr c j a1 a3 a4, fun t a1 a2 a3 => h1.wo t a1 a2 a3, fun k j a1 a2 => h1.oc k j a1 (sq_ok_lt (by have := (hE.e.l2 a1).1; omega) a2) a2, fun g a1 a2 => h1.fi g a1 a2 a1, fun k hk => absurd hk (Nat.not_lt_zero _)⟩
  refine go_s 2 rfl ?_
  refine c_l3 hE h2 (fun C3 h3 => ?_) (F + 1) 0 C2 (by omega) (Nat.zero_le _) ⟨fun _ _ _ _ => rfl, (h2.fr 11 3 (by decide) (by decide) (by decide) (by decide)).trans h3, fun _ _ _ _ _ z => absurd z (Nat.not_lt_zero _)⟩
  refine go_s 2 rfl ?_
  exact c_l4 hE h2 (fun C4 h4 => q C2 C4 h2 h4) (K + 1) 0 C3 (by omega) (Nat.zero_le _) ⟨h3.fr, h3.n, fun f p r a1 a2 a3 => h3.wb f p r a1 a2 (hE.e.pg.lt a1 a2) a3, fun k r z => by omega⟩
