theorem c_X6_findAll {C D : Nat → Nat → Int32} {F : Nat} {sz : Nat → Nat} {B : Nat → Prop} {e : am_E} {Q : am_Q} {kc ks : Nat} (hP : am_PG C D F sz) (h4 : C 11 4 = nI F) (hB : ∀ f, f < F → (C 13 f = nI f ↔ B f)) (r10 : C 15 10 = 0) (r11 : C 15 11 = 0) (r25 : ∀ j, j < 300 → C 25 j = -1) (q : ∀ C' ln sp K, (∀ c i, (c < 15 ∨ 56 < c) → C' c i = C c i) → sq_F (am_st sz F) (am_op D F sz B) (am_en D F sz B) (am_sS C) ln sp K → sq_RS C' F sz (am_op D F sz B) (am_en D F sz B) (am_sS C) ln sp K → Q none (hp C' e)) : am_Go (mX6_findAll, 0, am_ent mX6_findAll [.ref 26], [], hp C e, kc, ks, Q) := by
  have h3 := hP.t300
  refine go_s 3 rfl ?_
  refine go_v kX6_findAll_5 okX5_size rfl rfl rfl rfl (Nat.zero_le _) (Nat.zero_le _) ?_
  refine c_X5_size ?_
  refine go_s 1 rfl ?_
  refine go_min 648 rfl (by decide +kernel) rfl ?_
  refine go_s 2 (pc' := 18) (ls' := [.ref 26, .long 0, .long 0]) (st' := [.ref 26]) (h' := hp (am_u C 26 12 (nI (am_st sz F))) e) (by rw [show nI (am_st sz F) = (if (300 : Int32) < C 1 6 then 300 else C 1 6) by rw [hP.cS]; exact (if_neg (nI_nlt (a := 300) (b := am_st sz F) h3 (by decide))).symm]; rfl) ?_
  have hP0 : am_PG (am_u C 26 12 (nI (am_st sz F))) D F sz := hP.fr (fun c i h1 h2 _ => am_u_ne (by omega)) (fun _ _ _ _ _ => rfl)
  refine go_v kX6_findAll_18 okX6_markSpots rfl rfl rfl rfl (Nat.zero_le _) (Nat.zero_le _) ?_
  refine c_X6_markSpots (B := B) hP0 am_u_eq ((am_u_ne (by decide)).trans h4) (fun f hf => by rw [am_u_ne (by decide)]; exact hB f hf) (fun C1 h1 => ?_)
  refine go_s 1 rfl ?_
  refine go_v kX6_findAll_22 okX6_measureReach rfl rfl rfl rfl (Nat.zero_le _) (Nat.zero_le _) ?_
  have r12 : C1 26 12 = nI (am_st sz F) := (h1.fr 26 12 (by decide) (by decide)).trans am_u_eq
  refine c_X6_measureReach (op := am_op D F sz B) (en := am_en D F sz B) (U := fun _ => False) h3 r12 (fun s hs => am_bz_iff (h1.op s hs) ⟨fun z => ⟨z, fun y => y⟩, fun z => z.1⟩) h1.en (fun C2 h2 hRC => ?_)
  refine go_s 1 rfl ?_
  refine go_v kX6_findAll_26 okX6_nameRows rfl rfl rfl rfl (Nat.zero_le _) (Nat.zero_le _) ?_
  have f2 : ∀ c i, c ≠ 27 → c ≠ 28 → c ≠ 29 → (c ≠ 26 ∨ i ≠ 12) → C2 c i = C c i := fun c i a1 a2 a3 a4 => by
    rw [h2 c i a3, h1.fr c i a1 a2]
    unfold am_u
    rw [if_neg (by omega)]
  have hP2 : am_PG C2 D F sz := hP.fr (fun c i g1 g2 _ => f2 c i (by omega) (by omega) (by omega) (by omega)) (fun _ _ _ _ _ => rfl)
  have hss : am_sS C2 = am_sS C := am_sS_cg (fun c j g1 g2 => f2 c j (by omega) (by omega) (by omega) (by omega))
  refine c_X6_nameRows hP2 ((h2 26 12 (by decide)).trans r12) hRC (fun C3 L hL hN hno => ?_)
  rw [hss] at hno
  refine go_s 4 (pc' := 33) (ls' := [.ref 26, .int 1, .int (nI 0)]) (st' := []) (h' := hp C3 e) rfl ?_
  have r13 : C3 26 12 = nI (am_st sz F) := (hN.fr 26 12 (by decide) (by decide)).trans ((h2 26 12 (by decide)).trans r12)
  refine c_fa (T := L) hP q 61 _ _ 0 1 (fun _ => 0) (fun _ => 0) C3 (by omega) (by omega) ⟨fun c i a1 => ?_, fun k hk => by omega, ⟨h3, hL, r13, fun s hs => ?_, fun m a1 a2 => ?_, am_sS_eqv C⟩, ⟨L, Nat.le_refl _, hN.lt, sq_l1_0 (am_sS_eqv C) hno⟩, ⟨?_, ?_, fun k hk => by omega, fun j hj _ => ?_⟩, fun t ht => ?_, fun t ht => ?_, Or.inl rfl⟩
  · rw [hN.fr c i (by omega) (by omega)]; exact f2 c i (by omega) (by omega) (by omega) (by omega)
  · rw [hN.fr 29 s (by decide) (Or.inl (by decide))]; exact hRC s hs
  · rw [← hss]; exact hN.nm m a1 a2
  · rw [hN.fr 15 10 (by decide) (Or.inl (by decide)), f2 15 10 (by decide) (by decide) (by decide) (Or.inl (by decide)), r10]; rfl
  · rw [hN.fr 15 11 (by decide) (Or.inl (by decide)), f2 15 11 (by decide) (by decide) (by decide) (Or.inl (by decide)), r11]; rfl
  · rw [hN.fr 25 j (by decide) (Or.inl (by decide)), f2 25 j (by decide) (by decide) (by decide) (Or.inl (by decide))]; exact r25 j hj
  · rw [hN.fr 27 t (by decide) (Or.inl (by decide)), h2 27 t (by decide)]
    exact am_bz_iff (h1.op t ht) ⟨fun z => ⟨z, fun y => y⟩, fun z => z.1⟩
  · rw [hN.fr 28 t (by decide) (Or.inl (by decide)), h2 28 t (by decide)]; exact h1.en t ht
