def ly_L4 (C D : Nat → Nat → Int32) (F : Nat) (sz : Nat → Nat) (B : Nat → Prop) (bo : Nat → Nat) (sm : Nat → Nat → Prop) (ln sp : Nat → Nat) (K : Nat) (C1 C' : Nat → Nat → Int32) (m i : Nat) : Prop := (∀ c j, c ≠ 12 → (c ≠ 11 ∨ j ≠ 3) → C' c j = C1 c j) ∧ (C' 11 3 = nI (ly_R C D F sz B sm ln sp K m + i)) ∧ (∀ f p r, f < F → p < sz f → r < ly_n C D F sz B sm ln sp K (am_st sz f + p) → C' 12 (ly_W C D F sz B sm ln sp K (am_st sz f + p) + r) = ly_v C D F sz B bo sm ln sp K f (am_st sz f + p) r) ∧ (∀ k r, (k < m ∧ r ≤ ln k) ∨ (k = m ∧ r < i) → C' 12 (ly_R C D F sz B sm ln sp K k + r) = ly_rv C ln sp k r)
theorem ly_L4.fr {C D : Nat → Nat → Int32} {F : Nat} {sz : Nat → Nat} {B : Nat → Prop} {bo : Nat → Nat} {sm : Nat → Nat → Prop} {ln sp : Nat → Nat} {K : Nat} {C1 C' : Nat → Nat → Int32} {m i : Nat} (h : ly_L4 C D F sz B bo sm ln sp K C1 C' m i) : ∀ c j, c ≠ 12 → (c ≠ 11 ∨ j ≠ 3) → C' c j = C1 c j := h.1
theorem ly_L4.n {C D : Nat → Nat → Int32} {F : Nat} {sz : Nat → Nat} {B : Nat → Prop} {bo : Nat → Nat} {sm : Nat → Nat → Prop} {ln sp : Nat → Nat} {K : Nat} {C1 C' : Nat → Nat → Int32} {m i : Nat} (h : ly_L4 C D F sz B bo sm ln sp K C1 C' m i) : C' 11 3 = nI (ly_R C D F sz B sm ln sp K m + i) := h.2.1
theorem ly_L4.wb {C D : Nat → Nat → Int32} {F : Nat} {sz : Nat → Nat} {B : Nat → Prop} {bo : Nat → Nat} {sm : Nat → Nat → Prop} {ln sp : Nat → Nat} {K : Nat} {C1 C' : Nat → Nat → Int32} {m i : Nat} (h : ly_L4 C D F sz B bo sm ln sp K C1 C' m i) : ∀ f p r, f < F → p < sz f → r < ly_n C D F sz B sm ln sp K (am_st sz f + p) → C' 12 (ly_W C D F sz B sm ln sp K (am_st sz f + p) + r) = ly_v C D F sz B bo sm ln sp K f (am_st sz f + p) r := h.2.2.1
theorem ly_L4.wr {C D : Nat → Nat → Int32} {F : Nat} {sz : Nat → Nat} {B : Nat → Prop} {bo : Nat → Nat} {sm : Nat → Nat → Prop} {ln sp : Nat → Nat} {K : Nat} {C1 C' : Nat → Nat → Int32} {m i : Nat} (h : ly_L4 C D F sz B bo sm ln sp K C1 C' m i) : ∀ k r, (k < m ∧ r ≤ ln k) ∨ (k = m ∧ r < i) → C' 12 (ly_R C D F sz B sm ln sp K k + r) = ly_rv C ln sp k r := h.2.2.2
section LYQ4
variable {C D : Nat → Nat → Int32} {F : Nat} {sz : Nat → Nat} {B : Nat → Prop} {bo : Nat → Nat} {sm : Nat → Nat → Prop} {ln sp : Nat → Nat} {K : Nat} {C1 C' : Nat → Nat → Int32}
theorem ly_L4.pg (hE : ly_E2 C D F sz B bo sm ln sp K) (hL : ly_L2 C D F sz B sm ln sp K C1 K) {m i : Nat} (hI : ly_L4 C D F sz B bo sm ln sp K C1 C' m i) : am_PG C' D F sz := hE.e.pg.fr (fun c j h1 h2 _ => (hI.fr c j (by omega) (by omega)).trans (hL.fr c j (by omega) (by omega) (by omega) (by omega))) (fun _ _ _ _ _ => rfl)
theorem ly_L4.w {m i : Nat} {w : Int32} (hP : am_PG C D F sz) (hw : w = ly_rv C ln sp m i) (h6 : ly_R C D F sz B sm ln sp K m + i < 600) (hI : ly_L4 C D F sz B bo sm ln sp K C1 C' m i) : ly_L4 C D F sz B bo sm ln sp K C1 (am_app C' w) m (i + 1) := by
  rw [am_app_n hI.n h6]
  refine ⟨fun c j a1 a2 => ?_, by rw [am_u_eq]; rfl, fun f p r h1 h2 h4 => ?_, fun k r h => ?_⟩
  · unfold am_u
    rw [if_neg (by omega), if_neg (by omega)]
    exact hI.fr c j a1 a2
  · have hl := hP.lt h1 h2
    have l1 : ly_W C D F sz B sm ln sp K (am_st sz f + p + 1) ≤ ly_W C D F sz B sm ln sp K (am_st sz F) := ly_W_le (by omega)
    have l2 : ly_R C D F sz B sm ln sp K 0 ≤ ly_R C D F sz B sm ln sp K m := ly_R_le (Nat.zero_le _)
    rw [ly_R_0] at l2
    rw [ly_W_s] at l1
    rw [am_u_ne (by decide), am_u_nj (by omega)]
    exact hI.wb f p r h1 h2 h4
  · rw [am_u_ne (by decide)]
    by_cases e : k = m ∧ r = i
    · obtain ⟨e1, e2⟩ := e
      subst e1; subst e2
      rw [am_u_eq]
      exact hw
    · have l1 : k < m → ly_R C D F sz B sm ln sp K k + (ln k + 1) ≤ ly_R C D F sz B sm ln sp K m := fun z => by
        have := ly_R_le (C := C) (D := D) (F := F) (sz := sz) (B := B) (sm := sm) (ln := ln) (sp := sp) (K := K) (show k + 1 ≤ m from z)
        rw [ly_R_s] at this
        exact this
      have hne : ly_R C D F sz B sm ln sp K k + r ≠ ly_R C D F sz B sm ln sp K m + i := by
        rcases h with h | h
        · have := l1 h.1
          omega
        · rw [h.1]
          have : r ≠ i := fun z => e ⟨h.1, z⟩
          omega
      rw [am_u_nj hne]
      exact hI.wr k r (by omega)
theorem ly_L4.s {m : Nat} (hI : ly_L4 C D F sz B bo sm ln sp K C1 C' m (ln m + 1)) : ly_L4 C D F sz B bo sm ln sp K C1 C' (m + 1) 0 := by
  refine ⟨hI.fr, ?_, hI.wb, fun k r h => ?_⟩
  · rw [ly_R_s, Nat.add_zero]
    exact hI.n
  · by_cases e : k = m
    · exact hI.wr k r (by rw [e] at h ⊢; omega)
    · exact hI.wr k r (by omega)
end LYQ4
theorem c_wrt {C D : Nat → Nat → Int32} {F : Nat} {sz : Nat → Nat} {B : Nat → Prop} {bo : Nat → Nat} {sm : Nat → Nat → Prop} {ln sp : Nat → Nat} {K : Nat} {C1 : Nat → Nat → Int32} {e : am_E} {Q : am_Q} (hE : ly_E2 C D F sz B bo sm ln sp K) (hL : ly_L2 C D F sz B sm ln sp K C1 K) {k : Nat} (hk : k < K) (q : ∀ C', ly_L4 C D F sz B bo sm ln sp K C1 C' (k + 1) 0 → Q none (hp C' e)) : ∀ (n kc ks i : Nat) (C' : Nat → Nat → Int32), ln k < n + i → i ≤ ln k → ly_L4 C D F sz B bo sm ln sp K C1 C' k i → am_Go (mX3_writeRoutine, 11, [.ref 57, .int (nI k), .int (nI (sp k)), .int (nI i)], [], hp C' e, kc, ks, Q)
  | 0, kc, ks, i, C', g1, g2, hI => by omega
  | n + 1, kc, ks, i, C', g1, g2, hI => by
    have hP := hI.pg hE hL
    have hk60 := hE.e.k60
    have hl2 := hE.e.l2 hk
    have ht := hP.t300
    have fr : ∀ c j, c ≠ 12 → (c ≠ 11 ∨ j ≠ 3) → c ≠ 14 → c ≠ 20 → c ≠ 24 → c ≠ 58 → C' c j = C c j := fun c j a1 a2 a3 a4 a5 a6 => (hI.fr c j a1 a2).trans (hL.fr c j a3 a4 a5 a6)
    have r10 : C' 15 10 = nI K := (fr 15 10 (by decide) (Or.inl (by decide)) (by decide) (by decide) (by decide) (by decide)).trans hE.e.rs.cR
    have hR10 : (C' 15 10).toInt ≤ 60 := am_wl r10 hk60 (by decide)
    have hkk : 0 ≤ nI k ∧ nI k < C' 15 10 := ⟨nI_pos' (by omega), by rw [r10]; exact nI_lt hk (by omega)⟩
    have w6 := hE.R6 (show k + 1 ≤ K from hk)
    rw [ly_R_s] at w6
    have h0 : ¬ C' 11 3 < 0 := by rw [hI.n]; exact nI_pos (by omega)
    refine go_s 4 rfl ?_
    refine go_v kX3_writeRoutine_17 okX7_lengthOf rfl rfl rfl rfl (Nat.zero_le _) (Nat.zero_le _) ?_
    refine c_X7_lengthOf hR10 ?_
    rw [if_pos hkk, nI_clamp (by omega), fr 17 k (by decide) (Or.inl (by decide)) (by decide) (by decide) (by decide) (by decide), (hE.e.rs.ro k hk).s17]
    refine go_s 1 rfl ?_
    refine go_if (fun c20 => ?_) (fun c20 => ?_)
    · have hi := (nI_ltI (a := i) (b := ln k) (by omega) (by omega)).mp c20
      have hft : sp k + ln k ≤ am_st sz F := (hE.e.qq k hk).ft.1
      refine go_s 4 (pc' := 27) (ls' := [.ref 57, .int (nI k), .int (nI (sp k)), .int (nI i)]) (st' := [.int (nI (sp k + i)), .ref 57]) (h' := hp C' e) (by rw [← nI_add (sp k) i]; rfl) ?_
      refine go_v kX3_writeRoutine_27 okX3_writePlain rfl rfl rfl rfl (Nat.zero_le _) (Nat.zero_le _) ?_
      refine c_X3_writePlain h0 hP.h6 ?_
      have e2 : am_num C' (nI (sp k + i)) = C 2 (sp k + i) := by
        unfold am_num
        rw [if_pos (hP.inS (by omega)), nI_clamp (by omega)]; exact fr 2 _ (by decide) (Or.inl (by decide)) (by decide) (by decide) (by decide) (by decide)
      have e3 : am_fa C' (nI (sp k + i)) = C 3 (sp k + i) := by
        unfold am_fa
        rw [if_pos (hP.inS (by omega)), nI_clamp (by omega)]; exact fr 3 _ (by decide) (Or.inl (by decide)) (by decide) (by decide) (by decide) (by decide)
      have e4 : am_fb C' (nI (sp k + i)) = C 4 (sp k + i) := by
        unfold am_fb
        rw [if_pos (hP.inS (by omega)), nI_clamp (by omega)]; exact fr 4 _ (by decide) (Or.inl (by decide)) (by decide) (by decide) (by decide) (by decide)
      have e5 : am_fc C' (nI (sp k + i)) = C 5 (sp k + i) := by
        unfold am_fc
        rw [if_pos (hP.inS (by omega)), nI_clamp (by omega)]; exact fr 5 _ (by decide) (Or.inl (by decide)) (by decide) (by decide) (by decide) (by decide)
      rw [e2, e3, e4, e5]
      refine go_s 2 (pc' := 11) (ls' := [.ref 57, .int (nI k), .int (nI (sp k)), .int (nI (i + 1))]) (st' := []) (h' := hp (am_app C' (am_pw (C 2 (sp k + i)) (C 3 (sp k + i)) (C 4 (sp k + i)) (C 5 (sp k + i)))) e) (by rw [← nI_1 i]; rfl) ?_
      exact c_wrt hE hL hk q n _ _ (i + 1) _ (by omega) (by omega) (hI.w hE.e.pg (by unfold ly_rv; rw [if_pos hi]) (by omega))
    · have hge := mt (nI_lt (a := i) (b := ln k) · (by omega)) c20
      have ei : i = ln k := by omega
      subst ei
      refine go_s 4 rfl ?_
      refine go_st kX3_writeRoutine_42 okX8_jumpRegisterWord rfl rfl rfl (Nat.zero_le _) (Nat.zero_le _) ?_
      refine c_X8_jumpRegisterWord ?_
      refine go_v kX3_writeRoutine_45 okX1_append rfl rfl rfl rfl (Nat.zero_le _) (Nat.zero_le _) ?_
      refine c_X1_append h0 ?_
      have hN : ly_L4 C D F sz B bo sm ln sp K C1 (am_app C' (am_jr 0 5)) k (ln k + 1) := hI.w hE.e.pg (by unfold ly_rv; rw [if_neg (by omega)]) (by omega)
      exact go_retv rfl rfl (q _ hN.s)
theorem c_X3_writeRoutine {C D : Nat → Nat → Int32} {F : Nat} {sz : Nat → Nat} {B : Nat → Prop} {bo : Nat → Nat} {sm : Nat → Nat → Prop} {ln sp : Nat → Nat} {K : Nat} {C1 : Nat → Nat → Int32} {e : am_E} {Q : am_Q} (hE : ly_E2 C D F sz B bo sm ln sp K) (hL : ly_L2 C D F sz B sm ln sp K C1 K) {k kc ks : Nat} (hk : k < K) {C' : Nat → Nat → Int32} (hI : ly_L4 C D F sz B bo sm ln sp K C1 C' k 0) (q : ∀ C', ly_L4 C D F sz B bo sm ln sp K C1 C' (k + 1) 0 → Q none (hp C' e)) : am_Go (mX3_writeRoutine, 0, am_ent mX3_writeRoutine [.ref 57, .int (nI k)], [], hp C' e, kc, ks, Q) := by
  have hk60 := hE.e.k60
  have fr : ∀ c j, c ≠ 12 → (c ≠ 11 ∨ j ≠ 3) → c ≠ 14 → c ≠ 20 → c ≠ 24 → c ≠ 58 → C' c j = C c j := fun c j a1 a2 a3 a4 a5 a6 => (hI.fr c j a1 a2).trans (hL.fr c j a3 a4 a5 a6)
  have r10 : C' 15 10 = nI K := (fr 15 10 (by decide) (Or.inl (by decide)) (by decide) (by decide) (by decide) (by decide)).trans hE.e.rs.cR
  have hR10 : (C' 15 10).toInt ≤ 60 := am_wl r10 hk60 (by decide)
  refine go_s 3 rfl ?_
  refine go_v kX3_writeRoutine_5 okX7_spotOf rfl rfl rfl rfl (Nat.zero_le _) (Nat.zero_le _) ?_
  refine c_X7_spotOf hR10 ?_
  rw [if_pos ⟨nI_pos' (by omega), by rw [r10]; exact nI_lt hk (by omega)⟩, nI_clamp (by omega), fr 16 k (by decide) (Or.inl (by decide)) (by decide) (by decide) (by decide) (by decide), (hE.e.rs.ro k hk).s16]
  refine go_s 3 rfl ?_
  exact c_wrt hE hL hk q (ln k + 1) _ _ 0 C' (by omega) (by omega) hI
