theorem c_hoe {C D : Nat → Nat → Int32} {F : Nat} {sz : Nat → Nat} {e : am_E} {Q : am_Q} (hP : am_PG C D F sz) (q : ∀ v, am_bz v (∃ f, f < F ∧ am_Op D sz f) → Q (some (.int v)) (hp C e)) : ∀ (n kc ks f : Nat), F < n + f → f ≤ F → (∀ g, g < f → ¬ am_Op D sz g) → am_Go (mX5_hasOpenEnd, 2, [.ref 1, .int (nI f)], [], hp C e, kc, ks, Q)
  | 0, kc, ks, f, h1, h2, hI => by omega
  | n + 1, kc, ks, f, h1, h2, hI => by
    have hF := hP.hF
    refine go_s 4 rfl ?_
    refine go_if (fun c7 => ?_) (fun c7 => ?_)
    · refine go_s 2 rfl ?_
      refine go_v kX5_hasOpenEnd_12 okX5_lengthOf rfl rfl rfl rfl (Nat.zero_le _) (Nat.zero_le _) ?_
      refine c_X5_lengthOf hP.h5 ?_
      refine go_s 1 rfl ?_
      refine go_if (fun c15 => ?_) (fun c15 => ?_)
      · refine go_s 1 rfl ?_
        have hf : f < F := (nI_ltI (by omega) (by omega)).mp (by rw [← hP.c5]; exact c7)
        have c15 : am_lof C (nI f) = 0 := c15
        rw [hP.lof hf] at c15
        have := hP.s40 f hf
        exact go_retz rfl rfl (Or.inr rfl) (q 1 (Or.inr ⟨rfl, f, hf, Or.inl ((nI_eq (b := 0) (by omega) (by decide)).mp c15)⟩))
      · refine go_s 3 rfl ?_
        refine go_v kX5_hasOpenEnd_21 okX5_endOf rfl rfl rfl rfl (Nat.zero_le _) (Nat.zero_le _) ?_
        refine c_X5_endOf hP.h5 ?_
        refine go_s 2 rfl ?_
        refine go_v kX5_hasOpenEnd_26 okX5_numberAt rfl rfl rfl rfl (Nat.zero_le _) (Nat.zero_le _) ?_
        refine c_X5_numberAt hP.h6 ?_
        refine go_st kX5_hasOpenEnd_29 okX9_isClosing rfl rfl rfl (Nat.zero_le _) (Nat.zero_le _) ?_
        refine c_X9_isClosing ?_
        refine go_s 1 rfl ?_
        refine go_if (fun c32 => ?_) (fun c32 => ?_)
        · refine go_s 1 rfl ?_
          have hf : f < F := (nI_ltI (by omega) (by omega)).mp (by rw [← hP.c5]; exact c7)
          have c15 : ¬ am_lof C (nI f) = 0 := c15
          rw [hP.lof hf] at c15
          have := hP.s40 f hf
          have h0 : ¬ sz f = 0 := fun z => c15 (by rw [z]; rfl)
          have c32 : zb (am_num C (am_end C (nI f) - 1) = 28 ∨ am_num C (am_end C (nI f) - 1) = 30 ∨ am_num C (am_end C (nI f) - 1) = 31) = 0 := c32
          rw [hP.ende hf, show am_st sz f + sz f = (am_st sz f + (sz f - 1)) + 1 by omega, nI_pred, hP.num hf (by omega)] at c32
          exact go_retz rfl rfl (Or.inr rfl) (q 1 (Or.inr ⟨rfl, f, hf, Or.inr (zb_0.mp c32)⟩))
        · have hf : f < F := (nI_ltI (by omega) (by omega)).mp (by rw [← hP.c5]; exact c7)
          have c15 : ¬ am_lof C (nI f) = 0 := c15
          rw [hP.lof hf] at c15
          have := hP.s40 f hf
          have h0 : ¬ sz f = 0 := fun z => c15 (by rw [z]; rfl)
          have c32 : ¬ zb (am_num C (am_end C (nI f) - 1) = 28 ∨ am_num C (am_end C (nI f) - 1) = 30 ∨ am_num C (am_end C (nI f) - 1) = 31) = 0 := c32
          rw [hP.ende hf, show am_st sz f + sz f = (am_st sz f + (sz f - 1)) + 1 by omega, nI_pred, hP.num hf (by omega)] at c32
          refine go_s 2 (pc' := 2) (ls' := [.ref 1, .int (nI (f + 1))]) (st' := []) (h' := hp C e) (by rw [← nI_1]; rfl) ?_
          refine c_hoe hP q n _ _ (f + 1) (by omega) (by omega) (fun g hg => ?_)
          by_cases eg : g = f
          · subst eg
            rintro (z | z)
            · exact h0 z
            · exact z (zb_ne.mp c32)
          · exact hI g (by omega)
    · refine go_s 1 rfl ?_
      refine go_retz rfl rfl (Or.inl rfl) (q 0 (Or.inl ⟨rfl, ?_⟩))
      rintro ⟨g, hg, hb⟩
      exact hI g (by have := mt (nI_lt (a := f) (b := F) · (by omega)) (by rw [← hP.c5]; exact c7); omega) hb
theorem c_X5_hasOpenEnd {C D : Nat → Nat → Int32} {F : Nat} {sz : Nat → Nat} {e : am_E} {Q : am_Q} (hP : am_PG C D F sz) {kc ks : Nat} (q : ∀ v, am_bz v (∃ f, f < F ∧ am_Op D sz f) → Q (some (.int v)) (hp C e)) : am_Go (mX5_hasOpenEnd, 0, am_ent mX5_hasOpenEnd [.ref 1], [], hp C e, kc, ks, Q) := by
  refine go_s 2 rfl ?_
  exact c_hoe hP q (F + 1) _ _ 0 (by omega) (by omega) (fun g hg => by omega)
theorem c_gnp_i {C D : Nat → Nat → Int32} {F : Nat} {sz : Nat → Nat} {e : am_E} {Q : am_Q} (hP : am_PG C D F sz) {kc ks f : Nat} (hf : f < F) (q1 : (∃ p, p < sz f ∧ am_Np D (40 * f + p) (sz f)) → Q (some (.int 1)) (hp C e)) (K : ∀ x, (∀ p, p < sz f → ¬ am_Np D (40 * f + p) (sz f)) → am_Go (mX5_goesToNoPlace, 46, [.ref 1, .int (nI f), x], [], hp C e, kc, ks, Q)) : ∀ (n p : Nat), sz f < n + p → p ≤ sz f → (∀ r, r < p → ¬ am_Np D (40 * f + r) (sz f)) → am_Go (mX5_goesToNoPlace, 16, [.ref 1, .int (nI f), .int (nI (am_st sz f + p))], [], hp C e, kc, ks, Q)
  | 0, p, h1, h2, hI => by omega
  | n + 1, p, h1, h2, hI => by
    have hF := hP.hF
    have h40 := hP.s40 f hf
    have ht := hP.t300
    have hl : am_st sz f + sz f ≤ am_st sz F := am_st_le (sz := sz) (show f + 1 ≤ F by omega)
    refine go_s 3 rfl ?_
    refine go_v kX5_goesToNoPlace_19 okX5_endOf rfl rfl rfl rfl (Nat.zero_le _) (Nat.zero_le _) ?_
    refine c_X5_endOf hP.h5 ?_
    refine go_s 1 rfl ?_
    refine go_if (fun c22 => ?_) (fun c22 => ?_)
    · refine go_s 2 rfl ?_
      refine go_v kX5_goesToNoPlace_27 okX5_placeTold rfl rfl rfl rfl (Nat.zero_le _) (Nat.zero_le _) ?_
      refine c_X5_placeTold hP.h6 ?_
      refine go_s 2 rfl ?_
      refine go_v kX5_goesToNoPlace_32 okX5_lengthOf rfl rfl rfl rfl (Nat.zero_le _) (Nat.zero_le _) ?_
      refine c_X5_lengthOf hP.h5 ?_
      refine go_s 1 rfl ?_
      refine go_if (fun c35 => ?_) (fun c35 => ?_)
      · have hq : p < sz f := by
          have := (nI_ltI (a := am_st sz f + p) (b := am_st sz f + sz f) (by omega) (by omega)).mp (by rw [← hP.ende hf]; exact c22)
          omega
        have c35 : am_pto C (nI (am_st sz f + p)) < am_lof C (nI f) := c35
        rw [hP.lof hf] at c35
        have c36 := mt (hP.pto hf hq (m := sz f) (by omega)).mpr (fun z => z c35)
        refine go_s 2 (pc' := 16) (ls' := [.ref 1, .int (nI f), .int (nI (am_st sz f + (p + 1)))]) (st' := []) (h' := hp C e) (by rw [← Nat.add_assoc, ← nI_1]; rfl) ?_
        refine c_gnp_i hP hf q1 K n (p + 1) (by omega) (by omega) (fun r hr => ?_)
        by_cases er : r = p
        · subst er; exact c36
        · exact hI r (by omega)
      · refine go_s 1 rfl ?_
        have hq : p < sz f := by
          have := (nI_ltI (a := am_st sz f + p) (b := am_st sz f + sz f) (by omega) (by omega)).mp (by rw [← hP.ende hf]; exact c22)
          omega
        have c35 : ¬ am_pto C (nI (am_st sz f + p)) < am_lof C (nI f) := c35
        rw [hP.lof hf, hP.pto hf hq (by omega)] at c35
        exact go_retz rfl rfl (Or.inr rfl) (q1 ⟨p, hq, c35⟩)
    · refine K _ (fun r hr => hI r ?_)
      have := mt (nI_lt (a := am_st sz f + p) (b := am_st sz f + sz f) · (by omega)) (by rw [← hP.ende hf]; exact c22)
      omega
theorem c_gnp {C D : Nat → Nat → Int32} {F : Nat} {sz : Nat → Nat} {e : am_E} {Q : am_Q} (hP : am_PG C D F sz) (q : ∀ v, am_bz v (∃ f p, f < F ∧ p < sz f ∧ am_Np D (40 * f + p) (sz f)) → Q (some (.int v)) (hp C e)) : ∀ (n kc ks f : Nat) (x : Value), F < n + f → f ≤ F → (∀ g, g < f → ∀ p, p < sz g → ¬ am_Np D (40 * g + p) (sz g)) → am_Go (mX5_goesToNoPlace, 2, [.ref 1, .int (nI f), x], [], hp C e, kc, ks, Q)
  | 0, kc, ks, f, x, h1, h2, hI => by omega
  | n + 1, kc, ks, f, x, h1, h2, hI => by
    have hF := hP.hF
    refine go_s 4 rfl ?_
    refine go_if (fun c7 => ?_) (fun c7 => ?_)
    · refine go_s 2 rfl ?_
      refine go_v kX5_goesToNoPlace_12 okX5_startOf rfl rfl rfl rfl (Nat.zero_le _) (Nat.zero_le _) ?_
      refine c_X5_startOf hP.h5 ?_
      have hf : f < F := (nI_ltI (by omega) (by omega)).mp (by rw [← hP.c5]; exact c7)
      refine go_s 1 (pc' := 16) (ls' := [.ref 1, .int (nI f), .int (nI (am_st sz f + 0))]) (st' := []) (h' := hp C e) (by rw [hP.sta hf]; rfl) ?_
      refine c_gnp_i hP hf (fun z => ?_) (fun x hz => ?_) (sz f + 1) 0 (by omega) (by omega) (fun r hr => by omega)
      · obtain ⟨p, hp, hz⟩ := z
        exact q 1 (Or.inr ⟨rfl, f, p, hf, hp, hz⟩)
      · refine go_s 2 (pc' := 2) (ls' := [.ref 1, .int (nI (f + 1)), x]) (st' := []) (h' := hp C e) (by rw [← nI_1]; rfl) ?_
        refine c_gnp hP q n _ _ (f + 1) x (by omega) (by omega) (fun g hg => ?_)
        by_cases eg : g = f
        · subst eg; exact hz
        · exact hI g (by omega)
    · refine go_s 1 rfl ?_
      refine go_retz rfl rfl (Or.inl rfl) (q 0 (Or.inl ⟨rfl, ?_⟩))
      rintro ⟨g, p, hg, hp, hb⟩
      exact hI g (by have := mt (nI_lt (a := f) (b := F) · (by omega)) (by rw [← hP.c5]; exact c7); omega) p hp hb
theorem c_X5_goesToNoPlace {C D : Nat → Nat → Int32} {F : Nat} {sz : Nat → Nat} {e : am_E} {Q : am_Q} (hP : am_PG C D F sz) {kc ks : Nat} (q : ∀ v, am_bz v (∃ f p, f < F ∧ p < sz f ∧ am_Np D (40 * f + p) (sz f)) → Q (some (.int v)) (hp C e)) : am_Go (mX5_goesToNoPlace, 0, am_ent mX5_goesToNoPlace [.ref 1], [], hp C e, kc, ks, Q) := by
  refine go_s 2 rfl ?_
  exact c_gnp hP q (F + 1) _ _ 0 _ (by omega) (by omega) (fun g hg => by omega)
theorem c_tnf {C D : Nat → Nat → Int32} {F : Nat} {sz : Nat → Nat} {e : am_E} {Q : am_Q} (hP : am_PG C D F sz) (q : ∀ v, am_bz v (∃ f p, f < F ∧ p < sz f ∧ am_Nf D (40 * f + p) F) → Q (some (.int v)) (hp C e)) : ∀ (n kc ks s : Nat), am_st sz F < n + s → s ≤ am_st sz F → (∀ f p, f < F → p < sz f → am_st sz f + p < s → ¬ am_Nf D (40 * f + p) F) → am_Go (mX5_tellsNoFunction, 2, [.ref 1, .int (nI s)], [], hp C e, kc, ks, Q)
  | 0, kc, ks, s, h1, h2, hI => by omega
  | n + 1, kc, ks, s, h1, h2, hI => by
    have hF := hP.hF
    have ht := hP.t300
    refine go_s 4 rfl ?_
    refine go_if (fun c7 => ?_) (fun c7 => ?_)
    · refine go_s 2 rfl ?_
      refine go_v kX5_tellsNoFunction_12 okX5_functionTold rfl rfl rfl rfl (Nat.zero_le _) (Nat.zero_le _) ?_
      refine c_X5_functionTold hP.h6 ?_
      refine go_s 3 rfl ?_
      refine go_if (fun c19 => ?_) (fun c19 => ?_)
      · have hs : s < am_st sz F := (nI_ltI (by omega) (by omega)).mp (by rw [← hP.cS]; exact c7)
        have c19 : am_fto C (nI s) < C 1 5 := c19
        rw [hP.c5] at c19
        refine go_s 2 (pc' := 2) (ls' := [.ref 1, .int (nI (s + 1))]) (st' := []) (h' := hp C e) (by rw [← nI_1]; rfl) ?_
        refine c_tnf hP q n _ _ (s + 1) (by omega) (by omega) (fun f p hf hp hlt => ?_)
        by_cases es : am_st sz f + p = s
        · subst es
          exact mt (hP.fto hf hp (m := F) (by omega)).mpr (fun z => z c19)
        · exact hI f p hf hp (by omega)
      · refine go_s 1 rfl ?_
        have hs : s < am_st sz F := (nI_ltI (by omega) (by omega)).mp (by rw [← hP.cS]; exact c7)
        obtain ⟨f, p, hf, hp, rfl⟩ := am_spx F s hs
        have c19 : ¬ am_fto C (nI (am_st sz f + p)) < C 1 5 := c19
        rw [hP.c5, hP.fto hf hp (by omega)] at c19
        exact go_retz rfl rfl (Or.inr rfl) (q 1 (Or.inr ⟨rfl, f, p, hf, hp, c19⟩))
    · refine go_s 1 rfl ?_
      refine go_retz rfl rfl (Or.inl rfl) (q 0 (Or.inl ⟨rfl, ?_⟩))
      rintro ⟨g, p, hg, hp, hb⟩
      exact hI g p hg hp (by have := mt (nI_lt (a := s) (b := am_st sz F) · (by omega)) (by rw [← hP.cS]; exact c7); have := hP.lt hg hp; omega) hb
theorem c_X5_tellsNoFunction {C D : Nat → Nat → Int32} {F : Nat} {sz : Nat → Nat} {e : am_E} {Q : am_Q} (hP : am_PG C D F sz) {kc ks : Nat} (q : ∀ v, am_bz v (∃ f p, f < F ∧ p < sz f ∧ am_Nf D (40 * f + p) F) → Q (some (.int v)) (hp C e)) : am_Go (mX5_tellsNoFunction, 0, am_ent mX5_tellsNoFunction [.ref 1], [], hp C e, kc, ks, Q) := by
  refine go_s 2 rfl ?_
  exact c_tnf hP q (am_st sz F + 1) _ _ 0 (by omega) (by omega) (fun f p _ _ hg => by omega)
def am_rfs (D : Nat → Nat → Int32) (F : Nat) (sz : Nat → Nat) (r : Nat) : Prop := (r = 1 ∧ F = 0) ∨ (F ≠ 0 ∧ ((r = 2 ∧ ∃ f, f < F ∧ am_Op D sz f) ∨ ((¬ ∃ f, f < F ∧ am_Op D sz f) ∧ ((r = 3 ∧ ∃ f p, f < F ∧ p < sz f ∧ am_Np D (40 * f + p) (sz f)) ∨ ((¬ ∃ f p, f < F ∧ p < sz f ∧ am_Np D (40 * f + p) (sz f)) ∧ ((r = 4 ∧ ∃ f p, f < F ∧ p < sz f ∧ am_Nf D (40 * f + p) F) ∨ (r = 0 ∧ ¬ ∃ f p, f < F ∧ p < sz f ∧ am_Nf D (40 * f + p) F)))))))
theorem am_bz_0 {v : Int32} {p : Prop} (h : am_bz v p) (z : v = 0) : ¬ p := by
  rcases h with h | h
  · exact h.2
  · exact absurd (z.symm.trans h.1) (by decide)
theorem am_bz_n {v : Int32} {p : Prop} (h : am_bz v p) (z : ¬ v = 0) : p := by
  rcases h with h | h
  · exact absurd h.1 z
  · exact h.2
theorem c_X5_refusal {C D : Nat → Nat → Int32} {F : Nat} {sz : Nat → Nat} {e : am_E} {Q : am_Q} (hP : am_PG C D F sz) {kc ks : Nat} (q : ∀ r, r < 5 → am_rfs D F sz r → Q (some (.int (nI r))) (hp C e)) : am_Go (mX5_refusal, 0, am_ent mX5_refusal [.ref 1], [], hp C e, kc, ks, Q) := by
  have hF := hP.hF
  have c5 := hP.c5
  refine go_s 3 rfl ?_
  refine go_if (fun c4 => ?_) (fun c4 => ?_)
  · refine go_s 1 rfl ?_
    have c4 : C 1 5 = 0 := c4
    rw [c5] at c4
    exact go_ret rfl rfl (q 1 (by decide) (Or.inl ⟨rfl, (nI_eq (b := 0) (by omega) (by decide)).mp c4⟩))
  · refine go_s 1 rfl ?_
    refine go_v kX5_refusal_10 okX5_hasOpenEnd rfl rfl rfl rfl (Nat.zero_le _) (Nat.zero_le _) ?_
    refine c_X5_hasOpenEnd hP (fun v1 h1 => ?_)
    refine go_s 1 rfl ?_
    refine go_if (fun c13 => ?_) (fun c13 => ?_)
    · refine go_s 1 rfl ?_
      refine go_v kX5_refusal_19 okX5_goesToNoPlace rfl rfl rfl rfl (Nat.zero_le _) (Nat.zero_le _) ?_
      refine c_X5_goesToNoPlace hP (fun v2 h2 => ?_)
      refine go_s 1 rfl ?_
      refine go_if (fun c22 => ?_) (fun c22 => ?_)
      · refine go_s 1 rfl ?_
        refine go_v kX5_refusal_28 okX5_tellsNoFunction rfl rfl rfl rfl (Nat.zero_le _) (Nat.zero_le _) ?_
        refine c_X5_tellsNoFunction hP (fun v3 h3 => ?_)
        refine go_s 1 rfl ?_
        refine go_if (fun c31 => ?_) (fun c31 => ?_)
        · refine go_s 1 rfl ?_
          have c4 : ¬ C 1 5 = 0 := c4
          exact go_ret rfl rfl (q 0 (by decide) (Or.inr ⟨(fun z => c4 (by rw [z] at c5; exact c5)), Or.inr ⟨am_bz_0 h1 c13, Or.inr ⟨am_bz_0 h2 c22, Or.inr ⟨rfl, am_bz_0 h3 c31⟩⟩⟩⟩))
        · refine go_s 2 rfl ?_
          have c4 : ¬ C 1 5 = 0 := c4
          exact go_ret rfl rfl (q 4 (by decide) (Or.inr ⟨(fun z => c4 (by rw [z] at c5; exact c5)), Or.inr ⟨am_bz_0 h1 c13, Or.inr ⟨am_bz_0 h2 c22, Or.inl ⟨rfl, am_bz_n h3 c31⟩⟩⟩⟩))
      · refine go_s 1 rfl ?_
        have c4 : ¬ C 1 5 = 0 := c4
        exact go_ret rfl rfl (q 3 (by decide) (Or.inr ⟨(fun z => c4 (by rw [z] at c5; exact c5)), Or.inr ⟨am_bz_0 h1 c13, Or.inl ⟨rfl, am_bz_n h2 c22⟩⟩⟩))
    · refine go_s 1 rfl ?_
      have c4 : ¬ C 1 5 = 0 := c4
      exact go_ret rfl rfl (q 2 (by decide) (Or.inr ⟨(fun z => c4 (by rw [z] at c5; exact c5)), Or.inl ⟨rfl, am_bz_n h1 c13⟩⟩))
theorem am_rfs_u {D : Nat → Nat → Int32} {F : Nat} {sz : Nat → Nat} {r s : Nat} (h1 : am_rfs D F sz r) (h2 : am_rfs D F sz s) : r = s := by
  rcases h1 with h1 | ⟨a0, h1 | ⟨a1, h1 | ⟨a2, h1 | h1⟩⟩⟩ <;> rcases h2 with h2 | ⟨b0, h2 | ⟨b1, h2 | ⟨b2, h2 | h2⟩⟩⟩
  all_goals first | exact h1.1.trans h2.1.symm | exact absurd h1.2 (by assumption) | exact absurd h2.2 (by assumption) | exact absurd h1.2 h2.2 | exact absurd h2.2 h1.2
