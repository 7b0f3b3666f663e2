theorem c_X6_markSpotsOf {C D : Nat → Nat → Int32} {F : Nat} {sz : Nat → Nat} {B : Nat → Prop} {e : am_E} {Q : am_Q} (hP : am_PG C D F sz) (hN : C 26 12 = nI (am_st sz F)) {f : Nat} (hf : f < F) (hB : B f) {C' : Nat → Nat → Int32} (hI : am_MO C D F sz B C' f 0) (q : ∀ C', am_MO C D F sz B C' f (sz f) → Q none (hp C' e)) {kc ks : Nat} : am_Go (mX6_markSpotsOf, 0, am_ent mX6_markSpotsOf [.ref 26, .int (nI f)], [], hp C' e, kc, ks, Q) := by
  have hF := hP.hF
  have ht := hP.t300
  have l1 : am_st sz f + sz f ≤ am_st sz F := am_st_le (sz := sz) (show f + 1 ≤ F by omega)
  have hP' : am_PG C' D F sz := hP.fr (fun c j h1 h2 _ => hI.fr c j (by omega) (by omega)) (fun _ _ _ _ _ => rfl)
  refine go_s 3 rfl ?_
  refine go_v kX6_markSpotsOf_5 okX5_endOf rfl rfl rfl rfl (Nat.zero_le _) (Nat.zero_le _) ?_
  refine c_X5_endOf hP'.h5 ?_
  refine go_s 2 rfl ?_
  refine go_min 648 rfl (by decide +kernel) rfl ?_
  refine go_s 1 (pc' := 16) (ls' := [.ref 26, .int (nI f), .int (nI (am_st sz f + sz f)), .long 0, .long 0]) (st' := []) (h' := hp C' e) (by rw [show nI (am_st sz f + sz f) = (if C' 26 12 < am_end C' (nI f) then C' 26 12 else am_end C' (nI f)) by rw [hP'.ende hf, hI.fr 26 12 (by decide) (by decide), hN]; exact (if_neg (nI_nlt (by omega) (by omega))).symm]; rfl) ?_
  refine go_s 3 rfl ?_
  refine go_v kX6_markSpotsOf_21 okX5_startOf rfl rfl rfl rfl (Nat.zero_le _) (Nat.zero_le _) ?_
  refine c_X5_startOf hP'.h5 ?_
  refine go_s 1 (pc' := 25) (ls' := [.ref 26, .int (nI f), .int (nI (am_st sz f + sz f)), .int (nI (am_st sz f + 0)), .long 0]) (st' := []) (h' := hp C' e) (by rw [hP'.sta hf]; rfl) ?_
  exact c_ms1 hP hN hf hB q (sz f + 1) _ _ 0 _ _ (by omega) (by omega) hI
theorem c_mk1 {C : Nat → Nat → Int32} {N : Nat} {e : am_E} {Q : am_Q} {kc ks : Nat} (hN : C 26 12 = nI N) (h300 : N ≤ 300) (K : am_Go (mX6_markSpots, 30, [.ref 26, .int (nI N)], [], hp (am_fi2 C 27 28 N) e, kc, ks, Q)) : ∀ (n k : Nat), n + k = N → am_Go (mX6_markSpots, 2, [.ref 26, .int (nI k)], [], hp (am_fi2 C 27 28 k) e, kc, ks, Q)
  | 0, k, h => by
    have e : k = N := by omega
    subst e
    refine go_s 4 rfl ?_
    refine go_if (fun c => absurd c ?_) (fun c => K)
    show ¬ nI k < am_fi2 C 27 28 k 26 12
    rw [am_fi2_ne (by decide) (by decide), hN]
    exact nI_nlt (Nat.le_refl _) (by omega)
  | n + 1, k, h => by
    refine go_s 4 rfl ?_
    refine go_if (fun c => ?_) (fun c => absurd ?_ c)
    rotate_left
    · show nI k < am_fi2 C 27 28 k 26 12
      rw [am_fi2_ne (by decide) (by decide), hN]
      exact nI_lt (by omega) (by omega)
    refine go_s 4 rfl ?_
    refine go_m rfl rfl (show vp_in (nI k) 300 from vp_in_nI (by omega) (by decide)) ?_
    refine go_s 4 rfl ?_
    refine go_m rfl rfl (show vp_in (nI k) 300 from vp_in_nI (by omega) (by decide)) ?_
    refine go_s 2 (pc' := 2) (ls' := [.ref 26, .int (nI (k + 1))]) (st' := []) (h' := hp (am_u (am_u (am_fi2 C 27 28 k) 27 (nI k).toNatClampNeg 0) 28 (nI k).toNatClampNeg 0) e) (by rw [← nI_1]; rfl) ?_
    rw [nI_clamp (by omega), am_fi2_s]
    exact c_mk1 hN h300 K n (k + 1) (by omega)
theorem c_mk2 {C D : Nat → Nat → Int32} {F : Nat} {sz : Nat → Nat} {B : Nat → Prop} {e : am_E} {Q : am_Q} (hP : am_PG C D F sz) (hN : C 26 12 = nI (am_st sz F)) (h4 : C 11 4 = nI F) (hB : ∀ f, f < F → (C 13 f = nI f ↔ B f)) (q : ∀ C', am_MO C D F sz B C' F 0 → Q none (hp C' e)) : ∀ (n kc ks f : Nat) (C' : Nat → Nat → Int32), F < n + f → f ≤ F → am_MO C D F sz B C' f 0 → am_Go (mX6_markSpots, 32, [.ref 26, .int (nI f)], [], hp C' e, kc, ks, Q)
  | 0, kc, ks, f, C', h1, h2, hI => by omega
  | n + 1, kc, ks, f, C', h1, h2, hI => by
    have hF := hP.hF
    have hP' : am_PG C' D F sz := hP.fr (fun c j h1 h2 _ => hI.fr c j (by omega) (by omega)) (fun _ _ _ _ _ => rfl)
    refine go_s 3 rfl ?_
    refine go_v kX6_markSpots_37 okX5_functions rfl rfl rfl rfl (Nat.zero_le _) (Nat.zero_le _) ?_
    refine c_X5_functions ?_
    refine go_s 1 rfl ?_
    refine go_if (fun c40 => ?_) (fun c40 => ?_)
    · have c40 : nI f < C' 1 5 := c40
      rw [hP'.c5] at c40
      have hf : f < F := (nI_ltI (by omega) (by omega)).mp c40
      have hcf := nI_clamp (show f < 2 ^ 31 by omega)
      have r11 : C' 11 4 = nI F := (hI.fr 11 4 (by decide) (by decide)).trans h4
      have r13 : C' 13 f = C 13 f := hI.fr 13 f (by decide) (by decide)
      refine go_s 3 rfl ?_
      refine go_v kX6_markSpots_48 okX1_isBody rfl rfl rfl rfl (Nat.zero_le _) (Nat.zero_le _) ?_
      refine c_X1_isBody (am_wl r11 (by omega) (by decide)) ?_
      refine go_s 1 rfl ?_
      refine go_if (fun c51 => ?_) (fun c51 => ?_)
      · have c51 : zb ((0 ≤ nI f ∧ nI f < C' 11 4) ∧ C' 13 (nI f).toNatClampNeg = nI f) = 0 := c51
        have hnb : ¬ B f := fun z => zb_0.mp c51 ⟨⟨nI_pos' (by omega), by rw [r11]; exact nI_lt hf (by omega)⟩, by rw [hcf, r13]; exact (hB f hf).mpr z⟩
        refine go_s 2 (pc' := 32) (ls' := [.ref 26, .int (nI (f + 1))]) (st' := []) (h' := hp C' e) (by rw [← nI_1]; rfl) ?_
        exact c_mk2 hP hN h4 hB q n _ _ (f + 1) _ (by omega) (by omega) ⟨hI.fr, fun s hs => am_bz_iff (hI.op s hs) (am_bf_sk (fun r z => hnb z.2.1)), fun s hs => am_bz_iff (hI.en s hs) (am_bf_sk (fun r z => hnb z.1))⟩
      · refine go_s 2 rfl ?_
        refine go_v kX6_markSpots_56 okX6_markSpotsOf rfl rfl rfl rfl (Nat.zero_le _) (Nat.zero_le _) ?_
        have c51 : ¬ zb ((0 ≤ nI f ∧ nI f < C' 11 4) ∧ C' 13 (nI f).toNatClampNeg = nI f) = 0 := c51
        have hb : B f := (hB f hf).mp (by rw [← r13, ← hcf]; rw [hcf]; have := (zb_ne.mp c51).2; rw [hcf] at this; exact this)
        refine c_X6_markSpotsOf hP hN hf hb hI (fun C2 h2 => ?_)
        refine go_s 2 (pc' := 32) (ls' := [.ref 26, .int (nI (f + 1))]) (st' := []) (h' := hp C2 e) (by rw [← nI_1]; rfl) ?_
        exact c_mk2 hP hN h4 hB q n _ _ (f + 1) _ (by omega) (by omega) ⟨h2.fr, fun s hs => am_bz_iff (h2.op s hs) am_bf_n, fun s hs => am_bz_iff (h2.en s hs) am_bf_n⟩
    · have c40 : ¬ nI f < C' 1 5 := c40
      rw [hP'.c5] at c40
      have hge := mt (nI_lt (a := f) (b := F) · (by omega)) c40
      have e1 : f = F := by omega
      rw [e1] at hI
      exact go_retv rfl rfl (q _ hI)
theorem c_X6_markSpots {C D : Nat → Nat → Int32} {F : Nat} {sz : Nat → Nat} {B : Nat → Prop} {e : am_E} {Q : am_Q} (hP : am_PG C D F sz) (hN : C 26 12 = nI (am_st sz F)) (h4 : C 11 4 = nI F) (hB : ∀ f, f < F → (C 13 f = nI f ↔ B f)) (q : ∀ C', am_MO C D F sz B C' F 0 → Q none (hp C' e)) {kc ks : Nat} : am_Go (mX6_markSpots, 0, am_ent mX6_markSpots [.ref 26], [], hp C e, kc, ks, Q) := by
  have ht := hP.t300
  refine go_s 2 (pc' := 2) (ls' := [.ref 26, .int (nI 0)]) (st' := []) (h' := hp C e) rfl ?_
  rw [← am_fi2_0 C 27 28]
  refine c_mk1 hN ht ?_ (am_st sz F) 0 (by omega)
  refine go_s 2 (pc' := 32) (ls' := [.ref 26, .int (nI 0)]) (st' := []) (h' := hp (am_fi2 C 27 28 (am_st sz F)) e) rfl ?_
  refine c_mk2 hP hN h4 hB q (F + 1) _ _ 0 _ (by omega) (by omega) ⟨fun c j h1 h2 => am_fi2_ne h1 h2, fun s hs => ?_, fun s hs => ?_⟩
  · rw [am_fi2_eq (Or.inl rfl) hs]; exact Or.inl ⟨rfl, fun ⟨g, r, hg, _⟩ => by omega⟩
  · rw [am_fi2_eq (Or.inr rfl) hs]; exact Or.inl ⟨rfl, fun ⟨g, r, hg, _⟩ => by omega⟩
theorem am_dec (x : Int32) : x - 1 = x + (-1) := Int32.sub_eq_add_neg _ _
def sq_RC (C : Nat → Nat → Int32) (N : Nat) (op en U : Nat → Prop) : Prop := ∀ s, s < N → ∃ r, r ≤ 20 ∧ C 29 s = nI r ∧ ∀ n, n ≤ 20 → (n ≤ r ↔ sq_ft N op en U s n)
def sq_bh (N : Nat) (op en U : Nat → Prop) (k n : Nat) : Prop := k + n ≤ N ∧ ∀ j, j < n → op (k + j) ∧ ¬ U (k + j) ∧ ¬ en (k + j)
theorem sq_ft_s {N : Nat} {op en U : Nat → Prop} {k n : Nat} : sq_ft N op en U k (n + 1) ↔ ((op k ∧ ¬ U k) ∧ sq_bh N op en U (k + 1) n) := by
  constructor
  · intro h
    refine ⟨⟨(h.2 0 (by omega)).1, (h.2 0 (by omega)).2.1⟩, by have := h.1; omega, fun j hj => ?_⟩
    have := h.2 (j + 1) (by omega)
    rw [show k + (j + 1) = k + 1 + j by omega] at this
    exact ⟨this.1, this.2.1, this.2.2.resolve_left (by omega)⟩
  · rintro ⟨h1, h2, h3⟩
    refine ⟨by omega, fun j hj => ?_⟩
    rcases j with _ | j
    · exact ⟨h1.1, h1.2, Or.inl rfl⟩
    · have := h3 j (by omega)
      rw [show k + (j + 1) = k + 1 + j by omega]
      exact ⟨this.1, this.2.1, Or.inr this.2.2⟩
theorem sq_bh_ft {N : Nat} {op en U : Nat → Prop} {k n : Nat} (h : ¬ en k) : sq_bh N op en U k n ↔ sq_ft N op en U k n := by
  constructor
  · intro z; exact ⟨z.1, fun j hj => ⟨(z.2 j hj).1, (z.2 j hj).2.1, Or.inr (z.2 j hj).2.2⟩⟩
  · intro z
    refine ⟨z.1, fun j hj => ⟨(z.2 j hj).1, (z.2 j hj).2.1, ?_⟩⟩
    rcases (z.2 j hj).2.2 with e | e
    · subst e; exact h
    · exact e
def am_MR (C : Nat → Nat → Int32) (N : Nat) (op en U : Nat → Prop) (C' : Nat → Nat → Int32) (k b : Nat) : Prop := (∀ c j, c ≠ 29 → C' c j = C c j) ∧ (∀ s, k ≤ s → s < N → ∃ r, r ≤ 20 ∧ C' 29 s = nI r ∧ ∀ n, n ≤ 20 → (n ≤ r ↔ sq_ft N op en U s n)) ∧ (b ≤ 20) ∧ (∀ n, n ≤ 20 → (n ≤ b ↔ sq_bh N op en U k n))
theorem am_MR.fr {C : Nat → Nat → Int32} {N : Nat} {op en U : Nat → Prop} {C' : Nat → Nat → Int32} {k b : Nat} (h : am_MR C N op en U C' k b) : ∀ c j, c ≠ 29 → C' c j = C c j := h.1
theorem am_MR.rc {C : Nat → Nat → Int32} {N : Nat} {op en U : Nat → Prop} {C' : Nat → Nat → Int32} {k b : Nat} (h : am_MR C N op en U C' k b) : ∀ s, k ≤ s → s < N → ∃ r, r ≤ 20 ∧ C' 29 s = nI r ∧ ∀ n, n ≤ 20 → (n ≤ r ↔ sq_ft N op en U s n) := h.2.1
theorem am_MR.b20 {C : Nat → Nat → Int32} {N : Nat} {op en U : Nat → Prop} {C' : Nat → Nat → Int32} {k b : Nat} (h : am_MR C N op en U C' k b) : b ≤ 20 := h.2.2.1
theorem am_MR.bh {C : Nat → Nat → Int32} {N : Nat} {op en U : Nat → Prop} {C' : Nat → Nat → Int32} {k b : Nat} (h : am_MR C N op en U C' k b) : ∀ n, n ≤ 20 → (n ≤ b ↔ sq_bh N op en U k n) := h.2.2.2
theorem c_mr2 {C : Nat → Nat → Int32} {N k b r kc ks : Nat} {op en U : Nat → Prop} {e : am_E} {Q : am_Q} {C' : Nat → Nat → Int32} (hN3 : N ≤ 300) (hN : C 26 12 = nI N) (he : ∀ s, s < N → am_bz (C 28 s) (en s)) (K : ∀ b' C2, am_MR C N op en U C2 k b' → am_Go (mX6_measureReach, 9, [.ref 26, .int (nI b'), .int (nI k - 1)], [], hp C2 e, kc, ks, Q)) (hkN : k < N) (hI : am_MR C N op en U C' (k + 1) b) (hr : r ≤ 20) (hft : ∀ n, n ≤ 20 → (n ≤ r ↔ sq_ft N op en U k n)) : am_Go (mX6_measureReach, 40, [.ref 26, .int (nI b), .int (nI k)], [], hp (am_u C' 29 k (nI r)) e, kc, ks, Q) := by
  have hck := nI_clamp (show k < 2 ^ 31 by omega)
  have hfr : ∀ c j, c ≠ 29 → am_u C' 29 k (nI r) c j = C c j := fun c j hc => (am_u_ne hc).trans (hI.fr c j hc)
  have hrc : ∀ s, k ≤ s → s < N → ∃ r', r' ≤ 20 ∧ am_u C' 29 k (nI r) 29 s = nI r' ∧ ∀ n, n ≤ 20 → (n ≤ r' ↔ sq_ft N op en U s n) := fun s h1 h2 => by
    by_cases es : s = k
    · subst es; exact ⟨r, hr, am_u_eq, hft⟩
    · rw [am_u_nj es]; exact hI.rc s (by omega) h2
  refine go_s 3 rfl ?_
  refine go_m rfl rfl (show vp_in (nI k) 300 from vp_in_nI (by omega) (by decide)) ?_
  refine go_s 1 rfl ?_
  refine go_if (fun c46 => ?_) (fun c46 => ?_)
  · refine go_s 3 rfl ?_
    refine go_m rfl rfl (show vp_in (nI k) 300 from vp_in_nI (by omega) (by decide)) ?_
    have c46 : am_u C' 29 k (nI r) 28 (nI k).toNatClampNeg = 0 := c46
    rw [hck, am_u_ne (by decide), hI.fr 28 k (by decide)] at c46
    refine go_s 3 (pc' := 9) (ls' := [.ref 26, .int (am_u C' 29 k (nI r) 29 (nI k).toNatClampNeg), .int (nI k - 1)]) (st' := []) (h' := hp (am_u C' 29 k (nI r)) e) (by rw [am_dec]; rfl) ?_
    rw [hck, am_u_eq]
    refine K _ _ ⟨hfr, hrc, hr, fun n hn => ?_⟩
    rw [sq_bh_ft (am_bz_0 (he k hkN) c46)]
    exact hft n hn
  · have c46 : ¬ am_u C' 29 k (nI r) 28 (nI k).toNatClampNeg = 0 := c46
    rw [hck, am_u_ne (by decide), hI.fr 28 k (by decide)] at c46
    refine go_s 5 (pc' := 9) (ls' := [.ref 26, .int (nI 0), .int (nI k - 1)]) (st' := []) (h' := hp (am_u C' 29 k (nI r)) e) (by rw [am_dec]; rfl) ?_
    refine K _ _ ⟨hfr, hrc, by omega, fun n hn => ?_⟩
    rcases n with _ | n
    · exact ⟨fun _ => ⟨by omega, fun j hj => by omega⟩, fun _ => Nat.le_refl _⟩
    · exact ⟨fun z => by omega, fun z => absurd (am_bz_n (he k hkN) c46) (z.2 0 (by omega)).2.2⟩
theorem c_mr {C : Nat → Nat → Int32} {N : Nat} {op en U : Nat → Prop} {e : am_E} {Q : am_Q} (hN3 : N ≤ 300) (hN : C 26 12 = nI N) (ho : ∀ s, s < N → am_bz (C 27 s) (op s ∧ ¬ U s)) (he : ∀ s, s < N → am_bz (C 28 s) (en s)) (q : ∀ C', (∀ c j, c ≠ 29 → C' c j = C c j) → sq_RC C' N op en U → Q none (hp C' e)) {kc ks : Nat} : ∀ (k b : Nat) (C' : Nat → Nat → Int32), k ≤ N → am_MR C N op en U C' k b → am_Go (mX6_measureReach, 9, [.ref 26, .int (nI b), .int (nI k - 1)], [], hp C' e, kc, ks, Q)
  | 0, b, C', hk, hI => by
    refine go_s 2 rfl ?_
    refine go_if (fun c => ?_) (fun c => absurd (show nI 0 - 1 < 0 by decide) c)
    exact go_retv rfl rfl (q C' hI.fr (fun s hs => hI.rc s (Nat.zero_le _) hs))
  | k + 1, b, C', hk, hI => by
    have hkN : k < N := by omega
    have hck := nI_clamp (show k < 2 ^ 31 by omega)
    have K : ∀ b' C2, am_MR C N op en U C2 k b' → am_Go (mX6_measureReach, 9, [.ref 26, .int (nI b'), .int (nI k - 1)], [], hp C2 e, kc, ks, Q) := fun b' C2 h2 => c_mr hN3 hN ho he q k b' C2 (by omega) h2
    rw [nI_pred]
    refine go_s 2 rfl ?_
    refine go_if (fun c10 => absurd c10 (nI_pos (n := k) (by omega))) (fun c10 => ?_)
    refine go_s 6 rfl ?_
    refine go_m rfl rfl (show vp_in (nI k) 300 from vp_in_nI (by omega) (by decide)) ?_
    refine go_s 1 rfl ?_
    refine go_if (fun c24 => ?_) (fun c24 => ?_)
    · refine go_s 1 rfl ?_
      refine go_m rfl rfl (show vp_in (nI k) 300 from vp_in_nI (by omega) (by decide)) ?_
      have c24 : C' 27 (nI k).toNatClampNeg = 0 := c24
      rw [hck, hI.fr 27 k (by decide)] at c24
      show am_Go (mX6_measureReach, 40, [.ref 26, .int (nI b), .int (nI k)], [], hp (am_u C' 29 (nI k).toNatClampNeg 0) e, _, _, Q)
      rw [hck]
      refine c_mr2 hN3 hN he K (r := 0) hkN hI (by omega) (fun n hn => ?_)
      rcases n with _ | n
      · exact ⟨fun _ => ⟨by omega, fun j hj => by omega⟩, fun _ => Nat.le_refl _⟩
      · rw [sq_ft_s]
        exact ⟨fun z => by omega, fun z => absurd z.1 (am_bz_0 (ho k hkN) c24)⟩
    · refine go_s 4 rfl ?_
      refine go_min 648 rfl (by decide +kernel) rfl ?_
      refine go_s 1 rfl ?_
      refine go_m rfl rfl (show vp_in (nI k) 300 from vp_in_nI (by omega) (by decide)) ?_
      have c24 : ¬ C' 27 (nI k).toNatClampNeg = 0 := c24
      rw [hck, hI.fr 27 k (by decide)] at c24
      show am_Go (mX6_measureReach, 40, [.ref 26, .int (nI b), .int (nI k)], [], hp (am_u C' 29 (nI k).toNatClampNeg (if (20 : Int32) < nI b + 1 then 20 else nI b + 1)) e, _, _, Q)
      have b20 := hI.b20
      have em : (if (20 : Int32) < nI b + 1 then (20 : Int32) else nI b + 1) = nI (if 20 < b + 1 then 20 else b + 1) := by
        rw [nI_1]
        by_cases g : 20 < b + 1
        · rw [if_pos g, if_pos (show (20 : Int32) < nI (b + 1) from nI_lt (a := 20) (b := b + 1) g (by omega))]; rfl
        · rw [if_neg g, if_neg (show ¬ (20 : Int32) < nI (b + 1) from nI_nlt (a := 20) (b := b + 1) (by omega) (by decide))]
      rw [hck, em]
      refine c_mr2 hN3 hN he K hkN hI (by split <;> omega) (fun n hn => ?_)
      rcases n with _ | n
      · exact ⟨fun _ => ⟨by omega, fun j hj => by omega⟩, fun _ => Nat.zero_le _⟩
      · rw [sq_ft_s, ← hI.bh n (by omega)]
        have o := am_bz_n (ho k hkN) c24
        constructor
        · intro z; exact ⟨o, by split at z <;> omega⟩
        · intro z; have := z.2; split <;> omega
theorem c_X6_measureReach {C : Nat → Nat → Int32} {N : Nat} {op en U : Nat → Prop} {e : am_E} {Q : am_Q} (hN3 : N ≤ 300) (hN : C 26 12 = nI N) (ho : ∀ s, s < N → am_bz (C 27 s) (op s ∧ ¬ U s)) (he : ∀ s, s < N → am_bz (C 28 s) (en s)) (q : ∀ C', (∀ c j, c ≠ 29 → C' c j = C c j) → sq_RC C' N op en U → Q none (hp C' e)) {kc ks : Nat} : am_Go (mX6_measureReach, 0, am_ent mX6_measureReach [.ref 26], [], hp C e, kc, ks, Q) := by
  refine go_s 7 (pc' := 9) (ls' := [.ref 26, .int (nI 0), .int (nI N - 1)]) (st' := []) (h' := hp C e) (by rw [← hN]; rfl) ?_
  refine c_mr hN3 hN ho he q N 0 C (Nat.le_refl _) ⟨fun _ _ _ => rfl, fun s h1 h2 => by omega, by omega, fun n hn => ?_⟩
  rcases n with _ | n
  · exact ⟨fun _ => ⟨by omega, fun j hj => by omega⟩, fun _ => Nat.le_refl _⟩
  · exact ⟨fun z => by omega, fun z => by have := z.1; omega⟩
