theorem c_fat {C D : Nat → Nat → Int32} {F : Nat} {sz : Nat → Nat} {e : am_E} {Q : am_Q} (hP : am_PG C D F sz) {f p : Nat} (hf : f < F) (hpf : p < sz f) (q : Q (some (.int (nI f))) (hp C e)) : ∀ (n kc ks g : Nat), f < n + g → g ≤ f → am_Go (mX5_functionAt, 2, [.ref 1, .int (nI (am_st sz f + p)), .int (nI g)], [], hp C e, kc, ks, Q)
  | 0, kc, ks, g, h1, hgf => by omega
  | n + 1, kc, ks, g, h1, hgf => by
    have hF := hP.hF
    have ht := hP.t300
    have hl := hP.lt hf hpf
    refine go_s 4 rfl ?_
    refine go_if (fun c7 => ?_) (fun c7 => ?_)
    · have c7 : nI g < C 1 5 := c7
      rw [hP.c5] at c7
      have hg : g < F := (nI_ltI (by omega) (by omega)).mp c7
      have hcg := nI_clamp (show g < 2 ^ 31 by omega)
      have r6 : C 6 (nI g).toNatClampNeg = nI (am_st sz g) := by rw [hcg]; exact hP.c6 g (by omega)
      have r7 : C 6 (nI g + 1).toNatClampNeg = nI (am_st sz (g + 1)) := by rw [nI_1, nI_clamp (by omega)]; exact hP.c6 (g + 1) (by omega)
      have lg : am_st sz g ≤ am_st sz F := am_st_le (by omega)
      have lg1 : am_st sz (g + 1) ≤ am_st sz F := am_st_le (by omega)
      have lf1 : am_st sz (f + 1) = am_st sz f + sz f := rfl
      refine go_s 4 rfl ?_
      refine go_m rfl rfl (show vp_in (nI g) 25 from vp_in_nI (by omega) (by decide)) ?_
      refine go_s 1 rfl ?_
      refine go_if (fun c17 => ?_) (fun c17 => ?_)
      · have c17 : nI (am_st sz f + p) < C 6 (nI g).toNatClampNeg := c17
        rw [r6] at c17
        have c17 := (nI_ltI (by omega) (by omega)).mp c17
        have : am_st sz g ≤ am_st sz f := am_st_le hgf
        omega
      · refine go_s 6 rfl ?_
        refine go_m rfl rfl (show vp_in (nI g + 1) 25 by rw [nI_1]; exact vp_in_nI (by omega) (by decide)) ?_
        refine go_s 1 rfl ?_
        refine go_if (fun c29 => ?_) (fun c29 => ?_)
        · refine go_s 1 rfl ?_
          have c29 : nI (am_st sz f + p) < C 6 (nI g + 1).toNatClampNeg := c29
          rw [r7] at c29
          have c29 := (nI_ltI (by omega) (by omega)).mp c29
          have hge : ¬ g < f := fun z => by
            have : am_st sz (g + 1) ≤ am_st sz f := am_st_le z
            omega
          have eg : g = f := by omega
          subst eg
          exact go_ret rfl rfl q
        · have c29 : ¬ nI (am_st sz f + p) < C 6 (nI g + 1).toNatClampNeg := c29
          rw [r7] at c29
          have c29 := mt (nI_lt (a := am_st sz f + p) (b := am_st sz (g + 1)) · (by omega)) c29
          have hne : g ≠ f := fun z => by rw [z] at c29; omega
          refine go_s 2 (pc' := 2) (ls' := [.ref 1, .int (nI (am_st sz f + p)), .int (nI (g + 1))]) (st' := []) (h' := hp C e) (by rw [← nI_1 g]; rfl) ?_
          exact c_fat hP hf hpf q n _ _ (g + 1) (by omega) (by omega)
    · refine go_s 1 rfl ?_
      have c7 : ¬ nI g < C 1 5 := c7
      rw [hP.c5] at c7
      exact absurd (nI_lt (show g < F by omega) (by omega)) c7
theorem c_X5_functionAt {C D : Nat → Nat → Int32} {F : Nat} {sz : Nat → Nat} {e : am_E} {Q : am_Q} (hP : am_PG C D F sz) {f p : Nat} (hf : f < F) (hpf : p < sz f) (q : Q (some (.int (nI f))) (hp C e)) {kc ks : Nat} : am_Go (mX5_functionAt, 0, am_ent mX5_functionAt [.ref 1, .int (nI (am_st sz f + p))], [], hp C e, kc, ks, Q) := by
  refine go_s 2 rfl ?_
  exact c_fat hP hf hpf q (f + 1) _ _ 0 (by omega) (by omega)
def sq_RO (C : Nat → Nat → Int32) (F : Nat) (sz : Nat → Nat) (op en : Nat → Prop) (sm : Nat → Nat → Prop) (ln sp : Nat → Nat) (k M : Nat) : Prop := (C 16 k = nI (sp k)) ∧ (C 17 k = nI (ln k)) ∧ (C 18 k = nI (sq_fo (am_st sz F) op en sm ln sp k)) ∧ (C 19 k = nI (sq_gk (am_st sz F) op en sm ln sp k M).1) ∧ (∀ j, j < M → sq_ok (am_st sz F) op en sm ln sp k j → ∃ f p, f < F ∧ p < sz f ∧ j = am_st sz f + p ∧ C 21 (sq_fo (am_st sz F) op en sm ln sp k + (sq_gk (am_st sz F) op en sm ln sp k j).1) = nI k ∧ C 22 (sq_fo (am_st sz F) op en sm ln sp k + (sq_gk (am_st sz F) op en sm ln sp k j).1) = nI f ∧ C 23 (sq_fo (am_st sz F) op en sm ln sp k + (sq_gk (am_st sz F) op en sm ln sp k j).1) = nI p ∧ C 25 j = nI (sq_fo (am_st sz F) op en sm ln sp k + (sq_gk (am_st sz F) op en sm ln sp k j).1))
theorem sq_RO.s16 {C : Nat → Nat → Int32} {F : Nat} {sz : Nat → Nat} {op en : Nat → Prop} {sm : Nat → Nat → Prop} {ln sp : Nat → Nat} {k M : Nat} (h : sq_RO C F sz op en sm ln sp k M) : C 16 k = nI (sp k) := h.1
theorem sq_RO.s17 {C : Nat → Nat → Int32} {F : Nat} {sz : Nat → Nat} {op en : Nat → Prop} {sm : Nat → Nat → Prop} {ln sp : Nat → Nat} {k M : Nat} (h : sq_RO C F sz op en sm ln sp k M) : C 17 k = nI (ln k) := h.2.1
theorem sq_RO.s18 {C : Nat → Nat → Int32} {F : Nat} {sz : Nat → Nat} {op en : Nat → Prop} {sm : Nat → Nat → Prop} {ln sp : Nat → Nat} {k M : Nat} (h : sq_RO C F sz op en sm ln sp k M) : C 18 k = nI (sq_fo (am_st sz F) op en sm ln sp k) := h.2.2.1
theorem sq_RO.s19 {C : Nat → Nat → Int32} {F : Nat} {sz : Nat → Nat} {op en : Nat → Prop} {sm : Nat → Nat → Prop} {ln sp : Nat → Nat} {k M : Nat} (h : sq_RO C F sz op en sm ln sp k M) : C 19 k = nI (sq_gk (am_st sz F) op en sm ln sp k M).1 := h.2.2.2.1
theorem sq_RO.oc {C : Nat → Nat → Int32} {F : Nat} {sz : Nat → Nat} {op en : Nat → Prop} {sm : Nat → Nat → Prop} {ln sp : Nat → Nat} {k M : Nat} (h : sq_RO C F sz op en sm ln sp k M) : ∀ j, j < M → sq_ok (am_st sz F) op en sm ln sp k j → ∃ f p, f < F ∧ p < sz f ∧ j = am_st sz f + p ∧ C 21 (sq_fo (am_st sz F) op en sm ln sp k + (sq_gk (am_st sz F) op en sm ln sp k j).1) = nI k ∧ C 22 (sq_fo (am_st sz F) op en sm ln sp k + (sq_gk (am_st sz F) op en sm ln sp k j).1) = nI f ∧ C 23 (sq_fo (am_st sz F) op en sm ln sp k + (sq_gk (am_st sz F) op en sm ln sp k j).1) = nI p ∧ C 25 j = nI (sq_fo (am_st sz F) op en sm ln sp k + (sq_gk (am_st sz F) op en sm ln sp k j).1) := h.2.2.2.2
def sq_RS (C : Nat → Nat → Int32) (F : Nat) (sz : Nat → Nat) (op en : Nat → Prop) (sm : Nat → Nat → Prop) (ln sp : Nat → Nat) (K : Nat) : Prop := (C 15 10 = nI K) ∧ (C 15 11 = nI (sq_fo (am_st sz F) op en sm ln sp K)) ∧ (∀ k, k < K → sq_RO C F sz op en sm ln sp k (am_st sz F)) ∧ (∀ j, j < 300 → (∀ k, k < K → ¬ sq_ok (am_st sz F) op en sm ln sp k j) → C 25 j = -1)
theorem sq_RS.cR {C : Nat → Nat → Int32} {F : Nat} {sz : Nat → Nat} {op en : Nat → Prop} {sm : Nat → Nat → Prop} {ln sp : Nat → Nat} {K : Nat} (h : sq_RS C F sz op en sm ln sp K) : C 15 10 = nI K := h.1
theorem sq_RS.cO {C : Nat → Nat → Int32} {F : Nat} {sz : Nat → Nat} {op en : Nat → Prop} {sm : Nat → Nat → Prop} {ln sp : Nat → Nat} {K : Nat} (h : sq_RS C F sz op en sm ln sp K) : C 15 11 = nI (sq_fo (am_st sz F) op en sm ln sp K) := h.2.1
theorem sq_RS.ro {C : Nat → Nat → Int32} {F : Nat} {sz : Nat → Nat} {op en : Nat → Prop} {sm : Nat → Nat → Prop} {ln sp : Nat → Nat} {K : Nat} (h : sq_RS C F sz op en sm ln sp K) : ∀ k, k < K → sq_RO C F sz op en sm ln sp k (am_st sz F) := h.2.2.1
theorem sq_RS.no {C : Nat → Nat → Int32} {F : Nat} {sz : Nat → Nat} {op en : Nat → Prop} {sm : Nat → Nat → Prop} {ln sp : Nat → Nat} {K : Nat} (h : sq_RS C F sz op en sm ln sp K) : ∀ j, j < 300 → (∀ k, k < K → ¬ sq_ok (am_st sz F) op en sm ln sp k j) → C 25 j = -1 := h.2.2.2
def sq_RP (C : Nat → Nat → Int32) (F : Nat) (sz : Nat → Nat) (op en : Nat → Prop) (sm : Nat → Nat → Prop) (ln sp : Nat → Nat) (K M : Nat) : Prop := (C 15 10 = nI (K + 1)) ∧ (C 15 11 = nI (sq_fo (am_st sz F) op en sm ln sp K + (sq_gk (am_st sz F) op en sm ln sp K M).1)) ∧ (∀ k, k < K → sq_RO C F sz op en sm ln sp k (am_st sz F)) ∧ (sq_RO C F sz op en sm ln sp K M) ∧ (∀ j, j < 300 → (∀ k, k < K → ¬ sq_ok (am_st sz F) op en sm ln sp k j) → ¬ (sq_ok (am_st sz F) op en sm ln sp K j ∧ j < M) → C 25 j = -1)
theorem sq_RP.cR {C : Nat → Nat → Int32} {F : Nat} {sz : Nat → Nat} {op en : Nat → Prop} {sm : Nat → Nat → Prop} {ln sp : Nat → Nat} {K M : Nat} (h : sq_RP C F sz op en sm ln sp K M) : C 15 10 = nI (K + 1) := h.1
theorem sq_RP.cO {C : Nat → Nat → Int32} {F : Nat} {sz : Nat → Nat} {op en : Nat → Prop} {sm : Nat → Nat → Prop} {ln sp : Nat → Nat} {K M : Nat} (h : sq_RP C F sz op en sm ln sp K M) : C 15 11 = nI (sq_fo (am_st sz F) op en sm ln sp K + (sq_gk (am_st sz F) op en sm ln sp K M).1) := h.2.1
theorem sq_RP.ro {C : Nat → Nat → Int32} {F : Nat} {sz : Nat → Nat} {op en : Nat → Prop} {sm : Nat → Nat → Prop} {ln sp : Nat → Nat} {K M : Nat} (h : sq_RP C F sz op en sm ln sp K M) : ∀ k, k < K → sq_RO C F sz op en sm ln sp k (am_st sz F) := h.2.2.1
theorem sq_RP.rp {C : Nat → Nat → Int32} {F : Nat} {sz : Nat → Nat} {op en : Nat → Prop} {sm : Nat → Nat → Prop} {ln sp : Nat → Nat} {K M : Nat} (h : sq_RP C F sz op en sm ln sp K M) : sq_RO C F sz op en sm ln sp K M := h.2.2.2.1
theorem sq_RP.no {C : Nat → Nat → Int32} {F : Nat} {sz : Nat → Nat} {op en : Nat → Prop} {sm : Nat → Nat → Prop} {ln sp : Nat → Nat} {K M : Nat} (h : sq_RP C F sz op en sm ln sp K M) : ∀ j, j < 300 → (∀ k, k < K → ¬ sq_ok (am_st sz F) op en sm ln sp k j) → ¬ (sq_ok (am_st sz F) op en sm ln sp K j ∧ j < M) → C 25 j = -1 := h.2.2.2.2
theorem sq_fo_mo {N : Nat} {op en : Nat → Prop} {sm : Nat → Nat → Prop} {ln sp : Nat → Nat} {k : Nat} : ∀ d, sq_fo N op en sm ln sp k ≤ sq_fo N op en sm ln sp (k + d)
  | 0 => Nat.le_refl _
  | d + 1 => Nat.le_trans (sq_fo_mo d) (Nat.le_add_right _ _)
/-- the number of an occurrence is below that of the next routine's first -/
theorem sq_ix_lt {N : Nat} {op en : Nat → Prop} {sm : Nat → Nat → Prop} {ln sp : Nat → Nat} {k K j : Nat} (hk : k < K) (h1 : 1 ≤ ln k) (h : sq_ok N op en sm ln sp k j) : sq_fo N op en sm ln sp k + (sq_gk N op en sm ln sp k j).1 < sq_fo N op en sm ln sp K := by
  have a := ((sq_gr_last (P := sq_Pk N op en sm ln sp k) h1 N).2 j (sq_ok_lt h1 h) h.1 h.2).2
  obtain ⟨d, rfl⟩ := Nat.exists_eq_add_of_le (show k + 1 ≤ K by omega)
  have b := sq_fo_mo (N := N) (op := op) (en := en) (sm := sm) (ln := ln) (sp := sp) (k := k + 1) d
  have c : sq_fo N op en sm ln sp (k + 1) = sq_fo N op en sm ln sp k + (sq_gk N op en sm ln sp k N).1 := rfl
  have a' : (sq_gk N op en sm ln sp k j).1 < (sq_gk N op en sm ln sp k N).1 := a
  omega
theorem sq_RO_cg {C C' : Nat → Nat → Int32} {F : Nat} {sz : Nat → Nat} {op en : Nat → Prop} {sm : Nat → Nat → Prop} {ln sp : Nat → Nat} {k M : Nat} (h : sq_RO C F sz op en sm ln sp k M) (e : ∀ c, 16 ≤ c → c ≤ 19 → C' c k = C c k) (e2 : ∀ j, j < M → sq_ok (am_st sz F) op en sm ln sp k j → C' 25 j = C 25 j ∧ ∀ c, 21 ≤ c → c ≤ 23 → C' c (sq_fo (am_st sz F) op en sm ln sp k + (sq_gk (am_st sz F) op en sm ln sp k j).1) = C c (sq_fo (am_st sz F) op en sm ln sp k + (sq_gk (am_st sz F) op en sm ln sp k j).1)) : sq_RO C' F sz op en sm ln sp k M := by
  refine ⟨(e 16 (by decide) (by decide)).trans h.s16, (e 17 (by decide) (by decide)).trans h.s17, (e 18 (by decide) (by decide)).trans h.s18, (e 19 (by decide) (by decide)).trans h.s19, fun j hj ho => ?_⟩
  obtain ⟨f, p, a1, a2, a3, a4, a5, a6, a7⟩ := h.oc j hj ho
  obtain ⟨b1, b2⟩ := e2 j hj ho
  exact ⟨f, p, a1, a2, a3, (b2 21 (by decide) (by decide)).trans a4, (b2 22 (by decide) (by decide)).trans a5, (b2 23 (by decide) (by decide)).trans a6, b1.trans a7⟩
theorem sq_RP_sk {C : Nat → Nat → Int32} {F : Nat} {sz : Nat → Nat} {op en : Nat → Prop} {sm : Nat → Nat → Prop} {ln sp : Nat → Nat} {K M : Nat} (h : sq_RP C F sz op en sm ln sp K M) (hn : ¬ sq_ok (am_st sz F) op en sm ln sp K M) : sq_RP C F sz op en sm ln sp K (M + 1) := by
  have e : sq_gk (am_st sz F) op en sm ln sp K (M + 1) = sq_gk (am_st sz F) op en sm ln sp K M := sq_gr_f hn
  refine ⟨h.cR, by rw [e]; exact h.cO, h.ro, ⟨h.rp.s16, h.rp.s17, h.rp.s18, by rw [e]; exact h.rp.s19, fun j hj ho => h.rp.oc j ?_ ho⟩, fun j hj g1 g2 => h.no j hj g1 (fun z => g2 ⟨z.1, by omega⟩)⟩
  by_cases ej : j = M
  · subst ej; exact absurd ho hn
  · omega
def am_ac (C : Nat → Nat → Int32) (K o m j f p : Nat) : Nat → Nat → Int32 := am_u (am_u (am_u (am_u (am_u (am_u (am_u C 21 o (nI K)) 22 o (nI f)) 23 o (nI p)) 24 o 0) 25 j (nI o)) 15 11 (nI (o + 1))) 19 K (nI (m + 1))
theorem am_aoc_eq {C : Nat → Nat → Int32} {K o m j f p : Nat} (hK : K < 60) (ho : o < 150) (hj : j < 300) (h10 : C 15 10 = nI (K + 1)) (h11 : C 15 11 = nI o) (h19 : C 19 K = nI m) : am_aoc C (nI j) (nI f) (nI p) = am_ac C K o m j f p := by
  unfold am_aoc am_aoc1 am_ac
  rw [h10, h11, nI_pred, if_pos (show ¬ nI K < 0 ∧ nI o < 150 ∧ ¬ nI j < 0 ∧ nI j < 300 from ⟨nI_pos (by omega), nI_lt (a := o) (b := 150) ho (by decide), nI_pos (by omega), nI_lt (a := j) (b := 300) hj (by decide)⟩), nI_clamp (by omega), nI_clamp (by omega), nI_clamp (by omega), h19, nI_1, nI_1]
theorem sq_RP_up {C : Nat → Nat → Int32} {F : Nat} {sz : Nat → Nat} {op en : Nat → Prop} {sm : Nat → Nat → Prop} {ln sp : Nat → Nat} {K M f p : Nat} (hln : ∀ k, k ≤ K → 2 ≤ ln k) (h : sq_RP C F sz op en sm ln sp K M) (hok : sq_ok (am_st sz F) op en sm ln sp K M) (hf : f < F) (hp : p < sz f) (eM : M = am_st sz f + p) : sq_RP (am_ac C K (sq_fo (am_st sz F) op en sm ln sp K + (sq_gk (am_st sz F) op en sm ln sp K M).1) (sq_gk (am_st sz F) op en sm ln sp K M).1 M f p) F sz op en sm ln sp K (M + 1) := by
  have e : sq_gk (am_st sz F) op en sm ln sp K (M + 1) = ((sq_gk (am_st sz F) op en sm ln sp K M).1 + 1, M + ln K) := sq_gr_t hok.1 hok.2
  have hl := hln K (Nat.le_refl _)
  generalize ho : sq_fo (am_st sz F) op en sm ln sp K + (sq_gk (am_st sz F) op en sm ln sp K M).1 = o
  generalize hm : (sq_gk (am_st sz F) op en sm ln sp K M).1 = m at *
  refine ⟨?_, ?_, fun k hk => ?_, ⟨?_, ?_, ?_, ?_, fun j hj ho2 => ?_⟩, fun j hj g1 g2 => ?_⟩
  · unfold am_ac
    rw [am_u_ne (by decide), am_u_nj (by decide), am_u_ne (by decide), am_u_ne (by decide), am_u_ne (by decide), am_u_ne (by decide), am_u_ne (by decide)]; exact h.cR
  · unfold am_ac
    rw [am_u_ne (by decide), am_u_eq, e]; congr 1; dsimp only; omega
  · refine sq_RO_cg (h.ro k hk) (fun c g1 g2 => ?_) (fun j hj hoj => ⟨?_, fun c g1 g2 => ?_⟩)
    · unfold am_ac
      by_cases e9 : c = 19
      · subst e9
        rw [am_u_nj (by omega), am_u_ne (by decide), am_u_ne (by decide), am_u_ne (by decide), am_u_ne (by decide), am_u_ne (by decide), am_u_ne (by decide)]
      · rw [am_u_ne e9, am_u_ne (by omega), am_u_ne (by omega), am_u_ne (by omega), am_u_ne (by omega), am_u_ne (by omega), am_u_ne (by omega)]
    · have hne : j ≠ M := fun z => by
        subst z
        exact sq_ok_ne hk hoj hok (Nat.le_refl _) (by have := hln k (by omega); omega) (Nat.le_refl _) (by omega)
      unfold am_ac
      rw [am_u_ne (by decide), am_u_ne (by decide), am_u_nj hne, am_u_ne (by decide), am_u_ne (by decide), am_u_ne (by decide), am_u_ne (by decide)]
    · have lt := sq_ix_lt hk (show 1 ≤ ln k by have := hln k (by omega); omega) hoj
      have hne : sq_fo (am_st sz F) op en sm ln sp k + (sq_gk (am_st sz F) op en sm ln sp k j).1 ≠ o := by omega
      unfold am_ac am_u
      rw [if_neg (by omega), if_neg (by omega), if_neg (by omega), if_neg (by omega), if_neg (by omega), if_neg (by omega), if_neg (by omega)]
  · unfold am_ac
    rw [am_u_ne (by decide), am_u_ne (by decide), am_u_ne (by decide), am_u_ne (by decide), am_u_ne (by decide), am_u_ne (by decide), am_u_ne (by decide)]; exact h.rp.s16
  · unfold am_ac
    rw [am_u_ne (by decide), am_u_ne (by decide), am_u_ne (by decide), am_u_ne (by decide), am_u_ne (by decide), am_u_ne (by decide), am_u_ne (by decide)]; exact h.rp.s17
  · unfold am_ac
    rw [am_u_ne (by decide), am_u_ne (by decide), am_u_ne (by decide), am_u_ne (by decide), am_u_ne (by decide), am_u_ne (by decide), am_u_ne (by decide)]; exact h.rp.s18
  · unfold am_ac
    rw [am_u_eq, e]
  · by_cases ej : j = M
    · subst ej
      rw [hm, ho]
      refine ⟨f, p, hf, hp, eM, ?_, ?_, ?_, ?_⟩
      · unfold am_ac
        rw [am_u_ne (by decide), am_u_ne (by decide), am_u_ne (by decide), am_u_ne (by decide), am_u_ne (by decide), am_u_ne (by decide), am_u_eq]
      · unfold am_ac
        rw [am_u_ne (by decide), am_u_ne (by decide), am_u_ne (by decide), am_u_ne (by decide), am_u_ne (by decide), am_u_eq]
      · unfold am_ac
        rw [am_u_ne (by decide), am_u_ne (by decide), am_u_ne (by decide), am_u_ne (by decide), am_u_eq]
      · unfold am_ac
        rw [am_u_ne (by decide), am_u_ne (by decide), am_u_eq]
    · obtain ⟨f', p', a1, a2, a3, a4, a5, a6, a7⟩ := h.rp.oc j (by omega) ho2
      have lt : (sq_gk (am_st sz F) op en sm ln sp K j).1 < m := by
        rw [← hm]
        exact ((sq_gr_last (P := sq_Pk (am_st sz F) op en sm ln sp K) (show 1 ≤ ln K by omega) M).2 j (by omega) ho2.1 ho2.2).2
      have hne : sq_fo (am_st sz F) op en sm ln sp K + (sq_gk (am_st sz F) op en sm ln sp K j).1 ≠ o := by omega
      have key : ∀ c, 21 ≤ c → c ≤ 23 → am_ac C K o m M f p c (sq_fo (am_st sz F) op en sm ln sp K + (sq_gk (am_st sz F) op en sm ln sp K j).1) = C c (sq_fo (am_st sz F) op en sm ln sp K + (sq_gk (am_st sz F) op en sm ln sp K j).1) := fun c g1 g2 => by
        unfold am_ac am_u
        rw [if_neg (by omega), if_neg (by omega), if_neg (by omega), if_neg (by omega), if_neg (by omega), if_neg (by omega), if_neg (by omega)]
      refine ⟨f', p', a1, a2, a3, (key 21 (by decide) (by decide)).trans a4, (key 22 (by decide) (by decide)).trans a5, (key 23 (by decide) (by decide)).trans a6, ?_⟩
      unfold am_ac
      rw [am_u_ne (by decide), am_u_ne (by decide), am_u_nj ej, am_u_ne (by decide), am_u_ne (by decide), am_u_ne (by decide), am_u_ne (by decide)]; exact a7
  · have hne : j ≠ M := fun z => by subst z; exact g2 ⟨hok, by omega⟩
    unfold am_ac
    rw [am_u_ne (by decide), am_u_ne (by decide), am_u_nj hne, am_u_ne (by decide), am_u_ne (by decide), am_u_ne (by decide), am_u_ne (by decide)]
    exact h.no j hj g1 (fun z => g2 ⟨z.1, by omega⟩)
