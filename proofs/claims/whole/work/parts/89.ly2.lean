theorem sq_U_i {N : Nat} {op en : Nat → Prop} {sm : Nat → Nat → Prop} {ln sp : Nat → Nat} {t : Nat} : ∀ {K : Nat}, sq_U N op en sm ln sp K t ↔ ∃ k j, k < K ∧ sq_ok N op en sm ln sp k j ∧ j ≤ t ∧ t < j + ln k
  | 0 => ⟨fun z => z.elim, fun ⟨k, _, hk, _⟩ => by omega⟩
  | K + 1 => by
    have ih := sq_U_i (N := N) (op := op) (en := en) (sm := sm) (ln := ln) (sp := sp) (t := t) (K := K)
    constructor
    · rintro (z | ⟨j, h1, h2⟩)
      · obtain ⟨k, j, a1, a2⟩ := ih.mp z
        exact ⟨k, j, by omega, a2⟩
      · exact ⟨K, j, by omega, h1, h2⟩
    · rintro ⟨k, j, h0, h1, h2⟩
      by_cases e : k = K
      · subst e; exact Or.inr ⟨j, h1, h2⟩
      · exact Or.inl (ih.mpr ⟨k, j, by omega, h1, h2⟩)
theorem ly_uq {N : Nat} {op en : Nat → Prop} {sm : Nat → Nat → Prop} {ln sp : Nat → Nat} {k k' j j' t : Nat} (hl : 1 ≤ ln k) (h : sq_ok N op en sm ln sp k j) (h' : sq_ok N op en sm ln sp k' j') (a1 : j ≤ t) (a2 : t < j + ln k) (b1 : j' ≤ t) (b2 : t < j' + ln k') : k = k' ∧ j = j' := by
  have x1 : ¬ k < k' := fun z => sq_ok_ne z h h' a1 a2 b1 b2
  have x2 : ¬ k' < k := fun z => sq_ok_ne z h' h b1 b2 a1 a2
  have e : k = k' := by omega
  subst e
  refine ⟨rfl, ?_⟩
  have y1 : ¬ j < j' := fun z => by
    have := ((sq_gr_last (P := sq_Pk N op en sm ln sp k) hl j').2 j z h.1 h.2).1
    have := h'.2
    have h0 : (sq_gr (sq_Pk N op en sm ln sp k) (ln k) j').2 ≤ j' := this
    omega
  have y2 : ¬ j' < j := fun z => by
    have := ((sq_gr_last (P := sq_Pk N op en sm ln sp k) hl j).2 j' z h'.1 h'.2).1
    have := h.2
    have h0 : (sq_gr (sq_Pk N op en sm ln sp k) (ln k) j).2 ≤ j := this
    omega
  omega
def ly_bd (F : Nat) (sz : Nat → Nat) (B : Nat → Prop) (t : Nat) : Prop := ∃ f p, f < F ∧ p < sz f ∧ t = am_st sz f + p ∧ B f
theorem ly_bd_i {F f p : Nat} {sz : Nat → Nat} {B : Nat → Prop} (hf : f < F) (hp : p < sz f) : ly_bd F sz B (am_st sz f + p) ↔ B f := by
  constructor
  · rintro ⟨g, q, h1, h2, h3, h4⟩
    obtain ⟨e1, _⟩ := am_st_u hp h2 h3
    rw [e1]; exact h4
  · intro h; exact ⟨f, p, hf, hp, rfl, h⟩
/-- covered, but not begun here -/
def ly_cv (N : Nat) (op en : Nat → Prop) (sm : Nat → Nat → Prop) (ln sp : Nat → Nat) (K t : Nat) : Prop := ∃ k j, k < K ∧ sq_ok N op en sm ln sp k j ∧ j < t ∧ t < j + ln k
/-- how many spots are still covered -/
def ly_in (N : Nat) (op en : Nat → Prop) (sm : Nat → Nat → Prop) (ln sp : Nat → Nat) (K t i : Nat) : Prop := (i = 0 ∧ ¬ ly_cv N op en sm ln sp K t) ∨ (0 < i ∧ ∃ k j, k < K ∧ sq_ok N op en sm ln sp k j ∧ j < t ∧ t + i = j + ln k)
section LYI
variable {N : Nat} {op en : Nat → Prop} {sm : Nat → Nat → Prop} {ln sp : Nat → Nat} {K : Nat}
theorem ly_in_bg {t k : Nat} (hl : 2 ≤ ln k) (hk : k < K) (h : sq_ok N op en sm ln sp k t) : ly_in N op en sm ln sp K (t + 1) (ln k - 1) := Or.inr ⟨by omega, k, t, hk, h, by omega, by omega⟩
theorem ly_in_0 {t : Nat} (h : ly_in N op en sm ln sp K t 0) (hb : ¬ ly_bg N op en sm ln sp K t) : ly_in N op en sm ln sp K (t + 1) 0 ∧ ¬ sq_U N op en sm ln sp K t := by
  have h := (h.resolve_right (fun z => by omega)).2
  refine ⟨Or.inl ⟨rfl, fun ⟨k, j, a1, a2, a3, a4⟩ => ?_⟩, fun z => ?_⟩
  · by_cases e : j = t
    · subst e; exact hb ⟨k, a1, a2⟩
    · exact h ⟨k, j, a1, a2, by omega, by omega⟩
  · obtain ⟨k, j, a1, a2, a3, a4⟩ := sq_U_i.mp z
    by_cases e : j = t
    · subst e; exact hb ⟨k, a1, a2⟩
    · exact h ⟨k, j, a1, a2, by omega, a4⟩
theorem ly_in_s {t i : Nat} (hln : ∀ k, k < K → 1 ≤ ln k) (h : ly_in N op en sm ln sp K t (i + 1)) : ly_in N op en sm ln sp K (t + 1) i ∧ sq_U N op en sm ln sp K t ∧ ¬ ly_bg N op en sm ln sp K t := by
  obtain ⟨_, k, j, a1, a2, a3, a4⟩ := h.resolve_left (fun z => by omega)
  refine ⟨?_, sq_U_i.mpr ⟨k, j, a1, a2, by omega, by omega⟩, fun ⟨k', b1, b2⟩ => ?_⟩
  · by_cases e : i = 0
    · refine Or.inl ⟨e, fun ⟨k', j', b1, b2, b3, b4⟩ => ?_⟩
      have := ly_uq (t := t) (hln k a1) a2 b2 (by omega) (by omega) (by omega) (by omega)
      rw [← this.1, ← this.2] at b4
      omega
    · exact Or.inr ⟨by omega, k, j, a1, a2, by omega, by omega⟩
  · have := ly_uq (t := t) (hln k a1) a2 b2 (by omega) (by omega) (Nat.le_refl _) (by have := hln k' b1; omega)
    omega
end LYI
theorem ly_in_f {D : Nat → Nat → Int32} {F f K : Nat} {sz : Nat → Nat} {B : Nat → Prop} {sm : Nat → Nat → Prop} {ln sp : Nat → Nat} (hop : ∀ f, f < F → ¬ am_Op D sz f) (hln : ∀ k, k < K → 1 ≤ ln k) : ly_in (am_st sz F) (am_op D F sz B) (am_en D F sz B) sm ln sp K (am_st sz f) 0 := by
  refine Or.inl ⟨rfl, fun ⟨k, j, a1, a2, a3, a4⟩ => ?_⟩
  have hl := hln k a1
  obtain ⟨g, r, hg, hr, ej⟩ := am_spx F j (sq_ok_lt hl a2)
  have hin := sq_ft_in hop hg hr hl (by rw [← ej]; exact a2.1.1)
  have hgf : g < f := by
    apply Nat.lt_of_not_le
    intro z
    have : am_st sz f ≤ am_st sz g := am_st_le z
    omega
  have : am_st sz (g + 1) ≤ am_st sz f := am_st_le hgf
  have e : am_st sz (g + 1) = am_st sz g + sz g := rfl
  omega
