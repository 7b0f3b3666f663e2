theorem sq_gr_last {P : Nat → Prop} {n : Nat} (hn : 1 ≤ n) : ∀ m, (1 ≤ (sq_gr P n m).1 → ∃ i, i < m ∧ (P i ∧ (sq_gr P n i).2 ≤ i) ∧ (sq_gr P n m).2 = i + n) ∧ (∀ i, i < m → P i → (sq_gr P n i).2 ≤ i → i + n ≤ (sq_gr P n m).2 ∧ (sq_gr P n i).1 < (sq_gr P n m).1)
  | 0 => ⟨fun z => absurd z (show ¬ 1 ≤ 0 by decide), fun i hi => by omega⟩
  | m + 1 => by
    obtain ⟨h1, h2⟩ := sq_gr_last (P := P) hn m
    by_cases c : P m ∧ (sq_gr P n m).2 ≤ m
    · rw [sq_gr_t c.1 c.2]
      refine ⟨fun _ => ⟨m, by omega, c, rfl⟩, fun i hi p1 p2 => ?_⟩
      dsimp only
      by_cases e : i = m
      · subst e; omega
      · have := h2 i (by omega) p1 p2
        have := c.2
        omega
    · rw [sq_gr_f c]
      refine ⟨fun z => ?_, fun i hi p1 p2 => ?_⟩
      · obtain ⟨i, g1, g2, g3⟩ := h1 z
        exact ⟨i, by omega, g2, g3⟩
      · by_cases e : i = m
        · subst e; exact absurd ⟨p1, p2⟩ c
        · exact h2 i (by omega) p1 p2
theorem sq_cov {P : Nat → Prop} {n j : Nat} (hn : 1 ≤ n) (h : 1 ≤ (sq_gr P n (j + 1)).1) : j < (sq_gr P n (j + 1)).2 ↔ ∃ i, (P i ∧ (sq_gr P n i).2 ≤ i) ∧ i ≤ j ∧ j < i + n := by
  obtain ⟨h1, h2⟩ := sq_gr_last (P := P) hn (j + 1)
  constructor
  · intro z
    obtain ⟨i, g1, g2, g3⟩ := h1 h
    exact ⟨i, g2, by omega, by omega⟩
  · rintro ⟨i, g1, g2, g3⟩
    have := (h2 i (by omega) g1.1 g1.2).1
    omega
/-- the occurrence of a number -/
theorem sq_nth {P : Nat → Prop} {n : Nat} : ∀ m i, i < (sq_gr P n m).1 → ∃ j, j < m ∧ (P j ∧ (sq_gr P n j).2 ≤ j) ∧ (sq_gr P n j).1 = i
  | 0, i, h => absurd h (Nat.not_lt_zero _)
  | m + 1, i, h => by
    by_cases c : P m ∧ (sq_gr P n m).2 ≤ m
    · rw [sq_gr_t c.1 c.2] at h
      dsimp only at h
      by_cases e : i = (sq_gr P n m).1
      · exact ⟨m, by omega, c, e.symm⟩
      · obtain ⟨j, g1, g2⟩ := sq_nth (P := P) (n := n) m i (by omega)
        exact ⟨j, by omega, g2⟩
    · rw [sq_gr_f c] at h
      obtain ⟨j, g1, g2⟩ := sq_nth m i h
      exact ⟨j, by omega, g2⟩
theorem am_ct_I {Q : Nat → Prop} {a n : Nat} (hd : ∀ t, a ≤ t → t < a + n → ¬ Q t) : ∀ M, am_ct (fun t => Q t ∨ (a ≤ t ∧ t < a + n)) M = am_ct Q M + ((M - a) - (M - (a + n)))
  | 0 => by
    show 0 = 0 + _
    omega
  | M + 1 => by
    have ih := am_ct_I hd M
    by_cases g : a ≤ M ∧ M < a + n
    · rw [am_ct_t (Or.inr g), am_ct_f (hd M g.1 g.2), ih]
      omega
    · by_cases q : Q M
      · rw [am_ct_t (Or.inl q), am_ct_t q, ih]
        omega
      · rw [am_ct_f (fun z => z.elim q g), am_ct_f q, ih]
        omega
section SQK
variable (N : Nat) (op en : Nat → Prop) (sm : Nat → Nat → Prop) (ln sp : Nat → Nat)
def sq_Pk (k : Nat) : Nat → Prop := sq_P N op en (sq_U N op en sm ln sp k) sm (sp k) (ln k)
noncomputable def sq_gk (k j : Nat) : Nat × Nat := sq_gr (sq_Pk N op en sm ln sp k) (ln k) j
def sq_ok (k j : Nat) : Prop := sq_Pk N op en sm ln sp k j ∧ (sq_gk N op en sm ln sp k j).2 ≤ j
noncomputable def sq_fo : Nat → Nat
  | 0 => 0
  | k + 1 => sq_fo k + (sq_gk N op en sm ln sp k N).1
end SQK
theorem sq_ct_k {N : Nat} {op en : Nat → Prop} {sm : Nat → Nat → Prop} {ln sp : Nat → Nat} {k : Nat} (h1 : 1 ≤ ln k) : ∀ M, am_ct (fun t => sq_U N op en sm ln sp k t ∨ ∃ j, j < M ∧ sq_ok N op en sm ln sp k j ∧ j ≤ t ∧ t < j + ln k) N = am_ct (sq_U N op en sm ln sp k) N + (sq_gk N op en sm ln sp k M).1 * ln k
  | 0 => by
    show _ = _ + 0 * ln k
    rw [Nat.zero_mul, Nat.add_zero]
    exact am_ct_cg N (fun t _ => ⟨fun z => z.elim id (fun ⟨j, hj, _⟩ => by omega), Or.inl⟩)
  | M + 1 => by
    have ih := sq_ct_k (N := N) (op := op) (en := en) (sm := sm) (sp := sp) h1 M
    by_cases c : sq_Pk N op en sm ln sp k M ∧ (sq_gr (sq_Pk N op en sm ln sp k) (ln k) M).2 ≤ M
    · have e1 : (sq_gk N op en sm ln sp k (M + 1)).1 = (sq_gk N op en sm ln sp k M).1 + 1 := by
        unfold sq_gk
        rw [sq_gr_t c.1 c.2]
      have key := am_ct_I (Q := fun t => sq_U N op en sm ln sp k t ∨ ∃ j, j < M ∧ sq_ok N op en sm ln sp k j ∧ j ≤ t ∧ t < j + ln k) (a := M) (n := ln k) (fun t h2 h3 z => ?_) N
      · rw [ih] at key
        have hN : M + ln k ≤ N := c.1.1.1
        have e2 : am_ct (fun t => sq_U N op en sm ln sp k t ∨ ∃ j, j < M + 1 ∧ sq_ok N op en sm ln sp k j ∧ j ≤ t ∧ t < j + ln k) N = am_ct (fun t => (sq_U N op en sm ln sp k t ∨ ∃ j, j < M ∧ sq_ok N op en sm ln sp k j ∧ j ≤ t ∧ t < j + ln k) ∨ (M ≤ t ∧ t < M + ln k)) N := by
          refine am_ct_cg N (fun t _ => ⟨fun z => ?_, fun z => ?_⟩)
          · rcases z with z | ⟨j, g1, g2⟩
            · exact Or.inl (Or.inl z)
            · by_cases ej : j = M
              · subst ej; exact Or.inr g2.2
              · exact Or.inl (Or.inr ⟨j, by omega, g2⟩)
          · rcases z with (z | ⟨j, g1, g2⟩) | z
            · exact Or.inl z
            · exact Or.inr ⟨j, by omega, g2⟩
            · exact Or.inr ⟨M, by omega, c, z⟩
        rw [e2, key, e1, Nat.add_mul, Nat.one_mul]
        omega
      · rcases z with z | ⟨j, g1, g2, g3, g4⟩
        · have := (c.1.1.2 (t - M) (by omega)).2.1
          rw [show M + (t - M) = t by omega] at this
          exact this z
        · have := ((sq_gr_last (P := sq_Pk N op en sm ln sp k) h1 M).2 j g1 g2.1 g2.2).1
          have := c.2
          omega
    · have e1 : sq_gk N op en sm ln sp k (M + 1) = sq_gk N op en sm ln sp k M := by
        unfold sq_gk
        rw [sq_gr_f c]
      rw [e1, ← ih]
      refine am_ct_cg N (fun t _ => ⟨fun z => ?_, fun z => ?_⟩)
      · rcases z with z | ⟨j, g1, g2⟩
        · exact Or.inl z
        · by_cases ej : j = M
          · subst ej; exact absurd g2.1 c
          · exact Or.inr ⟨j, by omega, g2⟩
      · rcases z with z | ⟨j, g1, g2⟩
        · exact Or.inl z
        · exact Or.inr ⟨j, by omega, g2⟩
theorem sq_ok_lt {N : Nat} {op en : Nat → Prop} {sm : Nat → Nat → Prop} {ln sp : Nat → Nat} {k j : Nat} (h1 : 1 ≤ ln k) (h : sq_ok N op en sm ln sp k j) : j < N := by
  have : j + ln k ≤ N := h.1.1.1
  omega
theorem sq_fo_b {N : Nat} {op en : Nat → Prop} {sm : Nat → Nat → Prop} {ln sp : Nat → Nat} : ∀ {K : Nat}, (∀ k, k < K → 2 ≤ ln k) → 2 * sq_fo N op en sm ln sp K ≤ am_ct (sq_U N op en sm ln sp K) N
  | 0, _ => Nat.zero_le _
  | K + 1, h => by
    have ih := sq_fo_b (N := N) (op := op) (en := en) (sm := sm) (sp := sp) (K := K) (fun k hk => h k (by omega))
    have h2 := h K (by omega)
    have key := sq_ct_k (N := N) (op := op) (en := en) (sm := sm) (sp := sp) (k := K) (ln := ln) (by omega) N
    have e : am_ct (sq_U N op en sm ln sp (K + 1)) N = am_ct (fun t => sq_U N op en sm ln sp K t ∨ ∃ j, j < N ∧ sq_ok N op en sm ln sp K j ∧ j ≤ t ∧ t < j + ln K) N := by
      refine am_ct_cg N (fun t _ => ⟨fun z => ?_, fun z => ?_⟩)
      · rcases z with z | ⟨j, g1, g2⟩
        · exact Or.inl z
        · exact Or.inr ⟨j, sq_ok_lt (show 1 ≤ ln K by omega) g1, g1, g2⟩
      · rcases z with z | ⟨j, g1, g2⟩
        · exact Or.inl z
        · exact Or.inr ⟨j, g2⟩
    rw [e, key]
    show 2 * (sq_fo N op en sm ln sp K + _) ≤ _
    have : 2 * (sq_gk N op en sm ln sp K N).1 ≤ (sq_gk N op en sm ln sp K N).1 * ln K := by
      rw [Nat.mul_comm 2]
      exact Nat.mul_le_mul_left _ h2
    omega
theorem sq_fo_p {N : Nat} {op en : Nat → Prop} {sm : Nat → Nat → Prop} {ln sp : Nat → Nat} {K : Nat} (h : ∀ k, k ≤ K → 2 ≤ ln k) (M : Nat) : 2 * (sq_fo N op en sm ln sp K + (sq_gk N op en sm ln sp K M).1) ≤ N := by
  have h1 := sq_fo_b (N := N) (op := op) (en := en) (sm := sm) (sp := sp) (K := K) (fun k hk => h k (by omega))
  have h2 := h K (Nat.le_refl _)
  have key := sq_ct_k (N := N) (op := op) (en := en) (sm := sm) (sp := sp) (k := K) (ln := ln) (by omega) M
  have le := am_ct_le (P := fun t => sq_U N op en sm ln sp K t ∨ ∃ j, j < M ∧ sq_ok N op en sm ln sp K j ∧ j ≤ t ∧ t < j + ln K) N
  have : 2 * (sq_gk N op en sm ln sp K M).1 ≤ (sq_gk N op en sm ln sp K M).1 * ln K := by
    rw [Nat.mul_comm 2]
    exact Nat.mul_le_mul_left _ h2
  omega
theorem sq_U_mo {N : Nat} {op en : Nat → Prop} {sm : Nat → Nat → Prop} {ln sp : Nat → Nat} {k : Nat} : ∀ {d t : Nat}, sq_U N op en sm ln sp k t → sq_U N op en sm ln sp (k + d) t
  | 0, _, h => h
  | _ + 1, _, h => Or.inl (sq_U_mo h)
/-- no spot begins two occurrences -/
theorem sq_ok_ne {N : Nat} {op en : Nat → Prop} {sm : Nat → Nat → Prop} {ln sp : Nat → Nat} {k K j i t : Nat} (hk : k < K) (h : sq_ok N op en sm ln sp k j) (h' : sq_ok N op en sm ln sp K i) (h1 : j ≤ t) (h2 : t < j + ln k) (h3 : i ≤ t) (h4 : t < i + ln K) : False := by
  have u : sq_U N op en sm ln sp (k + 1) t := Or.inr ⟨j, h, h1, h2⟩
  obtain ⟨d, rfl⟩ := Nat.exists_eq_add_of_le (show k + 1 ≤ K by omega)
  have := (h'.1.1.2 (t - i) (by omega)).2.1
  rw [show i + (t - i) = t by omega] at this
  exact this (sq_U_mo u)
