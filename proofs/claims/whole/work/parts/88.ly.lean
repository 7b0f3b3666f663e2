/-! where the words lie -/
noncomputable def ly_i (P : Prop) (a b : Nat) : Nat := @ite Nat P (Classical.propDecidable _) a b
theorem ly_t {P : Prop} {a b : Nat} (h : P) : ly_i P a b = a := by
  unfold ly_i
  exact if_pos h
theorem ly_f {P : Prop} {a b : Nat} (h : ¬ P) : ly_i P a b = b := by
  unfold ly_i
  exact if_neg h
/-- how many words a spot has -/
noncomputable def ly_w (bd U bg o2 : Nat → Prop) (t : Nat) : Nat := ly_i (bd t) (ly_i (U t) (ly_i (bg t) 1 0) (ly_i (o2 t) 2 1)) 0
section LYK
variable (N : Nat) (op en : Nat → Prop) (sm : Nat → Nat → Prop) (ln sp : Nat → Nat) (K : Nat)
def ly_bg (t : Nat) : Prop := ∃ k, k < K ∧ sq_ok N op en sm ln sp k t
end LYK
theorem am_ct_add {P P' : Nat → Prop} : ∀ n, am_ct (fun t => P t ∨ P' t) n ≤ am_ct P n + am_ct P' n
  | 0 => Nat.le_refl _
  | n + 1 => by
    have ih := am_ct_add (P := P) (P' := P') n
    by_cases h : P n
    · rw [am_ct_t (Or.inl h), am_ct_t h]
      have : am_ct P' n ≤ am_ct P' (n + 1) := by
        by_cases g : P' n
        · rw [am_ct_t g]; omega
        · rw [am_ct_f g]; exact Nat.le_refl _
      omega
    · rw [am_ct_f h]
      by_cases g : P' n
      · rw [am_ct_t (Or.inr g), am_ct_t g]; omega
      · rw [am_ct_f (fun z => z.elim h g), am_ct_f g]; exact ih
theorem sq_ct_ok {N : Nat} {op en : Nat → Prop} {sm : Nat → Nat → Prop} {ln sp : Nat → Nat} {k : Nat} : ∀ M, am_ct (sq_ok N op en sm ln sp k) M = (sq_gk N op en sm ln sp k M).1
  | 0 => rfl
  | M + 1 => by
    have ih := sq_ct_ok (N := N) (op := op) (en := en) (sm := sm) (ln := ln) (sp := sp) (k := k) M
    by_cases c : sq_ok N op en sm ln sp k M
    · rw [am_ct_t c, ih]
      unfold sq_gk
      rw [sq_gr_t c.1 c.2]
    · rw [am_ct_f c, ih]
      unfold sq_gk
      rw [sq_gr_f c]
theorem ly_ct_bg {N : Nat} {op en : Nat → Prop} {sm : Nat → Nat → Prop} {ln sp : Nat → Nat} : ∀ K, am_ct (ly_bg N op en sm ln sp K) N ≤ sq_fo N op en sm ln sp K
  | 0 => by
    rw [am_ct_cg N (P' := fun _ => False) (fun t _ => ⟨fun ⟨k, hk, _⟩ => (by omega), fun z => z.elim⟩)]
    have : ∀ n, am_ct (fun _ => False) n = 0 := by
      intro n
      induction n with
      | zero => rfl
      | succ n ih => rw [am_ct_f (fun z => z)]; exact ih
    rw [this]
    exact Nat.zero_le _
  | K + 1 => by
    have ih := ly_ct_bg (N := N) (op := op) (en := en) (sm := sm) (ln := ln) (sp := sp) K
    rw [am_ct_cg N (P' := fun t => ly_bg N op en sm ln sp K t ∨ sq_ok N op en sm ln sp K t) (fun t _ => ⟨fun ⟨k, hk, h⟩ => (by
      by_cases e : k = K
      · rw [e] at h; exact Or.inr h
      · exact Or.inl ⟨k, by omega, h⟩), fun z => z.elim (fun ⟨k, hk, h⟩ => ⟨k, by omega, h⟩) (fun h => ⟨K, by omega, h⟩)⟩)]
    have := am_ct_add (P := ly_bg N op en sm ln sp K) (P' := sq_ok N op en sm ln sp K) N
    rw [sq_ct_ok] at this
    show _ ≤ sq_fo N op en sm ln sp K + _
    omega
theorem ly_bg_U {N : Nat} {op en : Nat → Prop} {sm : Nat → Nat → Prop} {ln sp : Nat → Nat} {K t : Nat} (h1 : ∀ k, k < K → 1 ≤ ln k) (h : ly_bg N op en sm ln sp K t) : sq_U N op en sm ln sp K t := by
  obtain ⟨k, hk, h⟩ := h
  obtain ⟨d, rfl⟩ := Nat.exists_eq_add_of_le (show k + 1 ≤ K by omega)
  exact sq_U_mo (Or.inr ⟨t, h, Nat.le_refl _, by have := h1 k hk; omega⟩)
theorem ly_sum {bd U bg o2 : Nat → Prop} (hs : ∀ t, bg t → U t) : ∀ M, am_st (ly_w bd U bg o2) M + 2 * am_ct U M ≤ 2 * M + am_ct bg M
  | 0 => Nat.le_refl _
  | M + 1 => by
    have ih := ly_sum (bd := bd) (o2 := o2) hs M
    show am_st (ly_w bd U bg o2) M + ly_w bd U bg o2 M + _ ≤ _
    have w2 : ly_w bd U bg o2 M ≤ 2 := by
      unfold ly_w
      by_cases a : bd M
      · rw [ly_t a]
        by_cases b : U M
        · rw [ly_t b]
          by_cases c : bg M
          · rw [ly_t c]; omega
          · rw [ly_f c]; omega
        · rw [ly_f b]
          by_cases c : o2 M
          · rw [ly_t c]; exact Nat.le_refl _
          · rw [ly_f c]; omega
      · rw [ly_f a]; omega
    by_cases u : U M
    · rw [am_ct_t u]
      by_cases c : bg M
      · rw [am_ct_t c]
        have : ly_w bd U bg o2 M ≤ 1 := by
          unfold ly_w
          by_cases a : bd M
          · rw [ly_t a, ly_t u, ly_t c]; exact Nat.le_refl _
          · rw [ly_f a]; omega
        omega
      · rw [am_ct_f c]
        have : ly_w bd U bg o2 M = 0 := by
          unfold ly_w
          by_cases a : bd M
          · rw [ly_t a, ly_t u, ly_f c]
          · rw [ly_f a]
        omega
    · rw [am_ct_f u, am_ct_f (fun z => u (hs M z))]
      omega
theorem ly_ctU {N : Nat} {op en : Nat → Prop} {sm : Nat → Nat → Prop} {ln sp : Nat → Nat} {k : Nat} (h1 : 1 ≤ ln k) : am_ct (sq_U N op en sm ln sp (k + 1)) N = am_ct (sq_U N op en sm ln sp k) N + (sq_gk N op en sm ln sp k N).1 * ln k := by
  rw [← sq_ct_k h1 N]
  refine am_ct_cg N (fun t _ => ⟨fun z => ?_, fun z => ?_⟩)
  · rcases z with z | ⟨j, g1, g2⟩
    · exact Or.inl z
    · exact Or.inr ⟨j, sq_ok_lt h1 g1, g1, g2⟩
  · rcases z with z | ⟨j, g1, g2⟩
    · exact Or.inl z
    · exact Or.inr ⟨j, g2⟩
theorem ly_sv {t l : Nat} (h : 0 < sq_sv t l) : t + l + 1 ≤ t * l := by
  unfold sq_sv at h
  have e : ((t : Int) - 1) * l = ((t * l : Nat) : Int) - l := by
    rw [Int.sub_mul, Int.one_mul]; simp
  rw [e] at h
  omega
theorem ly_routines {N : Nat} {op en : Nat → Prop} {sm : Nat → Nat → Prop} {ln sp : Nat → Nat} : ∀ {K : Nat}, sq_Q N op en sm ln sp K → sq_fo N op en sm ln sp K + am_st (fun i => ln i + 1) K ≤ am_ct (sq_U N op en sm ln sp K) N
  | 0, _ => Nat.zero_le _
  | K + 1, h => by
    have ih := ly_routines (K := K) (fun k hk => h k (by omega))
    have b := h K (by omega)
    have l2 := b.l2
    rw [ly_ctU (show 1 ≤ ln K by omega)]
    have s := ly_sv b.sv
    have s' : (sq_gk N op en sm ln sp K N).1 + ln K + 1 ≤ (sq_gk N op en sm ln sp K N).1 * ln K := s
    show sq_fo N op en sm ln sp K + _ + (am_st (fun i => ln i + 1) K + (ln K + 1)) ≤ _
    omega
/-- never more than two words a spot -/
theorem ly_bound {N : Nat} {op en bd o2 : Nat → Prop} {sm : Nat → Nat → Prop} {ln sp : Nat → Nat} {K : Nat} (h : sq_Q N op en sm ln sp K) : am_st (ly_w bd (sq_U N op en sm ln sp K) (ly_bg N op en sm ln sp K) o2) N + am_st (fun i => ln i + 1) K ≤ 2 * N := by
  have a := ly_sum (bd := bd) (o2 := o2) (U := sq_U N op en sm ln sp K) (bg := ly_bg N op en sm ln sp K) (fun t z => ly_bg_U (fun k hk => by have := (h k hk).l2; omega) z) N
  have b := ly_ct_bg (N := N) (op := op) (en := en) (sm := sm) (ln := ln) (sp := sp) K
  have c := ly_routines h
  omega
