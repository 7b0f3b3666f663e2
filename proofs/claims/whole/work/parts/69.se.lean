/-! the search for routines: what is meant -/
def sq_ft (N : Nat) (op en U : Nat → Prop) (s n : Nat) : Prop := s + n ≤ N ∧ ∀ k, k < n → op (s + k) ∧ ¬ U (s + k) ∧ (k = 0 ∨ ¬ en (s + k))
def sq_rw (sm : Nat → Nat → Prop) (s t n : Nat) : Prop := ∀ k, k < n → sm (s + k) (t + k)
theorem sq_ft_le {N : Nat} {op en U : Nat → Prop} {s n m : Nat} (h : sq_ft N op en U s n) (hm : m ≤ n) : sq_ft N op en U s m := ⟨by have := h.1; omega, fun k hk => h.2 k (by omega)⟩
theorem sq_ft_U {N : Nat} {op en U U' : Nat → Prop} {s n : Nat} (hU : ∀ t, U t → U' t) (h : sq_ft N op en U' s n) : sq_ft N op en U s n := ⟨h.1, fun k hk => ⟨(h.2 k hk).1, fun z => (h.2 k hk).2.1 (hU _ z), (h.2 k hk).2.2⟩⟩
theorem sq_rw_le {sm : Nat → Nat → Prop} {s t n m : Nat} (h : sq_rw sm s t n) (hm : m ≤ n) : sq_rw sm s t m := fun k hk => h k (by omega)
theorem sq_rw_s {sm : Nat → Nat → Prop} {s t n : Nat} : sq_rw sm s t (n + 1) ↔ (sq_rw sm s t n ∧ sm (s + n) (t + n)) := by
  constructor
  · intro h; exact ⟨sq_rw_le h (by omega), h n (by omega)⟩
  · rintro ⟨h1, h2⟩ k hk
    by_cases e : k = n
    · rw [e]; exact h2
    · exact h1 k (by omega)
theorem sq_rw_eqv {sm : Nat → Nat → Prop} (h : am_eqv sm) (n : Nat) : am_eqv (fun s t => sq_rw sm s t n) := ⟨fun _ _ _ => h.1 _, fun _ _ z k hk => h.2.1 _ _ (z k hk), fun _ _ _ z y k hk => h.2.2 _ _ _ (z k hk) (y k hk)⟩
def sq_P (N : Nat) (op en U : Nat → Prop) (sm : Nat → Nat → Prop) (s n : Nat) : Nat → Prop := fun j => sq_ft N op en U j n ∧ sq_rw sm s j n
noncomputable def sq_gr (P : Nat → Prop) (n : Nat) : Nat → Nat × Nat
  | 0 => (0, 0)
  | j + 1 => @ite _ (P j ∧ (sq_gr P n j).2 ≤ j) (Classical.propDecidable _) ((sq_gr P n j).1 + 1, j + n) (sq_gr P n j)
theorem sq_gr_t {P : Nat → Prop} {n j : Nat} (h : P j) (h2 : (sq_gr P n j).2 ≤ j) : sq_gr P n (j + 1) = ((sq_gr P n j).1 + 1, j + n) := by
  show @ite _ _ (Classical.propDecidable _) _ _ = _
  rw [if_pos ⟨h, h2⟩]
theorem sq_gr_f {P : Nat → Prop} {n j : Nat} (h : ¬ (P j ∧ (sq_gr P n j).2 ≤ j)) : sq_gr P n (j + 1) = sq_gr P n j := by
  show @ite _ _ (Classical.propDecidable _) _ _ = _
  rw [if_neg h]
theorem sq_gr_cg {P P' : Nat → Prop} {n : Nat} (h : ∀ j, P j ↔ P' j) : ∀ j, sq_gr P n j = sq_gr P' n j
  | 0 => rfl
  | j + 1 => by
    have ih := sq_gr_cg (n := n) h j
    by_cases c : P j ∧ (sq_gr P n j).2 ≤ j
    · rw [sq_gr_t c.1 c.2, sq_gr_t ((h j).mp c.1) (by rw [← ih]; exact c.2), ih]
    · rw [sq_gr_f c, sq_gr_f (fun z => c ⟨(h j).mpr z.1, by rw [ih]; exact z.2⟩), ih]
/-- no new occurrence within one -/
theorem sq_gr_in {P : Nat → Prop} {n a c : Nat} : ∀ d, sq_gr P n a = (c, a + d) → ∀ i, i ≤ d → sq_gr P n (a + i) = (c, a + d)
  | d, h, 0, _ => h
  | d, h, i + 1, hi => by
    have ih := sq_gr_in d h i (by omega)
    show sq_gr P n (a + i + 1) = _
    rw [sq_gr_f, ih]
    rw [ih]
    intro z
    have := z.2
    dsimp only at this
    omega
theorem sq_gr_mo {P : Nat → Prop} {n j : Nat} : (sq_gr P n j).1 ≤ (sq_gr P n (j + 1)).1 := by
  by_cases c : P j ∧ (sq_gr P n j).2 ≤ j
  · rw [sq_gr_t c.1 c.2]; exact Nat.le_succ _
  · rw [sq_gr_f c]; exact Nat.le_refl _
theorem sq_gr_mo2 {P : Nat → Prop} {n j : Nat} : ∀ i, (sq_gr P n j).1 ≤ (sq_gr P n (j + i)).1
  | 0 => Nat.le_refl _
  | i + 1 => Nat.le_trans (sq_gr_mo2 i) sq_gr_mo
theorem sq_gr_le {P : Nat → Prop} {n N : Nat} (hn : 1 ≤ n) (h : ∀ j, P j → j + n ≤ N) : ∀ j, (sq_gr P n j).1 * n ≤ (sq_gr P n j).2 ∧ (sq_gr P n j).2 ≤ N ∧ (sq_gr P n j).2 ≤ j + n - 1 ∧ ((sq_gr P n j).1 = 0 → (sq_gr P n j).2 = 0)
  | 0 => by
    show 0 * n ≤ 0 ∧ 0 ≤ N ∧ 0 ≤ 0 + n - 1 ∧ _
    exact ⟨by omega, by omega, by omega, fun _ => rfl⟩
  | j + 1 => by
    obtain ⟨h1, h2, h3, h4⟩ := sq_gr_le hn h j
    by_cases c : P j ∧ (sq_gr P n j).2 ≤ j
    · rw [sq_gr_t c.1 c.2]
      dsimp only
      have := h j c.1
      refine ⟨?_, this, by omega, fun z => by omega⟩
      rw [Nat.add_mul, Nat.one_mul]
      omega
    · rw [sq_gr_f c]
      exact ⟨h1, h2, by omega, h4⟩
/-- the first occurrence -/
theorem sq_gr_0 {P : Nat → Prop} {n : Nat} : ∀ j, (∀ i, i < j → ¬ P i) → sq_gr P n j = (0, 0)
  | 0, _ => rfl
  | j + 1, h => by
    rw [sq_gr_f (fun z => h j (by omega) z.1)]
    exact sq_gr_0 j (fun i hi => h i (by omega))
theorem sq_gr_1 {P : Nat → Prop} {n : Nat} (hn : 1 ≤ n) {i j : Nat} (h : P i) (hi : i < j) : 1 ≤ (sq_gr P n j).1 ∧ ((sq_gr P n j).1 = 1 → (sq_gr P n j).2 ≤ i + n) := by
  induction j with
  | zero => omega
  | succ j ih =>
    by_cases e : i = j
    · subst e
      by_cases c : P i ∧ (sq_gr P n i).2 ≤ i
      · rw [sq_gr_t c.1 c.2]; exact ⟨by dsimp only; omega, fun _ => Nat.le_refl _⟩
      · have c2 : i < (sq_gr P n i).2 := by
          by_cases g : (sq_gr P n i).2 ≤ i
          · exact absurd ⟨h, g⟩ c
          · omega
        rw [sq_gr_f c]
        have key : ∀ m, (sq_gr P n m).2 ≤ m + n ∧ ((sq_gr P n m).1 = 0 → (sq_gr P n m).2 = 0) := by
          intro m
          induction m with
          | zero => exact ⟨Nat.zero_le _, fun _ => rfl⟩
          | succ m ih =>
            by_cases g : P m ∧ (sq_gr P n m).2 ≤ m
            · rw [sq_gr_t g.1 g.2]; exact ⟨by dsimp only; omega, fun z => by dsimp only at z; omega⟩
            · rw [sq_gr_f g]; exact ⟨by omega, ih.2⟩
        obtain ⟨k1, k2⟩ := key i
        exact ⟨Nat.pos_of_ne_zero (fun z => by have := k2 z; omega), fun _ => k1⟩
    · obtain ⟨a1, a2⟩ := ih (by omega)
      by_cases c : P j ∧ (sq_gr P n j).2 ≤ j
      · rw [sq_gr_t c.1 c.2]; exact ⟨by dsimp only; omega, fun z => by dsimp only at z; omega⟩
      · rw [sq_gr_f c]; exact ⟨a1, a2⟩
theorem sq_gr_2 {P : Nat → Prop} {n : Nat} (hn : 1 ≤ n) {i j m : Nat} (h1 : P i) (h2 : P j) (hij : i + n ≤ j) (hm : j < m) : 2 ≤ (sq_gr P n m).1 := by
  obtain ⟨a1, a2⟩ := sq_gr_1 hn h1 (show i < j by omega)
  have key : 2 ≤ (sq_gr P n (j + 1)).1 := by
    by_cases g : (sq_gr P n j).1 = 1
    · have := a2 g
      rw [sq_gr_t h2 (by omega)]; dsimp only; omega
    · exact Nat.le_trans (by omega) sq_gr_mo
  obtain ⟨d, rfl⟩ := Nat.exists_eq_add_of_le (show j + 1 ≤ m by omega)
  exact Nat.le_trans key (sq_gr_mo2 d)
theorem sq_gr_2' {P : Nat → Prop} {n : Nat} (hn : 1 ≤ n) : ∀ m, ((sq_gr P n m).1 ≥ 1 → ∃ i, P i ∧ i < m ∧ i + n ≤ (sq_gr P n m).2) ∧ ((sq_gr P n m).1 ≥ 2 → ∃ i j, P i ∧ P j ∧ i + n ≤ j ∧ j < m)
  | 0 => ⟨fun z => absurd z (by show ¬ 0 ≥ 1; omega), fun z => absurd z (by show ¬ 0 ≥ 2; omega)⟩
  | m + 1 => by
    obtain ⟨h1, h2⟩ := sq_gr_2' (P := P) hn m
    by_cases c : P m ∧ (sq_gr P n m).2 ≤ m
    · rw [sq_gr_t c.1 c.2]
      dsimp only
      refine ⟨fun _ => ⟨m, c.1, by omega, Nat.le_refl _⟩, fun z => ?_⟩
      obtain ⟨i, g1, g2, g3⟩ := h1 (by omega)
      have := c.2
      exact ⟨i, m, g1, c.1, by omega, by omega⟩
    · rw [sq_gr_f c]
      refine ⟨fun z => ?_, fun z => ?_⟩
      · obtain ⟨i, g1, g2, g3⟩ := h1 z
        exact ⟨i, g1, by omega, g3⟩
      · obtain ⟨i, j, g1, g2, g3, g4⟩ := h2 z
        exact ⟨i, j, g1, g2, g3, by omega⟩
noncomputable def sq_cn (N : Nat) (op en U : Nat → Prop) (sm : Nat → Nat → Prop) (s n : Nat) : Nat := (sq_gr (sq_P N op en U sm s n) n N).1
theorem sq_cn_mo {N : Nat} {op en U : Nat → Prop} {sm : Nat → Nat → Prop} {s n m : Nat} (hm : 1 ≤ m) (hn : m ≤ n) (h : 2 ≤ sq_cn N op en U sm s n) : 2 ≤ sq_cn N op en U sm s m := by
  obtain ⟨i, j, g1, g2, g3, g4⟩ := (sq_gr_2' (P := sq_P N op en U sm s n) (show 1 ≤ n by omega) N).2 h
  exact sq_gr_2 hm ⟨sq_ft_le g1.1 hn, sq_rw_le g1.2 hn⟩ ⟨sq_ft_le g2.1 hn, sq_rw_le g2.2 hn⟩ (show i + m ≤ j by omega) g4
theorem sq_cn_rw {N : Nat} {op en U : Nat → Prop} {sm : Nat → Nat → Prop} (he : am_eqv sm) {s t n : Nat} (h : sq_rw sm s t n) : ∀ j, sq_P N op en U sm s n j ↔ sq_P N op en U sm t n j := fun j =>
  ⟨fun z => ⟨z.1, (sq_rw_eqv he n).2.2 _ _ _ ((sq_rw_eqv he n).2.1 _ _ h) z.2⟩, fun z => ⟨z.1, (sq_rw_eqv he n).2.2 _ _ _ h z.2⟩⟩
theorem sq_cn_le {N : Nat} {op en U : Nat → Prop} {sm : Nat → Nat → Prop} {s n : Nat} (hn : 1 ≤ n) (j : Nat) : (sq_gr (sq_P N op en U sm s n) n j).1 * n ≤ N := by
  obtain ⟨h1, h2, _, _⟩ := sq_gr_le (P := sq_P N op en U sm s n) (N := N) hn (fun j z => z.1.1) j
  omega
def sq_sv (k n : Nat) : Int := 4 * (((k : Int) - 1) * n - 1 - k)
theorem sq_sv_1 {k n : Nat} (h : k ≤ 1) : sq_sv k n < 0 := by
  unfold sq_sv
  rcases Nat.lt_or_ge k 1 with h0 | h0
  · have : k = 0 := by omega
    subst this
    simp
    omega
  · have : k = 1 := by omega
    subst this
    simp
/-- the routine that is chosen -/
def sq_B (N : Nat) (op en U : Nat → Prop) (sm : Nat → Nat → Prop) (L s : Nat) : Prop := (2 ≤ L) ∧ (L ≤ 20) ∧ (sq_ft N op en U s L) ∧ (0 < sq_sv (sq_cn N op en U sm s L) L) ∧ (∀ n t, 2 ≤ n → n ≤ 20 → sq_ft N op en U t n → sq_sv (sq_cn N op en U sm t n) n < sq_sv (sq_cn N op en U sm s L) L ∨ (sq_sv (sq_cn N op en U sm t n) n = sq_sv (sq_cn N op en U sm s L) L ∧ (n < L ∨ (n = L ∧ s ≤ t))))
theorem sq_B.l2 {N : Nat} {op en U : Nat → Prop} {sm : Nat → Nat → Prop} {L s : Nat} (h : sq_B N op en U sm L s) : 2 ≤ L := h.1
theorem sq_B.l20 {N : Nat} {op en U : Nat → Prop} {sm : Nat → Nat → Prop} {L s : Nat} (h : sq_B N op en U sm L s) : L ≤ 20 := h.2.1
theorem sq_B.ft {N : Nat} {op en U : Nat → Prop} {sm : Nat → Nat → Prop} {L s : Nat} (h : sq_B N op en U sm L s) : sq_ft N op en U s L := h.2.2.1
theorem sq_B.sv {N : Nat} {op en U : Nat → Prop} {sm : Nat → Nat → Prop} {L s : Nat} (h : sq_B N op en U sm L s) : 0 < sq_sv (sq_cn N op en U sm s L) L := h.2.2.2.1
theorem sq_B.mx {N : Nat} {op en U : Nat → Prop} {sm : Nat → Nat → Prop} {L s : Nat} (h : sq_B N op en U sm L s) : ∀ n t, 2 ≤ n → n ≤ 20 → sq_ft N op en U t n → sq_sv (sq_cn N op en U sm t n) n < sq_sv (sq_cn N op en U sm s L) L ∨ (sq_sv (sq_cn N op en U sm t n) n = sq_sv (sq_cn N op en U sm s L) L ∧ (n < L ∨ (n = L ∧ s ≤ t))) := h.2.2.2.2
theorem sq_B_u {N : Nat} {op en U : Nat → Prop} {sm : Nat → Nat → Prop} {L s L' s' : Nat} (h : sq_B N op en U sm L s) (h' : sq_B N op en U sm L' s') : L = L' ∧ s = s' := by
  have a := h.mx L' s' h'.l2 h'.l20 h'.ft
  have b := h'.mx L s h.l2 h.l20 h.ft
  omega
def sq_oc (N : Nat) (op en U : Nat → Prop) (sm : Nat → Nat → Prop) (s L j : Nat) : Prop := sq_P N op en U sm s L j ∧ (sq_gr (sq_P N op en U sm s L) L j).2 ≤ j
def sq_U (N : Nat) (op en : Nat → Prop) (sm : Nat → Nat → Prop) (ln sp : Nat → Nat) : Nat → Nat → Prop
  | 0 => fun _ => False
  | k + 1 => fun t => sq_U N op en sm ln sp k t ∨ ∃ j, sq_oc N op en (sq_U N op en sm ln sp k) sm (sp k) (ln k) j ∧ j ≤ t ∧ t < j + ln k
def sq_Q (N : Nat) (op en : Nat → Prop) (sm : Nat → Nat → Prop) (ln sp : Nat → Nat) (K : Nat) : Prop := ∀ k, k < K → sq_B N op en (sq_U N op en sm ln sp k) sm (ln k) (sp k)
def sq_no (N : Nat) (op en U : Nat → Prop) (sm : Nat → Nat → Prop) : Prop := ∀ n t, 2 ≤ n → n ≤ 20 → sq_ft N op en U t n → ¬ 0 < sq_sv (sq_cn N op en U sm t n) n
theorem sq_U_cg {N : Nat} {op en : Nat → Prop} {sm : Nat → Nat → Prop} {ln sp ln' sp' : Nat → Nat} : ∀ k, (∀ i, i < k → ln i = ln' i ∧ sp i = sp' i) → sq_U N op en sm ln sp k = sq_U N op en sm ln' sp' k
  | 0, _ => rfl
  | k + 1, h => by
    have ih := sq_U_cg (N := N) (op := op) (en := en) (sm := sm) k (fun i hi => h i (by omega))
    unfold sq_U
    rw [ih, (h k (by omega)).1, (h k (by omega)).2]
theorem sq_Q_u {N : Nat} {op en : Nat → Prop} {sm : Nat → Nat → Prop} {ln sp ln' sp' : Nat → Nat} {K K' : Nat} (h : sq_Q N op en sm ln sp K) (h' : sq_Q N op en sm ln' sp' K') : ∀ k, k ≤ K → k ≤ K' → ∀ i, i < k → ln i = ln' i ∧ sp i = sp' i
  | 0, _, _, i, hi => by omega
  | k + 1, h1, h2, i, hi => by
    have ih := sq_Q_u h h' k (by omega) (by omega)
    by_cases e : i = k
    · subst e
      have e2 := sq_U_cg (N := N) (op := op) (en := en) (sm := sm) i ih
      have b := h' i (by omega)
      rw [← e2] at b
      exact sq_B_u (h i (by omega)) b
    · exact ih i (by omega)
def sq_F (N : Nat) (op en : Nat → Prop) (sm : Nat → Nat → Prop) (ln sp : Nat → Nat) (K : Nat) : Prop := K ≤ 60 ∧ sq_Q N op en sm ln sp K ∧ (K = 60 ∨ sq_no N op en (sq_U N op en sm ln sp K) sm)
theorem sq_F_u {N : Nat} {op en : Nat → Prop} {sm : Nat → Nat → Prop} {ln sp ln' sp' : Nat → Nat} {K K' : Nat} (h : sq_F N op en sm ln sp K) (h' : sq_F N op en sm ln' sp' K') : K = K' ∧ ∀ i, i < K → ln i = ln' i ∧ sp i = sp' i := by
  have aux : ∀ {ln sp ln' sp' : Nat → Nat} {K K' : Nat}, sq_F N op en sm ln sp K → sq_F N op en sm ln' sp' K' → ¬ K < K' := by
    intro ln sp ln' sp' K K' h h' hlt
    have e := sq_Q_u h.2.1 h'.2.1 K (Nat.le_refl _) (by omega)
    have e2 := sq_U_cg (N := N) (op := op) (en := en) (sm := sm) K e
    have b := h'.2.1 K hlt
    rw [← e2] at b
    rcases h.2.2 with z | z
    · have := h'.1; omega
    · exact z _ _ b.l2 b.l20 b.ft b.sv
  have a1 := aux h h'
  have a2 := aux h' h
  have e : K = K' := by omega
  subst e
  exact ⟨rfl, sq_Q_u h.2.1 h'.2.1 K (Nat.le_refl _) (Nat.le_refl _)⟩
