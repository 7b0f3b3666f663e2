/-! folding: the parts of both sides -/
def am_fT (F : Nat) (E : Nat → Nat → Prop) (u v : Int32) : Prop := u = v ∨ ∃ f g, f < F ∧ g < F ∧ u = nI f ∧ v = nI g ∧ E f g
def am_fS (D : Nat → Nat → Int32) (x y : Nat) : Prop := D 71 x = D 71 y ∧ am_kpt (am_kA (D 71 x)) (D 72 x) = am_kpt (am_kA (D 71 y)) (D 72 y) ∧ am_kpt (am_kB (D 71 x)) (D 73 x) = am_kpt (am_kB (D 71 y)) (D 73 y) ∧ am_kpt (am_kC (D 71 x)) (D 74 x) = am_kpt (am_kC (D 71 y)) (D 74 y)
def am_fA (D : Nat → Nat → Int32) (F : Nat) (E : Nat → Nat → Prop) (x y : Nat) : Prop := ((D 71 x = 29 ∨ D 71 x = 30) ∧ D 71 x = D 71 y ∧ am_fT F E (D 72 x) (D 72 y)) ∨ (¬ (D 71 x = 29 ∨ D 71 x = 30) ∧ am_fS D x y)
def am_fL (D : Nat → Nat → Int32) (F : Nat) (sz : Nat → Nat) (E : Nat → Nat → Prop) (f g : Nat) : Prop := sz f = sz g ∧ ∀ p, p < sz f → am_fA D F E (40 * f + p) (40 * g + p)
def am_fE (D : Nat → Nat → Int32) (F : Nat) (sz : Nat → Nat) : Nat → Nat → Nat → Prop
  | 0 => fun _ _ => True
  | i + 1 => fun f g => am_fE D F sz i f g ∧ am_fL D F sz (am_fE D F sz i) f g
def am_eqv (E : Nat → Nat → Prop) : Prop := (∀ f, E f f) ∧ (∀ f g, E f g → E g f) ∧ ∀ f g h, E f g → E g h → E f h
theorem am_fT_eqv {F : Nat} (hF : F ≤ 24) {E : Nat → Nat → Prop} (h : am_eqv E) : (∀ u, am_fT F E u u) ∧ (∀ u v, am_fT F E u v → am_fT F E v u) ∧ ∀ u v w, am_fT F E u v → am_fT F E v w → am_fT F E u w := by
  refine ⟨fun u => Or.inl rfl, fun u v z => ?_, fun u v w z y => ?_⟩
  · rcases z with z | ⟨f, g, h1, h2, h3, h4, h5⟩
    · exact Or.inl z.symm
    · exact Or.inr ⟨g, f, h2, h1, h4, h3, h.2.1 _ _ h5⟩
  · rcases z with z | ⟨f, g, h1, h2, h3, h4, h5⟩
    · rw [z]; exact y
    · rcases y with y | ⟨f', g', k1, k2, k3, k4, k5⟩
      · rw [← y]; exact Or.inr ⟨f, g, h1, h2, h3, h4, h5⟩
      · have e : g = f' := (nI_eq (by omega) (by omega)).mp (h4.symm.trans k3)
        subst e
        exact Or.inr ⟨f, g', h1, k2, h3, k4, h.2.2 _ _ _ h5 k5⟩
theorem am_fS_sy {D : Nat → Nat → Int32} {x y : Nat} (h : am_fS D x y) : am_fS D y x := ⟨h.1.symm, h.2.1.symm, h.2.2.1.symm, h.2.2.2.symm⟩
theorem am_fS_tr {D : Nat → Nat → Int32} {x y z : Nat} (h : am_fS D x y) (g : am_fS D y z) : am_fS D x z := ⟨h.1.trans g.1, h.2.1.trans g.2.1, h.2.2.1.trans g.2.2.1, h.2.2.2.trans g.2.2.2⟩
theorem am_fA_eqv {D : Nat → Nat → Int32} {F : Nat} (hF : F ≤ 24) {E : Nat → Nat → Prop} (h : am_eqv E) : (∀ x, am_fA D F E x x) ∧ (∀ x y, am_fA D F E x y → am_fA D F E y x) ∧ ∀ x y z, am_fA D F E x y → am_fA D F E y z → am_fA D F E x z := by
  obtain ⟨t1, t2, t3⟩ := am_fT_eqv hF h
  refine ⟨fun x => ?_, fun x y z => ?_, fun x y w z k => ?_⟩
  · by_cases c : D 71 x = 29 ∨ D 71 x = 30
    · exact Or.inl ⟨c, rfl, t1 _⟩
    · exact Or.inr ⟨c, rfl, rfl, rfl, rfl⟩
  · rcases z with ⟨c, e, z⟩ | ⟨c, z⟩
    · exact Or.inl ⟨by rw [← e]; exact c, e.symm, t2 _ _ z⟩
    · exact Or.inr ⟨by rw [← z.1]; exact c, am_fS_sy z⟩
  · rcases z with ⟨c, e, z⟩ | ⟨c, z⟩
    · rcases k with ⟨c', e', k⟩ | ⟨c', k⟩
      · exact Or.inl ⟨c, e.trans e', t3 _ _ _ z k⟩
      · exact absurd (by rw [← e]; exact c) c'
    · rcases k with ⟨c', e', k⟩ | ⟨c', k⟩
      · exact absurd c' (by rw [← z.1]; exact c)
      · exact Or.inr ⟨c, am_fS_tr z k⟩
theorem am_fE_eqv {D : Nat → Nat → Int32} {F : Nat} {sz : Nat → Nat} (hF : F ≤ 24) : ∀ i, am_eqv (am_fE D F sz i)
  | 0 => ⟨fun _ => trivial, fun _ _ _ => trivial, fun _ _ _ _ _ => trivial⟩
  | i + 1 => by
    have ih := am_fE_eqv (D := D) (sz := sz) hF i
    obtain ⟨a1, a2, a3⟩ := am_fA_eqv (D := D) hF ih
    refine ⟨fun f => ⟨ih.1 f, rfl, fun p _ => a1 _⟩, fun f g h => ⟨ih.2.1 _ _ h.1, h.2.1.symm, fun p hp => a2 _ _ (h.2.2 p (by rw [h.2.1]; exact hp))⟩, fun f g k h1 h2 => ⟨ih.2.2 _ _ _ h1.1 h2.1, h1.2.1.trans h2.2.1, fun p hp => a3 _ _ _ (h1.2.2 p hp) (h2.2.2 p (by rw [← h1.2.1]; exact hp))⟩⟩
/-- the least of its part -/
def am_lst (E : Nat → Nat → Prop) (f l : Nat) : Prop := l ≤ f ∧ E l f ∧ ∀ h, h < l → ¬ E h f
def am_rep (E : Nat → Nat → Prop) (f : Nat) : Prop := ∀ h, h < f → ¬ E h f
theorem am_lst_u {E : Nat → Nat → Prop} {f l m : Nat} (h1 : am_lst E f l) (h2 : am_lst E f m) : l = m := by
  by_cases a : l < m
  · exact absurd h1.2.1 (h2.2.2 l a)
  by_cases b : m < l
  · exact absurd h2.2.1 (h1.2.2 m b)
  omega
theorem am_lst_rep {E : Nat → Nat → Prop} (he : am_eqv E) {f l : Nat} (h : am_lst E f l) : am_rep E l := fun k hk z => h.2.2 k hk (he.2.2 _ _ _ z h.2.1)
theorem am_lst_eq {E : Nat → Nat → Prop} (he : am_eqv E) {f g l m : Nat} (h1 : am_lst E f l) (h2 : am_lst E g m) : l = m ↔ E f g := by
  constructor
  · intro e
    subst e
    exact he.2.2 _ _ _ (he.2.1 _ _ h1.2.1) h2.2.1
  · intro e
    have a : ¬ l < m := fun z => h2.2.2 l z (he.2.2 _ _ _ h1.2.1 e)
    have b : ¬ m < l := fun z => h1.2.2 m z (he.2.2 _ _ _ h2.2.1 (he.2.1 _ _ e))
    omega
theorem am_lst_ex {E : Nat → Nat → Prop} (he : am_eqv E) (f : Nat) : ∃ l, am_lst E f l := by
  have : ∀ n k, k ≤ f → E k f → k ≤ n → ∃ l, am_lst E f l := by
    intro n
    induction n with
    | zero =>
      intro k h1 h2 h3
      have e : k = 0 := by omega
      subst e
      exact ⟨0, h1, h2, fun h hh => by omega⟩
    | succ n ih =>
      intro k h1 h2 h3
      by_cases g : ∃ h, h < k ∧ E h f
      · obtain ⟨h, g1, g2⟩ := g
        exact ih h (by omega) g2 (by omega)
      · exact ⟨k, h1, h2, fun h hh z => g ⟨h, hh, z⟩⟩
  exact this f f (Nat.le_refl _) (he.1 f) (Nat.le_refl _)
noncomputable def am_ct (P : Nat → Prop) : Nat → Nat
  | 0 => 0
  | n + 1 => am_ct P n + @ite Nat (P n) (Classical.propDecidable _) 1 0
theorem am_ct_t {P : Nat → Prop} {n : Nat} (h : P n) : am_ct P (n + 1) = am_ct P n + 1 := by
  show am_ct P n + @ite Nat (P n) (Classical.propDecidable _) 1 0 = _
  rw [if_pos h]
theorem am_ct_f {P : Nat → Prop} {n : Nat} (h : ¬ P n) : am_ct P (n + 1) = am_ct P n := by
  show am_ct P n + @ite Nat (P n) (Classical.propDecidable _) 1 0 = _
  rw [if_neg h]
  rfl
theorem am_ct_le {P : Nat → Prop} : ∀ n, am_ct P n ≤ n
  | 0 => Nat.le_refl _
  | n + 1 => by
    have := am_ct_le (P := P) n
    by_cases h : P n
    · rw [am_ct_t h]; omega
    · rw [am_ct_f h]; omega
theorem am_ct_mo {P P' : Nat → Prop} (hs : ∀ n, P n → P' n) : ∀ n, am_ct P n ≤ am_ct P' n
  | 0 => Nat.le_refl _
  | n + 1 => by
    have := am_ct_mo hs n
    by_cases h : P n
    · rw [am_ct_t h, am_ct_t (hs n h)]; omega
    · rw [am_ct_f h]
      by_cases h' : P' n
      · rw [am_ct_t h']; omega
      · rw [am_ct_f h']; exact this
theorem am_ct_eq {P P' : Nat → Prop} (hs : ∀ n, P n → P' n) : ∀ n, am_ct P n = am_ct P' n → ∀ k, k < n → P' k → P k
  | 0, _, k, hk, _ => by omega
  | n + 1, he, k, hk, hp' => by
    have mo := am_ct_mo hs n
    by_cases h : P n
    · rw [am_ct_t h, am_ct_t (hs n h)] at he
      by_cases e : k = n
      · rw [e]; exact h
      · exact am_ct_eq hs n (by omega) k (by omega) hp'
    · rw [am_ct_f h] at he
      by_cases h' : P' n
      · rw [am_ct_t h'] at he; omega
      · rw [am_ct_f h'] at he
        by_cases e : k = n
        · rw [e] at hp'; exact absurd hp' h'
        · exact am_ct_eq hs n he k (by omega) hp'
noncomputable def am_fC (D : Nat → Nat → Int32) (F : Nat) (sz : Nat → Nat) (i : Nat) : Nat := am_ct (am_rep (am_fE D F sz i)) F
def am_fx (D : Nat → Nat → Int32) (F : Nat) (sz : Nat → Nat) (i : Nat) : Prop := ∀ f g, f < F → g < F → am_fE D F sz i f g → am_fE D F sz (i + 1) f g
theorem am_fC_mo {D : Nat → Nat → Int32} {F : Nat} {sz : Nat → Nat} (i : Nat) : am_fC D F sz i ≤ am_fC D F sz (i + 1) := am_ct_mo (fun _ h k hk z => h k hk z.1) F
theorem am_fC_fx {D : Nat → Nat → Int32} {F : Nat} {sz : Nat → Nat} (hF : F ≤ 24) {i : Nat} (h : am_fC D F sz i = am_fC D F sz (i + 1)) : am_fx D F sz i := by
  intro f g hf hg e
  have e0 := am_fE_eqv (D := D) (sz := sz) hF i
  have e1 := am_fE_eqv (D := D) (sz := sz) hF (i + 1)
  obtain ⟨l, hl⟩ := am_lst_ex e1 f
  obtain ⟨m, hm⟩ := am_lst_ex e1 g
  have key := am_ct_eq (P := am_rep (am_fE D F sz i)) (P' := am_rep (am_fE D F sz (i + 1))) (fun _ h k hk z => h k hk z.1) F h
  have rl := key l (Nat.lt_of_le_of_lt hl.1 hf) (am_lst_rep e1 hl)
  have rm := key m (Nat.lt_of_le_of_lt hm.1 hg) (am_lst_rep e1 hm)
  have lm : am_fE D F sz i l m := e0.2.2 _ _ _ (e0.2.2 _ _ _ hl.2.1.1 e) (e0.2.1 _ _ hm.2.1.1)
  have a : ¬ l < m := fun z => rm l z lm
  have b : ¬ m < l := fun z => rl m z (e0.2.1 _ _ lm)
  have c : l = m := by omega
  exact (am_lst_eq e1 hl hm).mp c
theorem am_fT_cg {F : Nat} {E E' : Nat → Nat → Prop} (h : ∀ f g, f < F → g < F → E f g → E' f g) {u v : Int32} (z : am_fT F E u v) : am_fT F E' u v := by
  rcases z with z | ⟨f, g, h1, h2, h3, h4, h5⟩
  · exact Or.inl z
  · exact Or.inr ⟨f, g, h1, h2, h3, h4, h f g h1 h2 h5⟩
theorem am_fL_cg {D : Nat → Nat → Int32} {F : Nat} {sz : Nat → Nat} {E E' : Nat → Nat → Prop} (h : ∀ f g, f < F → g < F → E f g → E' f g) {f g : Nat} (z : am_fL D F sz E f g) : am_fL D F sz E' f g := by
  refine ⟨z.1, fun p hp => ?_⟩
  rcases z.2 p hp with ⟨c, e, y⟩ | y
  · exact Or.inl ⟨c, e, am_fT_cg h y⟩
  · exact Or.inr y
theorem am_fx_s {D : Nat → Nat → Int32} {F : Nat} {sz : Nat → Nat} {i : Nat} (h : am_fx D F sz i) : am_fx D F sz (i + 1) := fun f g _ _ z => ⟨z, am_fL_cg h z.2⟩
theorem am_fx_a {D : Nat → Nat → Int32} {F : Nat} {sz : Nat → Nat} {i : Nat} (h : am_fx D F sz i) : ∀ k, am_fx D F sz (i + k) ∧ ∀ f g, f < F → g < F → (am_fE D F sz i f g ↔ am_fE D F sz (i + k) f g)
  | 0 => ⟨h, fun _ _ _ _ => Iff.rfl⟩
  | k + 1 => by
    obtain ⟨h1, h2⟩ := am_fx_a h k
    exact ⟨am_fx_s h1, fun f g hf hg => (h2 f g hf hg).trans ⟨fun z => h1 f g hf hg z, fun z => z.1⟩⟩
theorem am_fx_u {D : Nat → Nat → Int32} {F : Nat} {sz : Nat → Nat} {i j : Nat} (h1 : am_fx D F sz i) (h2 : am_fx D F sz j) {f g : Nat} (hf : f < F) (hg : g < F) : am_fE D F sz i f g ↔ am_fE D F sz j f g := by
  by_cases a : i ≤ j
  · obtain ⟨k, rfl⟩ := Nat.exists_eq_add_of_le a
    exact (am_fx_a h1 k).2 f g hf hg
  · obtain ⟨k, rfl⟩ := Nat.exists_eq_add_of_le (show j ≤ i by omega)
    exact ((am_fx_a h2 k).2 f g hf hg).symm
theorem am_ct_cg {P P' : Nat → Prop} : ∀ n, (∀ k, k < n → (P k ↔ P' k)) → am_ct P n = am_ct P' n
  | 0, _ => rfl
  | n + 1, h => by
    have ih := am_ct_cg n (fun k hk => h k (by omega))
    by_cases a : P n
    · rw [am_ct_t a, am_ct_t ((h n (by omega)).mp a), ih]
    · rw [am_ct_f a, am_ct_f (fun z => a ((h n (by omega)).mpr z)), ih]
theorem am_fC_u {D : Nat → Nat → Int32} {F : Nat} {sz : Nat → Nat} {i j : Nat} (h1 : am_fx D F sz i) (h2 : am_fx D F sz j) : am_fC D F sz i = am_fC D F sz j := by
  refine am_ct_cg F (fun k hk => ⟨fun z h hh y => z h hh ((am_fx_u h1 h2 (by omega) hk).mpr y), fun z h hh y => z h hh ((am_fx_u h1 h2 (by omega) hk).mp y)⟩)
theorem am_fC_1 {D : Nat → Nat → Int32} {F : Nat} {sz : Nat → Nat} {i : Nat} (h : 1 ≤ F) : 1 ≤ am_fC D F sz i := by
  have h1 : am_ct (am_rep (am_fE D F sz i)) 1 = 1 := am_ct_t (n := 0) (fun k hk => by omega)
  have h2 : ∀ n, 1 ≤ n → 1 ≤ am_ct (am_rep (am_fE D F sz i)) n := by
    intro n
    induction n with
    | zero => intro z; omega
    | succ n ih =>
      intro _
      by_cases e : n = 0
      · subst e; exact Nat.le_of_eq h1.symm
      · have := ih (by omega)
        by_cases a : am_rep (am_fE D F sz i) n
        · rw [am_ct_t a]; omega
        · rw [am_ct_f a]; exact this
  exact h2 F h
