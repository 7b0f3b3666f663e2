theorem am_PG.h5 {C D : Nat → Nat → Int32} {F : Nat} {sz : Nat → Nat} (h : am_PG C D F sz) : (C 1 5).toInt ≤ 24 := am_wl h.c5 h.hF (by decide)
theorem am_PG.h6 {C D : Nat → Nat → Int32} {F : Nat} {sz : Nat → Nat} (h : am_PG C D F sz) : (C 1 6).toInt ≤ 300 := am_wl h.cS h.t300 (by decide)
theorem am_PG.lt {C D : Nat → Nat → Int32} {F : Nat} {sz : Nat → Nat} (h : am_PG C D F sz) {f p : Nat} (hf : f < F) (hp : p < sz f) : am_st sz f + p < am_st sz F := by
  have l1 : am_st sz f + sz f ≤ am_st sz F := am_st_le (sz := sz) (show f + 1 ≤ F by omega)
  omega
theorem am_PG.inF {C D : Nat → Nat → Int32} {F : Nat} {sz : Nat → Nat} (h : am_PG C D F sz) {f : Nat} (hf : f < F) : 0 ≤ nI f ∧ nI f < C 1 5 := by
  have := h.hF
  exact ⟨nI_pos' (by omega), by rw [h.c5]; exact nI_lt hf (by omega)⟩
theorem am_PG.inS {C D : Nat → Nat → Int32} {F : Nat} {sz : Nat → Nat} (h : am_PG C D F sz) {s : Nat} (hs : s < am_st sz F) : 0 ≤ nI s ∧ nI s < C 1 6 := by
  have := h.t300
  exact ⟨nI_pos' (by omega), by rw [h.cS]; exact nI_lt hs (by omega)⟩
theorem am_PG.sta {C D : Nat → Nat → Int32} {F : Nat} {sz : Nat → Nat} (h : am_PG C D F sz) {f : Nat} (hf : f < F) : am_sta C (nI f) = nI (am_st sz f) := by
  have := h.hF
  unfold am_sta
  rw [if_pos (h.inF hf), nI_clamp (by omega)]
  exact h.c6 f (by omega)
theorem am_PG.ende {C D : Nat → Nat → Int32} {F : Nat} {sz : Nat → Nat} (h : am_PG C D F sz) {f : Nat} (hf : f < F) : am_end C (nI f) = nI (am_st sz f + sz f) := by
  have := h.hF
  unfold am_end
  rw [if_pos (h.inF hf), nI_1, nI_clamp (by omega)]
  exact h.c6 (f + 1) (by omega)
theorem am_PG.lof {C D : Nat → Nat → Int32} {F : Nat} {sz : Nat → Nat} (h : am_PG C D F sz) {f : Nat} (hf : f < F) : am_lof C (nI f) = nI (sz f) := by
  have := h.hF
  unfold am_lof
  rw [if_pos (h.inF hf), nI_1, nI_clamp (by omega), nI_clamp (by omega), h.c6 f (by omega), h.c6 (f + 1) (by omega)]
  show nI (am_st sz f + sz f) - _ = _
  rw [nI_sub (by omega)]
  congr 1
  omega
theorem am_PG.num {C D : Nat → Nat → Int32} {F : Nat} {sz : Nat → Nat} (h : am_PG C D F sz) {f p : Nat} (hf : f < F) (hp : p < sz f) : am_num C (nI (am_st sz f + p)) = D 71 (40 * f + p) := by
  have := h.t300
  have hl := h.lt hf hp
  unfold am_num
  rw [if_pos (h.inS hl), nI_clamp (by omega)]
  exact (h.ins f p hf hp).1
theorem am_PG.fa {C D : Nat → Nat → Int32} {F : Nat} {sz : Nat → Nat} (h : am_PG C D F sz) {f p : Nat} (hf : f < F) (hp : p < sz f) : am_fa C (nI (am_st sz f + p)) = am_kpt (am_kA (D 71 (40 * f + p))) (D 72 (40 * f + p)) := by
  have := h.t300
  have hl := h.lt hf hp
  unfold am_fa
  rw [if_pos (h.inS hl), nI_clamp (by omega)]
  exact (h.ins f p hf hp).2.1
theorem am_PG.fb {C D : Nat → Nat → Int32} {F : Nat} {sz : Nat → Nat} (h : am_PG C D F sz) {f p : Nat} (hf : f < F) (hp : p < sz f) : am_fb C (nI (am_st sz f + p)) = am_kpt (am_kB (D 71 (40 * f + p))) (D 73 (40 * f + p)) := by
  have := h.t300
  have hl := h.lt hf hp
  unfold am_fb
  rw [if_pos (h.inS hl), nI_clamp (by omega)]
  exact (h.ins f p hf hp).2.2.1
theorem am_PG.fc {C D : Nat → Nat → Int32} {F : Nat} {sz : Nat → Nat} (h : am_PG C D F sz) {f p : Nat} (hf : f < F) (hp : p < sz f) : am_fc C (nI (am_st sz f + p)) = am_kpt (am_kC (D 71 (40 * f + p))) (D 74 (40 * f + p)) := by
  have := h.t300
  have hl := h.lt hf hp
  unfold am_fc
  rw [if_pos (h.inS hl), nI_clamp (by omega)]
  exact (h.ins f p hf hp).2.2.2.1
theorem am_PG.gd {C D : Nat → Nat → Int32} {F : Nat} {sz : Nat → Nat} (h : am_PG C D F sz) {f p : Nat} (hf : f < F) (hp : p < sz f) : am_gd (D 71 (40 * f + p)) (D 72 (40 * f + p)) (D 73 (40 * f + p)) (D 74 (40 * f + p)) := (h.ins f p hf hp).2.2.2.2
theorem am_kA_br {n : Int32} (h : n = 28 ∨ n = 29 ∨ n = 30) (v : Int32) : am_kpt (am_kA n) v = v := by
  rcases h with h | h | h <;> subst h <;> rfl
theorem am_kB_32 {n : Int32} (h : n = 32) (v : Int32) : am_kpt (am_kB n) v = v := by
  subst h; rfl
theorem am_kC_br {n : Int32} (h : ¬ n < 22 ∧ ¬ 27 < n) (v : Int32) : am_kpt (am_kC n) v = v := by
  obtain ⟨k, hk, rfl⟩ := nI_of (x := n) (fun z => h.1 (by
    rw [Int32.lt_iff_toInt_lt] at z ⊢
    rw [show (0 : Int32).toInt = 0 by decide] at z
    rw [show (22 : Int32).toInt = 22 by decide]
    omega))
  have h2 := mt (nI_lt (a := 27) (b := k) · hk) h.2
  have T : ∀ k, k < 28 → ¬ nI k < 22 → ¬ am_kC (nI k) = 0 := by decide +kernel
  exact if_neg (T k (by omega) h.1)
theorem am_m1lt (m : Nat) (h : m < 2 ^ 31) : (-1 : Int32) < nI m := by
  rw [Int32.lt_iff_toInt_lt, nI_toInt h, show (-1 : Int32).toInt = -1 by decide]
  omega
/-- the reasons to press nothing -/
def am_Op (D : Nat → Nat → Int32) (sz : Nat → Nat) (f : Nat) : Prop := sz f = 0 ∨ ¬ (D 71 (40 * f + (sz f - 1)) = 28 ∨ D 71 (40 * f + (sz f - 1)) = 30 ∨ D 71 (40 * f + (sz f - 1)) = 31)
def am_Np (D : Nat → Nat → Int32) (x m : Nat) : Prop := ((¬ D 71 x < 22 ∧ ¬ 27 < D 71 x) ∧ ¬ D 74 x < nI m) ∨ (D 71 x = 28 ∧ ¬ D 72 x < nI m)
def am_Nf (D : Nat → Nat → Int32) (x m : Nat) : Prop := ((D 71 x = 29 ∨ D 71 x = 30) ∧ ¬ D 72 x < nI m) ∨ (D 71 x = 32 ∧ ¬ D 73 x < nI m)
theorem am_PG.pto {C D : Nat → Nat → Int32} {F : Nat} {sz : Nat → Nat} (h : am_PG C D F sz) {f p m : Nat} (hf : f < F) (hp : p < sz f) (hm : m < 2 ^ 31) : ¬ am_pto C (nI (am_st sz f + p)) < nI m ↔ am_Np D (40 * f + p) m := by
  unfold am_pto am_Np
  rw [h.num hf hp, h.fa hf hp, h.fc hf hp]
  by_cases h1 : ¬ D 71 (40 * f + p) < 22 ∧ ¬ 27 < D 71 (40 * f + p)
  · rw [if_pos h1, am_kC_br h1]
    refine ⟨fun z => Or.inl ⟨h1, z⟩, fun z => ?_⟩
    rcases z with z | z
    · exact z.2
    · exact absurd (by rw [z.1]; decide) h1.2
  · rw [if_neg h1]
    by_cases h2 : D 71 (40 * f + p) = 28
    · rw [if_pos h2, am_kA_br (Or.inl h2)]
      refine ⟨fun z => Or.inr ⟨h2, z⟩, fun z => ?_⟩
      rcases z with z | z
      · exact absurd z.1 h1
      · exact z.2
    · rw [if_neg h2]
      refine ⟨fun z => absurd (am_m1lt m hm) z, fun z => ?_⟩
      rcases z with z | z
      · exact absurd z.1 h1
      · exact absurd z.1 h2
theorem am_PG.fto {C D : Nat → Nat → Int32} {F : Nat} {sz : Nat → Nat} (h : am_PG C D F sz) {f p m : Nat} (hf : f < F) (hp : p < sz f) (hm : m < 2 ^ 31) : ¬ am_fto C (nI (am_st sz f + p)) < nI m ↔ am_Nf D (40 * f + p) m := by
  unfold am_fto am_Nf
  rw [h.num hf hp, h.fa hf hp, h.fb hf hp]
  by_cases h1 : D 71 (40 * f + p) = 29 ∨ D 71 (40 * f + p) = 30
  · rw [if_pos h1, am_kA_br (Or.inr h1)]
    refine ⟨fun z => Or.inl ⟨h1, z⟩, fun z => ?_⟩
    rcases z with z | z
    · exact z.2
    · rcases h1 with h1 | h1 <;> exact absurd (h1.symm.trans z.1) (by decide)
  · rw [if_neg h1]
    by_cases h2 : D 71 (40 * f + p) = 32
    · rw [if_pos h2, am_kB_32 h2]
      refine ⟨fun z => Or.inr ⟨h2, z⟩, fun z => ?_⟩
      rcases z with z | z
      · exact absurd z.1 h1
      · exact z.2
    · rw [if_neg h2]
      refine ⟨fun z => absurd (am_m1lt m hm) z, fun z => ?_⟩
      rcases z with z | z
      · exact absurd z.1 h1
      · exact absurd z.1 h2
/-- every spot is a place of a function -/
theorem am_spx {sz : Nat → Nat} : ∀ (F s : Nat), s < am_st sz F → ∃ f p, f < F ∧ p < sz f ∧ s = am_st sz f + p
  | 0, s, h => absurd h (Nat.not_lt_zero _)
  | F + 1, s, h => by
    by_cases g : s < am_st sz F
    · obtain ⟨f, p, h1, h2, h3⟩ := am_spx F s g
      exact ⟨f, p, by omega, h2, h3⟩
    · refine ⟨F, s - am_st sz F, by omega, ?_, by omega⟩
      have : am_st sz (F + 1) = am_st sz F + sz F := rfl
      omega
