theorem am_cod_22 (a b c t pc pa fo : Int32) : am_cod (nI 22) a b c t pc pa fo = am_mb 0 a b (pc - t) := by
  unfold am_cod
  rw [if_pos (by decide), if_pos (by decide), if_pos (by decide), if_neg (by decide), if_neg (by decide), if_neg (by decide), if_pos (by decide)]
  rfl
theorem am_cod_23 (a b c t pc pa fo : Int32) : am_cod (nI 23) a b c t pc pa fo = am_mb 1 a b (pc - t) := by
  unfold am_cod
  rw [if_pos (by decide), if_pos (by decide), if_pos (by decide), if_neg (by decide), if_neg (by decide), if_neg (by decide), if_neg (by decide), if_pos (by decide)]
  rfl
theorem am_cod_24 (a b c t pc pa fo : Int32) : am_cod (nI 24) a b c t pc pa fo = am_mb 4 a b (pc - t) := by
  unfold am_cod
  rw [if_pos (by decide), if_pos (by decide), if_pos (by decide), if_neg (by decide), if_neg (by decide), if_neg (by decide), if_neg (by decide), if_neg (by decide), if_pos (by decide)]
  rfl
theorem am_cod_25 (a b c t pc pa fo : Int32) : am_cod (nI 25) a b c t pc pa fo = am_mb 5 a b (pc - t) := by
  unfold am_cod
  rw [if_pos (by decide), if_pos (by decide), if_pos (by decide), if_neg (by decide), if_neg (by decide), if_neg (by decide), if_neg (by decide), if_neg (by decide), if_neg (by decide), if_pos (by decide)]
  rfl
theorem am_cod_26 (a b c t pc pa fo : Int32) : am_cod (nI 26) a b c t pc pa fo = am_mb 6 a b (pc - t) := by
  unfold am_cod
  rw [if_pos (by decide), if_pos (by decide), if_pos (by decide), if_neg (by decide), if_neg (by decide), if_neg (by decide), if_neg (by decide), if_neg (by decide), if_neg (by decide), if_neg (by decide), if_pos (by decide)]
  rfl
theorem am_cod_27 (a b c t pc pa fo : Int32) : am_cod (nI 27) a b c t pc pa fo = am_mb 7 a b (pc - t) := by
  unfold am_cod
  rw [if_pos (by decide), if_pos (by decide), if_pos (by decide), if_neg (by decide), if_neg (by decide), if_neg (by decide), if_neg (by decide), if_neg (by decide), if_neg (by decide), if_neg (by decide), if_neg (by decide), if_pos (by decide)]
  rfl
theorem am_cod_28 (a b c t pc pa fo : Int32) : am_cod (nI 28) a b c t pc pa fo = am_mj 0 (pa - t) := by
  unfold am_cod
  rw [if_pos (by decide), if_pos (by decide), if_pos (by decide), if_neg (by decide), if_neg (by decide), if_neg (by decide), if_neg (by decide), if_neg (by decide), if_neg (by decide), if_neg (by decide), if_neg (by decide), if_neg (by decide), if_pos (by decide)]
theorem am_cod_29 (a b c t pc pa fo : Int32) : am_cod (nI 29) a b c t pc pa fo = am_mj 1 (fo - t) := by
  unfold am_cod
  rw [if_pos (by decide), if_pos (by decide), if_pos (by decide), if_neg (by decide), if_neg (by decide), if_neg (by decide), if_neg (by decide), if_neg (by decide), if_neg (by decide), if_neg (by decide), if_neg (by decide), if_neg (by decide), if_neg (by decide), if_pos (by decide)]
theorem am_cod_30 (a b c t pc pa fo : Int32) : am_cod (nI 30) a b c t pc pa fo = am_mj 0 (fo - t) := by
  unfold am_cod
  rw [if_pos (by decide), if_pos (by decide), if_pos (by decide), if_neg (by decide), if_neg (by decide), if_neg (by decide), if_neg (by decide), if_neg (by decide), if_neg (by decide), if_neg (by decide), if_neg (by decide), if_neg (by decide), if_neg (by decide), if_neg (by decide), if_pos (by decide)]
theorem am_cod_31 (a b c t pc pa fo : Int32) : am_cod (nI 31) a b c t pc pa fo = am_jr 0 1 := by
  unfold am_cod
  rw [if_pos (by decide), if_pos (by decide), if_pos (by decide), if_neg (by decide), if_neg (by decide), if_neg (by decide), if_neg (by decide), if_neg (by decide), if_neg (by decide), if_neg (by decide), if_neg (by decide), if_neg (by decide), if_neg (by decide), if_neg (by decide), if_neg (by decide), if_pos (by decide)]
  rfl
theorem am_cod_33 (a b c t pc pa fo : Int32) : am_cod (nI 33) a b c t pc pa fo = am_jr 1 a := by
  unfold am_cod
  rw [if_pos (by decide), if_pos (by decide), if_pos (by decide), if_neg (by decide), if_neg (by decide), if_neg (by decide), if_neg (by decide), if_neg (by decide), if_neg (by decide), if_neg (by decide), if_neg (by decide), if_neg (by decide), if_neg (by decide), if_neg (by decide), if_neg (by decide), if_neg (by decide), if_neg (by decide), if_pos (by decide)]
  rfl
theorem ly_cod {C D : Nat → Nat → Int32} {F : Nat} {sz : Nat → Nat} {B : Nat → Prop} {bo : Nat → Nat} {sm : Nat → Nat → Prop} {ln sp : Nat → Nat} {K : Nat} {S S' : Nat → Nat → Int32} (hE : ly_E2 C D F sz B bo sm ln sp K) (hm : am_MS S' D) (ha : ∀ f p, f < F → p < sz f → B f → S' 88 (40 * f + p) = nI (4096 + 4 * ly_W C D F sz B sm ln sp K (am_st sz f + p))) (hfo : ∀ f, f < F → S' 78 f = nI (4096 + 4 * ly_W C D F sz B sm ln sp K (am_st sz (bo f)))) {f p : Nat} (hf : f < F) (hq : p < sz f) (hB : B f) (h32 : ¬ C 2 (am_st sz f + p) = 32) : am_cod (S' 71 (40 * f + p)) (S' 72 (40 * f + p)) (S' 73 (40 * f + p)) (S' 74 (40 * f + p)) (nI (4096 + 4 * ly_W C D F sz B sm ln sp K (am_st sz f + p))) (S' 88 (40 * nI f + S' 74 (40 * f + p)).toNatClampNeg) (S' 88 (40 * nI f + S' 72 (40 * f + p)).toNatClampNeg) (S' 78 (S' 72 (40 * f + p)).toNatClampNeg) = ly_cd C D F sz B bo sm ln sp K f (am_st sz f + p) := by
  have hP := hE.e.pg
  have hi := hP.ins f p hf hq
  have hF := hP.hF
  have h40 := hP.s40 f hf
  rw [hm.me 71 _ (by decide) (by decide), hm.me 72 _ (by decide) (by decide), hm.me 73 _ (by decide) (by decide), hm.me 74 _ (by decide) (by decide)]
  have hg := hP.gd hf hq
  obtain ⟨k, hk, ek⟩ := am_gd_n hg
  have e2 : C 2 (am_st sz f + p) = nI k := hi.1.trans ek
  have e32 : k ≠ 32 := fun z => h32 (by rw [e2, z]; rfl)
  by_cases hpl : k ≤ 21 ∨ k = 34
  · rw [am_cod_pw hk ek hpl hi.2.1 hi.2.2.1 hi.2.2.2.1]
    unfold ly_cd
    have T : ∀ k, k < 35 → (k ≤ 21 ∨ k = 34) → ¬ nI k = 28 ∧ ¬ nI k = 29 ∧ ¬ nI k = 30 ∧ ¬ nI k = 31 ∧ ¬ nI k = 33 ∧ zb (¬ nI k < 22 ∧ ¬ 27 < nI k) = 0 := by decide +kernel
    obtain ⟨t1, t2, t3, t4, t5, t6⟩ := T k hk hpl
    rw [e2, if_neg t1, if_neg t2, if_neg t3, if_neg t4, if_neg t5, if_pos t6, ek]
  have TA : ∀ k, k < 34 → 22 ≤ k → ¬ k = 31 → ¬ am_kA (nI k) = 0 := by decide +kernel
  have TB : ∀ k, k < 28 → 22 ≤ k → ¬ am_kB (nI k) = 0 ∧ ¬ am_kC (nI k) = 0 := by decide +kernel
  have e3 : ¬ k = 31 → C 3 (am_st sz f + p) = D 72 (40 * f + p) := fun z => by rw [hi.2.1, ek]; exact if_neg (TA k (by omega) (by omega) z)
  by_cases hbr : k ≤ 27
  · have e4 : C 4 (am_st sz f + p) = D 73 (40 * f + p) := by rw [hi.2.2.1, ek]; exact if_neg (TB k (by omega) (by omega)).1
    have hb2 : ¬ C 2 (am_st sz f + p) < 22 ∧ ¬ 27 < C 2 (am_st sz f + p) := by
      rw [e2]
      exact ⟨nI_nlt (a := k) (b := 22) (by omega) (by omega), nI_nlt (a := 27) (b := k) (by omega) (by omega)⟩
    obtain ⟨q, q1, q2, q3, q4⟩ := ly_pbr hE hf hq hB hb2
    have e88 : S' 88 (40 * nI f + D 74 (40 * f + p)).toNatClampNeg = nI (4096 + 4 * ly_W C D F sz B sm ln sp K (am_st sz f + q)) := by
      rw [q3, show (40 : Int32) * nI f + nI q = nI (40 * f + q) from by rw [show (40 : Int32) = nI 40 from rfl, nI_mul, nI_add], nI_clamp (by omega)]
      exact ha f q hf q1 hB
    have key : ∀ s : Int32, am_sel (nI k) = s → ly_cd C D F sz B bo sm ln sp K f (am_st sz f + p) = am_mb s (D 72 (40 * f + p)) (D 73 (40 * f + p)) (nI (4096 + 4 * ly_W C D F sz B sm ln sp K (am_st sz f + q)) - nI (4096 + 4 * ly_W C D F sz B sm ln sp K (am_st sz f + p))) := fun s hs => by
      unfold ly_cd
      have T : ∀ k, k < 28 → 22 ≤ k → ¬ nI k = 28 ∧ ¬ nI k = 29 ∧ ¬ nI k = 30 ∧ ¬ nI k = 31 ∧ ¬ nI k = 33 ∧ ¬ zb (¬ nI k < 22 ∧ ¬ 27 < nI k) = 0 := by decide +kernel
      obtain ⟨t1, t2, t3, t4, t5, t6⟩ := T k (by omega) (by omega)
      rw [e2, if_neg t1, if_neg t2, if_neg t3, if_neg t4, if_neg t5, if_neg t6, e3 (by omega), e4, q2, nI_clamp (by omega), am_by, am_bwe _ _ _ _ _ hs]
    rw [e88, ek]
    have hc : k = 22 ∨ k = 23 ∨ k = 24 ∨ k = 25 ∨ k = 26 ∨ k = 27 := by omega
    rcases hc with rfl | rfl | rfl | rfl | rfl | rfl
    · rw [am_cod_22, key 0 (by decide +kernel)]
    · rw [am_cod_23, key 1 (by decide +kernel)]
    · rw [am_cod_24, key 4 (by decide +kernel)]
    · rw [am_cod_25, key 5 (by decide +kernel)]
    · rw [am_cod_26, key 6 (by decide +kernel)]
    · rw [am_cod_27, key 7 (by decide +kernel)]
  have hc : k = 28 ∨ k = 29 ∨ k = 30 ∨ k = 31 ∨ k = 33 := by omega
  rcases hc with rfl | rfl | rfl | rfl | rfl
  · obtain ⟨q, q1, q2, q3, q4⟩ := ly_p28 hE hf hq hB e2
    rw [ek, am_cod_28, q3, show (40 : Int32) * nI f + nI q = nI (40 * f + q) from by rw [show (40 : Int32) = nI 40 from rfl, nI_mul, nI_add], nI_clamp (by omega), ha f q hf q1 hB, am_by, ← am_jwe]
    unfold ly_cd
    rw [if_pos (show C 2 (am_st sz f + p) = 28 from e2), q2, nI_clamp (by omega)]
  · obtain ⟨q, q1, q2, q3⟩ := ly_p29 hE hf hq (Or.inl e2)
    rw [ek, am_cod_29, q3, nI_clamp (by omega), hfo q q1, am_by, ← am_jwe]
    unfold ly_cd
    rw [e2, if_neg (by decide), if_pos (by decide), q2, nI_clamp (by omega)]
  · obtain ⟨q, q1, q2, q3⟩ := ly_p29 hE hf hq (Or.inr e2)
    rw [ek, am_cod_30, q3, nI_clamp (by omega), hfo q q1, am_by, ← am_jwe]
    unfold ly_cd
    rw [e2, if_neg (by decide), if_neg (by decide), if_pos (by decide), q2, nI_clamp (by omega)]
  · rw [ek, am_cod_31]
    unfold ly_cd
    rw [e2, if_neg (by decide), if_neg (by decide), if_neg (by decide), if_pos (by decide)]
  · rw [ek, am_cod_33]
    unfold ly_cd
    rw [e2, if_neg (by decide), if_neg (by decide), if_neg (by decide), if_neg (by decide), if_pos (by decide), e3 (by decide)]
def ly_N3 (C D : Nat → Nat → Int32) (F : Nat) (sz : Nat → Nat) (B : Nat → Prop) (bo : Nat → Nat) (sm : Nat → Nat → Prop) (ln sp : Nat → Nat) (K : Nat) (S1 S' : Nat → Nat → Int32) (s : Nat) : Prop := (∀ c j, c ≠ 79 → S' c j = S1 c j) ∧ (∀ f p r, f < F → p < sz f → am_st sz f + p < s → r < ly_n C D F sz B sm ln sp K (am_st sz f + p) → S' 79 (ly_W C D F sz B sm ln sp K (am_st sz f + p) + r) = ly_v C D F sz B bo sm ln sp K f (am_st sz f + p) r)
theorem ly_N3.fr {C D : Nat → Nat → Int32} {F : Nat} {sz : Nat → Nat} {B : Nat → Prop} {bo : Nat → Nat} {sm : Nat → Nat → Prop} {ln sp : Nat → Nat} {K : Nat} {S1 S' : Nat → Nat → Int32} {s : Nat} (h : ly_N3 C D F sz B bo sm ln sp K S1 S' s) : ∀ c j, c ≠ 79 → S' c j = S1 c j := h.1
theorem ly_N3.wb {C D : Nat → Nat → Int32} {F : Nat} {sz : Nat → Nat} {B : Nat → Prop} {bo : Nat → Nat} {sm : Nat → Nat → Prop} {ln sp : Nat → Nat} {K : Nat} {S1 S' : Nat → Nat → Int32} {s : Nat} (h : ly_N3 C D F sz B bo sm ln sp K S1 S' s) : ∀ f p r, f < F → p < sz f → am_st sz f + p < s → r < ly_n C D F sz B sm ln sp K (am_st sz f + p) → S' 79 (ly_W C D F sz B sm ln sp K (am_st sz f + p) + r) = ly_v C D F sz B bo sm ln sp K f (am_st sz f + p) r := h.2
def ly_N4 (C D : Nat → Nat → Int32) (F : Nat) (sz : Nat → Nat) (B : Nat → Prop) (bo : Nat → Nat) (sm : Nat → Nat → Prop) (ln sp : Nat → Nat) (K : Nat) (S1 S' : Nat → Nat → Int32) (m i : Nat) : Prop := (∀ c j, c ≠ 79 → S' c j = S1 c j) ∧ (∀ f p r, f < F → p < sz f → r < ly_n C D F sz B sm ln sp K (am_st sz f + p) → S' 79 (ly_W C D F sz B sm ln sp K (am_st sz f + p) + r) = ly_v C D F sz B bo sm ln sp K f (am_st sz f + p) r) ∧ (∀ k r, (k < m ∧ r ≤ ln k) ∨ (k = m ∧ r < i) → S' 79 (ly_R C D F sz B sm ln sp K k + r) = ly_rv C ln sp k r)
theorem ly_N4.fr {C D : Nat → Nat → Int32} {F : Nat} {sz : Nat → Nat} {B : Nat → Prop} {bo : Nat → Nat} {sm : Nat → Nat → Prop} {ln sp : Nat → Nat} {K : Nat} {S1 S' : Nat → Nat → Int32} {m i : Nat} (h : ly_N4 C D F sz B bo sm ln sp K S1 S' m i) : ∀ c j, c ≠ 79 → S' c j = S1 c j := h.1
theorem ly_N4.wb {C D : Nat → Nat → Int32} {F : Nat} {sz : Nat → Nat} {B : Nat → Prop} {bo : Nat → Nat} {sm : Nat → Nat → Prop} {ln sp : Nat → Nat} {K : Nat} {S1 S' : Nat → Nat → Int32} {m i : Nat} (h : ly_N4 C D F sz B bo sm ln sp K S1 S' m i) : ∀ f p r, f < F → p < sz f → r < ly_n C D F sz B sm ln sp K (am_st sz f + p) → S' 79 (ly_W C D F sz B sm ln sp K (am_st sz f + p) + r) = ly_v C D F sz B bo sm ln sp K f (am_st sz f + p) r := h.2.1
theorem ly_N4.wr {C D : Nat → Nat → Int32} {F : Nat} {sz : Nat → Nat} {B : Nat → Prop} {bo : Nat → Nat} {sm : Nat → Nat → Prop} {ln sp : Nat → Nat} {K : Nat} {S1 S' : Nat → Nat → Int32} {m i : Nat} (h : ly_N4 C D F sz B bo sm ln sp K S1 S' m i) : ∀ k r, (k < m ∧ r ≤ ln k) ∨ (k = m ∧ r < i) → S' 79 (ly_R C D F sz B sm ln sp K k + r) = ly_rv C ln sp k r := h.2.2
section LYN
variable {C D : Nat → Nat → Int32} {F : Nat} {sz : Nat → Nat} {B : Nat → Prop} {bo : Nat → Nat} {sm : Nat → Nat → Prop} {ln sp : Nat → Nat} {K : Nat} {S1 S' : Nat → Nat → Int32} {f p : Nat}
theorem ly_N3.w0 {s : Nat} (hn : ly_n C D F sz B sm ln sp K s = 0) (hI : ly_N3 C D F sz B bo sm ln sp K S1 S' s) : ly_N3 C D F sz B bo sm ln sp K S1 S' (s + 1) := by
  refine ⟨hI.fr, fun f p r h1 h2 h3 h4 => ?_⟩
  by_cases e : am_st sz f + p = s
  · rw [e, hn] at h4; omega
  · exact hI.wb f p r h1 h2 (by omega) h4
theorem ly_N3.w1 (hf : f < F) (hq : p < sz f) {w : Int32} (hn : ly_n C D F sz B sm ln sp K (am_st sz f + p) = 1) (hw : w = ly_v C D F sz B bo sm ln sp K f (am_st sz f + p) 0) (hI : ly_N3 C D F sz B bo sm ln sp K S1 S' (am_st sz f + p)) : ly_N3 C D F sz B bo sm ln sp K S1 (am_u S' 79 (ly_W C D F sz B sm ln sp K (am_st sz f + p)) w) (am_st sz f + p + 1) := by
  refine ⟨fun c j a1 => (am_u_ne a1).trans (hI.fr c j a1), fun g q r h1 h2 h3 h4 => ?_⟩
  by_cases e : am_st sz g + q = am_st sz f + p
  · obtain ⟨e1, e2⟩ := am_st_u h2 hq e
    subst e1; subst e2
    rw [hn] at h4
    have : r = 0 := by omega
    subst this
    rw [Nat.add_zero, am_u_eq]
    exact hw
  · have l1 : ly_W C D F sz B sm ln sp K (am_st sz g + q + 1) ≤ ly_W C D F sz B sm ln sp K (am_st sz f + p) := ly_W_le (by omega)
    rw [ly_W_s] at l1
    rw [am_u_nj (by omega)]
    exact hI.wb g q r h1 h2 (by omega) h4
theorem ly_N3.w2 (hf : f < F) (hq : p < sz f) {w w' : Int32} (hn : ly_n C D F sz B sm ln sp K (am_st sz f + p) = 2) (hw : w = ly_v C D F sz B bo sm ln sp K f (am_st sz f + p) 0) (hw' : w' = ly_v C D F sz B bo sm ln sp K f (am_st sz f + p) 1) (hI : ly_N3 C D F sz B bo sm ln sp K S1 S' (am_st sz f + p)) : ly_N3 C D F sz B bo sm ln sp K S1 (am_u (am_u S' 79 (ly_W C D F sz B sm ln sp K (am_st sz f + p)) w) 79 (ly_W C D F sz B sm ln sp K (am_st sz f + p) + 1) w') (am_st sz f + p + 1) := by
  refine ⟨fun c j a1 => (am_u_ne a1).trans ((am_u_ne a1).trans (hI.fr c j a1)), fun g q r h1 h2 h3 h4 => ?_⟩
  by_cases e : am_st sz g + q = am_st sz f + p
  · obtain ⟨e1, e2⟩ := am_st_u h2 hq e
    subst e1; subst e2
    rw [hn] at h4
    by_cases er : r = 0
    · subst er
      rw [am_u_nj (by omega), Nat.add_zero, am_u_eq]
      exact hw
    · have : r = 1 := by omega
      subst this
      rw [am_u_eq]
      exact hw'
  · have l1 : ly_W C D F sz B sm ln sp K (am_st sz g + q + 1) ≤ ly_W C D F sz B sm ln sp K (am_st sz f + p) := ly_W_le (by omega)
    rw [ly_W_s] at l1
    rw [am_u_nj (by omega), am_u_nj (by omega)]
    exact hI.wb g q r h1 h2 (by omega) h4
theorem ly_N3_nb (hf : f < F) (hB : ¬ B f) (hI : ly_N3 C D F sz B bo sm ln sp K S1 S' (am_st sz f)) : ∀ p, p ≤ sz f → ly_N3 C D F sz B bo sm ln sp K S1 S' (am_st sz f + p)
  | 0, _ => hI
  | p + 1, h => (ly_N3_nb hf hB hI p (by omega)).w0 (ly_w_nb (fun z => hB ((ly_bd_i hf (by omega)).mp z)))
theorem ly_N4.w {m i : Nat} {w : Int32} (hP : am_PG C D F sz) (hw : w = ly_rv C ln sp m i) (hI : ly_N4 C D F sz B bo sm ln sp K S1 S' m i) : ly_N4 C D F sz B bo sm ln sp K S1 (am_u S' 79 (ly_R C D F sz B sm ln sp K m + i) w) m (i + 1) := by
  refine ⟨fun c j a1 => (am_u_ne a1).trans (hI.fr c j a1), fun f p r h1 h2 h4 => ?_, fun k r h => ?_⟩
  · have hl := hP.lt h1 h2
    have l1 : ly_W C D F sz B sm ln sp K (am_st sz f + p + 1) ≤ ly_W C D F sz B sm ln sp K (am_st sz F) := ly_W_le (by omega)
    have l2 : ly_R C D F sz B sm ln sp K 0 ≤ ly_R C D F sz B sm ln sp K m := ly_R_le (Nat.zero_le _)
    rw [ly_R_0] at l2
    rw [ly_W_s] at l1
    rw [am_u_nj (by omega)]
    exact hI.wb f p r h1 h2 h4
  · by_cases e : k = m ∧ r = i
    · obtain ⟨e1, e2⟩ := e
      subst e1; subst e2
      rw [am_u_eq]
      exact hw
    · have l1 : k < m → ly_R C D F sz B sm ln sp K k + (ln k + 1) ≤ ly_R C D F sz B sm ln sp K m := fun z => by
        have := ly_R_le (C := C) (D := D) (F := F) (sz := sz) (B := B) (sm := sm) (ln := ln) (sp := sp) (K := K) (show k + 1 ≤ m from z)
        rw [ly_R_s] at this
        exact this
      have hne : ly_R C D F sz B sm ln sp K k + r ≠ ly_R C D F sz B sm ln sp K m + i := by
        rcases h with h | h
        · have := l1 h.1
          omega
        · rw [h.1]
          have : r ≠ i := fun z => e ⟨h.1, z⟩
          omega
      rw [am_u_nj hne]
      exact hI.wr k r (by omega)
theorem ly_N4.s {m : Nat} (hI : ly_N4 C D F sz B bo sm ln sp K S1 S' m (ln m + 1)) : ly_N4 C D F sz B bo sm ln sp K S1 S' (m + 1) 0 := by
  refine ⟨hI.fr, hI.wb, fun k r h => ?_⟩
  by_cases e : k = m
  · exact hI.wr k r (by rw [e] at h ⊢; omega)
  · exact hI.wr k r (by omega)
end LYN
