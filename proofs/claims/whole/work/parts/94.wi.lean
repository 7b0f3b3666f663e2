theorem am_su5 {v : Int32} (h : ¬ am_su 5 v = 0) : ∃ q, q < 40 ∧ v = nI q := by
  unfold am_su at h
  rw [if_neg (by decide), if_neg (by decide), if_neg (by decide), if_neg (by decide), if_pos rfl] at h
  have h := zb_ne.mp h
  obtain ⟨j, hj, rfl⟩ := nI_of h.1
  exact ⟨j, (nI_ltI (a := j) (b := 40) hj (by decide)).mp (show nI j < nI 40 from h.2), rfl⟩
theorem am_su6 {v : Int32} (h : ¬ am_su 6 v = 0) : ∃ q, q < 24 ∧ v = nI q := by
  unfold am_su at h
  rw [if_neg (by decide), if_neg (by decide), if_neg (by decide), if_neg (by decide), if_neg (by decide), if_pos rfl] at h
  have h := zb_ne.mp h
  obtain ⟨j, hj, rfl⟩ := nI_of h.1
  exact ⟨j, (nI_ltI (a := j) (b := 24) hj (by decide)).mp (show nI j < nI 24 from h.2), rfl⟩
theorem am_g28 {n a b c : Int32} (h : am_gd n a b c) (hn : n = 28) : ∃ q, q < 40 ∧ a = nI q := by
  have h := h.2.1
  rw [hn, show am_kA 28 = 5 by decide +kernel] at h
  exact am_su5 h
theorem am_g29 {n a b c : Int32} (h : am_gd n a b c) (hn : n = 29 ∨ n = 30) : ∃ q, q < 24 ∧ a = nI q := by
  have h := h.2.1
  have e : am_kA n = 6 := by
    rcases hn with rfl | rfl <;> decide +kernel
  rw [e] at h
  exact am_su6 h
theorem am_g32 {n a b c : Int32} (h : am_gd n a b c) (hn : n = 32) : ∃ q, q < 24 ∧ b = nI q := by
  have h := h.2.2.1
  rw [hn, show am_kB 32 = 6 by decide +kernel] at h
  exact am_su6 h
theorem am_gbr {n a b c : Int32} (h : am_gd n a b c) (hn : ¬ n < 22 ∧ ¬ 27 < n) : ∃ q, q < 40 ∧ c = nI q := by
  obtain ⟨k, hk, rfl⟩ := am_gd_n h
  have h := h.2.2.2
  have h2 := mt (nI_lt (a := 27) (b := k) · (by omega)) hn.2
  have T : ∀ k, k < 28 → ¬ nI k < 22 → am_kC (nI k) = 5 := by decide +kernel
  rw [T k (by omega) hn.1] at h
  exact am_su5 h
section LYP
variable {C D : Nat → Nat → Int32} {F : Nat} {sz : Nat → Nat} {B : Nat → Prop} {bo : Nat → Nat} {sm : Nat → Nat → Prop} {ln sp : Nat → Nat} {K : Nat} {f p : Nat}
/-- the places and functions told -/
theorem ly_p28 (hE : ly_E2 C D F sz B bo sm ln sp K) (hf : f < F) (hp : p < sz f) (hB : B f) (h : C 2 (am_st sz f + p) = 28) : ∃ q, q < sz f ∧ C 3 (am_st sz f + p) = nI q ∧ D 72 (40 * f + p) = nI q ∧ am_en D F sz B (am_st sz f + q) := by
  have hi := hE.e.pg.ins f p hf hp
  have hn : D 71 (40 * f + p) = 28 := hi.1.symm.trans h
  obtain ⟨q, hq, e⟩ := am_g28 (hE.e.pg.gd hf hp) hn
  have np := hE.np f p hf hp
  have h40 := hE.e.pg.s40 f hf
  have hqs : q < sz f := by
    apply Classical.byContradiction
    intro z
    exact np (Or.inr ⟨hn, by rw [e]; exact nI_nlt (by omega) (by omega)⟩)
  refine ⟨q, hqs, ?_, e, (am_en_i hf hqs).mpr ⟨hB, p, hp, Or.inr ⟨hn, e⟩⟩⟩
  rw [hi.2.1, am_kA_br (Or.inl hn)]
  exact e
theorem ly_pbr (hE : ly_E2 C D F sz B bo sm ln sp K) (hf : f < F) (hp : p < sz f) (hB : B f) (h : ¬ C 2 (am_st sz f + p) < 22 ∧ ¬ 27 < C 2 (am_st sz f + p)) : ∃ q, q < sz f ∧ C 5 (am_st sz f + p) = nI q ∧ D 74 (40 * f + p) = nI q ∧ am_en D F sz B (am_st sz f + q) := by
  have hi := hE.e.pg.ins f p hf hp
  rw [hi.1] at h
  obtain ⟨q, hq, e⟩ := am_gbr (hE.e.pg.gd hf hp) h
  have np := hE.np f p hf hp
  have h40 := hE.e.pg.s40 f hf
  have hqs : q < sz f := by
    apply Classical.byContradiction
    intro z
    exact np (Or.inl ⟨h, by rw [e]; exact nI_nlt (by omega) (by omega)⟩)
  refine ⟨q, hqs, ?_, e, (am_en_i hf hqs).mpr ⟨hB, p, hp, Or.inl ⟨h, e⟩⟩⟩
  rw [hi.2.2.2.1, am_kC_br h]
  exact e
theorem ly_p29 (hE : ly_E2 C D F sz B bo sm ln sp K) (hf : f < F) (hp : p < sz f) (h : C 2 (am_st sz f + p) = 29 ∨ C 2 (am_st sz f + p) = 30) : ∃ q, q < F ∧ C 3 (am_st sz f + p) = nI q ∧ D 72 (40 * f + p) = nI q := by
  have hi := hE.e.pg.ins f p hf hp
  rw [hi.1] at h
  obtain ⟨q, hq, e⟩ := am_g29 (hE.e.pg.gd hf hp) h
  have nf := hE.nf f p hf hp
  have hF := hE.e.pg.hF
  have hqs : q < F := by
    apply Classical.byContradiction
    intro z
    exact nf (Or.inl ⟨h, by rw [e]; exact nI_nlt (by omega) (by omega)⟩)
  refine ⟨q, hqs, ?_, e⟩
  rw [hi.2.1, am_kA_br (Or.inr h)]
  exact e
theorem ly_p32 (hE : ly_E2 C D F sz B bo sm ln sp K) (hf : f < F) (hp : p < sz f) (h : C 2 (am_st sz f + p) = 32) : ∃ q, q < F ∧ C 4 (am_st sz f + p) = nI q ∧ D 73 (40 * f + p) = nI q := by
  have hi := hE.e.pg.ins f p hf hp
  rw [hi.1] at h
  obtain ⟨q, hq, e⟩ := am_g32 (hE.e.pg.gd hf hp) h
  have nf := hE.nf f p hf hp
  have hF := hE.e.pg.hF
  have hqs : q < F := by
    apply Classical.byContradiction
    intro z
    exact nf (Or.inr ⟨h, by rw [e]; exact nI_nlt (by omega) (by omega)⟩)
  refine ⟨q, hqs, ?_, e⟩
  rw [hi.2.2.1, am_kB_32 h]
  exact e
end LYP
def ly_L2 (C D : Nat → Nat → Int32) (F : Nat) (sz : Nat → Nat) (B : Nat → Prop) (sm : Nat → Nat → Prop) (ln sp : Nat → Nat) (K : Nat) (C' : Nat → Nat → Int32) (m : Nat) : Prop := (∀ c j, c ≠ 14 → c ≠ 20 → c ≠ 24 → c ≠ 58 → C' c j = C c j) ∧ (∀ t, t < am_st sz F → ly_bd F sz B t → ¬ ly_cv (am_st sz F) (am_op D F sz B) (am_en D F sz B) sm ln sp K t → C' 58 t = nI (ly_W C D F sz B sm ln sp K t)) ∧ (∀ k j, k < K → sq_ok (am_st sz F) (am_op D F sz B) (am_en D F sz B) sm ln sp k j → C' 24 (sq_fo (am_st sz F) (am_op D F sz B) (am_en D F sz B) sm ln sp k + (sq_gk (am_st sz F) (am_op D F sz B) (am_en D F sz B) sm ln sp k j).1) = nI (ly_W C D F sz B sm ln sp K j)) ∧ (∀ f, f < F → B f → C' 14 f = nI (ly_W C D F sz B sm ln sp K (am_st sz f))) ∧ (∀ k, k < m → C' 20 k = nI (ly_R C D F sz B sm ln sp K k))
theorem ly_L2.fr {C D : Nat → Nat → Int32} {F : Nat} {sz : Nat → Nat} {B : Nat → Prop} {sm : Nat → Nat → Prop} {ln sp : Nat → Nat} {K : Nat} {C' : Nat → Nat → Int32} {m : Nat} (h : ly_L2 C D F sz B sm ln sp K C' m) : ∀ c j, c ≠ 14 → c ≠ 20 → c ≠ 24 → c ≠ 58 → C' c j = C c j := h.1
theorem ly_L2.wo {C D : Nat → Nat → Int32} {F : Nat} {sz : Nat → Nat} {B : Nat → Prop} {sm : Nat → Nat → Prop} {ln sp : Nat → Nat} {K : Nat} {C' : Nat → Nat → Int32} {m : Nat} (h : ly_L2 C D F sz B sm ln sp K C' m) : ∀ t, t < am_st sz F → ly_bd F sz B t → ¬ ly_cv (am_st sz F) (am_op D F sz B) (am_en D F sz B) sm ln sp K t → C' 58 t = nI (ly_W C D F sz B sm ln sp K t) := h.2.1
theorem ly_L2.oc {C D : Nat → Nat → Int32} {F : Nat} {sz : Nat → Nat} {B : Nat → Prop} {sm : Nat → Nat → Prop} {ln sp : Nat → Nat} {K : Nat} {C' : Nat → Nat → Int32} {m : Nat} (h : ly_L2 C D F sz B sm ln sp K C' m) : ∀ k j, k < K → sq_ok (am_st sz F) (am_op D F sz B) (am_en D F sz B) sm ln sp k j → C' 24 (sq_fo (am_st sz F) (am_op D F sz B) (am_en D F sz B) sm ln sp k + (sq_gk (am_st sz F) (am_op D F sz B) (am_en D F sz B) sm ln sp k j).1) = nI (ly_W C D F sz B sm ln sp K j) := h.2.2.1
theorem ly_L2.fi {C D : Nat → Nat → Int32} {F : Nat} {sz : Nat → Nat} {B : Nat → Prop} {sm : Nat → Nat → Prop} {ln sp : Nat → Nat} {K : Nat} {C' : Nat → Nat → Int32} {m : Nat} (h : ly_L2 C D F sz B sm ln sp K C' m) : ∀ f, f < F → B f → C' 14 f = nI (ly_W C D F sz B sm ln sp K (am_st sz f)) := h.2.2.2.1
theorem ly_L2.ro {C D : Nat → Nat → Int32} {F : Nat} {sz : Nat → Nat} {B : Nat → Prop} {sm : Nat → Nat → Prop} {ln sp : Nat → Nat} {K : Nat} {C' : Nat → Nat → Int32} {m : Nat} (h : ly_L2 C D F sz B sm ln sp K C' m) : ∀ k, k < m → C' 20 k = nI (ly_R C D F sz B sm ln sp K k) := h.2.2.2.2
def ly_L3 (C D : Nat → Nat → Int32) (F : Nat) (sz : Nat → Nat) (B : Nat → Prop) (bo : Nat → Nat) (sm : Nat → Nat → Prop) (ln sp : Nat → Nat) (K : Nat) (C1 C' : Nat → Nat → Int32) (s : Nat) : Prop := (∀ c j, c ≠ 12 → (c ≠ 11 ∨ j ≠ 3) → C' c j = C1 c j) ∧ (C' 11 3 = nI (ly_W C D F sz B sm ln sp K s)) ∧ (∀ f p r, f < F → p < sz f → am_st sz f + p < s → r < ly_n C D F sz B sm ln sp K (am_st sz f + p) → C' 12 (ly_W C D F sz B sm ln sp K (am_st sz f + p) + r) = ly_v C D F sz B bo sm ln sp K f (am_st sz f + p) r)
theorem ly_L3.fr {C D : Nat → Nat → Int32} {F : Nat} {sz : Nat → Nat} {B : Nat → Prop} {bo : Nat → Nat} {sm : Nat → Nat → Prop} {ln sp : Nat → Nat} {K : Nat} {C1 C' : Nat → Nat → Int32} {s : Nat} (h : ly_L3 C D F sz B bo sm ln sp K C1 C' s) : ∀ c j, c ≠ 12 → (c ≠ 11 ∨ j ≠ 3) → C' c j = C1 c j := h.1
theorem ly_L3.n {C D : Nat → Nat → Int32} {F : Nat} {sz : Nat → Nat} {B : Nat → Prop} {bo : Nat → Nat} {sm : Nat → Nat → Prop} {ln sp : Nat → Nat} {K : Nat} {C1 C' : Nat → Nat → Int32} {s : Nat} (h : ly_L3 C D F sz B bo sm ln sp K C1 C' s) : C' 11 3 = nI (ly_W C D F sz B sm ln sp K s) := h.2.1
theorem ly_L3.wb {C D : Nat → Nat → Int32} {F : Nat} {sz : Nat → Nat} {B : Nat → Prop} {bo : Nat → Nat} {sm : Nat → Nat → Prop} {ln sp : Nat → Nat} {K : Nat} {C1 C' : Nat → Nat → Int32} {s : Nat} (h : ly_L3 C D F sz B bo sm ln sp K C1 C' s) : ∀ f p r, f < F → p < sz f → am_st sz f + p < s → r < ly_n C D F sz B sm ln sp K (am_st sz f + p) → C' 12 (ly_W C D F sz B sm ln sp K (am_st sz f + p) + r) = ly_v C D F sz B bo sm ln sp K f (am_st sz f + p) r := h.2.2
section LYQ
variable {C D : Nat → Nat → Int32} {F : Nat} {sz : Nat → Nat} {B : Nat → Prop} {bo : Nat → Nat} {sm : Nat → Nat → Prop} {ln sp : Nat → Nat} {K : Nat} {C1 C' : Nat → Nat → Int32} {f p : Nat}
theorem ly_L3.pg (hE : ly_E2 C D F sz B bo sm ln sp K) (hL : ly_L2 C D F sz B sm ln sp K C1 K) {s : Nat} (hI : ly_L3 C D F sz B bo sm ln sp K C1 C' s) : am_PG C' D F sz := hE.e.pg.fr (fun c j h1 h2 _ => (hI.fr c j (by omega) (by omega)).trans (hL.fr c j (by omega) (by omega) (by omega) (by omega))) (fun _ _ _ _ _ => rfl)
/-- no word, one, two -/
theorem ly_L3.w0 {s : Nat} (hn : ly_n C D F sz B sm ln sp K s = 0) (hI : ly_L3 C D F sz B bo sm ln sp K C1 C' s) : ly_L3 C D F sz B bo sm ln sp K C1 C' (s + 1) := by
  refine ⟨hI.fr, by rw [ly_W_s, hn]; exact hI.n, fun f p r h1 h2 h3 h4 => ?_⟩
  by_cases e : am_st sz f + p = s
  · rw [e, hn] at h4; omega
  · exact hI.wb f p r h1 h2 (by omega) h4
theorem ly_L3.w1 (hf : f < F) (hp : p < sz f) (h6 : ly_W C D F sz B sm ln sp K (am_st sz f + p) < 600) {w : Int32} (hn : ly_n C D F sz B sm ln sp K (am_st sz f + p) = 1) (hw : w = ly_v C D F sz B bo sm ln sp K f (am_st sz f + p) 0) (hI : ly_L3 C D F sz B bo sm ln sp K C1 C' (am_st sz f + p)) : ly_L3 C D F sz B bo sm ln sp K C1 (am_app C' w) (am_st sz f + p + 1) := by
  rw [am_app_n hI.n h6]
  refine ⟨fun c j a1 a2 => ?_, by rw [am_u_eq, ly_W_s, hn], fun g q r h1 h2 h3 h4 => ?_⟩
  · rw [show am_u (am_u C' 12 (ly_W C D F sz B sm ln sp K (am_st sz f + p)) w) 11 3 (nI (ly_W C D F sz B sm ln sp K (am_st sz f + p) + 1)) c j = am_u C' 12 (ly_W C D F sz B sm ln sp K (am_st sz f + p)) w c j from by unfold am_u; rw [if_neg (by omega)], am_u_ne a1]
    exact hI.fr c j a1 a2
  · rw [am_u_ne (by decide)]
    by_cases e : am_st sz g + q = am_st sz f + p
    · obtain ⟨e1, e2⟩ := am_st_u h2 hp e
      subst e1; subst e2
      rw [hn] at h4
      have : r = 0 := by omega
      subst this
      rw [Nat.add_zero, am_u_eq]
      exact hw
    · have l1 : ly_W C D F sz B sm ln sp K (am_st sz g + q + 1) ≤ ly_W C D F sz B sm ln sp K (am_st sz f + p) := ly_W_le (by omega)
      rw [ly_W_s] at l1
      rw [am_u_nj (by omega)]
      exact hI.wb g q r h1 h2 (by omega) h4
theorem ly_L3.w2 (hf : f < F) (hp : p < sz f) (h6 : ly_W C D F sz B sm ln sp K (am_st sz f + p) + 1 < 600) {w w' : Int32} (hn : ly_n C D F sz B sm ln sp K (am_st sz f + p) = 2) (hw : w = ly_v C D F sz B bo sm ln sp K f (am_st sz f + p) 0) (hw' : w' = ly_v C D F sz B bo sm ln sp K f (am_st sz f + p) 1) (hI : ly_L3 C D F sz B bo sm ln sp K C1 C' (am_st sz f + p)) : ly_L3 C D F sz B bo sm ln sp K C1 (am_app (am_app C' w) w') (am_st sz f + p + 1) := by
  rw [am_app_n hI.n (by omega), am_app_n (n := ly_W C D F sz B sm ln sp K (am_st sz f + p) + 1) am_u_eq h6]
  refine ⟨fun c j a1 a2 => ?_, by rw [am_u_eq, ly_W_s, hn], fun g q r h1 h2 h3 h4 => ?_⟩
  · unfold am_u
    rw [if_neg (by omega), if_neg (by omega), if_neg (by omega), if_neg (by omega)]
    exact hI.fr c j a1 a2
  · rw [am_u_ne (by decide)]
    by_cases e : am_st sz g + q = am_st sz f + p
    · obtain ⟨e1, e2⟩ := am_st_u h2 hp e
      subst e1; subst e2
      rw [hn] at h4
      by_cases er : r = 0
      · subst er
        rw [am_u_nj (by omega), am_u_ne (by decide), Nat.add_zero, am_u_eq]
        exact hw
      · have : r = 1 := by omega
        subst this
        rw [am_u_eq]
        exact hw'
    · have l1 : ly_W C D F sz B sm ln sp K (am_st sz g + q + 1) ≤ ly_W C D F sz B sm ln sp K (am_st sz f + p) := ly_W_le (by omega)
      rw [ly_W_s] at l1
      rw [am_u_nj (by omega), am_u_ne (by decide), am_u_nj (by omega)]
      exact hI.wb g q r h1 h2 (by omega) h4
/-- the reads of the linker -/
theorem ly_L3.wop (hE : ly_E2 C D F sz B bo sm ln sp K) (hL : ly_L2 C D F sz B sm ln sp K C1 K) (hf : f < F) (hB : B f) {s q : Nat} (hI : ly_L3 C D F sz B bo sm ln sp K C1 C' s) (hq : q < sz f) (he : am_en D F sz B (am_st sz f + q)) : am_wop C' (nI f) (nI q) = nI (ly_W C D F sz B sm ln sp K (am_st sz f + q)) := by
  have hP := hI.pg hE hL
  have h40 := hP.s40 f hf
  have hF := hP.hF
  have ht := hP.t300
  have hl := hP.lt hf hq
  unfold am_wop
  have e : am_spo C' (nI f) (nI q) = nI (am_st sz f + q) := by
    rcases am_spoP hP (f := f) (p := q) (by omega) (by omega) with z | z
    · exact z.2.2
    · exact absurd ⟨hf, hq⟩ z.1
  rw [e, if_neg (nI_pos (by omega)), if_pos (show nI (am_st sz f + q) < 300 from nI_lt (a := am_st sz f + q) (b := 300) (by omega) (by decide)), nI_clamp (by omega), hI.fr 58 _ (by decide) (Or.inl (by decide))]
  exact hL.wo _ hl ((ly_bd_i hf hq).mpr hB) (ly_en_cv (fun k hk => by have := (hE.e.l2 hk).1; omega) he)
theorem ly_L3.bdy (hE : ly_E2 C D F sz B bo sm ln sp K) (hL : ly_L2 C D F sz B sm ln sp K C1 K) {s q : Nat} (hI : ly_L3 C D F sz B bo sm ln sp K C1 C' s) (hq : q < F) : am_bdy C' (nI q) = nI (bo q) := by
  have hF := hE.e.pg.hF
  unfold am_bdy
  rw [hI.fr 11 4 (by decide) (Or.inr (by decide)), hL.fr 11 4 (by decide) (by decide) (by decide) (by decide), hE.e.c4, if_pos ⟨nI_pos' (by omega), nI_lt hq (by omega)⟩, nI_clamp (by omega), hI.fr 13 q (by decide) (Or.inl (by decide)), hL.fr 13 q (by decide) (by decide) (by decide) (by decide)]
  exact (hE.bo q hq).2.2
theorem ly_L3.fwo (hE : ly_E2 C D F sz B bo sm ln sp K) (hL : ly_L2 C D F sz B sm ln sp K C1 K) {s q : Nat} (hI : ly_L3 C D F sz B bo sm ln sp K C1 C' s) (hq : q < F) : am_fwo C' (nI (bo q)) = nI (ly_W C D F sz B sm ln sp K (am_st sz (bo q))) := by
  have hF := hE.e.pg.hF
  have hb := hE.bo q hq
  unfold am_fwo
  rw [hI.fr 11 4 (by decide) (Or.inr (by decide)), hL.fr 11 4 (by decide) (by decide) (by decide) (by decide), hE.e.c4, if_pos ⟨nI_pos' (by omega), nI_lt hb.1 (by omega)⟩, nI_clamp (by omega), hI.fr 14 _ (by decide) (Or.inl (by decide))]
  exact hL.fi _ hb.1 hb.2.1
theorem ly_L3.adr (hE : ly_E2 C D F sz B bo sm ln sp K) (hL : ly_L2 C D F sz B sm ln sp K C1 K) {s q : Nat} (hI : ly_L3 C D F sz B bo sm ln sp K C1 C' s) (hq : q < F) : am_adr C' (nI (bo q)) = 4096 + 4 * nI (ly_W C D F sz B sm ln sp K (am_st sz (bo q))) := by
  have hF := hE.e.pg.hF
  have hb := hE.bo q hq
  unfold am_adr
  rw [hI.fr 11 4 (by decide) (Or.inr (by decide)), hL.fr 11 4 (by decide) (by decide) (by decide) (by decide), hE.e.c4, if_pos ⟨nI_pos' (by omega), nI_lt hb.1 (by omega)⟩, nI_clamp (by omega), hI.fr 14 _ (by decide) (Or.inl (by decide)), hL.fi _ hb.1 hb.2.1]
/-- what is written of an instruction that is in no routine -/
theorem ly_L3.wi (hE : ly_E2 C D F sz B bo sm ln sp K) (hL : ly_L2 C D F sz B sm ln sp K C1 K) (hf : f < F) (hp : p < sz f) (hB : B f) (hI : ly_L3 C D F sz B bo sm ln sp K C1 C' (am_st sz f + p)) : (¬ C 2 (am_st sz f + p) = 32 → am_wis C' (nI f) (nI (am_st sz f + p)) = am_app C' (ly_cd C D F sz B bo sm ln sp K f (am_st sz f + p))) ∧ (C 2 (am_st sz f + p) = 32 → am_wis C' (nI f) (nI (am_st sz f + p)) = am_wa C' (C 3 (am_st sz f + p)) (ly_ad C D F sz B bo sm ln sp K (am_st sz f + p))) := by
  have hP := hI.pg hE hL
  have ht := hP.t300
  have hl := hP.lt hf hp
  have hF := hP.hF
  have h40 := hP.s40 f hf
  have fr : ∀ c, 2 ≤ c → c ≤ 5 → C' c (am_st sz f + p) = C c (am_st sz f + p) := fun c h1 h2 => (hI.fr c _ (by omega) (by omega)).trans (hL.fr c _ (by omega) (by omega) (by omega) (by omega))
  have e2 : am_num C' (nI (am_st sz f + p)) = C 2 (am_st sz f + p) := by
    unfold am_num
    rw [if_pos (hP.inS hl), nI_clamp (by omega)]; exact fr 2 (by decide) (by decide)
  have e3 : am_fa C' (nI (am_st sz f + p)) = C 3 (am_st sz f + p) := by
    unfold am_fa
    rw [if_pos (hP.inS hl), nI_clamp (by omega)]; exact fr 3 (by decide) (by decide)
  have e4 : am_fb C' (nI (am_st sz f + p)) = C 4 (am_st sz f + p) := by
    unfold am_fb
    rw [if_pos (hP.inS hl), nI_clamp (by omega)]; exact fr 4 (by decide) (by decide)
  have e5 : am_fc C' (nI (am_st sz f + p)) = C 5 (am_st sz f + p) := by
    unfold am_fc
    rw [if_pos (hP.inS hl), nI_clamp (by omega)]; exact fr 5 (by decide) (by decide)
  unfold am_wis ly_cd
  rw [e2, e3, e4, e5, hI.n]
  refine ⟨fun h32 => ?_, fun h32 => ?_⟩
  · by_cases h28 : C 2 (am_st sz f + p) = 28
    · rw [if_pos h28, if_pos h28]
      obtain ⟨q, q1, q2, q3, q4⟩ := ly_p28 hE hf hp hB h28
      rw [q2, hI.wop hE hL hf hB q1 q4, nI_clamp (by omega)]
    rw [if_neg h28, if_neg h28]
    by_cases h29 : C 2 (am_st sz f + p) = 29
    · rw [if_pos h29, if_pos h29]
      obtain ⟨q, q1, q2, q3⟩ := ly_p29 hE hf hp (Or.inl h29)
      rw [q2, hI.bdy hE hL q1, hI.fwo hE hL q1, nI_clamp (by omega)]
    rw [if_neg h29, if_neg h29]
    by_cases h30 : C 2 (am_st sz f + p) = 30
    · rw [if_pos h30, if_pos h30]
      obtain ⟨q, q1, q2, q3⟩ := ly_p29 hE hf hp (Or.inr h30)
      rw [q2, hI.bdy hE hL q1, hI.fwo hE hL q1, nI_clamp (by omega)]
    rw [if_neg h30, if_neg h30]
    by_cases h31 : C 2 (am_st sz f + p) = 31
    · rw [if_pos h31, if_pos h31]
    rw [if_neg h31, if_neg h31, if_neg h32]
    by_cases h33 : C 2 (am_st sz f + p) = 33
    · rw [if_pos h33, if_pos h33]
    rw [if_neg h33, if_neg h33]
    by_cases hbr : zb (¬ C 2 (am_st sz f + p) < 22 ∧ ¬ 27 < C 2 (am_st sz f + p)) = 0
    · rw [if_pos hbr, if_pos hbr]
    rw [if_neg hbr, if_neg hbr]
    obtain ⟨q, q1, q2, q3, q4⟩ := ly_pbr hE hf hp hB (zb_ne.mp hbr)
    rw [q2, hI.wop hE hL hf hB q1 q4, nI_clamp (by omega)]
  · obtain ⟨q, q1, q2, q3⟩ := ly_p32 hE hf hp h32
    rw [h32, if_neg (by decide), if_neg (by decide), if_neg (by decide), if_neg (by decide), if_pos rfl, q2, hI.bdy hE hL q1, hI.adr hE hL q1]
    unfold ly_ad
    rw [q2, nI_clamp (by omega)]
end LYQ
