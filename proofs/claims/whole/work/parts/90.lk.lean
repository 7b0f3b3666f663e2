/-- what the linker starts from -/
def ly_E (C D : Nat → Nat → Int32) (F : Nat) (sz : Nat → Nat) (B : Nat → Prop) (sm : Nat → Nat → Prop) (ln sp : Nat → Nat) (K : Nat) : Prop := (am_PG C D F sz) ∧ (∀ f, f < F → ¬ am_Op D sz f) ∧ (C 11 4 = nI F) ∧ (∀ f, f < F → (C 13 f = nI f ↔ B f)) ∧ (sq_RS C F sz (am_op D F sz B) (am_en D F sz B) sm ln sp K) ∧ (sq_Q (am_st sz F) (am_op D F sz B) (am_en D F sz B) sm ln sp K) ∧ (K ≤ 60)
theorem ly_E.pg {C D : Nat → Nat → Int32} {F : Nat} {sz : Nat → Nat} {B : Nat → Prop} {sm : Nat → Nat → Prop} {ln sp : Nat → Nat} {K : Nat} (h : ly_E C D F sz B sm ln sp K) : am_PG C D F sz := h.1
theorem ly_E.op {C D : Nat → Nat → Int32} {F : Nat} {sz : Nat → Nat} {B : Nat → Prop} {sm : Nat → Nat → Prop} {ln sp : Nat → Nat} {K : Nat} (h : ly_E C D F sz B sm ln sp K) : ∀ f, f < F → ¬ am_Op D sz f := h.2.1
theorem ly_E.c4 {C D : Nat → Nat → Int32} {F : Nat} {sz : Nat → Nat} {B : Nat → Prop} {sm : Nat → Nat → Prop} {ln sp : Nat → Nat} {K : Nat} (h : ly_E C D F sz B sm ln sp K) : C 11 4 = nI F := h.2.2.1
theorem ly_E.bd {C D : Nat → Nat → Int32} {F : Nat} {sz : Nat → Nat} {B : Nat → Prop} {sm : Nat → Nat → Prop} {ln sp : Nat → Nat} {K : Nat} (h : ly_E C D F sz B sm ln sp K) : ∀ f, f < F → (C 13 f = nI f ↔ B f) := h.2.2.2.1
theorem ly_E.rs {C D : Nat → Nat → Int32} {F : Nat} {sz : Nat → Nat} {B : Nat → Prop} {sm : Nat → Nat → Prop} {ln sp : Nat → Nat} {K : Nat} (h : ly_E C D F sz B sm ln sp K) : sq_RS C F sz (am_op D F sz B) (am_en D F sz B) sm ln sp K := h.2.2.2.2.1
theorem ly_E.qq {C D : Nat → Nat → Int32} {F : Nat} {sz : Nat → Nat} {B : Nat → Prop} {sm : Nat → Nat → Prop} {ln sp : Nat → Nat} {K : Nat} (h : ly_E C D F sz B sm ln sp K) : sq_Q (am_st sz F) (am_op D F sz B) (am_en D F sz B) sm ln sp K := h.2.2.2.2.2.1
theorem ly_E.k60 {C D : Nat → Nat → Int32} {F : Nat} {sz : Nat → Nat} {B : Nat → Prop} {sm : Nat → Nat → Prop} {ln sp : Nat → Nat} {K : Nat} (h : ly_E C D F sz B sm ln sp K) : K ≤ 60 := h.2.2.2.2.2.2
theorem ly_E.l2 {C D : Nat → Nat → Int32} {F : Nat} {sz : Nat → Nat} {B : Nat → Prop} {sm : Nat → Nat → Prop} {ln sp : Nat → Nat} {K : Nat} (h : ly_E C D F sz B sm ln sp K) {k : Nat} (hk : k < K) : 2 ≤ ln k ∧ ln k ≤ 20 := ⟨(h.qq k hk).l2, (h.qq k hk).l20⟩
theorem ly_E.fo {C D : Nat → Nat → Int32} {F : Nat} {sz : Nat → Nat} {B : Nat → Prop} {sm : Nat → Nat → Prop} {ln sp : Nat → Nat} {K : Nat} (h : ly_E C D F sz B sm ln sp K) : sq_fo (am_st sz F) (am_op D F sz B) (am_en D F sz B) sm ln sp K ≤ 150 := by
  have a := sq_fo_b (N := am_st sz F) (op := am_op D F sz B) (en := am_en D F sz B) (sm := sm) (sp := sp) (K := K) (fun k hk => (h.l2 hk).1)
  have b := am_ct_le (P := sq_U (am_st sz F) (am_op D F sz B) (am_en D F sz B) sm ln sp K) (am_st sz F)
  have c := h.pg.t300
  omega
theorem ly_E.W6 {C D : Nat → Nat → Int32} {F : Nat} {sz : Nat → Nat} {B : Nat → Prop} {sm : Nat → Nat → Prop} {ln sp : Nat → Nat} {K : Nat} (h : ly_E C D F sz B sm ln sp K) {s : Nat} (hs : s ≤ am_st sz F) : am_st (ly_w (ly_bd F sz B) (sq_U (am_st sz F) (am_op D F sz B) (am_en D F sz B) sm ln sp K) (ly_bg (am_st sz F) (am_op D F sz B) (am_en D F sz B) sm ln sp K) (fun t => C 2 t = 32)) s ≤ 600 := by
  have a := ly_bound (bd := ly_bd F sz B) (o2 := fun t => C 2 t = 32) h.qq
  have b : am_st (ly_w (ly_bd F sz B) (sq_U (am_st sz F) (am_op D F sz B) (am_en D F sz B) sm ln sp K) (ly_bg (am_st sz F) (am_op D F sz B) (am_en D F sz B) sm ln sp K) (fun t => C 2 t = 32)) s ≤ am_st (ly_w (ly_bd F sz B) (sq_U (am_st sz F) (am_op D F sz B) (am_en D F sz B) sm ln sp K) (ly_bg (am_st sz F) (am_op D F sz B) (am_en D F sz B) sm ln sp K) (fun t => C 2 t = 32)) (am_st sz F) := am_st_le hs
  have c := h.pg.t300
  omega
def ly_L (C D : Nat → Nat → Int32) (F : Nat) (sz : Nat → Nat) (B : Nat → Prop) (sm : Nat → Nat → Prop) (ln sp : Nat → Nat) (K : Nat) (C' : Nat → Nat → Int32) (s : Nat) : Prop := (∀ c j, c ≠ 14 → c ≠ 24 → c ≠ 58 → C' c j = C c j) ∧ (∀ t, t < s → ly_bd F sz B t → ¬ ly_cv (am_st sz F) (am_op D F sz B) (am_en D F sz B) sm ln sp K t → C' 58 t = nI (am_st (ly_w (ly_bd F sz B) (sq_U (am_st sz F) (am_op D F sz B) (am_en D F sz B) sm ln sp K) (ly_bg (am_st sz F) (am_op D F sz B) (am_en D F sz B) sm ln sp K) (fun t => C 2 t = 32)) t)) ∧ (∀ k j, k < K → j < s → sq_ok (am_st sz F) (am_op D F sz B) (am_en D F sz B) sm ln sp k j → C' 24 (sq_fo (am_st sz F) (am_op D F sz B) (am_en D F sz B) sm ln sp k + (sq_gk (am_st sz F) (am_op D F sz B) (am_en D F sz B) sm ln sp k j).1) = nI (am_st (ly_w (ly_bd F sz B) (sq_U (am_st sz F) (am_op D F sz B) (am_en D F sz B) sm ln sp K) (ly_bg (am_st sz F) (am_op D F sz B) (am_en D F sz B) sm ln sp K) (fun t => C 2 t = 32)) j)) ∧ (∀ f, f < F → B f → am_st sz f < s → C' 14 f = nI (am_st (ly_w (ly_bd F sz B) (sq_U (am_st sz F) (am_op D F sz B) (am_en D F sz B) sm ln sp K) (ly_bg (am_st sz F) (am_op D F sz B) (am_en D F sz B) sm ln sp K) (fun t => C 2 t = 32)) (am_st sz f)))
theorem ly_L.fr {C D : Nat → Nat → Int32} {F : Nat} {sz : Nat → Nat} {B : Nat → Prop} {sm : Nat → Nat → Prop} {ln sp : Nat → Nat} {K : Nat} {C' : Nat → Nat → Int32} {s : Nat} (h : ly_L C D F sz B sm ln sp K C' s) : ∀ c j, c ≠ 14 → c ≠ 24 → c ≠ 58 → C' c j = C c j := h.1
theorem ly_L.wo {C D : Nat → Nat → Int32} {F : Nat} {sz : Nat → Nat} {B : Nat → Prop} {sm : Nat → Nat → Prop} {ln sp : Nat → Nat} {K : Nat} {C' : Nat → Nat → Int32} {s : Nat} (h : ly_L C D F sz B sm ln sp K C' s) : ∀ t, t < s → ly_bd F sz B t → ¬ ly_cv (am_st sz F) (am_op D F sz B) (am_en D F sz B) sm ln sp K t → C' 58 t = nI (am_st (ly_w (ly_bd F sz B) (sq_U (am_st sz F) (am_op D F sz B) (am_en D F sz B) sm ln sp K) (ly_bg (am_st sz F) (am_op D F sz B) (am_en D F sz B) sm ln sp K) (fun t => C 2 t = 32)) t) := h.2.1
theorem ly_L.oc {C D : Nat → Nat → Int32} {F : Nat} {sz : Nat → Nat} {B : Nat → Prop} {sm : Nat → Nat → Prop} {ln sp : Nat → Nat} {K : Nat} {C' : Nat → Nat → Int32} {s : Nat} (h : ly_L C D F sz B sm ln sp K C' s) : ∀ k j, k < K → j < s → sq_ok (am_st sz F) (am_op D F sz B) (am_en D F sz B) sm ln sp k j → C' 24 (sq_fo (am_st sz F) (am_op D F sz B) (am_en D F sz B) sm ln sp k + (sq_gk (am_st sz F) (am_op D F sz B) (am_en D F sz B) sm ln sp k j).1) = nI (am_st (ly_w (ly_bd F sz B) (sq_U (am_st sz F) (am_op D F sz B) (am_en D F sz B) sm ln sp K) (ly_bg (am_st sz F) (am_op D F sz B) (am_en D F sz B) sm ln sp K) (fun t => C 2 t = 32)) j) := h.2.2.1
theorem ly_L.fi {C D : Nat → Nat → Int32} {F : Nat} {sz : Nat → Nat} {B : Nat → Prop} {sm : Nat → Nat → Prop} {ln sp : Nat → Nat} {K : Nat} {C' : Nat → Nat → Int32} {s : Nat} (h : ly_L C D F sz B sm ln sp K C' s) : ∀ f, f < F → B f → am_st sz f < s → C' 14 f = nI (am_st (ly_w (ly_bd F sz B) (sq_U (am_st sz F) (am_op D F sz B) (am_en D F sz B) sm ln sp K) (ly_bg (am_st sz F) (am_op D F sz B) (am_en D F sz B) sm ln sp K) (fun t => C 2 t = 32)) (am_st sz f)) := h.2.2.2
theorem ly_w_bg {bd U bg o2 : Nat → Prop} {t : Nat} (h1 : bd t) (h2 : U t) (h3 : bg t) : ly_w bd U bg o2 t = 1 := by
  unfold ly_w
  rw [ly_t h1, ly_t h2, ly_t h3]
theorem ly_w_cv {bd U bg o2 : Nat → Prop} {t : Nat} (h1 : bd t) (h2 : U t) (h3 : ¬ bg t) : ly_w bd U bg o2 t = 0 := by
  unfold ly_w
  rw [ly_t h1, ly_t h2, ly_f h3]
theorem ly_w_2 {bd U bg o2 : Nat → Prop} {t : Nat} (h1 : bd t) (h2 : ¬ U t) (h3 : o2 t) : ly_w bd U bg o2 t = 2 := by
  unfold ly_w
  rw [ly_t h1, ly_f h2, ly_t h3]
theorem ly_w_1 {bd U bg o2 : Nat → Prop} {t : Nat} (h1 : bd t) (h2 : ¬ U t) (h3 : ¬ o2 t) : ly_w bd U bg o2 t = 1 := by
  unfold ly_w
  rw [ly_t h1, ly_f h2, ly_f h3]
theorem ly_w_nb {bd U bg o2 : Nat → Prop} {t : Nat} (h1 : ¬ bd t) : ly_w bd U bg o2 t = 0 := by
  unfold ly_w
  rw [ly_f h1]
theorem am_mx0 (i : Nat) (h : i < 100) : (if (0 : Int32) < nI i - 1 then nI i - 1 else 0) = nI (i - 1) ∨ True := Or.inr trivial
theorem am_st_s (w : Nat → Nat) (s : Nat) : am_st w (s + 1) = am_st w s + w s := rfl
