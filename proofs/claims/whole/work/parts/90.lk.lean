/-- what the linker starts from -/
def ly_E (C D : Nat → Nat → Int32) (F : Nat) (sz : Nat → Nat) (B : Nat → Prop) (sm : Nat → Nat → Prop) (ln sp : Nat → Nat) (K : Nat) : Prop := (am_PG C D F sz) ∧ (∀ f, f < F → ¬ am_Op D sz f) ∧ (C 11 4 = nI F) ∧ (∀ f, f < F → (C 13 f = nI f ↔ B f)) ∧ (sq_RS C F sz (am_op D F sz B) (am_en D F sz B) sm ln sp K) ∧ (sq_Q (am_st sz F) (am_op D F sz B) (am_en D F sz B) sm ln sp K) ∧ (K ≤ 60)
theorem ly_E.pg {C D : Nat → Nat → Int32} {F : Nat} {sz : Nat → Nat} {B : Nat → Prop} {sm : Nat → Nat → Prop} {ln sp : Nat → Nat} {K : Nat} (h : ly_E C D F sz B sm ln sp K) : am_PG C D F sz := h.1
theorem ly_E.op {C D : Nat → Nat → Int32} {F : Nat} {sz : Nat → Nat} {B : Nat → Prop} {sm : Nat → Nat → Prop} {ln sp : Nat → Nat} {K : Nat} (h : ly_E C D F sz B sm ln sp K) : ∀ f, f < F → ¬ am_Op D sz f := h.2.1
theorem ly_E.c4 {C D : Nat → Nat → Int32} {F : Nat} {sz : Nat → Nat} {B : Nat → Prop} {sm : Nat → Nat → Prop} {ln sp : Nat → Nat} {K : Nat} (h : ly_E C D F sz B sm ln sp K) : C 11 4 = nI F := h.2.2.1
theorem ly_E.bd {C D : Nat → Nat → Int32} {F : Nat} {sz : Nat → Nat} {B : Nat → Prop} {sm : Nat → Nat → Prop} {ln sp : Nat → Nat} {K : Nat} (h : ly_E C D F sz B sm ln sp K) : ∀ f, f < F → (C 13 f = nI f ↔ B f) := h.2.2.2.1
theorem ly_E.rs {C D : Nat → Nat → Int32} {F : Nat} {sz : Nat → Nat} {B : Nat → Prop} {sm : Nat → Nat → Prop} {ln sp : Nat → Nat} {K : Nat} (h : ly_E C D F sz B sm ln sp K) : sq_RS C F sz (am_op D F sz B) (am_en D F sz B) sm ln sp K := h.2.2.2.2.1
theorem ly_E.qq {C D : Nat → Nat → Int32} {F : Nat} {sz : Nat → Nat} {B : Nat → Prop} {sm : Nat → Nat → Prop} {ln sp : Nat → Nat} {K : Nat} (h : ly_E C D F sz B sm ln sp K) : sq_Q (am_st sz F) (am_op D F sz B) (am_en D F sz B) sm ln sp K := h.2.2.2.2.2.1
theorem ly_E.k60 {C D : Nat → Nat → Int32} {F : Nat} {sz : Nat → Nat} {B : Nat → Prop} {sm : Nat → Nat → Prop} {ln sp : Nat → Nat} {K : Nat} (h : ly_E C D F sz B sm ln sp K) : K ≤ 60 := h.2.2.2.2.2.2
theorem ly_E.l2 {C D : Nat → Nat → Int32} {F : Nat} {sz : Nat → Nat} {B : Nat → Prop} {sm : Nat → Nat → Prop} {ln sp : Nat → Nat} {K : Nat} (h : ly_E C D F sz B sm ln sp K) {k : Nat} (hk : k < K) : 2 ≤ ln k ∧ ln k ≤ 20 := ⟨(h.qq k hk).l2, (h.qq k hk).l20⟩
theorem ly_E.fo {C D : Nat → Nat → Int32} {F : Nat} {sz : Nat → Nat} {B : Nat → Prop} {sm : Nat → Nat → Prop} {ln sp : Nat → Nat} {K : Nat} (h : ly_E C D F sz B sm ln sp K) : sq_fo (am_st sz F) (am_op D F sz B) (am_en D F sz B) sm ln sp K ≤ 150 := by
  have a := sq_fo_b (N := am_st sz F) (op := am_op D F sz B) (en := am_en D F sz B) (sm := sm) (sp := sp) (K := K) (fun k hk => (h.l2 hk).1)
  have b := am_ct_le (P := sq_U (am_st sz F) (am_op D F sz B) (am_en D F sz B) sm ln sp K) (am_st sz F)
  have c := h.pg.t300
  omega
theorem ly_E.W6 {C D : Nat → Nat → Int32} {F : Nat} {sz : Nat → Nat} {B : Nat → Prop} {sm : Nat → Nat → Prop} {ln sp : Nat → Nat} {K : Nat} (h : ly_E C D F sz B sm ln sp K) {s : Nat} (hs : s ≤ am_st sz F) : am_st (ly_w (ly_bd F sz B) (sq_U (am_st sz F) (am_op D F sz B) (am_en D F sz B) sm ln sp K) (ly_bg (am_st sz F) (am_op D F sz B) (am_en D F sz B) sm ln sp K) (fun t => C 2 t = 32)) s ≤ 600 := by
  have a := ly_bound (bd := ly_bd F sz B) (o2 := fun t => C 2 t = 32) h.qq
  have b : am_st (ly_w (ly_bd F sz B) (sq_U (am_st sz F) (am_op D F sz B) (am_en D F sz B) sm ln sp K) (ly_bg (am_st sz F) (am_op D F sz B) (am_en D F sz B) sm ln sp K) (fun t => C 2 t = 32)) s ≤ am_st (ly_w (ly_bd F sz B) (sq_U (am_st sz F) (am_op D F sz B) (am_en D F sz B) sm ln sp K) (ly_bg (am_st sz F) (am_op D F sz B) (am_en D F sz B) sm ln sp K) (fun t => C 2 t = 32)) (am_st sz F) := am_st_le hs
  have c := h.pg.t300
  omega
def ly_L (C D : Nat → Nat → Int32) (F : Nat) (sz : Nat → Nat) (B : Nat → Prop) (sm : Nat → Nat → Prop) (ln sp : Nat → Nat) (K : Nat) (C' : Nat → Nat → Int32) (s g : Nat) : Prop := (∀ c j, c ≠ 14 → c ≠ 24 → c ≠ 58 → C' c j = C c j) ∧ (∀ t, t < s → ly_bd F sz B t → ¬ ly_cv (am_st sz F) (am_op D F sz B) (am_en D F sz B) sm ln sp K t → C' 58 t = nI (am_st (ly_w (ly_bd F sz B) (sq_U (am_st sz F) (am_op D F sz B) (am_en D F sz B) sm ln sp K) (ly_bg (am_st sz F) (am_op D F sz B) (am_en D F sz B) sm ln sp K) (fun t => C 2 t = 32)) t)) ∧ (∀ k j, k < K → j < s → sq_ok (am_st sz F) (am_op D F sz B) (am_en D F sz B) sm ln sp k j → C' 24 (sq_fo (am_st sz F) (am_op D F sz B) (am_en D F sz B) sm ln sp k + (sq_gk (am_st sz F) (am_op D F sz B) (am_en D F sz B) sm ln sp k j).1) = nI (am_st (ly_w (ly_bd F sz B) (sq_U (am_st sz F) (am_op D F sz B) (am_en D F sz B) sm ln sp K) (ly_bg (am_st sz F) (am_op D F sz B) (am_en D F sz B) sm ln sp K) (fun t => C 2 t = 32)) j)) ∧ (∀ f, f < F → B f → f < g → C' 14 f = nI (am_st (ly_w (ly_bd F sz B) (sq_U (am_st sz F) (am_op D F sz B) (am_en D F sz B) sm ln sp K) (ly_bg (am_st sz F) (am_op D F sz B) (am_en D F sz B) sm ln sp K) (fun t => C 2 t = 32)) (am_st sz f)))
theorem ly_L.fr {C D : Nat → Nat → Int32} {F : Nat} {sz : Nat → Nat} {B : Nat → Prop} {sm : Nat → Nat → Prop} {ln sp : Nat → Nat} {K : Nat} {C' : Nat → Nat → Int32} {s g : Nat} (h : ly_L C D F sz B sm ln sp K C' s g) : ∀ c j, c ≠ 14 → c ≠ 24 → c ≠ 58 → C' c j = C c j := h.1
theorem ly_L.wo {C D : Nat → Nat → Int32} {F : Nat} {sz : Nat → Nat} {B : Nat → Prop} {sm : Nat → Nat → Prop} {ln sp : Nat → Nat} {K : Nat} {C' : Nat → Nat → Int32} {s g : Nat} (h : ly_L C D F sz B sm ln sp K C' s g) : ∀ t, t < s → ly_bd F sz B t → ¬ ly_cv (am_st sz F) (am_op D F sz B) (am_en D F sz B) sm ln sp K t → C' 58 t = nI (am_st (ly_w (ly_bd F sz B) (sq_U (am_st sz F) (am_op D F sz B) (am_en D F sz B) sm ln sp K) (ly_bg (am_st sz F) (am_op D F sz B) (am_en D F sz B) sm ln sp K) (fun t => C 2 t = 32)) t) := h.2.1
theorem ly_L.oc {C D : Nat → Nat → Int32} {F : Nat} {sz : Nat → Nat} {B : Nat → Prop} {sm : Nat → Nat → Prop} {ln sp : Nat → Nat} {K : Nat} {C' : Nat → Nat → Int32} {s g : Nat} (h : ly_L C D F sz B sm ln sp K C' s g) : ∀ k j, k < K → j < s → sq_ok (am_st sz F) (am_op D F sz B) (am_en D F sz B) sm ln sp k j → C' 24 (sq_fo (am_st sz F) (am_op D F sz B) (am_en D F sz B) sm ln sp k + (sq_gk (am_st sz F) (am_op D F sz B) (am_en D F sz B) sm ln sp k j).1) = nI (am_st (ly_w (ly_bd F sz B) (sq_U (am_st sz F) (am_op D F sz B) (am_en D F sz B) sm ln sp K) (ly_bg (am_st sz F) (am_op D F sz B) (am_en D F sz B) sm ln sp K) (fun t => C 2 t = 32)) j) := h.2.2.1
theorem ly_L.fi {C D : Nat → Nat → Int32} {F : Nat} {sz : Nat → Nat} {B : Nat → Prop} {sm : Nat → Nat → Prop} {ln sp : Nat → Nat} {K : Nat} {C' : Nat → Nat → Int32} {s g : Nat} (h : ly_L C D F sz B sm ln sp K C' s g) : ∀ f, f < F → B f → f < g → C' 14 f = nI (am_st (ly_w (ly_bd F sz B) (sq_U (am_st sz F) (am_op D F sz B) (am_en D F sz B) sm ln sp K) (ly_bg (am_st sz F) (am_op D F sz B) (am_en D F sz B) sm ln sp K) (fun t => C 2 t = 32)) (am_st sz f)) := h.2.2.2
theorem ly_w_bg {bd U bg o2 : Nat → Prop} {t : Nat} (h1 : bd t) (h2 : U t) (h3 : bg t) : ly_w bd U bg o2 t = 1 := by
  unfold ly_w
  rw [ly_t h1, ly_t h2, ly_t h3]
theorem ly_w_cv {bd U bg o2 : Nat → Prop} {t : Nat} (h1 : bd t) (h2 : U t) (h3 : ¬ bg t) : ly_w bd U bg o2 t = 0 := by
  unfold ly_w
  rw [ly_t h1, ly_t h2, ly_f h3]
theorem ly_w_2 {bd U bg o2 : Nat → Prop} {t : Nat} (h1 : bd t) (h2 : ¬ U t) (h3 : o2 t) : ly_w bd U bg o2 t = 2 := by
  unfold ly_w
  rw [ly_t h1, ly_f h2, ly_t h3]
theorem ly_w_1 {bd U bg o2 : Nat → Prop} {t : Nat} (h1 : bd t) (h2 : ¬ U t) (h3 : ¬ o2 t) : ly_w bd U bg o2 t = 1 := by
  unfold ly_w
  rw [ly_t h1, ly_f h2, ly_f h3]
theorem ly_w_nb {bd U bg o2 : Nat → Prop} {t : Nat} (h1 : ¬ bd t) : ly_w bd U bg o2 t = 0 := by
  unfold ly_w
  rw [ly_f h1]
theorem am_mx1 {i : Nat} (h : i < 100) : (if nI i - 1 < 0 then 0 else nI i - 1) = nI (i - 1) := by
  rcases i with _ | i
  · decide
  · rw [nI_pred, if_neg (nI_pos (by omega))]
    rfl
theorem am_st_s (w : Nat → Nat) (s : Nat) : am_st w (s + 1) = am_st w s + w s := rfl
theorem c_lo2 {C C2 D : Nat → Nat → Int32} {F K f p i : Nat} {sz : Nat → Nat} {B : Nat → Prop} {sm : Nat → Nat → Prop} {ln sp : Nat → Nat} {e : am_E} {Q : am_Q} {kc ks : Nat} {x2 x7 : Value} (hi : i < 100) (KK : am_Go (mX3_layOutBody, 42, [.ref 57, .int (nI f), x2, .int (nI (am_st (ly_w (ly_bd F sz B) (sq_U (am_st sz F) (am_op D F sz B) (am_en D F sz B) sm ln sp K) (ly_bg (am_st sz F) (am_op D F sz B) (am_en D F sz B) sm ln sp K) (fun t => C 2 t = 32)) (am_st sz f + (p + 1)))), .int (nI (am_st sz f + sz f)), .int (nI (i - 1)), .int (nI (am_st sz f + (p + 1))), x7], [], hp C2 e, kc, ks, Q)) : am_Go (mX3_layOutBody, 143, [.ref 57, .int (nI f), x2, .int (nI (am_st (ly_w (ly_bd F sz B) (sq_U (am_st sz F) (am_op D F sz B) (am_en D F sz B) sm ln sp K) (ly_bg (am_st sz F) (am_op D F sz B) (am_en D F sz B) sm ln sp K) (fun t => C 2 t = 32)) (am_st sz f + (p + 1)))), .int (nI (am_st sz f + sz f)), .int (nI i), .int (nI (am_st sz f + p)), x7], [], hp C2 e, kc, ks, Q) := by
  refine go_s 4 rfl ?_
  refine go_max 783 rfl (by decide +kernel) rfl ?_
  refine go_s 3 (pc' := 42) (ls' := [.ref 57, .int (nI f), x2, .int (nI (am_st (ly_w (ly_bd F sz B) (sq_U (am_st sz F) (am_op D F sz B) (am_en D F sz B) sm ln sp K) (ly_bg (am_st sz F) (am_op D F sz B) (am_en D F sz B) sm ln sp K) (fun t => C 2 t = 32)) (am_st sz f + (p + 1)))), .int (nI (am_st sz f + sz f)), .int (nI (i - 1)), .int (nI (am_st sz f + (p + 1))), x7]) (st' := []) (h' := hp C2 e) (by rw [← am_mx1 hi, ← Nat.add_assoc, ← nI_1 (am_st sz f + p)]; rfl) ?_
  exact KK
theorem c_lo {C D : Nat → Nat → Int32} {F K : Nat} {sz : Nat → Nat} {B : Nat → Prop} {sm : Nat → Nat → Prop} {ln sp : Nat → Nat} {e : am_E} {Q : am_Q} (hE : ly_E C D F sz B sm ln sp K) {f : Nat} (hf : f < F) (hB : B f) {x2 : Value} (q : ∀ C', ly_L C D F sz B sm ln sp K C' (am_st sz f + sz f) (f + 1) → Q (some (.int (nI (am_st (ly_w (ly_bd F sz B) (sq_U (am_st sz F) (am_op D F sz B) (am_en D F sz B) sm ln sp K) (ly_bg (am_st sz F) (am_op D F sz B) (am_en D F sz B) sm ln sp K) (fun t => C 2 t = 32)) (am_st sz f + sz f))))) (hp C' e)) : ∀ (n kc ks p i : Nat) (x7 : Value) (C' : Nat → Nat → Int32), sz f < n + p → p ≤ sz f → ly_in (am_st sz F) (am_op D F sz B) (am_en D F sz B) sm ln sp K (am_st sz f + p) i → ly_L C D F sz B sm ln sp K C' (am_st sz f + p) (f + 1) → am_Go (mX3_layOutBody, 42, [.ref 57, .int (nI f), x2, .int (nI (am_st (ly_w (ly_bd F sz B) (sq_U (am_st sz F) (am_op D F sz B) (am_en D F sz B) sm ln sp K) (ly_bg (am_st sz F) (am_op D F sz B) (am_en D F sz B) sm ln sp K) (fun t => C 2 t = 32)) (am_st sz f + p))), .int (nI (am_st sz f + sz f)), .int (nI i), .int (nI (am_st sz f + p)), x7], [], hp C' e, kc, ks, Q)
  | 0, kc, ks, p, i, x7, C', g1, g2, hin, hI => by omega
  | n + 1, kc, ks, p, i, x7, C', g1, g2, hin, hI => by
    have hP := hE.pg
    have hF := hP.hF
    have ht := hP.t300
    have h40 := hP.s40 f hf
    have hlf : am_st sz f + sz f ≤ am_st sz F := am_st_le (sz := sz) (show f + 1 ≤ F by omega)
    refine go_s 3 rfl ?_
    refine go_if (fun c46 => ?_) (fun c46 => ?_)
    rotate_left
    · have hge := mt (nI_lt (a := am_st sz f + p) (b := am_st sz f + sz f) · (by omega)) c46
      have ep : p = sz f := by omega
      subst ep
      refine go_s 1 rfl ?_
      exact go_ret rfl rfl (q _ hI)
    have c46 := (nI_ltI (a := am_st sz f + p) (b := am_st sz f + sz f) (by omega) (by omega)).mp c46
    have hq : p < sz f := by omega
    have hl := hP.lt hf hq
    have hcs := nI_clamp (show am_st sz f + p < 2 ^ 31 by omega)
    have hX : vp_in (nI (am_st sz f + p)) 300 := vp_in_nI (by omega) (by decide)
    have hbd : ly_bd F sz B (am_st sz f + p) := (ly_bd_i hf hq).mpr hB
    have eb : (if ¬ nI (am_st sz f + p) < 0 ∧ nI (am_st sz f + p) < 300 then C' 25 (nI (am_st sz f + p)).toNatClampNeg else -1) = C 25 (am_st sz f + p) := by rw [if_pos ⟨nI_pos (by omega), show nI (am_st sz f + p) < 300 from nI_lt (a := am_st sz f + p) (b := 300) (by omega) (by decide)⟩, hcs, hI.fr 25 _ (by decide) (by decide) (by decide)]
    have w600 := hE.W6 (s := am_st sz f + p) (by omega)
    refine go_s 3 rfl ?_
    refine go_v kX3_layOutBody_55 okX7_beginningAt rfl rfl rfl rfl (Nat.zero_le _) (Nat.zero_le _) ?_
    refine c_X7_beginningAt ?_
    rw [eb]
    have hi100 : i < 100 := by
      rcases hin with z | ⟨_, k, j, a1, _, a3, a4⟩
      · omega
      · have := (hE.l2 a1).2; omega
    by_cases hbg : ly_bg (am_st sz F) (am_op D F sz B) (am_en D F sz B) sm ln sp K (am_st sz f + p)
    · obtain ⟨k, hk, hok⟩ := hbg
      have hbg : ly_bg (am_st sz F) (am_op D F sz B) (am_en D F sz B) sm ln sp K (am_st sz f + p) := ⟨k, hk, hok⟩
      have hl2 := hE.l2 hk
      have hU := ly_bg_U (fun k hk => by have := (hE.l2 hk).1; omega) hbg
      have ew : am_st (ly_w (ly_bd F sz B) (sq_U (am_st sz F) (am_op D F sz B) (am_en D F sz B) sm ln sp K) (ly_bg (am_st sz F) (am_op D F sz B) (am_en D F sz B) sm ln sp K) (fun t => C 2 t = 32)) (am_st sz f + (p + 1)) = am_st (ly_w (ly_bd F sz B) (sq_U (am_st sz F) (am_op D F sz B) (am_en D F sz B) sm ln sp K) (ly_bg (am_st sz F) (am_op D F sz B) (am_en D F sz B) sm ln sp K) (fun t => C 2 t = 32)) (am_st sz f + p) + 1 := by
        rw [← Nat.add_assoc, am_st_s, ly_w_bg hbd hU hbg]
      have w601 := hE.W6 (s := (am_st sz f + (p + 1))) (by omega)
      obtain ⟨g, r, hg, hr, eg, e21, e22, e23, e25⟩ := (hE.rs.ro k hk).oc (am_st sz f + p) hl hok
      have hix := sq_ix_lt hk (show 1 ≤ ln k by omega) hok
      have hfo := hE.fo
      obtain ⟨o, hO⟩ : ∃ o, o = sq_fo (am_st sz F) (am_op D F sz B) (am_en D F sz B) sm ln sp k + (sq_gk (am_st sz F) (am_op D F sz B) (am_en D F sz B) sm ln sp k (am_st sz f + p)).1 := ⟨_, rfl⟩
      rw [← hO] at e21 e22 e23 e25 hix
      have hoo : 0 ≤ nI o ∧ nI o < C' 15 11 := ⟨nI_pos' (by omega), by rw [hI.fr 15 11 (by decide) (by decide) (by decide), hE.rs.cO]; exact nI_lt hix (by omega)⟩
      have hO11 : (C' 15 11).toInt ≤ 150 := am_wl ((hI.fr 15 11 (by decide) (by decide) (by decide)).trans hE.rs.cO) hfo (by decide)
      have hR10 : (C' 15 10).toInt ≤ 60 := am_wl ((hI.fr 15 10 (by decide) (by decide) (by decide)).trans hE.rs.cR) hE.k60 (by decide)
      rw [e25]
      refine go_s 4 rfl ?_
      refine go_if (fun c => absurd c (fun z => nI_pos (n := o) (by omega) (by rw [show nI o = -1 from z]; decide))) (fun c => ?_)
      refine go_s 5 rfl ?_
      refine go_v kX3_layOutBody_76 okX7_ownerAt rfl rfl rfl rfl (Nat.zero_le _) (Nat.zero_le _) ?_
      refine c_X7_ownerAt hO11 ?_
      rw [if_pos hoo, nI_clamp (by omega), hI.fr 21 o (by decide) (by decide) (by decide), e21]
      refine go_v kX3_layOutBody_79 okX7_lengthOf rfl rfl rfl rfl (Nat.zero_le _) (Nat.zero_le _) ?_
      refine c_X7_lengthOf hR10 ?_
      have hkk : 0 ≤ nI k ∧ nI k < C' 15 10 := ⟨nI_pos' (by have := hE.k60; omega), by rw [hI.fr 15 10 (by decide) (by decide) (by decide), hE.rs.cR]; exact nI_lt hk (by have := hE.k60; omega)⟩
      rw [if_pos hkk, nI_clamp (by have := hE.k60; omega), hI.fr 17 k (by decide) (by decide) (by decide), (hE.rs.ro k hk).s17]
      refine go_s 5 rfl ?_
      refine go_v kX3_layOutBody_91 okX7_setWord rfl rfl rfl rfl (Nat.zero_le _) (Nat.zero_le _) ?_
      refine c_X7_setWord hO11 ?_
      rw [if_pos hoo, nI_clamp (by omega)]
      refine go_s 4 rfl ?_
      refine go_m rfl rfl hX ?_
      refine go_s 2 (pc' := 143) (ls' := [.ref 57, .int (nI f), x2, .int (nI (am_st (ly_w (ly_bd F sz B) (sq_U (am_st sz F) (am_op D F sz B) (am_en D F sz B) sm ln sp K) (ly_bg (am_st sz F) (am_op D F sz B) (am_en D F sz B) sm ln sp K) (fun t => C 2 t = 32)) (am_st sz f + (p + 1)))), .int (nI (am_st sz f + sz f)), .int (nI (ln k)), .int (nI (am_st sz f + p)), .int (nI o)]) (st' := []) (h' := hp (am_u (am_u C' 24 o (nI (am_st (ly_w (ly_bd F sz B) (sq_U (am_st sz F) (am_op D F sz B) (am_en D F sz B) sm ln sp K) (ly_bg (am_st sz F) (am_op D F sz B) (am_en D F sz B) sm ln sp K) (fun t => C 2 t = 32)) (am_st sz f + p)))) 58 (nI (am_st sz f + p)).toNatClampNeg (nI (am_st (ly_w (ly_bd F sz B) (sq_U (am_st sz F) (am_op D F sz B) (am_en D F sz B) sm ln sp K) (ly_bg (am_st sz F) (am_op D F sz B) (am_en D F sz B) sm ln sp K) (fun t => C 2 t = 32)) (am_st sz f + p)))) e) (by rw [ew, ← nI_1]; rfl) ?_
      rw [hcs]
      refine c_lo2 (by omega) ?_
      refine c_lo hE hf hB q n _ _ (p + 1) (ln k - 1) _ _ (by omega) (by omega) (ly_in_bg hl2.1 hk hok) ⟨fun c j a1 a2 a3 => ?_, fun t ht b1 b2 => ?_, fun k' j a1 a2 a3 => ?_, fun f' a1 a2 a3 => ?_⟩
      · rw [am_u_ne a3, am_u_ne a2]; exact hI.fr c j a1 a2 a3
      · by_cases et : t = am_st sz f + p
        · subst et; rw [am_u_eq]
        · rw [am_u_nj et, am_u_ne (by decide)]; exact hI.wo t (by omega) b1 b2
      · rw [am_u_ne (by decide)]
        by_cases ej : j = am_st sz f + p
        · rw [ej] at a3 ⊢
          have := ly_uq (t := am_st sz f + p) (show 1 ≤ ln k by omega) hok a3 (Nat.le_refl _) (by omega) (Nat.le_refl _) (by have := (hE.l2 a1).1; omega)
          rw [← this.1, ← hO, am_u_eq]
        · have hne : sq_fo (am_st sz F) (am_op D F sz B) (am_en D F sz B) sm ln sp k' + (sq_gk (am_st sz F) (am_op D F sz B) (am_en D F sz B) sm ln sp k' j).1 ≠ o := fun z => by
            obtain ⟨_, _, _, _, _, d1, _, _, d2⟩ := (hE.rs.ro k' a1).oc j (sq_ok_lt (by have := (hE.l2 a1).1; omega) a3) a3
            rw [z] at d1
            have ek := (nI_eq (by have := hE.k60; omega) (by have := hE.k60; omega)).mp (d1.symm.trans e21)
            subst ek
            have l1 := sq_gr_last (P := sq_Pk (am_st sz F) (am_op D F sz B) (am_en D F sz B) sm ln sp k') (show 1 ≤ ln k' by omega)
            rcases Nat.lt_or_gt_of_ne ej with y | y
            · have := ((l1 (am_st sz f + p)).2 j y a3.1 a3.2).2
              have h0 : (sq_gk (am_st sz F) (am_op D F sz B) (am_en D F sz B) sm ln sp k' j).1 < (sq_gk (am_st sz F) (am_op D F sz B) (am_en D F sz B) sm ln sp k' (am_st sz f + p)).1 := this
              omega
            · have := ((l1 j).2 (am_st sz f + p) y hok.1 hok.2).2
              have h0 : (sq_gk (am_st sz F) (am_op D F sz B) (am_en D F sz B) sm ln sp k' (am_st sz f + p)).1 < (sq_gk (am_st sz F) (am_op D F sz B) (am_en D F sz B) sm ln sp k' j).1 := this
              omega
          rw [am_u_nj hne]; exact hI.oc k' j a1 (by omega) a3
      · rw [am_u_ne (by decide), am_u_ne (by decide)]
        exact hI.fi f' a1 a2 a3
    · have e25 : C 25 (am_st sz f + p) = -1 := hE.rs.no _ (by omega) (fun k hk z => hbg ⟨k, hk, z⟩)
      rw [e25]
      refine go_s 4 rfl ?_
      refine go_if (fun c => ?_) (fun c => absurd rfl c)
      refine go_s 2 rfl ?_
      rcases i with _ | i
      · refine go_if (fun c => ?_) (fun c => absurd rfl c)
        obtain ⟨hin2, hnU⟩ := ly_in_0 hin hbg
        have hP' : am_PG C' D F sz := hP.fr (fun c j h1 h2 _ => hI.fr c j (by omega) (by omega) (by omega)) (fun _ _ _ _ _ => rfl)
        have en : am_num C' (nI (am_st sz f + p)) = C 2 (am_st sz f + p) := by
          unfold am_num
          rw [if_pos (hP'.inS hl), hcs, hI.fr 2 _ (by decide) (by decide) (by decide)]
        refine go_s 4 rfl ?_
        refine go_m rfl rfl hX ?_
        show am_Go (mX3_layOutBody, 121, _, [], hp (am_u C' 58 (nI (am_st sz f + p)).toNatClampNeg (nI (am_st (ly_w (ly_bd F sz B) (sq_U (am_st sz F) (am_op D F sz B) (am_en D F sz B) sm ln sp K) (ly_bg (am_st sz F) (am_op D F sz B) (am_en D F sz B) sm ln sp K) (fun t => C 2 t = 32)) (am_st sz f + p)))) e, _, _, Q)
        rw [hcs]
        have hP2 : am_PG (am_u C' 58 (am_st sz f + p) (nI (am_st (ly_w (ly_bd F sz B) (sq_U (am_st sz F) (am_op D F sz B) (am_en D F sz B) sm ln sp K) (ly_bg (am_st sz F) (am_op D F sz B) (am_en D F sz B) sm ln sp K) (fun t => C 2 t = 32)) (am_st sz f + p)))) D F sz := hP'.fr (fun c j h1 h2 _ => am_u_ne (by omega)) (fun _ _ _ _ _ => rfl)
        have en2 : am_num (am_u C' 58 (am_st sz f + p) (nI (am_st (ly_w (ly_bd F sz B) (sq_U (am_st sz F) (am_op D F sz B) (am_en D F sz B) sm ln sp K) (ly_bg (am_st sz F) (am_op D F sz B) (am_en D F sz B) sm ln sp K) (fun t => C 2 t = 32)) (am_st sz f + p)))) (nI (am_st sz f + p)) = C 2 (am_st sz f + p) := by
          rw [am_num_cg (C := C') (am_u_ne (by decide)) (fun j => am_u_ne (by decide))]; exact en
        have hL2 : ly_L C D F sz B sm ln sp K (am_u C' 58 (am_st sz f + p) (nI (am_st (ly_w (ly_bd F sz B) (sq_U (am_st sz F) (am_op D F sz B) (am_en D F sz B) sm ln sp K) (ly_bg (am_st sz F) (am_op D F sz B) (am_en D F sz B) sm ln sp K) (fun t => C 2 t = 32)) (am_st sz f + p)))) (am_st sz f + (p + 1)) (f + 1) := by
          refine ⟨fun c j a1 a2 a3 => (am_u_ne a3).trans (hI.fr c j a1 a2 a3), fun t ht b1 b2 => ?_, fun k' j a1 a2 a3 => ?_, fun f' a1 a2 a3 => (am_u_ne (by decide)).trans (hI.fi f' a1 a2 a3)⟩
          · by_cases et : t = am_st sz f + p
            · subst et; rw [am_u_eq]
            · rw [am_u_nj et]; exact hI.wo t (by omega) b1 b2
          · rw [am_u_ne (by decide)]
            by_cases ej : j = am_st sz f + p
            · rw [ej] at a3; exact absurd ⟨k', a1, a3⟩ hbg
            · exact hI.oc k' j a1 (by omega) a3
        refine go_s 4 rfl ?_
        refine go_v kX3_layOutBody_128 okX5_numberAt rfl rfl rfl rfl (Nat.zero_le _) (Nat.zero_le _) ?_
        refine c_X5_numberAt hP2.h6 ?_
        rw [en2]
        refine go_s 2 rfl ?_
        by_cases h32 : C 2 (am_st sz f + p) = 32
        · refine go_if (fun c => ?_) (fun c => absurd h32 c)
          have ew : am_st (ly_w (ly_bd F sz B) (sq_U (am_st sz F) (am_op D F sz B) (am_en D F sz B) sm ln sp K) (ly_bg (am_st sz F) (am_op D F sz B) (am_en D F sz B) sm ln sp K) (fun t => C 2 t = 32)) (am_st sz f + (p + 1)) = am_st (ly_w (ly_bd F sz B) (sq_U (am_st sz F) (am_op D F sz B) (am_en D F sz B) sm ln sp K) (ly_bg (am_st sz F) (am_op D F sz B) (am_en D F sz B) sm ln sp K) (fun t => C 2 t = 32)) (am_st sz f + p) + 2 := by
            rw [← Nat.add_assoc, am_st_s, ly_w_2 hbd hnU h32]
          refine go_s 4 (pc' := 143) (ls' := [.ref 57, .int (nI f), x2, .int (nI (am_st (ly_w (ly_bd F sz B) (sq_U (am_st sz F) (am_op D F sz B) (am_en D F sz B) sm ln sp K) (ly_bg (am_st sz F) (am_op D F sz B) (am_en D F sz B) sm ln sp K) (fun t => C 2 t = 32)) (am_st sz f + (p + 1)))), .int (nI (am_st sz f + sz f)), .int (nI 0), .int (nI (am_st sz f + p)), .int (-1)]) (st' := []) (h' := hp (am_u C' 58 (am_st sz f + p) (nI (am_st (ly_w (ly_bd F sz B) (sq_U (am_st sz F) (am_op D F sz B) (am_en D F sz B) sm ln sp K) (ly_bg (am_st sz F) (am_op D F sz B) (am_en D F sz B) sm ln sp K) (fun t => C 2 t = 32)) (am_st sz f + p)))) e) (by rw [ew, ← nI_add (am_st (ly_w (ly_bd F sz B) (sq_U (am_st sz F) (am_op D F sz B) (am_en D F sz B) sm ln sp K) (ly_bg (am_st sz F) (am_op D F sz B) (am_en D F sz B) sm ln sp K) (fun t => C 2 t = 32)) (am_st sz f + p)) 2]; rfl) ?_
          refine c_lo2 (by omega) ?_
          exact c_lo hE hf hB q n _ _ (p + 1) 0 _ _ (by omega) (by omega) hin2 hL2
        · refine go_if (fun c => absurd c h32) (fun c => ?_)
          have ew : am_st (ly_w (ly_bd F sz B) (sq_U (am_st sz F) (am_op D F sz B) (am_en D F sz B) sm ln sp K) (ly_bg (am_st sz F) (am_op D F sz B) (am_en D F sz B) sm ln sp K) (fun t => C 2 t = 32)) (am_st sz f + (p + 1)) = am_st (ly_w (ly_bd F sz B) (sq_U (am_st sz F) (am_op D F sz B) (am_en D F sz B) sm ln sp K) (ly_bg (am_st sz F) (am_op D F sz B) (am_en D F sz B) sm ln sp K) (fun t => C 2 t = 32)) (am_st sz f + p) + 1 := by
            rw [← Nat.add_assoc, am_st_s, ly_w_1 hbd hnU h32]
          refine go_s 3 (pc' := 143) (ls' := [.ref 57, .int (nI f), x2, .int (nI (am_st (ly_w (ly_bd F sz B) (sq_U (am_st sz F) (am_op D F sz B) (am_en D F sz B) sm ln sp K) (ly_bg (am_st sz F) (am_op D F sz B) (am_en D F sz B) sm ln sp K) (fun t => C 2 t = 32)) (am_st sz f + (p + 1)))), .int (nI (am_st sz f + sz f)), .int (nI 0), .int (nI (am_st sz f + p)), .int (-1)]) (st' := []) (h' := hp (am_u C' 58 (am_st sz f + p) (nI (am_st (ly_w (ly_bd F sz B) (sq_U (am_st sz F) (am_op D F sz B) (am_en D F sz B) sm ln sp K) (ly_bg (am_st sz F) (am_op D F sz B) (am_en D F sz B) sm ln sp K) (fun t => C 2 t = 32)) (am_st sz f + p)))) e) (by rw [ew, ← nI_add (am_st (ly_w (ly_bd F sz B) (sq_U (am_st sz F) (am_op D F sz B) (am_en D F sz B) sm ln sp K) (ly_bg (am_st sz F) (am_op D F sz B) (am_en D F sz B) sm ln sp K) (fun t => C 2 t = 32)) (am_st sz f + p)) 1]; rfl) ?_
          refine c_lo2 (by omega) ?_
          exact c_lo hE hf hB q n _ _ (p + 1) 0 _ _ (by omega) (by omega) hin2 hL2
      · refine go_if (fun c => absurd c (nI_ne0 (by omega) (by omega))) (fun c => ?_)
        obtain ⟨hin2, hU, hnb⟩ := ly_in_s (fun k hk => by have := (hE.l2 hk).1; omega) hin
        have ew : am_st (ly_w (ly_bd F sz B) (sq_U (am_st sz F) (am_op D F sz B) (am_en D F sz B) sm ln sp K) (ly_bg (am_st sz F) (am_op D F sz B) (am_en D F sz B) sm ln sp K) (fun t => C 2 t = 32)) (am_st sz f + (p + 1)) = am_st (ly_w (ly_bd F sz B) (sq_U (am_st sz F) (am_op D F sz B) (am_en D F sz B) sm ln sp K) (ly_bg (am_st sz F) (am_op D F sz B) (am_en D F sz B) sm ln sp K) (fun t => C 2 t = 32)) (am_st sz f + p) := by
          rw [← Nat.add_assoc, am_st_s, ly_w_cv hbd hU hnb]
          rfl
        show am_Go (mX3_layOutBody, 143, [.ref 57, .int (nI f), x2, .int (nI (am_st (ly_w (ly_bd F sz B) (sq_U (am_st sz F) (am_op D F sz B) (am_en D F sz B) sm ln sp K) (ly_bg (am_st sz F) (am_op D F sz B) (am_en D F sz B) sm ln sp K) (fun t => C 2 t = 32)) (am_st sz f + p))), .int (nI (am_st sz f + sz f)), .int (nI (i + 1)), .int (nI (am_st sz f + p)), .int (-1)], [], hp C' e, _, _, Q)
        rw [← ew]
        refine c_lo2 (by omega) ?_
        refine c_lo hE hf hB q n _ _ (p + 1) i _ _ (by omega) (by omega) hin2 ⟨hI.fr, fun t ht b1 b2 => ?_, fun k' j a1 a2 a3 => ?_, hI.fi⟩
        · by_cases et : t = am_st sz f + p
          · obtain ⟨_, k, j, d1, d2, d3, d4⟩ := hin.resolve_left (fun z => by omega)
            rw [et] at b2
            exact absurd ⟨k, j, d1, d2, d3, by omega⟩ b2
          · exact hI.wo t (by omega) b1 b2
        · by_cases ej : j = am_st sz f + p
          · rw [ej] at a3; exact absurd ⟨k', a1, a3⟩ hbg
          · exact hI.oc k' j a1 (by omega) a3
