def sq_EN (C : Nat → Nat → Int32) (N : Nat) (op en U : Nat → Prop) (sm : Nat → Nat → Prop) (T : Nat) : Prop := (N ≤ 300) ∧ (T ≤ 20) ∧ (C 26 12 = nI N) ∧ (sq_RC C N op en U) ∧ (∀ m, 1 ≤ m → m ≤ T → sq_NM C N op en sm m N) ∧ (am_eqv sm)
theorem sq_EN.n3 {C : Nat → Nat → Int32} {N : Nat} {op en U : Nat → Prop} {sm : Nat → Nat → Prop} {T : Nat} (h : sq_EN C N op en U sm T) : N ≤ 300 := h.1
theorem sq_EN.t20 {C : Nat → Nat → Int32} {N : Nat} {op en U : Nat → Prop} {sm : Nat → Nat → Prop} {T : Nat} (h : sq_EN C N op en U sm T) : T ≤ 20 := h.2.1
theorem sq_EN.sz {C : Nat → Nat → Int32} {N : Nat} {op en U : Nat → Prop} {sm : Nat → Nat → Prop} {T : Nat} (h : sq_EN C N op en U sm T) : C 26 12 = nI N := h.2.2.1
theorem sq_EN.rc {C : Nat → Nat → Int32} {N : Nat} {op en U : Nat → Prop} {sm : Nat → Nat → Prop} {T : Nat} (h : sq_EN C N op en U sm T) : sq_RC C N op en U := h.2.2.2.1
theorem sq_EN.nm {C : Nat → Nat → Int32} {N : Nat} {op en U : Nat → Prop} {sm : Nat → Nat → Prop} {T : Nat} (h : sq_EN C N op en U sm T) : ∀ m, 1 ≤ m → m ≤ T → sq_NM C N op en sm m N := h.2.2.2.2.1
theorem sq_EN.eq {C : Nat → Nat → Int32} {N : Nat} {op en U : Nat → Prop} {sm : Nat → Nat → Prop} {T : Nat} (h : sq_EN C N op en U sm T) : am_eqv sm := h.2.2.2.2.2
theorem sq_EN.u {C C' : Nat → Nat → Int32} {N T : Nat} {op en U : Nat → Prop} {sm : Nat → Nat → Prop} (h : sq_EN C N op en U sm T) (hf : ∀ c j, ((c = 26 ∧ j = 12) ∨ c = 29 ∨ (32 ≤ c ∧ c ≤ 51)) → C' c j = C c j) : sq_EN C' N op en U sm T := by
  refine ⟨h.n3, h.t20, ?_, fun s hs => ?_, fun m h1 h2 s hs => ?_, h.eq⟩
  · rw [hf 26 12 (Or.inl ⟨rfl, rfl⟩)]; exact h.sz
  · rw [hf 29 s (Or.inr (Or.inl rfl))]; exact h.rc s hs
  · have := h.t20
    rw [hf (31 + m) s (Or.inr (Or.inr ⟨by omega, by omega⟩))]; exact h.nm m h1 h2 s hs
def sq_nv (N : Nat) (op en U : Nat → Prop) (sm : Nat → Nat → Prop) (n s : Nat) (w : Int32) : Prop := (sq_ft N op en U s n ∧ ∃ r, w = nI r ∧ sq_fi N op en sm n s r) ∨ (¬ sq_ft N op en U s n ∧ w = -1)
theorem c_X6_fitNameAt {C : Nat → Nat → Int32} {N T : Nat} {op en U : Nat → Prop} {sm : Nat → Nat → Prop} {e : am_E} {Q : am_Q} (hE : sq_EN C N op en U sm T) {kc ks n s : Nat} (h1 : 1 ≤ n) (hT : n ≤ T) (hs : s < N) (q : ∀ w, sq_nv N op en U sm n s w → Q (some (.int w)) (hp C e)) : am_Go (mX6_fitNameAt, 0, am_ent mX6_fitNameAt [.ref 26, .int (nI s), .int (nI n)], [], hp C e, kc, ks, Q) := by
  have n3 := hE.n3
  have t20 := hE.t20
  have hcs := nI_clamp (show s < 2 ^ 31 by omega)
  obtain ⟨r, hr20, er, hr⟩ := hE.rc s hs
  refine go_s 3 rfl ?_
  refine go_m rfl rfl (show vp_in (nI s) 300 from vp_in_nI (by omega) (by decide)) ?_
  refine go_s 2 rfl ?_
  refine go_if (fun c7 => ?_) (fun c7 => ?_)
  · refine go_s 1 rfl ?_
    have c7 : C 29 (nI s).toNatClampNeg < nI n := c7
    rw [hcs, er] at c7
    exact go_ret rfl rfl (q (-1) (Or.inr ⟨fun z => (by have := (hr n (by omega)).mpr z; have := (nI_ltI (by omega) (by omega)).mp c7; omega), rfl⟩))
  · refine go_s 3 rfl ?_
    refine go_aa30 rfl (by omega) ?_
    refine go_s 1 rfl ?_
    refine go_il30 rfl (by omega) (vp_in_nI (by omega) (by decide)) ?_
    refine go_s 1 rfl ?_
    have c7 : ¬ C 29 (nI s).toNatClampNeg < nI n := c7
    rw [hcs, er] at c7
    have hft : sq_ft N op en U s n := (hr n (by omega)).mp (by have := mt (nI_lt (a := r) (b := n) · (by omega)) c7; omega)
    obtain ⟨_, a, ea, ha⟩ := (hE.nm n h1 hT s hs).resolve_right (fun z => z.1 (sq_ft_U (fun _ y => y.elim) hft))
    exact go_ret rfl rfl (q _ (Or.inl ⟨hft, a, by rw [hcs]; exact ea, ha⟩))
def sq_CR (C : Nat → Nat → Int32) (N : Nat) (op en U : Nat → Prop) (sm : Nat → Nat → Prop) (n : Nat) (C' : Nat → Nat → Int32) (s : Nat) : Prop := (∀ c j, c ≠ 54 → c ≠ 55 → c ≠ 56 → C' c j = C c j) ∧ (∀ r, r < N → sq_fi N op en sm n r r → C' 54 r = nI (sq_gr (sq_P N op en U sm r n) n s).1) ∧ (∀ r, r < N → sq_fi N op en sm n r r → 1 ≤ (sq_gr (sq_P N op en U sm r n) n s).1 → C' 56 r = nI (sq_gr (sq_P N op en U sm r n) n s).2 ∧ ∃ t, t < s ∧ C' 55 r = nI t ∧ sq_P N op en U sm r n t ∧ ∀ u, u < t → ¬ sq_P N op en U sm r n u)
theorem sq_CR.fr {C : Nat → Nat → Int32} {N : Nat} {op en U : Nat → Prop} {sm : Nat → Nat → Prop} {n : Nat} {C' : Nat → Nat → Int32} {s : Nat} (h : sq_CR C N op en U sm n C' s) : ∀ c j, c ≠ 54 → c ≠ 55 → c ≠ 56 → C' c j = C c j := h.1
theorem sq_CR.tm {C : Nat → Nat → Int32} {N : Nat} {op en U : Nat → Prop} {sm : Nat → Nat → Prop} {n : Nat} {C' : Nat → Nat → Int32} {s : Nat} (h : sq_CR C N op en U sm n C' s) : ∀ r, r < N → sq_fi N op en sm n r r → C' 54 r = nI (sq_gr (sq_P N op en U sm r n) n s).1 := h.2.1
theorem sq_CR.ed {C : Nat → Nat → Int32} {N : Nat} {op en U : Nat → Prop} {sm : Nat → Nat → Prop} {n : Nat} {C' : Nat → Nat → Int32} {s : Nat} (h : sq_CR C N op en U sm n C' s) : ∀ r, r < N → sq_fi N op en sm n r r → 1 ≤ (sq_gr (sq_P N op en U sm r n) n s).1 → C' 56 r = nI (sq_gr (sq_P N op en U sm r n) n s).2 ∧ ∃ t, t < s ∧ C' 55 r = nI t ∧ sq_P N op en U sm r n t ∧ ∀ u, u < t → ¬ sq_P N op en U sm r n u := h.2.2
theorem sq_gr_no {P : Nat → Prop} {n s : Nat} (h : ¬ P s) : sq_gr P n (s + 1) = sq_gr P n s := sq_gr_f (fun z => h z.1)
theorem sq_CR_sk {C : Nat → Nat → Int32} {N : Nat} {op en U : Nat → Prop} {sm : Nat → Nat → Prop} {n : Nat} {C' : Nat → Nat → Int32} {s : Nat} (h : sq_CR C N op en U sm n C' s) (hn : ∀ r, r < N → sq_fi N op en sm n r r → sq_gr (sq_P N op en U sm r n) n (s + 1) = sq_gr (sq_P N op en U sm r n) n s) : sq_CR C N op en U sm n C' (s + 1) := by
  refine ⟨h.fr, fun r hr hf => ?_, fun r hr hf h1 => ?_⟩
  · rw [hn r hr hf]; exact h.tm r hr hf
  · rw [hn r hr hf] at h1 ⊢
    obtain ⟨e1, t, e2, e3⟩ := h.ed r hr hf h1
    exact ⟨e1, t, by omega, e3⟩
/-- one more occurrence of the row a -/
theorem sq_CR_up {C : Nat → Nat → Int32} {N : Nat} {op en U : Nat → Prop} {sm : Nat → Nat → Prop} {n a s : Nat} {C' C2 : Nat → Nat → Int32} (h : sq_CR C N op en U sm n C' s) (ha : sq_fi N op en sm n a a) (hP : sq_P N op en U sm a n s) (he : (sq_gr (sq_P N op en U sm a n) n s).2 ≤ s) (hno : ∀ r, r < N → sq_fi N op en sm n r r → r ≠ a → ¬ sq_P N op en U sm r n s)
    (f1 : ∀ c j, c ≠ 54 → c ≠ 55 → c ≠ 56 → C2 c j = C' c j) (f2 : ∀ c r, r ≠ a → C2 c r = C' c r ∨ c ≠ 54 ∧ c ≠ 55 ∧ c ≠ 56) (t1 : C2 54 a = nI ((sq_gr (sq_P N op en U sm a n) n s).1 + 1)) (e1 : C2 56 a = nI (s + n)) (g1 : ∃ t, t < s + 1 ∧ C2 55 a = nI t ∧ sq_P N op en U sm a n t ∧ ∀ u, u < t → ¬ sq_P N op en U sm a n u) : sq_CR C N op en U sm n C2 (s + 1) := by
  have k4 : ∀ r, r ≠ a → C2 54 r = C' 54 r := fun r hr => (f2 54 r hr).resolve_right (by decide)
  have k5 : ∀ r, r ≠ a → C2 55 r = C' 55 r := fun r hr => (f2 55 r hr).resolve_right (by decide)
  have k6 : ∀ r, r ≠ a → C2 56 r = C' 56 r := fun r hr => (f2 56 r hr).resolve_right (by decide)
  refine ⟨fun c j a1 a2 a3 => (f1 c j a1 a2 a3).trans (h.fr c j a1 a2 a3), fun r hr hf => ?_, fun r hr hf h1 => ?_⟩
  · by_cases e : r = a
    · subst e; rw [sq_gr_t hP he]; exact t1
    · rw [k4 r e, sq_gr_no (hno r hr hf e)]; exact h.tm r hr hf
  · by_cases e : r = a
    · subst e; rw [sq_gr_t hP he]; exact ⟨e1, g1⟩
    · rw [sq_gr_no (hno r hr hf e)] at h1 ⊢
      obtain ⟨x1, t, x2, x3⟩ := h.ed r hr hf h1
      rw [k5 r e, k6 r e]
      exact ⟨x1, t, by omega, x3⟩
def sq_t2 (N : Nat) (op en U : Nat → Prop) (sm : Nat → Nat → Prop) (n s : Nat) : Prop := ∃ r, r < N ∧ sq_fi N op en sm n r r ∧ 2 ≤ (sq_gr (sq_P N op en U sm r n) n s).1
theorem c_cr {C : Nat → Nat → Int32} {N T : Nat} {op en U : Nat → Prop} {sm : Nat → Nat → Prop} {e : am_E} {Q : am_Q} (hE : sq_EN C N op en U sm T) {n : Nat} (h1 : 1 ≤ n) (hT : n ≤ T) (q : ∀ C' v, sq_CR C N op en U sm n C' N → am_bz v (sq_t2 N op en U sm n N) → Q (some (.int v)) (hp C' e)) : ∀ (n0 kc ks s : Nat) (v : Int32) (x4 : Value) (C' : Nat → Nat → Int32), N < n0 + s → s ≤ N → sq_CR C N op en U sm n C' s → am_bz v (sq_t2 N op en U sm n s) → am_Go (mX6_countRowsOf, 12, [.ref 26, .int (nI n), .int v, .int (nI s), x4], [], hp C' e, kc, ks, Q)
  | 0, kc, ks, s, v, x4, C', g1, g2, hI, hv => by omega
  | n0 + 1, kc, ks, s, v, x4, C', g1, g2, hI, hv => by
    have n3 := hE.n3
    have t20 := hE.t20
    have hE' : sq_EN C' N op en U sm T := hE.u (fun c j hc => hI.fr c j (by omega) (by omega) (by omega))
    refine go_s 4 rfl ?_
    refine go_if (fun c17 => ?_) (fun c17 => ?_)
    · have c17 : nI s < C' 26 12 := c17
      rw [hE'.sz] at c17
      have hs : s < N := (nI_ltI (by omega) (by omega)).mp c17
      refine go_s 3 rfl ?_
      refine go_v kX6_countRowsOf_23 okX6_fitNameAt rfl rfl rfl rfl (Nat.zero_le _) (Nat.zero_le _) ?_
      refine c_X6_fitNameAt hE' h1 hT hs (fun w hw => ?_)
      refine go_s 3 rfl ?_
      refine go_if (fun c30 => ?_) (fun c30 => ?_)
      · refine go_s 0 rfl ?_
        have hnf : ¬ sq_ft N op en U s n := (hw.resolve_left (fun ⟨_, a, ea, ha⟩ => absurd c30 (by rw [ea]; exact nI_pos (by have := ha.le; omega)))).1
        have hsk : ∀ r, r < N → sq_fi N op en sm n r r → sq_gr (sq_P N op en U sm r n) n (s + 1) = sq_gr (sq_P N op en U sm r n) n s := fun r _ _ => sq_gr_no (fun z => hnf z.1)
        refine go_s 2 (pc' := 12) (ls' := [.ref 26, .int (nI n), .int v, .int (nI (s + 1)), .int w]) (st' := []) (h' := hp C' e) (by rw [← nI_1 s]; rfl) ?_
        refine c_cr hE h1 hT q n0 _ _ (s + 1) _ _ _ (by omega) (by omega) (sq_CR_sk hI hsk) (am_bz_iff hv ?_)
        exact ⟨fun ⟨r, y1, y2, y3⟩ => ⟨r, y1, y2, by rw [hsk r y1 y2]; exact y3⟩, fun ⟨r, y1, y2, y3⟩ => ⟨r, y1, y2, by rw [hsk r y1 y2] at y3; exact y3⟩⟩
      · obtain ⟨hft, a, ea, ha⟩ := hw.resolve_right (fun z => c30 (by rw [z.2]; decide))
        subst ea
        have la := ha.le
        have haa := sq_fi_self hE.eq ha
        have hPa : sq_P N op en U sm a n s := ⟨hft, ha.rw⟩
        have hno : ∀ r, r < N → sq_fi N op en sm n r r → r ≠ a → ¬ sq_P N op en U sm r n s := fun r hr hf hne z => hne (by
          have x1 : ¬ r < a := fun y => ha.mn r y hf.ft z.2
          have x2 : ¬ a < r := fun y => hf.mn a y haa.ft ((sq_rw_eqv hE.eq n).2.2 _ _ _ ha.rw ((sq_rw_eqv hE.eq n).2.1 _ _ z.2))
          omega)
        have hca := nI_clamp (show a < 2 ^ 31 by omega)
        have haN : a < N := by omega
        have gle := sq_cn_le (N := N) (op := op) (en := en) (U := U) (sm := sm) (s := a) (n := n) h1 s
        have gl2 := sq_gr_le (P := sq_P N op en U sm a n) (N := N) h1 (fun j z => z.1.1) s
        have gl3 : (sq_gr (sq_P N op en U sm a n) n s).1 ≤ N := Nat.le_trans (Nat.le_mul_of_pos_right _ h1) gle
        refine go_s 3 rfl ?_
        refine go_if (fun c38 => ?_) (fun c38 => ?_)
        · refine go_s 3 rfl ?_
          refine go_m rfl rfl (show vp_in (nI a) 300 from vp_in_nI (by omega) (by decide)) ?_
          refine go_s 1 rfl ?_
          refine go_if (fun c48 => ?_) (fun c48 => ?_)
          · refine go_s 4 rfl ?_
            refine go_m rfl rfl (show vp_in (nI a) 300 from vp_in_nI (by omega) (by decide)) ?_
            show am_Go (mX6_countRowsOf, 59, _, [], hp (am_u C' 55 (nI a).toNatClampNeg (nI s)) e, _, _, Q)
            rw [hca]
            refine go_s 4 rfl ?_
            refine go_m rfl rfl (show vp_in (nI a) 300 from vp_in_nI (by omega) (by decide)) ?_
            show am_Go (mX6_countRowsOf, 67, _, [], hp (am_u (am_u C' 55 a (nI s)) 54 (nI a).toNatClampNeg 1) e, _, _, Q)
            rw [hca]
            refine go_s 6 rfl ?_
            refine go_m rfl rfl (show vp_in (nI a) 300 from vp_in_nI (by omega) (by decide)) ?_
            show am_Go (mX6_countRowsOf, 77, _, [], hp (am_u (am_u (am_u C' 55 a (nI s)) 54 a 1) 56 (nI a).toNatClampNeg (nI s + nI n)) e, _, _, Q)
            rw [hca, nI_add]
            refine go_s 1 rfl ?_
            have c48 : C' 54 (nI a).toNatClampNeg = 0 := c48
            rw [hca, hI.tm a haN haa] at c48
            have g0 := (nI_eq (b := 0) (by omega) (by decide)).mp c48
            have g00 := gl2.2.2.2 g0
            refine go_s 2 (pc' := 12) (ls' := [.ref 26, .int (nI n), .int v, .int (nI (s + 1)), .int (nI a)]) (st' := []) (h' := hp (am_u (am_u (am_u C' 55 a (nI s)) 54 a 1) 56 a (nI (s + n))) e) (by rw [← nI_1 s]; rfl) ?_
            refine c_cr hE h1 hT q n0 _ _ (s + 1) _ _ _ (by omega) (by omega) (sq_CR_up hI haa hPa (by omega) hno (fun c j a1 a2 a3 => by rw [am_u_ne a3, am_u_ne a1, am_u_ne a2]) (fun c r hr => ?_) ?_ am_u_eq ⟨s, by omega, ?_, hPa, fun u hu z => ?_⟩) (am_bz_iff hv ?_)
            · by_cases z : c = 54 ∨ c = 55 ∨ c = 56
              · left; rcases z with z | z | z <;> subst z
                · rw [am_u_ne (by decide), am_u_nj hr, am_u_ne (by decide)]
                · rw [am_u_ne (by decide), am_u_ne (by decide), am_u_nj hr]
                · rw [am_u_nj hr, am_u_ne (by decide), am_u_ne (by decide)]
              · right; omega
            · rw [am_u_ne (by decide), am_u_eq, g0]; rfl
            · rw [am_u_ne (by decide), am_u_ne (by decide), am_u_eq]
            · have := (sq_gr_1 h1 z hu).1
              omega
            · refine ⟨fun ⟨r, y1, y2, y3⟩ => ⟨r, y1, y2, Nat.le_trans y3 sq_gr_mo⟩, fun ⟨r, y1, y2, y3⟩ => ⟨r, y1, y2, ?_⟩⟩
              by_cases er : r = a
              · subst er; rw [sq_gr_t hPa (by omega)] at y3; dsimp only at y3; omega
              · rw [sq_gr_no (hno r y1 y2 er)] at y3; exact y3
          · refine go_s 4 rfl ?_
            refine go_m rfl rfl (show vp_in (nI a) 300 from vp_in_nI (by omega) (by decide)) ?_
            refine go_s 1 rfl ?_
            refine go_if (fun c88 => ?_) (fun c88 => ?_)
            · refine go_s 0 rfl ?_
              have c48 : ¬ C' 54 (nI a).toNatClampNeg = 0 := c48
              rw [hca, hI.tm a haN haa] at c48
              have g1 : 1 ≤ (sq_gr (sq_P N op en U sm a n) n s).1 := Nat.pos_of_ne_zero (fun z => c48 (by rw [z]; rfl))
              obtain ⟨x1, t, x2, x3, x4, x5⟩ := hI.ed a haN haa g1
              have c88 : nI s < C' 56 (nI a).toNatClampNeg := c88
              rw [hca, x1] at c88
              have g3 := (nI_ltI (by omega) (by omega)).mp c88
              have hsk : ∀ r, r < N → sq_fi N op en sm n r r → sq_gr (sq_P N op en U sm r n) n (s + 1) = sq_gr (sq_P N op en U sm r n) n s := fun r y1 y2 => by
                by_cases er : r = a
                · subst er; exact sq_gr_f (fun z => by have := z.2; omega)
                · exact sq_gr_no (hno r y1 y2 er)
              refine go_s 2 (pc' := 12) (ls' := [.ref 26, .int (nI n), .int v, .int (nI (s + 1)), .int (nI a)]) (st' := []) (h' := hp C' e) (by rw [← nI_1 s]; rfl) ?_
              refine c_cr hE h1 hT q n0 _ _ (s + 1) _ _ _ (by omega) (by omega) (sq_CR_sk hI hsk) (am_bz_iff hv ?_)
              exact ⟨fun ⟨r, y1, y2, y3⟩ => ⟨r, y1, y2, by rw [hsk r y1 y2]; exact y3⟩, fun ⟨r, y1, y2, y3⟩ => ⟨r, y1, y2, by rw [hsk r y1 y2] at y3; exact y3⟩⟩
            · refine go_s 6 rfl ?_
              refine go_m rfl rfl (show vp_in (nI a) 300 from vp_in_nI (by omega) (by decide)) ?_
              refine go_s 2 rfl ?_
              refine go_m rfl rfl (show vp_in (nI a) 300 from vp_in_nI (by omega) (by decide)) ?_
              show am_Go (mX6_countRowsOf, 104, _, [], hp (am_u C' 54 (nI a).toNatClampNeg (C' 54 (nI a).toNatClampNeg + 1)) e, _, _, Q)
              rw [hca, hI.tm a haN haa, nI_1]
              refine go_s 6 rfl ?_
              refine go_m rfl rfl (show vp_in (nI a) 300 from vp_in_nI (by omega) (by decide)) ?_
              show am_Go (mX6_countRowsOf, 114, _, [], hp (am_u (am_u C' 54 a (nI ((sq_gr (sq_P N op en U sm a n) n s).1 + 1))) 56 (nI a).toNatClampNeg (nI s + nI n)) e, _, _, Q)
              rw [hca, nI_add]
              have c48 : ¬ C' 54 (nI a).toNatClampNeg = 0 := c48
              rw [hca, hI.tm a haN haa] at c48
              have g1 : 1 ≤ (sq_gr (sq_P N op en U sm a n) n s).1 := Nat.pos_of_ne_zero (fun z => c48 (by rw [z]; rfl))
              obtain ⟨x1, t, x2, x3, x4, x5⟩ := hI.ed a haN haa g1
              have c88 : ¬ nI s < C' 56 (nI a).toNatClampNeg := c88
              rw [hca, x1] at c88
              have g3 := mt (nI_lt (a := s) (b := (sq_gr (sq_P N op en U sm a n) n s).2) · (by omega)) c88
              refine go_s 2 (pc' := 12) (ls' := [.ref 26, .int (nI n), .int 1, .int (nI (s + 1)), .int (nI a)]) (st' := []) (h' := hp (am_u (am_u C' 54 a (nI ((sq_gr (sq_P N op en U sm a n) n s).1 + 1))) 56 a (nI (s + n))) e) (by rw [← nI_1 s]; rfl) ?_
              refine c_cr hE h1 hT q n0 _ _ (s + 1) _ _ _ (by omega) (by omega) (sq_CR_up hI haa hPa (by omega) hno (fun c j a1 a2 a3 => by rw [am_u_ne a3, am_u_ne a1]) (fun c r hr => ?_) ?_ am_u_eq ⟨t, by omega, ?_, x4, x5⟩) (Or.inr ⟨rfl, a, haN, haa, ?_⟩)
              · by_cases z : c = 54 ∨ c = 55 ∨ c = 56
                · left; rcases z with z | z | z <;> subst z
                  · rw [am_u_ne (by decide), am_u_nj hr]
                  · rw [am_u_ne (by decide), am_u_ne (by decide)]
                  · rw [am_u_nj hr, am_u_ne (by decide)]
                · right; omega
              · rw [am_u_ne (by decide), am_u_eq]
              · rw [am_u_ne (by decide), am_u_ne (by decide)]; exact x3
              · rw [sq_gr_t hPa (by omega)]; dsimp only; omega
        · refine go_s 0 rfl ?_
          exact absurd (show nI a < 300 from nI_lt (a := a) (b := 300) (by omega) (by decide)) c38
    · refine go_s 1 rfl ?_
      have c17 : ¬ nI s < C' 26 12 := c17
      rw [hE'.sz] at c17
      have hge := mt (nI_lt (a := s) (b := N) · (by omega)) c17
      have es : s = N := by omega
      subst es
      exact go_retz rfl rfl (hv.imp (fun z => z.1) (fun z => z.1)) (q _ _ hI hv)
theorem c_X6_countRowsOf {C : Nat → Nat → Int32} {N T : Nat} {op en U : Nat → Prop} {sm : Nat → Nat → Prop} {e : am_E} {Q : am_Q} (hE : sq_EN C N op en U sm T) {n : Nat} (h1 : 1 ≤ n) (hT : n ≤ T) (q : ∀ C' v, sq_CR C N op en U sm n C' N → am_bz v (sq_t2 N op en U sm n N) → Q (some (.int v)) (hp C' e)) {kc ks : Nat} : am_Go (mX6_countRowsOf, 0, am_ent mX6_countRowsOf [.ref 26, .int (nI n)], [], hp C e, kc, ks, Q) := by
  have n3 := hE.n3
  refine go_s 5 rfl ?_
  refine go_st kX6_countRowsOf_7 okJ7_fill_53178 rfl rfl rfl (Nat.zero_le _) (Nat.zero_le _) ?_
  refine c_J7_fill_53178 rfl (by decide) ?_
  refine go_s 2 (pc' := 12) (ls' := [.ref 26, .int (nI n), .int 0, .int (nI 0), .long 0]) (st' := []) (h' := hp (am_fil C 54 300 0) e) rfl ?_
  refine c_cr hE h1 hT q (N + 1) _ _ 0 _ _ _ (by omega) (by omega) ⟨fun c j a1 _ _ => am_fil_ne a1, fun r hr hf => am_fil_eq (by omega), fun r hr hf h => ?_⟩ (Or.inl ⟨rfl, fun ⟨r, _, _, h⟩ => ?_⟩)
  · exact absurd h (show ¬ 1 ≤ 0 by decide)
  · exact absurd h (show ¬ 2 ≤ 0 by decide)
