theorem nI_ofI (k : Nat) : nI k = Int32.ofInt (k : Int) := by
  unfold nI
  rw [Int32.ofInt_eq_ofNat]
theorem am_svI {k n : Nat} (hk : k ≤ 300) (hn : n ≤ 20) : (4 * ((nI k - 1) * nI n - 1 - nI k)).toInt = sq_sv k n := by
  have e : 4 * ((nI k - 1) * nI n - 1 - nI k) = Int32.ofInt (sq_sv k n) := by
    unfold sq_sv
    rw [nI_ofI, nI_ofI, Int32.ofInt_mul, Int32.ofInt_sub, Int32.ofInt_sub, Int32.ofInt_mul, Int32.ofInt_sub]
    rfl
  rw [e]
  have hm : k * n ≤ 300 * 20 := Nat.mul_le_mul hk hn
  have hm2 : ((k : Int) - 1) * n = ((k * n : Nat) : Int) - n := by
    rw [Int.sub_mul, Int.one_mul]; simp
  have hb : sq_sv k n = 4 * (((k * n : Nat) : Int) - n - 1 - k) := by
    unfold sq_sv
    rw [hm2]
  rw [hb]
  refine Int32.toInt_ofInt_of_le ?_ ?_
  · omega
  · omega
def sq_BS (C : Nat → Nat → Int32) (N : Nat) (op en U : Nat → Prop) (sm : Nat → Nat → Prop) (A : Nat → Nat → Prop) : Prop := (C 26 14 = 0 ∧ ∀ n t, A n t → sq_ft N op en U t n → ¬ 0 < sq_sv (sq_cn N op en U sm t n) n) ∨ ∃ L s, A L s ∧ 2 ≤ L ∧ L ≤ 20 ∧ sq_ft N op en U s L ∧ (C 26 14).toInt = sq_sv (sq_cn N op en U sm s L) L ∧ C 26 15 = nI L ∧ C 26 16 = nI s ∧ 0 < sq_sv (sq_cn N op en U sm s L) L ∧ ∀ n t, A n t → sq_ft N op en U t n → sq_sv (sq_cn N op en U sm t n) n < sq_sv (sq_cn N op en U sm s L) L ∨ (sq_sv (sq_cn N op en U sm t n) n = sq_sv (sq_cn N op en U sm s L) L ∧ (n < L ∨ (n = L ∧ s ≤ t)))
def sq_A (n s : Nat) : Nat → Nat → Prop := fun m t => (n < m ∧ m ≤ 20) ∨ (m = n ∧ t < s)
theorem sq_cn_eq {N : Nat} {op en U : Nat → Prop} {sm : Nat → Nat → Prop} (he : am_eqv sm) {s t n : Nat} (h : sq_rw sm s t n) : sq_cn N op en U sm s n = sq_cn N op en U sm t n := by
  unfold sq_cn
  rw [sq_gr_cg (sq_cn_rw he h)]
theorem sq_cn_b {N : Nat} {op en U : Nat → Prop} {sm : Nat → Nat → Prop} {s n : Nat} (h : 1 ≤ n) : sq_cn N op en U sm s n ≤ N := Nat.le_trans (Nat.le_mul_of_pos_right _ h) (sq_cn_le h N)
/-- a spot that brings nothing new -/
theorem sq_BS_sk {C : Nat → Nat → Int32} {N : Nat} {op en U : Nat → Prop} {sm : Nat → Nat → Prop} {n s : Nat} (h : sq_BS C N op en U sm (sq_A n s)) (hs : sq_ft N op en U s n → (∃ t, t < s ∧ sq_ft N op en U t n ∧ sq_cn N op en U sm t n = sq_cn N op en U sm s n) ∨ ¬ (C 26 14).toInt < sq_sv (sq_cn N op en U sm s n) n) : sq_BS C N op en U sm (sq_A n (s + 1)) := by
  rcases h with ⟨h1, h2⟩ | ⟨L, b, h0, h1, h2, h3, h4, h5, h6, h7, h8⟩
  · refine Or.inl ⟨h1, fun m t ha hf => ?_⟩
    by_cases e : m = n ∧ t = s
    · obtain ⟨e1, e2⟩ := e
      subst e1; subst e2
      rcases hs hf with ⟨u, y1, y2, y3⟩ | y
      · rw [← y3]; exact h2 m u (Or.inr ⟨rfl, y1⟩) y2
      · rw [h1, show (0 : Int32).toInt = 0 by decide] at y; exact y
    · refine h2 m t ?_ hf
      rcases ha with ha | ha
      · exact Or.inl ha
      · exact Or.inr ⟨ha.1, by omega⟩
  · refine Or.inr ⟨L, b, ?_, h1, h2, h3, h4, h5, h6, h7, fun m t ha hf => ?_⟩
    · rcases h0 with h0 | h0
      · exact Or.inl h0
      · exact Or.inr ⟨h0.1, by omega⟩
    · by_cases e : m = n ∧ t = s
      · obtain ⟨e1, e2⟩ := e
        subst e1; subst e2
        rcases hs hf with ⟨u, y1, y2, y3⟩ | y
        · have := h8 m u (Or.inr ⟨rfl, y1⟩) y2
          rw [y3] at this
          rcases this with z | ⟨z1, z2⟩
          · exact Or.inl z
          · exact Or.inr ⟨z1, by omega⟩
        · rw [h4] at y
          by_cases g : sq_sv (sq_cn N op en U sm t m) m < sq_sv (sq_cn N op en U sm b L) L
          · exact Or.inl g
          · refine Or.inr ⟨by omega, ?_⟩
            rcases h0 with h0 | h0
            · exact Or.inl h0.1
            · exact Or.inr ⟨h0.1.symm, by omega⟩
      · refine h8 m t ?_ hf
        rcases ha with ha | ha
        · exact Or.inl ha
        · exact Or.inr ⟨ha.1, by omega⟩
theorem sq_BS_up {C C' : Nat → Nat → Int32} {N : Nat} {op en U : Nat → Prop} {sm : Nat → Nat → Prop} {n s : Nat} (h2 : 2 ≤ n) (h20 : n ≤ 20) (h : sq_BS C N op en U sm (sq_A n s)) (hf : sq_ft N op en U s n) (hg : (C 26 14).toInt < sq_sv (sq_cn N op en U sm s n) n) (e1 : (C' 26 14).toInt = sq_sv (sq_cn N op en U sm s n) n) (e2 : C' 26 15 = nI n) (e3 : C' 26 16 = nI s) : sq_BS C' N op en U sm (sq_A n (s + 1)) := by
  have hpos : 0 < sq_sv (sq_cn N op en U sm s n) n := by
    rcases h with ⟨y1, _⟩ | ⟨L, b, _, _, _, _, y4, _, _, y7, _⟩
    · rw [y1, show (0 : Int32).toInt = 0 by decide] at hg; exact hg
    · omega
  refine Or.inr ⟨n, s, Or.inr ⟨rfl, by omega⟩, h2, h20, hf, e1, e2, e3, hpos, fun m t ha hft => ?_⟩
  by_cases e : m = n ∧ t = s
  · obtain ⟨e4, e5⟩ := e
    subst e4; subst e5
    exact Or.inr ⟨rfl, Or.inr ⟨rfl, Nat.le_refl _⟩⟩
  · have ha' : sq_A n s m t := by
      rcases ha with ha | ha
      · exact Or.inl ha
      · exact Or.inr ⟨ha.1, by omega⟩
    left
    rcases h with ⟨y1, y2⟩ | ⟨L, b, _, _, _, _, y4, _, _, _, y8⟩
    · have := y2 m t ha' hft; omega
    · have := y8 m t ha' hft; omega
theorem c_wr {C C1 : Nat → Nat → Int32} {N T : Nat} {op en U : Nat → Prop} {sm : Nat → Nat → Prop} {e : am_E} {Q : am_Q} (hE : sq_EN C N op en U sm T) {n : Nat} (h2 : 2 ≤ n) (hT : n ≤ T) (hC : sq_CR C N op en U sm n C1 N) (q : ∀ C', (∀ c j, (c ≠ 26 ∨ (j ≠ 14 ∧ j ≠ 15 ∧ j ≠ 16)) → C' c j = C1 c j) → sq_BS C' N op en U sm (sq_A n N) → Q none (hp C' e)) : ∀ (n0 kc ks s : Nat) (x3 x4 : Value) (C' : Nat → Nat → Int32), N < n0 + s → s ≤ N → (∀ c j, (c ≠ 26 ∨ (j ≠ 14 ∧ j ≠ 15 ∧ j ≠ 16)) → C' c j = C1 c j) → sq_BS C' N op en U sm (sq_A n s) → am_Go (mX6_weighRowsOf, 2, [.ref 26, .int (nI n), .int (nI s), x3, x4], [], hp C' e, kc, ks, Q)
  | 0, kc, ks, s, x3, x4, C', g1, g2, hfr, hB => by omega
  | n0 + 1, kc, ks, s, x3, x4, C', g1, g2, hfr, hB => by
    have n3 := hE.n3
    have t20 := hE.t20
    have hE' : sq_EN C' N op en U sm T := hE.u (fun c j hc => (hfr c j (by omega)).trans (hC.fr c j (by omega) (by omega) (by omega)))
    refine go_s 4 rfl ?_
    refine go_if (fun c7 => ?_) (fun c7 => ?_)
    · have c7 : nI s < C' 26 12 := c7
      rw [hE'.sz] at c7
      have hs : s < N := (nI_ltI (by omega) (by omega)).mp c7
      refine go_s 3 rfl ?_
      refine go_v kX6_weighRowsOf_13 okX6_fitNameAt rfl rfl rfl rfl (Nat.zero_le _) (Nat.zero_le _) ?_
      refine c_X6_fitNameAt hE' (by omega) hT hs (fun w hw => ?_)
      refine go_s 3 rfl ?_
      refine go_if (fun c18 => ?_) (fun c18 => ?_)
      · have hnf : ¬ sq_ft N op en U s n := (hw.resolve_left (fun ⟨_, a, ea, ha⟩ => absurd c18 (by rw [ea]; exact nI_pos (by have := ha.le; omega)))).1
        refine go_s 2 (pc' := 2) (ls' := [.ref 26, .int (nI n), .int (nI (s + 1)), .int w, x4]) (st' := []) (h' := hp (C') e) (by rw [← nI_1 s]; rfl) ?_
        refine c_wr hE h2 hT hC q n0 _ _ (s + 1) _ _ _ (by omega) (by omega) hfr ?_
        exact sq_BS_sk hB (fun z => absurd z hnf)
      · obtain ⟨hft, a, ea, ha⟩ := hw.resolve_right (fun z => c18 (by rw [z.2]; decide))
        subst ea
        have la := ha.le
        have haa := sq_fi_self hE.eq ha
        have hca := nI_clamp (show a < 2 ^ 31 by omega)
        have haN : a < N := by omega
        have hPs : sq_P N op en U sm a n s := ⟨hft, ha.rw⟩
        have g1 : 1 ≤ (sq_gr (sq_P N op en U sm a n) n N).1 := (sq_gr_1 (by omega) hPs hs).1
        obtain ⟨_, t, t1, t2, t3, t4⟩ := hC.ed a haN haa g1
        have t5 := hC.tm a haN haa
        have r55 : C' 55 (nI a).toNatClampNeg = nI t := by rw [hca, hfr 55 a (Or.inl (by decide))]; exact t2
        have r54 : C' 54 (nI a).toNatClampNeg = nI (sq_cn N op en U sm a n) := by rw [hca, hfr 54 a (Or.inl (by decide))]; exact t5
        have ecn : sq_cn N op en U sm a n = sq_cn N op en U sm s n := sq_cn_eq hE.eq ha.rw
        have bcn := sq_cn_b (N := N) (op := op) (en := en) (U := U) (sm := sm) (s := s) (n := n) (by omega)
        refine go_s 3 rfl ?_
        refine go_if (fun c25 => ?_) (fun c25 => ?_)
        · refine go_s 3 rfl ?_
          refine go_m rfl rfl (show vp_in (nI a) 300 from vp_in_nI (by omega) (by decide)) ?_
          refine go_s 2 rfl ?_
          refine go_if (fun c35 => ?_) (fun c35 => ?_)
          · refine go_s 4 rfl ?_
            refine go_m rfl rfl (show vp_in (nI a) 300 from vp_in_nI (by omega) (by decide)) ?_
            refine go_st kX6_weighRowsOf_45 okX7_savedBytes rfl rfl rfl (Nat.zero_le _) (Nat.zero_le _) ?_
            refine c_X7_savedBytes ?_
            refine go_s 5 rfl ?_
            refine go_if (fun c56 => ?_) (fun c56 => ?_)
            · have c35 : C' 55 (nI a).toNatClampNeg = nI s := c35
              rw [r55] at c35
              have c56 : C' 26 14 < 4 * ((C' 54 (nI a).toNatClampNeg - 1) * nI n - 1 - C' 54 (nI a).toNatClampNeg) := c56
              rw [r54, ecn, Int32.lt_iff_toInt_lt, am_svI (by omega) (by omega)] at c56
              refine go_s 11 (pc' := 2) (ls' := [.ref 26, .int (nI n), .int (nI (s + 1)), .int (nI a), .int (4 * ((nI (sq_cn N op en U sm s n) - 1) * nI n - 1 - nI (sq_cn N op en U sm s n)))]) (st' := []) (h' := hp (am_u (am_u (am_u C' 26 14 (4 * ((nI (sq_cn N op en U sm s n) - 1) * nI n - 1 - nI (sq_cn N op en U sm s n)))) 26 15 (nI n)) 26 16 (nI s)) e) (by rw [← nI_1 s, ← ecn, ← r54]; rfl) ?_
              refine c_wr hE h2 hT hC q n0 _ _ (s + 1) _ _ _ (by omega) (by omega) (fun c j hc => ?_) ?_
              · unfold am_u
                rw [if_neg (by omega), if_neg (by omega), if_neg (by omega)]; exact hfr c j hc
              · refine sq_BS_up h2 (by omega) hB hft c56 ?_ ?_ am_u_eq
                · rw [am_u_nj (by decide), am_u_nj (by decide), am_u_eq]; exact am_svI (by omega) (by omega)
                · rw [am_u_nj (by decide), am_u_eq]
            · have c35 : C' 55 (nI a).toNatClampNeg = nI s := c35
              rw [r55] at c35
              have c56 : ¬ C' 26 14 < 4 * ((C' 54 (nI a).toNatClampNeg - 1) * nI n - 1 - C' 54 (nI a).toNatClampNeg) := c56
              rw [r54, ecn, Int32.lt_iff_toInt_lt, am_svI (by omega) (by omega)] at c56
              refine go_s 2 (pc' := 2) (ls' := [.ref 26, .int (nI n), .int (nI (s + 1)), .int (nI a), .int (4 * ((nI (sq_cn N op en U sm s n) - 1) * nI n - 1 - nI (sq_cn N op en U sm s n)))]) (st' := []) (h' := hp C' e) (by rw [← nI_1 s, ← ecn, ← r54]; rfl) ?_
              refine c_wr hE h2 hT hC q n0 _ _ (s + 1) _ _ _ (by omega) (by omega) hfr ?_
              exact sq_BS_sk hB (fun _ => Or.inr c56)
          · have c35 : ¬ C' 55 (nI a).toNatClampNeg = nI s := c35
            rw [r55] at c35
            refine go_s 2 (pc' := 2) (ls' := [.ref 26, .int (nI n), .int (nI (s + 1)), .int (nI a), x4]) (st' := []) (h' := hp (C') e) (by rw [← nI_1 s]; rfl) ?_
            refine c_wr hE h2 hT hC q n0 _ _ (s + 1) _ _ _ (by omega) (by omega) hfr ?_
            refine sq_BS_sk hB (fun _ => Or.inl ⟨t, ?_, t3.1, ?_⟩)
            · have x1 : ¬ s < t := fun z => t4 s z hPs
              have x2 : ¬ t = s := fun z => c35 (by rw [z])
              omega
            · exact sq_cn_eq hE.eq ((sq_rw_eqv hE.eq n).2.2 _ _ _ ((sq_rw_eqv hE.eq n).2.1 _ _ t3.2) ha.rw)
        · exact absurd (show nI a < 300 from nI_lt (a := a) (b := 300) (by omega) (by decide)) c25
    · have c7 : ¬ nI s < C' 26 12 := c7
      rw [hE'.sz] at c7
      have hge := mt (nI_lt (a := s) (b := N) · (by omega)) c7
      have es : s = N := by omega
      rw [es] at hB
      exact go_retv rfl rfl (q _ hfr hB)
theorem c_X6_weighRowsOf {C C1 : Nat → Nat → Int32} {N T : Nat} {op en U : Nat → Prop} {sm : Nat → Nat → Prop} {e : am_E} {Q : am_Q} (hE : sq_EN C N op en U sm T) {n : Nat} (h2 : 2 ≤ n) (hT : n ≤ T) (hC : sq_CR C N op en U sm n C1 N) (q : ∀ C', (∀ c j, (c ≠ 26 ∨ (j ≠ 14 ∧ j ≠ 15 ∧ j ≠ 16)) → C' c j = C1 c j) → sq_BS C' N op en U sm (sq_A n N) → Q none (hp C' e)) (hB : sq_BS C1 N op en U sm (sq_A n 0)) {kc ks : Nat} : am_Go (mX6_weighRowsOf, 0, am_ent mX6_weighRowsOf [.ref 26, .int (nI n)], [], hp C1 e, kc, ks, Q) := by
  refine go_s 2 rfl ?_
  exact c_wr hE h2 hT hC q (N + 1) _ _ 0 _ _ _ (by omega) (by omega) (fun _ _ _ => rfl) hB
def sq_l1 (N : Nat) (op en U : Nat → Prop) (sm : Nat → Nat → Prop) (L : Nat) : Prop := ∀ m, L < m → m ≤ 20 → ∀ t, sq_ft N op en U t m → sq_cn N op en U sm t m ≤ 1
theorem sq_BS_A {C : Nat → Nat → Int32} {N : Nat} {op en U : Nat → Prop} {sm : Nat → Nat → Prop} {A A' : Nat → Nat → Prop} (h : sq_BS C N op en U sm A) (h1 : ∀ n t, 2 ≤ n → n ≤ 20 → A n t → A' n t) (h2 : ∀ n t, A' n t → sq_ft N op en U t n → A n t ∨ sq_cn N op en U sm t n ≤ 1) : sq_BS C N op en U sm A' := by
  rcases h with ⟨a1, a2⟩ | ⟨L, b, h0, a1, a2, a3, a4, a5, a6, a7, a8⟩
  · refine Or.inl ⟨a1, fun n t ha hf => ?_⟩
    rcases h2 n t ha hf with z | z
    · exact a2 n t z hf
    · have := sq_sv_1 (n := n) z; omega
  · refine Or.inr ⟨L, b, h1 _ _ a1 a2 h0, a1, a2, a3, a4, a5, a6, a7, fun n t ha hf => ?_⟩
    rcases h2 n t ha hf with z | z
    · exact a8 n t z hf
    · have := sq_sv_1 (n := n) z; exact Or.inl (by omega)
theorem sq_BS_cg {C C' : Nat → Nat → Int32} {N : Nat} {op en U : Nat → Prop} {sm : Nat → Nat → Prop} {A : Nat → Nat → Prop} (h : sq_BS C N op en U sm A) (e1 : C' 26 14 = C 26 14) (e2 : C' 26 15 = C 26 15) (e3 : C' 26 16 = C 26 16) : sq_BS C' N op en U sm A := by
  unfold sq_BS
  rw [e1, e2, e3]
  exact h
theorem sq_t2_no {N : Nat} {op en U : Nat → Prop} {sm : Nat → Nat → Prop} {n : Nat} (he : am_eqv sm) (hnm : ∀ s, s < N → sq_f0 N op en s n → ∃ r, sq_fi N op en sm n s r) (h1 : 1 ≤ n) (h : ¬ sq_t2 N op en U sm n N) : ∀ t, sq_ft N op en U t n → sq_cn N op en U sm t n ≤ 1 := by
  intro t hf
  have tN : t < N := by have := hf.1; omega
  obtain ⟨r, hr⟩ := hnm t tN (sq_ft_U (fun _ y => y.elim) hf)
  have hle := hr.le
  rw [← sq_cn_eq he hr.rw]
  apply Nat.le_of_not_lt
  intro z
  exact h ⟨r, by omega, sq_fi_self he hr, z⟩
theorem c_cb {C : Nat → Nat → Int32} {N T : Nat} {op en U : Nat → Prop} {sm : Nat → Nat → Prop} {e : am_E} {Q : am_Q} (hE : sq_EN C N op en U sm T) (q : ∀ C' L, (∀ c j, c ≠ 54 → c ≠ 55 → c ≠ 56 → (c ≠ 26 ∨ (j ≠ 13 ∧ j ≠ 14 ∧ j ≠ 15 ∧ j ≠ 16)) → C' c j = C c j) → L ≤ T → C' 26 13 = nI L → sq_l1 N op en U sm L → sq_BS C' N op en U sm (fun n _ => 2 ≤ n ∧ n ≤ 20) → Q none (hp C' e)) : ∀ (n0 kc ks n : Nat) (C' : Nat → Nat → Int32) (L : Nat), n < n0 → n ≤ T → (∀ c j, c ≠ 54 → c ≠ 55 → c ≠ 56 → (c ≠ 26 ∨ (j ≠ 13 ∧ j ≠ 14 ∧ j ≠ 15 ∧ j ≠ 16)) → C' c j = C c j) → n ≤ L → L ≤ T → C' 26 13 = nI L → sq_l1 N op en U sm L → sq_BS C' N op en U sm (sq_A n 0) → am_Go (mX6_chooseBest, 10, [.ref 26, .int (nI n)], [], hp C' e, kc, ks, Q)
  | 0, kc, ks, n, C', L, g1, g2, hfr, hnL, hL, h13, hl1, hB => by omega
  | n0 + 1, kc, ks, n, C', L, g1, g2, hfr, hnL, hL, h13, hl1, hB => by
    have n3 := hE.n3
    have t20 := hE.t20
    have hE' : sq_EN C' N op en U sm T := hE.u (fun c j hc => hfr c j (by omega) (by omega) (by omega) (by omega))
    refine go_s 3 rfl ?_
    refine go_if (fun c12 => ?_) (fun c12 => ?_)
    · have c12 : nI n < 2 := c12
      have hn2 := (nI_ltI (a := n) (b := 2) (by omega) (by decide)).mp c12
      refine go_retv rfl rfl (q C' L hfr hL h13 hl1 (sq_BS_A hB (fun m t z1 z2 ha => ⟨z1, z2⟩) (fun m t ha hf => ?_)))
      exact Or.inl (Or.inl ⟨by omega, ha.2⟩)
    · have c12 : ¬ nI n < 2 := c12
      have hn2 : 2 ≤ n := by have := mt (nI_lt (a := n) (b := 2) · (by decide)) c12; omega
      refine go_s 2 rfl ?_
      refine go_v kX6_chooseBest_17 okX6_countRowsOf rfl rfl rfl rfl (Nat.zero_le _) (Nat.zero_le _) ?_
      refine c_X6_countRowsOf hE' (by omega) (by omega) (fun C2 v h2 hv => ?_)
      refine go_s 1 rfl ?_
      refine go_if (fun c20 => ?_) (fun c20 => ?_)
      · have hno := am_bz_0 hv c20
        have h1m := sq_t2_no hE.eq (fun s hs hf => (by obtain ⟨_, r, _, hr⟩ := (hE.nm n (by omega) (by omega) s hs).resolve_right (fun z => z.1 hf); exact ⟨r, hr⟩)) (by omega) hno
        refine go_s 7 (pc' := 10) (ls' := [.ref 26, .int (nI n + (-1))]) (st' := []) (h' := hp (am_u C2 26 13 (nI n - 1)) e) rfl ?_
        rw [← am_dec, show nI n - 1 = nI (n - 1) by rw [show n = (n - 1) + 1 by omega, nI_pred]; congr 1]
        refine c_cb hE q n0 _ _ (n - 1) _ (n - 1) (by omega) (by omega) (fun c j a1 a2 a3 a4 => ?_) (by omega) (by omega) am_u_eq (fun m b1 b2 t hf => ?_) ?_
        · rw [show am_u C2 26 13 (nI (n - 1)) c j = C2 c j by unfold am_u; rw [if_neg (by omega)]]; exact (h2.fr c j a1 a2 a3).trans (hfr c j a1 a2 a3 a4)
        · by_cases z : sq_cn N op en U sm t m ≤ 1
          · exact z
          · exact absurd (sq_cn_mo (by omega) (show n ≤ m by omega) (show 2 ≤ sq_cn N op en U sm t m by omega)) (by have := h1m t (sq_ft_le hf (by omega)); omega)
        · refine sq_BS_A (sq_BS_cg hB ?_ ?_ ?_) (fun m t _ _ ha => ?_) (fun m t ha hf => ?_)
          · rw [am_u_nj (by decide)]; exact h2.fr 26 14 (by decide) (by decide) (by decide)
          · rw [am_u_nj (by decide)]; exact h2.fr 26 15 (by decide) (by decide) (by decide)
          · rw [am_u_nj (by decide)]; exact h2.fr 26 16 (by decide) (by decide) (by decide)
          · rcases ha with ha | ha
            · exact Or.inl ⟨by omega, ha.2⟩
            · omega
          · rcases ha with ha | ha
            · by_cases em : m = n
              · rw [em] at hf ⊢; exact Or.inr (h1m t hf)
              · exact Or.inl (Or.inl ⟨by omega, ha.2⟩)
            · omega
      · refine go_s 2 rfl ?_
        refine go_v kX6_chooseBest_25 okX6_weighRowsOf rfl rfl rfl rfl (Nat.zero_le _) (Nat.zero_le _) ?_
        refine c_X6_weighRowsOf hE' (by omega) (by omega) h2 (fun C3 h3 hB3 => ?_) (sq_BS_cg hB (h2.fr 26 14 (by decide) (by decide) (by decide)) (h2.fr 26 15 (by decide) (by decide) (by decide)) (h2.fr 26 16 (by decide) (by decide) (by decide)))
        refine go_s 3 (pc' := 10) (ls' := [.ref 26, .int (nI (n - 1))]) (st' := []) (h' := hp C3 e) (by rw [show nI (n - 1) = nI n - 1 by rw [show n = (n - 1) + 1 by omega, nI_pred]; congr 1, am_dec]; rfl) ?_
        refine c_cb hE q n0 _ _ (n - 1) _ L (by omega) (by omega) (fun c j a1 a2 a3 a4 => ?_) (by omega) hL ?_ hl1 ?_
        · exact (h3 c j (by omega)).trans ((h2.fr c j a1 a2 a3).trans (hfr c j a1 a2 a3 a4))
        · rw [h3 26 13 (Or.inr (by decide)), h2.fr 26 13 (by decide) (by decide) (by decide)]; exact h13
        · refine sq_BS_A hB3 (fun m t _ _ ha => ?_) (fun m t ha hf => ?_)
          · rcases ha with ha | ha
            · exact Or.inl ⟨by omega, ha.2⟩
            · exact Or.inl ⟨by omega, by omega⟩
          · rcases ha with ha | ha
            · by_cases em : m = n
              · have := hf.1
                exact Or.inl (Or.inr ⟨em, by omega⟩)
              · exact Or.inl (Or.inl ⟨by omega, ha.2⟩)
            · omega
theorem c_X6_chooseBest {C : Nat → Nat → Int32} {N T : Nat} {op en U : Nat → Prop} {sm : Nat → Nat → Prop} {e : am_E} {Q : am_Q} (hE : sq_EN C N op en U sm T) (q : ∀ C' L, (∀ c j, c ≠ 54 → c ≠ 55 → c ≠ 56 → (c ≠ 26 ∨ (j ≠ 13 ∧ j ≠ 14 ∧ j ≠ 15 ∧ j ≠ 16)) → C' c j = C c j) → L ≤ T → C' 26 13 = nI L → sq_l1 N op en U sm L → sq_BS C' N op en U sm (fun n _ => 2 ≤ n ∧ n ≤ 20) → Q none (hp C' e)) {L0 : Nat} (hL0 : L0 ≤ T) (h13 : C 26 13 = nI L0) (hl1 : sq_l1 N op en U sm L0) {kc ks : Nat} : am_Go (mX6_chooseBest, 0, am_ent mX6_chooseBest [.ref 26], [], hp C e, kc, ks, Q) := by
  have t20 := hE.t20
  refine go_s 6 (pc' := 10) (ls' := [.ref 26, .int (nI L0)]) (st' := []) (h' := hp (am_u C 26 14 0) e) (by rw [← h13]; rfl) ?_
  refine c_cb hE q (L0 + 1) _ _ L0 _ L0 (by omega) hL0 (fun c j _ _ _ a4 => ?_) (Nat.le_refl _) hL0 ?_ hl1 (Or.inl ⟨am_u_eq, fun m t ha hf => ?_⟩)
  · unfold am_u
    rw [if_neg (by omega)]
  · rw [am_u_nj (by decide)]; exact h13
  · rcases ha with ha | ha
    · have := sq_sv_1 (n := m) (hl1 m ha.1 ha.2 t hf); omega
    · omega
