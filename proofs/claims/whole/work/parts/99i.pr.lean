/-! frames, and the pairs body, routine, occurrence, run -/
theorem am_fE_cg {D D' : Nat → Nat → Int32} {F : Nat} {sz : Nat → Nat} (h : ∀ c j, 71 ≤ c → c ≤ 74 → D' c j = D c j) : ∀ i, am_fE D' F sz i = am_fE D F sz i
  | 0 => rfl
  | i + 1 => by
    have ih := am_fE_cg (F := F) (sz := sz) h i
    have e71 : D' 71 = D 71 := funext (fun j => h 71 j (by decide) (by decide))
    have e72 : D' 72 = D 72 := funext (fun j => h 72 j (by decide) (by decide))
    have e73 : D' 73 = D 73 := funext (fun j => h 73 j (by decide) (by decide))
    have e74 : D' 74 = D 74 := funext (fun j => h 74 j (by decide) (by decide))
    unfold am_fE
    rw [ih]
    funext f g
    unfold am_fL am_fA am_fS
    rw [e71, e72, e73, e74]
theorem am_FR_cg {C D D' : Nat → Nat → Int32} {F i : Nat} {sz : Nat → Nat} (h : ∀ c j, 71 ≤ c → c ≤ 74 → D' c j = D c j) (z : am_FR C D F sz i) : am_FR C D' F sz i := by
  have e71 : D' 71 = D 71 := funext (fun j => h 71 j (by decide) (by decide))
  have e73 : D' 73 = D 73 := funext (fun j => h 73 j (by decide) (by decide))
  refine ⟨?_, ?_, ?_, fun f hf => ?_⟩
  · have := z.fx
    unfold am_fx at this ⊢
    rw [am_fE_cg h, am_fE_cg h]; exact this
  · rw [am_fE_cg h]; exact z.fv
  · have := z.cl
    unfold am_fC at this ⊢
    rw [am_fE_cg h]; exact this
  · have := z.tk f hf
    unfold am_tk at this ⊢
    rw [e71, e73]; exact this
theorem am_IM.fr {X X' : Nat → Nat → Int32} (h : am_IM X) (f2 : ∀ c j, 11 ≤ c → c ≤ 24 → X' c j = X c j) (f3 : ∀ j, 10 ≤ j → j ≤ 13 → X' 69 j = X 69 j) (f4 : ∀ c j, 77 ≤ c → c ≤ 86 → X' c j = X c j) : am_IM X' := by
  rcases h with ⟨i1, i2, i3, i4, i5⟩ | ⟨W, G, R, O, hG⟩
  · exact Or.inl ⟨(f3 10 (by decide) (by decide)).trans i1, (f2 11 3 (by decide) (by decide)).trans i2, (f2 11 4 (by decide) (by decide)).trans i3, (f2 15 10 (by decide) (by decide)).trans i4, (f2 15 11 (by decide) (by decide)).trans i5⟩
  · obtain ⟨w1, w2, w3, w4, w5⟩ := hG.wi
    refine Or.inr ⟨W, G, R, O, (f3 10 (by decide) (by decide)).trans hG.hi, hG.w1, ⟨w1, (f2 11 3 (by decide) (by decide)).trans w2, (f3 12 (by decide) (by decide)).trans w3, fun i hi => ?_, fun i hi => ?_⟩, hG.g1, hG.g24, (f2 11 4 (by decide) (by decide)).trans hG.c4, (f3 11 (by decide) (by decide)).trans hG.m11, fun f hf => ?_, hG.r60, hG.o150, (f2 15 10 (by decide) (by decide)).trans hG.cR, (f3 13 (by decide) (by decide)).trans hG.mR, (f2 15 11 (by decide) (by decide)).trans hG.cO, fun k hk => ?_⟩
    · rw [f2 12 i (by decide) (by decide), f4 79 i (by decide) (by decide)]; exact w4 i hi
    · rw [f4 79 i (by decide) (by decide)]; exact w5 i hi
    · obtain ⟨b, b1, b2, b3, b4⟩ := hG.bd f hf
      exact ⟨b, b1, (f2 13 f (by decide) (by decide)).trans b2, (f4 77 f (by decide) (by decide)).trans b3, by rw [f2 14 b (by decide) (by decide), f4 78 f (by decide) (by decide)]; exact b4⟩
    · obtain ⟨o, t, a1, a2, a3, a4, a5, a6, a7, a8⟩ := hG.rt k hk
      refine ⟨o, t, a1, (f2 18 k (by decide) (by decide)).trans a2, (f2 19 k (by decide) (by decide)).trans a3, (f4 81 k (by decide) (by decide)).trans a4, ?_, ?_, ?_, fun i hi => ?_⟩
      · rw [f2 17 k (by decide) (by decide), f4 80 k (by decide) (by decide)]; exact a5
      · rw [f2 19 k (by decide) (by decide), f2 17 k (by decide) (by decide), f4 82 k (by decide) (by decide)]; exact a6
      · rw [f2 20 k (by decide) (by decide), f4 83 k (by decide) (by decide)]; exact a7
      · obtain ⟨x, x1, x2, x3, x4, x5⟩ := a8 i hi
        refine ⟨x, x1, (f4 85 _ (by decide) (by decide)).trans x2, (f2 22 _ (by decide) (by decide)).trans x3, (f2 23 _ (by decide) (by decide)).trans x4, ?_⟩
        rw [f2 24 _ (by decide) (by decide), f4 86 _ (by decide) (by decide)]; exact x5
theorem am_MI.fr {X X' : Nat → Nat → Int32} (h : am_MI X) (f1 : ∀ c j, 65 ≤ c → c ≤ 68 → X' c j = X c j) (f2 : ∀ c, 93 ≤ c → c ≤ 96 → X' c 1 = X c 1) (f3 : ∀ c j, c = 100 ∨ c = 103 ∨ c = 106 → X' c j = X c j) : am_MI X' := by
  obtain ⟨h1, r1, r2, r3, r4⟩ := h
  refine ⟨?_, fun k hk => ?_, fun k hk => ?_, fun k hk => ?_, ?_⟩
  · rcases h1 with ⟨a1, a2, a3, a4, a5⟩ | ⟨a1, a2, a3, a4, a5⟩
    · refine Or.inl ⟨(f1 65 1 (by decide) (by decide)).trans a1, (f2 93 (by decide) (by decide)).trans a2, (f1 65 4 (by decide) (by decide)).trans a3, fun k hk => (f1 67 k (by decide) (by decide)).trans (a4 k hk), fun k hk => (f1 68 k (by decide) (by decide)).trans (a5 k hk)⟩
    · refine Or.inr ⟨(f1 65 1 (by decide) (by decide)).trans a1, by rw [f2 93 (by decide) (by decide)]; exact a2, ?_, ?_, ?_⟩
      · rw [f2 93 (by decide) (by decide), f1 65 2 (by decide) (by decide)]; exact a3
      · rw [f2 94 (by decide) (by decide), f1 65 3 (by decide) (by decide)]; exact a4
      · rw [f2 96 (by decide) (by decide), f1 65 8 (by decide) (by decide)]; exact a5
  · rw [f1 67 k (by decide) (by decide), f3 103 k (by omega)]; exact r1 k hk
  · rw [f1 68 k (by decide) (by decide), f3 106 k (by omega)]; exact r2 k hk
  · rw [f1 66 k (by decide) (by decide), f3 100 k (by omega)]; exact r3 k hk
  · rw [f1 65 4 (by decide) (by decide), f2 95 (by decide) (by decide)]; exact r4
theorem am_MT.fr {X X' : Nat → Nat → Int32} (h : am_MT X) (f1 : ∀ c j, 59 ≤ c → c ≤ 64 → X' c j = X c j) (f2 : ∀ c, 93 ≤ c → c ≤ 97 → X' c 0 = X c 0) (f3 : ∀ c j, c = 99 ∨ c = 102 ∨ c = 105 ∨ c = 107 ∨ c = 108 → X' c j = X c j) : am_MT X' := by
  obtain ⟨h1, r1, r2, r3, r4, r5, r6, r7, r8⟩ := h
  refine ⟨?_, fun k hk => ?_, fun k hk => ?_, fun k hk => ?_, fun k hk => ?_, fun k hk => ?_, ?_, fun k hk => ?_, fun k hk => ?_⟩
  · rcases h1 with ⟨a1, a2, a3, a4, a5⟩ | ⟨a1, a2, a3, a4, a5⟩
    · refine Or.inl ⟨(f1 59 1 (by decide) (by decide)).trans a1, (f2 93 (by decide) (by decide)).trans a2, (f1 59 4 (by decide) (by decide)).trans a3, fun k hk => (f1 62 k (by decide) (by decide)).trans (a4 k hk), fun k hk => (f1 64 k (by decide) (by decide)).trans (a5 k hk)⟩
    · refine Or.inr ⟨(f1 59 1 (by decide) (by decide)).trans a1, by rw [f2 93 (by decide) (by decide)]; exact a2, ?_, ?_, ?_⟩
      · rw [f2 93 (by decide) (by decide), f1 59 2 (by decide) (by decide)]; exact a3
      · rw [f2 94 (by decide) (by decide), f1 59 3 (by decide) (by decide)]; exact a4
      · rw [f2 96 (by decide) (by decide), f2 97 (by decide) (by decide), f1 59 2 (by decide) (by decide), f1 59 10 (by decide) (by decide), f1 59 11 (by decide) (by decide)]; exact a5
  · rw [f1 61 k (by decide) (by decide), f3 107 k (by omega)]; exact r1 k hk
  · rw [f1 62 k (by decide) (by decide), f3 102 k (by omega)]; exact r2 k hk
  · rw [f1 63 k (by decide) (by decide), f3 108 k (by omega)]; exact r3 k hk
  · rw [f1 64 k (by decide) (by decide), f3 105 k (by omega)]; exact r4 k hk
  · rw [f1 60 k (by decide) (by decide), f3 99 k (by omega)]; exact r5 k hk
  · rw [f1 59 4 (by decide) (by decide), f2 95 (by decide) (by decide)]; exact r6
  · rw [f1 61 k (by decide) (by decide), f1 62 k (by decide) (by decide)]; exact r7 k hk
  · rw [f1 63 k (by decide) (by decide), f1 64 k (by decide) (by decide)]; exact r8 k hk
theorem in_B.fr {X X' : Nat → Nat → Int32} {F m : Nat} {sz : Nat → Nat} (h : in_B X F sz m) (f1 : ∀ c j, 1 ≤ c → c ≤ 9 → X' c j = X c j) (f2 : ∀ c j, 11 ≤ c → c ≤ 24 → X' c j = X c j) (f3 : ∀ j, 1 ≤ j → j ≤ 13 → X' 69 j = X 69 j) (f4 : ∀ c j, (70 ≤ c ∧ c ≤ 74) ∨ (77 ≤ c ∧ c ≤ 86) → X' c j = X c j) (hi : am_MI X') (ht : am_MT X') : in_B X' F sz m := by
  refine ⟨h.pg.fr (fun c j h1 h2 _ => f1 c j h1 (by omega)) (fun c j h1 h2 h3 => ?_), h.im.fr f2 (fun j h1 h2 => f3 j (by omega) h2) (fun c j h1 h2 => f4 c j (Or.inr ⟨h1, h2⟩)), hi, ht, fun z => ?_, (f1 1 7 (by decide) (by decide)).trans h.ch, ?_, ?_⟩
  · by_cases e : c = 69
    · subst e; exact f3 j (by omega) (by omega)
    · exact f4 c j (Or.inl ⟨by omega, h2⟩)
  · rw [f1 7 5 (by decide) (by decide), f1 1 7 (by decide) (by decide)] at z
    obtain ⟨i, hR⟩ := h.fc z
    exact ⟨i, am_FR_cg (fun c j h1 h2 => f4 c j (Or.inl ⟨by omega, h2⟩)) (hR.u (fun c j hc => f1 c j (by omega) (by omega)))⟩
  · rw [f1 7 5 (by decide) (by decide)]; exact h.sn
  · rw [f3 12 (by decide) (by decide)]; exact h.wd
theorem am_d40 : ∀ x, x < 960 → nI x / 40 = nI (x / 40) ∧ nI x - nI x / 40 * 40 = nI (x % 40) := by decide +kernel
theorem am_m1n {n : Nat} (h : n < 2 ^ 31) : ¬ nI n = -1 := fun z => nI_pos h (by rw [z]; decide)
section PBD
variable {X : Nat → Nat → Int32} {e : am_E} {Q : am_Q} {kc ks n : Nat} {w k i f : Int32}
theorem p_body (hA : in_A X n) (hw : 109 ≤ e.2.1) (K : ∀ v X', md mX12_body [.int f, .int w] v X' e (n + 1) → Q (some (.int v)) (hp X' e)) : am_Go (mX11_body, 0, am_ent mX11_body [.ref 0, .int f, .int w], [], hp X e, kc, ks, Q) := by
  have hA2 := hA.s
  obtain ⟨F, sz, m, hm, hB⟩ := hA
  rcases hB.im with ⟨i1, i2, i3, i4, i5⟩ | ⟨W, G, R, O, hG⟩
  · refine c_X11_body (by rw [i3]; decide) (K _ X (fun Q' q' => c_X12_body (fun z => absurd i1 z) (am_qi (q' X e hA2 hw rfl) ?_ rfl)))
    have eb : am_bdy X f = -1 := by
      unfold am_bdy
      rw [i3, if_neg (fun z => Int32.not_lt.mpr z.1 z.2)]
    have ea : am_adr X (-1) = -1 := by
      unfold am_adr
      rw [if_neg (fun z => absurd z.1 (by decide))]
    unfold am_mby
    rw [if_pos i1, eb, ea, ite_self, ite_self]
  · have g24 := hG.g24
    refine c_X11_body (am_wl hG.c4 hG.g24 (by decide)) (K _ X (fun Q' q' => c_X12_body (fun _ z => ?_) (am_qi (q' X e hA2 hw rfl) ?_ rfl)))
    · obtain ⟨j, hj, e⟩ := (am_35 (m := G) (by omega) hG.m11).mp z
      rw [e]; exact vp_in_nI (by omega) (by decide)
    · unfold am_mby
      rw [if_neg (show ¬ X 69 10 = 0 by rw [hG.hi]; decide)]
      by_cases c : 0 ≤ f ∧ f < X 11 4
      · obtain ⟨j, hj, rfl⟩ := (am_34 (m := G) (by omega) hG.c4).mp c
        obtain ⟨b, b1, b2, b3, b4⟩ := hG.bd j hj
        have eb : am_bdy X (nI j) = nI b := by
          unfold am_bdy
          rw [if_pos c, nI_clamp (by omega), b2]
        have ea : am_adr X (nI b) = X 78 j := by
          unfold am_adr
          rw [if_pos ((am_34 (m := G) (by omega) hG.c4).mpr ⟨b, b1, rfl⟩), nI_clamp (by omega), b4]
        rw [if_neg (zb_ne.mpr ((am_35 (m := G) (by omega) hG.m11).mpr ⟨j, hj, rfl⟩)), eb, ea, nI_clamp (by omega), b3]
      · have eb : am_bdy X f = -1 := by
          unfold am_bdy
          rw [if_neg c]
        have ea : am_adr X (-1) = -1 := by
          unfold am_adr
          rw [if_neg (fun z => absurd z.1 (by decide))]
        rw [if_pos (zb_0.mpr (fun z => c ((am_34 (m := G) (by omega) hG.c4).mpr ((am_35 (m := G) (by omega) hG.m11).mp z)))), eb, ea, ite_self, ite_self]
theorem p_routine (hA : in_A X n) (hw : 109 ≤ e.2.1) (K : ∀ v X', md mX12_routine [.int k, .int w] v X' e (n + 1) → Q (some (.int v)) (hp X' e)) : am_Go (mX11_routine, 0, am_ent mX11_routine [.ref 0, .int k, .int w], [], hp X e, kc, ks, Q) := by
  have hA2 := hA.s
  obtain ⟨F, sz, m, hm, hB⟩ := hA
  rcases hB.im with ⟨i1, i2, i3, i4, i5⟩ | ⟨W, G, R, O, hG⟩
  · refine c_X11_routine (by rw [i4]; decide) (K _ X (fun Q' q' => c_X12_routine (fun z => absurd i1 z.1) (am_qi (q' X e hA2 hw rfl) ?_ rfl)))
    unfold am_mro
    rw [if_pos (zb_0.mpr (fun z => z.1 i1)), if_neg (fun z => by rw [i4] at z; exact Int32.not_lt.mpr z.1 z.2)]
  · have r60 := hG.r60
    refine c_X11_routine (am_wl hG.cR hG.r60 (by decide)) (K _ X (fun Q' q' => c_X12_routine (fun z => ?_) (am_qi (q' X e hA2 hw rfl) ?_ rfl)))
    · obtain ⟨j, hj, e⟩ := (am_35 (m := R) (by omega) hG.mR).mp z.2
      rw [e]; exact vp_in_nI (by omega) (by decide)
    · unfold am_mro
      by_cases c : 0 ≤ k ∧ k < X 15 10
      · obtain ⟨j, hj, rfl⟩ := (am_34 (m := R) (by omega) hG.cR).mp c
        obtain ⟨o, t, a1, a2, a3, a4, a5, a6, a7, a8⟩ := hG.rt j hj
        rw [if_neg (zb_ne.mpr ⟨by rw [hG.hi]; decide, (am_35 (m := R) (by omega) hG.mR).mpr ⟨j, hj, rfl⟩⟩)]
        simp only [if_pos c]
        rw [nI_clamp (by omega), a6, a7, a5, a4, a3]
      · rw [if_pos (zb_0.mpr (fun z => c ((am_34 (m := R) (by omega) hG.cR).mpr ((am_35 (m := R) (by omega) hG.mR).mp z.2)))), if_neg c]
theorem p_occurrence (hA : in_A X n) (hw : 109 ≤ e.2.1) (K : ∀ v X', md mX12_occurrence [.int k, .int i, .int w] v X' e (n + 1) → Q (some (.int v)) (hp X' e)) : am_Go (mX11_occurrence, 0, am_ent mX11_occurrence [.ref 0, .int k, .int i, .int w], [], hp X e, kc, ks, Q) := by
  have hA2 := hA.s
  obtain ⟨F, sz, m, hm, hB⟩ := hA
  rcases hB.im with ⟨i1, i2, i3, i4, i5⟩ | ⟨W, G, R, O, hG⟩
  · refine c_X11_occurrence (by rw [i4]; decide) (by rw [i5]; decide) (K _ X (fun Q' q' => c_X12_occurrence (fun z => absurd i1 z.1) (fun z => absurd i1 z.1) (am_qi (q' X e hA2 hw rfl) ?_ rfl)))
    have eo : am_iof X k i = -1 := by
      unfold am_iof
      rw [if_neg (fun z => by rw [i4] at z; exact Int32.not_lt.mpr z.1.1 z.1.2)]
    unfold am_moc
    rw [if_pos (zb_0.mpr (fun z => z.1 i1)), eo, if_pos rfl]
  · have r60 := hG.r60
    have o150 := hG.o150
    have tb : ∀ j, j < R → ∃ t, t ≤ 150 ∧ X 81 j = nI t := fun j hj => by
      obtain ⟨o, t, a1, a2, a3, a4, _⟩ := hG.rt j hj
      exact ⟨t, by omega, a4⟩
    refine c_X11_occurrence (am_wl hG.cR hG.r60 (by decide)) (am_wl hG.cO hG.o150 (by decide)) (K _ X (fun Q' q' => c_X12_occurrence (fun z => ?_) (fun z y => ?_) (am_qi (q' X e hA2 hw rfl) ?_ rfl)))
    · obtain ⟨j, hj, e⟩ := (am_35 (m := R) (by omega) hG.mR).mp z.2
      rw [e]; exact vp_in_nI (by omega) (by decide)
    · obtain ⟨j, hj, e1⟩ := (am_35 (m := R) (by omega) hG.mR).mp z.2
      obtain ⟨t, ht, et⟩ := tb j hj
      rw [e1, nI_clamp (by omega)] at y
      obtain ⟨l, hl, e2⟩ := (am_35 (m := t) (by omega) et).mp y
      rw [e1, e2, show (150 : Int32) * nI j + nI l = nI (150 * j + l) from by rw [show (150 : Int32) = nI 150 from rfl, nI_mul, nI_add]]
      exact vp_in_nI (by omega) (by decide)
    · unfold am_moc
      by_cases c : 0 ≤ k ∧ k < X 15 10
      · obtain ⟨j, hj, rfl⟩ := (am_34 (m := R) (by omega) hG.cR).mp c
        obtain ⟨o, t, a1, a2, a3, a4, a5, a6, a7, a8⟩ := hG.rt j hj
        rw [if_neg (zb_ne.mpr ⟨by rw [hG.hi]; decide, (am_35 (m := R) (by omega) hG.mR).mpr ⟨j, hj, rfl⟩⟩)]
        by_cases c2 : ¬ i < 0 ∧ i < X 19 j
        · have c2' := c2
          rw [a3] at c2'
          obtain ⟨l, hl, rfl⟩ := (am_32 (m := t) (by omega)).mp c2'
          obtain ⟨x, x1, x2, x3, x4, x5⟩ := a8 l hl
          have eo : am_iof X (nI j) (nI l) = nI (o + l) := by
            unfold am_iof
            rw [nI_clamp (by omega), if_pos ⟨c, c2⟩, a2, nI_add]
          have hr : 0 ≤ nI (o + l) ∧ nI (o + l) < X 15 11 := (am_34 (m := O) (by omega) hG.cO).mpr ⟨o + l, by omega, rfl⟩
          rw [if_neg (zb_ne.mpr (by rw [nI_clamp (by omega)]; exact (am_35 (m := t) (by omega) a4).mpr ⟨l, hl, rfl⟩)), eo, if_neg (am_m1n (by omega)), show (150 : Int32) * nI j + nI l = nI (150 * j + l) from by rw [show (150 : Int32) = nI 150 from rfl, nI_mul, nI_add], nI_clamp (show 150 * j + l < 2 ^ 31 by omega), nI_clamp (show o + l < 2 ^ 31 by omega)]
          simp only [if_pos hr]
          rw [x2, (am_d40 x x1).1, ← (am_d40 x x1).1, (am_d40 x x1).2, (am_d40 x x1).1, x3, x4, x5]
        · have eo : am_iof X (nI j) i = -1 := by
            unfold am_iof
            rw [nI_clamp (by omega), if_neg (fun z => c2 z.2)]
          rw [eo, if_pos rfl, if_pos (zb_0.mpr (fun z => c2 (by
            rw [nI_clamp (by omega)] at z
            rw [a3]
            exact (am_32 (m := t) (by omega)).mpr ((am_35 (m := t) (by omega) a4).mp z))))]
      · have eo : am_iof X k i = -1 := by
          unfold am_iof
          rw [if_neg (fun z => c z.1)]
        rw [if_pos (zb_0.mpr (fun z => c ((am_34 (m := R) (by omega) hG.cR).mpr ((am_35 (m := R) (by omega) hG.mR).mp z.2)))), eo, if_pos rfl]
theorem c_X12_run_no (h : zb (¬ w < 0 ∧ ¬ 1 < w) = 0 ∨ zb (¬ k < 1 ∧ ¬ 20000 < k) = 0) (q : Q (some (.int (-1))) (hp X e)) : am_Go (mX12_run, 0, am_ent mX12_run [.ref 69, .int w, .int k], [], hp X e, kc, ks, Q) := by
  refine go_s 3 rfl ?_
  refine go_st kX12_run_3 okX12_in rfl rfl rfl (Nat.zero_le _) (Nat.zero_le _) ?_
  refine c_X12_in ?_
  refine go_s 1 rfl ?_
  refine go_if (fun c => ?_) (fun c => ?_)
  · refine go_s 1 rfl ?_
    exact go_ret rfl rfl q
  · refine go_s 3 rfl ?_
    refine go_st kX12_run_14 okX12_in rfl rfl rfl (Nat.zero_le _) (Nat.zero_le _) ?_
    refine c_X12_in ?_
    refine go_s 1 rfl ?_
    refine go_if (fun c2 => ?_) (fun c2 => absurd (h.resolve_left c) c2)
    refine go_s 1 rfl ?_
    exact go_ret rfl rfl q
theorem p_run (hA : in_A X n) (hw : 109 ≤ e.2.1) (K : ∀ v X', md mX12_run [.int w, .int k] v X' e (n + 1) → Q (some (.int v)) (hp X' e)) : am_Go (mX11_run, 0, am_ent mX11_run [.ref 0, .int w, .int k], [], hp X e, kc, ks, Q) := by
  have hA2 := hA.s
  obtain ⟨F, sz, m, hm, hB⟩ := hA
  have hno : k < 1 ∨ 20000 < k → zb (¬ k < 1 ∧ ¬ 20000 < k) = 0 := fun z => zb_0.mpr (fun y => z.elim y.1 y.2)
  have hyes : ¬ (k < 1 ∨ 20000 < k) → ∃ N, 1 ≤ N ∧ N ≤ 20000 ∧ k = nI N := fun z => by
    have z1 : ¬ k < 1 := fun y => z (Or.inl y)
    have z2 : ¬ 20000 < k := fun y => z (Or.inr y)
    have z0 : ¬ k < 0 := fun y => z1 (by
      rw [Int32.lt_iff_toInt_lt] at y ⊢
      rw [show (0 : Int32).toInt = 0 by decide] at y
      rw [show (1 : Int32).toInt = 1 by decide]
      omega)
    obtain ⟨N, hN, rfl⟩ := nI_of z0
    refine ⟨N, ?_, ?_, rfl⟩
    · apply Classical.byContradiction
      intro y
      exact z1 (nI_lt (a := N) (b := 1) (by omega) (by decide))
    · have := mt (nI_lt (a := 20000) (b := N) · hN) z2
      omega
  by_cases w0 : w = 0
  · subst w0
    by_cases hf : k < 1 ∨ 20000 < k
    · exact c_X11_run_59n hf (K _ X (fun Q' q' => c_X12_run_no (Or.inr (hno hf)) (q' X e hA2 hw rfl)))
    · obtain ⟨N, h1, h2, rfl⟩ := hyes hf
      have fr : ∀ c j, c < 59 ∨ 64 < c → (am_rn_59 X N).2 c j = X c j := fun c j hc => by
        unfold am_rn_59
        split
        · rfl
        · exact am_E59_ne (by omega) (by omega) (by omega) (by omega) (by omega) (by omega)
      refine c_X11_run_59 h1 h2 hB.pg.h5 hB.pg.h6 (K _ _ (fun Q' q' => c_X12_run_0 h1 h2 hB.pg hB.mt (fun D' g1 g2 g3 => q' D' e ⟨F, sz, m, by omega, hB.fr (fun c j a1 a2 => ?_) (fun c j a1 a2 => ?_) (fun j a1 a2 => ?_) (fun c j a1 => ?_) ?_ g3⟩ hw rfl)))
      · rw [g1 c j (by omega)]; exact fr c j (by omega)
      · rw [g1 c j (by omega)]; exact fr c j (by omega)
      · exact g2 69 j (by decide) (by decide) (by decide) (by decide) (by decide) (by decide) (Or.inl (by decide)) (by omega)
      · exact g2 c j (by omega) (by omega) (by omega) (by omega) (by omega) (by omega) (by omega) (by omega)
      · refine hB.mi.fr (fun c j a1 a2 => ?_) (fun c a1 a2 => ?_) (fun c j a1 => ?_)
        · rw [g1 c j (by omega)]; exact fr c j (by omega)
        · exact g2 c 1 (by omega) (by omega) (by omega) (by omega) (by omega) (by omega) (by omega) (by omega)
        · exact g2 c j (by omega) (by omega) (by omega) (by omega) (by omega) (by omega) (by omega) (by omega)
  by_cases w1 : w = 1
  · subst w1
    by_cases hf : k < 1 ∨ 20000 < k
    · exact c_X11_run_65n hf (K _ X (fun Q' q' => c_X12_run_no (Or.inr (hno hf)) (q' X e hA2 hw rfl)))
    · obtain ⟨N, h1, h2, rfl⟩ := hyes hf
      have fr : ∀ c j, c < 65 ∨ 68 < c → (am_rn_65 X N).2 c j = X c j := fun c j hc => by
        unfold am_rn_65
        split
        · rfl
        · exact am_E65_ne (by omega) (by omega) (by omega) (by omega)
      have hW : (X 11 3).toInt ≤ 600 := by
        rcases hB.im with ⟨_, i2, _⟩ | ⟨W, G, R, O, hG⟩
        · rw [i2]; decide
        · exact am_wl hG.wi.2.1 hG.wi.1 (by decide)
      have hG4 : (X 11 4).toInt ≤ 24 := by
        rcases hB.im with ⟨_, _, i3, _⟩ | ⟨W, G, R, O, hG⟩
        · rw [i3]; decide
        · exact am_wl hG.c4 hG.g24 (by decide)
      refine c_X11_run_65 h1 h2 hW hG4 (K _ _ (fun Q' q' => c_X12_run_1 h1 h2 hB.im hB.mi (fun D' g1 g2 g3 => q' D' e ⟨F, sz, m, by omega, hB.fr (fun c j a1 a2 => ?_) (fun c j a1 a2 => ?_) (fun j a1 a2 => ?_) (fun c j a1 => ?_) g3 ?_⟩ hw rfl)))
      · rw [g1 c j (by omega)]; exact fr c j (by omega)
      · rw [g1 c j (by omega)]; exact fr c j (by omega)
      · exact g2 69 j (by decide) (by decide) (by decide) (by decide) (Or.inl (by decide))
      · exact g2 c j (by omega) (by omega) (by omega) (by omega) (by omega)
      · refine hB.mt.fr (fun c j a1 a2 => ?_) (fun c a1 a2 => ?_) (fun c j a1 => ?_)
        · rw [g1 c j (by omega)]; exact fr c j (by omega)
        · exact g2 c 0 (by omega) (by omega) (by omega) (by omega) (by omega)
        · exact g2 c j (by omega) (by omega) (by omega) (by omega) (by omega)
  · exact c_X11_run_x w0 w1 (K _ X (fun Q' q' => c_X12_run_no (Or.inl (am_w01 w0 w1)) (q' X e hA2 hw rfl)))
end PBD
