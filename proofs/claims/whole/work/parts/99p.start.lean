/-! from the law's entry to its loop -/
def am_LF : am_LR := [(69, 39, 108), (69, 38, 107), (69, 37, 104), (104, 1, 106), (104, 0, 105), (69, 36, 101), (101, 1, 103), (101, 0, 102), (69, 35, 98), (98, 1, 100), (98, 0, 99), (69, 34, 97), (69, 33, 96), (69, 32, 95), (69, 31, 94), (69, 30, 93), (69, 29, 92), (69, 28, 91), (69, 27, 90), (69, 26, 89), (69, 25, 88), (69, 24, 87), (69, 23, 86), (69, 22, 85), (69, 21, 84), (69, 20, 83), (69, 19, 82), (69, 18, 81), (69, 17, 80), (69, 16, 79), (69, 15, 78), (69, 14, 77), (69, 9, 76), (69, 8, 75), (69, 7, 74), (69, 6, 73), (69, 5, 72), (69, 4, 71), (69, 3, 70), (0, 7, 65), (65, 5, 11), (65, 7, 68), (65, 6, 67), (65, 0, 66), (0, 6, 59), (59, 5, 1), (59, 9, 64), (59, 8, 63), (59, 7, 62), (59, 6, 61), (59, 0, 60), (0, 5, 57), (57, 2, 15), (57, 1, 11), (57, 0, 1), (57, 3, 58), (0, 4, 26), (26, 2, 15), (26, 1, 11), (26, 0, 1), (26, 11, 56), (26, 10, 55), (26, 9, 54), (26, 8, 53), (26, 7, 52), (26, 6, 30), (30, 20, 51), (30, 19, 50), (30, 18, 49), (30, 17, 48), (30, 16, 47), (30, 15, 46), (30, 14, 45), (30, 13, 44), (30, 12, 43), (30, 11, 42), (30, 10, 41), (30, 9, 40), (30, 8, 39), (30, 7, 38), (30, 6, 37), (30, 5, 36), (30, 4, 35), (30, 3, 34), (30, 2, 33), (30, 1, 32), (30, 0, 31), (26, 5, 29), (26, 4, 28), (26, 3, 27), (0, 3, 15), (15, 9, 25), (15, 8, 24), (15, 7, 23), (15, 6, 22), (15, 5, 21), (15, 4, 20), (15, 3, 19), (15, 2, 18), (15, 1, 17), (15, 0, 16), (0, 2, 11), (11, 2, 14), (11, 1, 13), (11, 0, 12), (0, 1, 7), (7, 0, 1), (7, 3, 10), (7, 2, 9), (7, 1, 8), (0, 0, 1), (1, 4, 6), (1, 3, 5), (1, 2, 4), (1, 1, 3), (1, 0, 2)]
theorem am_rfn : ∀ i k, am_rf0 i k = am_rl am_LF i k := by
  have T1 : ∀ i, i < 109 → ∀ k, k < 41 → am_rf0 i k = am_rl am_LF i k := by decide +kernel
  have T2 : ∀ q ∈ am_LF, q.1 < 109 ∧ q.2.1 < 41 := by decide +kernel
  have T3 : ∀ r ∈ am_rfl, r.length ≤ 41 := by decide +kernel
  have T4 : am_rfl.length = 109 := by decide +kernel
  have key : ∀ (L : am_LR) (i k : Nat), (∀ q ∈ L, q.1 < 109 ∧ q.2.1 < 41) → (109 ≤ i ∨ 41 ≤ k) → am_rl L i k = none := by
    intro L
    induction L with
    | nil => intro i k _ _; rfl
    | cons q L ih =>
      intro i k h1 h2
      have := h1 q List.mem_cons_self
      show (if i = q.1 ∧ k = q.2.1 then some q.2.2 else am_rl L i k) = none
      rw [if_neg (by omega)]
      exact ih i k (fun p hp => h1 p (List.mem_cons_of_mem _ hp)) h2
  intro i k
  by_cases h : i < 109 ∧ k < 41
  · exact T1 i h.1 k h.2
  · rw [key am_LF i k T2 (by omega)]
    unfold am_rf0
    by_cases hi : i < 109
    · have hm : am_rfl.getD i [] ∈ am_rfl := by
        rw [List.getD_eq_getElem?_getD, List.getElem?_eq_getElem (by omega)]
        exact List.getElem_mem _
      have := T3 _ hm
      rw [List.getD_eq_getElem?_getD, List.getElem?_eq_none (by omega)]
      rfl
    · rw [List.getD_eq_getElem?_getD (l := am_rfl), List.getElem?_eq_none (by omega)]
      rfl
theorem am_sh_len : am_sh0.length = 109 := by decide +kernel
/-- what the constructors leave is what holds between two calls -/
theorem cs_A {S : Nat → am_S} {R : Nat → Nat → Option Nat} {D : Nat → Nat → Int32} (h : cs S R D 109 am_LF [(93, 1, (-1)), (93, 0, (-1)), (7, 5, (-1))]) : in_A D 0 := by
  have d0 : ∀ c j, c ≠ 7 → c ≠ 25 → c ≠ 93 → D c j = 0 := fun c j h1 h2 h3 => by
    rw [h.d c j h2]
    show (if c = 93 ∧ j = 1 then (-1 : Int32) else if c = 93 ∧ j = 0 then -1 else if c = 7 ∧ j = 5 then -1 else 0) = 0
    rw [if_neg (fun z => h3 z.1), if_neg (fun z => h3 z.1), if_neg (fun z => h1 z.1)]
  have d7 : D 7 5 = -1 := (h.d 7 5 (by decide)).trans (by decide)
  have d930 : D 93 0 = -1 := (h.d 93 0 (by decide)).trans (by decide)
  have d931 : D 93 1 = -1 := (h.d 93 1 (by decide)).trans (by decide)
  have z : ∀ c j, c ≠ 7 → c ≠ 25 → c ≠ 93 → D c j = nI 0 := fun c j h1 h2 h3 => (d0 c j h1 h2 h3).trans rfl
  refine ⟨0, fun _ => 0, 0, Nat.le_refl _, ⟨Nat.zero_le _, z 1 5 (by decide) (by decide) (by decide), z 69 1 (by decide) (by decide) (by decide), fun f hf => absurd hf (Nat.not_lt_zero _), fun f hf => absurd hf (Nat.not_lt_zero _), fun f hf => ?_, Nat.zero_le _, z 1 6 (by decide) (by decide) (by decide), z 69 2 (by decide) (by decide) (by decide), fun f p hf => absurd hf (Nat.not_lt_zero _)⟩, Or.inl ⟨d0 69 10 (by decide) (by decide) (by decide), d0 11 3 (by decide) (by decide) (by decide), d0 11 4 (by decide) (by decide) (by decide), d0 15 10 (by decide) (by decide) (by decide), d0 15 11 (by decide) (by decide) (by decide)⟩, ⟨Or.inl ⟨d0 65 1 (by decide) (by decide) (by decide), d931, d0 65 4 (by decide) (by decide) (by decide), fun k _ => d0 67 k (by decide) (by decide) (by decide), fun k _ => d0 68 k (by decide) (by decide) (by decide)⟩, fun k _ => ?_, fun k _ => ?_, fun k _ => ?_, ?_⟩, ⟨Or.inl ⟨d0 59 1 (by decide) (by decide) (by decide), d930, d0 59 4 (by decide) (by decide) (by decide), fun k _ => d0 62 k (by decide) (by decide) (by decide), fun k _ => d0 64 k (by decide) (by decide) (by decide)⟩, fun k _ => ?_, fun k _ => ?_, fun k _ => ?_, fun k _ => ?_, fun k _ => ?_, ?_, fun k _ => ?_, fun k _ => ?_⟩, fun y => ?_, z 1 7 (by decide) (by decide) (by decide), Or.inl d7, ⟨0, Nat.zero_le _, z 69 12 (by decide) (by decide) (by decide)⟩⟩
  · have ef : f = 0 := by omega
    subst ef
    exact z 6 0 (by decide) (by decide) (by decide)
  · rw [d0 67 k (by decide) (by decide) (by decide), d0 103 k (by decide) (by decide) (by decide)]
  · rw [d0 68 k (by decide) (by decide) (by decide), d0 106 k (by decide) (by decide) (by decide)]
  · rw [d0 66 k (by decide) (by decide) (by decide), d0 100 k (by decide) (by decide) (by decide)]
  · rw [d0 65 4 (by decide) (by decide) (by decide), d0 95 1 (by decide) (by decide) (by decide)]
  · rw [d0 61 k (by decide) (by decide) (by decide), d0 107 k (by decide) (by decide) (by decide)]
  · rw [d0 62 k (by decide) (by decide) (by decide), d0 102 k (by decide) (by decide) (by decide)]
  · rw [d0 63 k (by decide) (by decide) (by decide), d0 108 k (by decide) (by decide) (by decide)]
  · rw [d0 64 k (by decide) (by decide) (by decide), d0 105 k (by decide) (by decide) (by decide)]
  · rw [d0 60 k (by decide) (by decide) (by decide), d0 99 k (by decide) (by decide) (by decide)]
  · rw [d0 59 4 (by decide) (by decide) (by decide), d0 95 0 (by decide) (by decide) (by decide)]
  · rw [d0 61 k (by decide) (by decide) (by decide), d0 62 k (by decide) (by decide) (by decide)]
    exact ⟨fun y => absurd y (by decide), fun y => absurd y (by decide)⟩
  · rw [d0 63 k (by decide) (by decide) (by decide), d0 64 k (by decide) (by decide) (by decide)]
    exact ⟨fun y => absurd y (by decide), fun y => absurd y (by decide)⟩
  · rw [d7, d0 1 7 (by decide) (by decide) (by decide)] at y
    exact absurd y (by decide)
theorem cs_hp {S : Nat → am_S} {R : Nat → Nat → Option Nat} {D : Nat → Nat → Int32} {N : am_LN} {L : Nat} {xs : Nat → Int32} (h : cs S R D 109 am_LF N) : (S, R, D, 109, am_tb L xs) = hp D (S, 109, L, xs) := by
  have e1 : S = fun i => am_sh0.getD i (S i) := by
    funext i
    rw [List.getD_eq_getElem?_getD]
    by_cases hi : i < 109
    · rw [h.s1 i hi]; rfl
    · rw [List.getElem?_eq_none (by rw [am_sh_len]; omega)]; rfl
  have e2 : R = am_rf0 := by
    funext i k
    rw [h.r i k, am_rfn i k]
  show (S, R, D, 109, am_tb L xs) = (fun i => am_sh0.getD i (S i), am_rf0, D, 109, am_tb L xs)
  rw [← e1, e2]
set_option maxRecDepth 20000 in
theorem c_law0 {L : Nat} {xs : Nat → Int32} {Q : am_Q} (hL : L ≤ 3072) (q : ∀ h, Q (some (.int 1)) h) : am_Go (mL_law, 0, am_ent mL_law [.retAddr 5], [], (fun _ => .inl 999, fun _ _ => none, fun _ _ => 0, 0, am_tb L xs), 600000, 7302250, Q) := by
  have h0 : cs (fun _ => .inl 999) (fun _ _ => none) (fun _ _ => 0) 0 [] [] := ⟨fun i hi => absurd hi (Nat.not_lt_zero _), fun _ _ => rfl, fun _ _ => rfl, fun _ _ _ => rfl, (fun q hq => (by cases hq)), (fun q hq => (by cases hq))⟩
  refine cs_new 8 108 109 92 h0 rfl rfl (by decide +kernel) (by decide +kernel) (by decide +kernel) (by decide) (by decide) rfl (fun S1 R1 D1 h1 => ?_)
  refine go_s 1 rfl ?_
  refine go_sp kL_law_4 okX11_init rfl rfl rfl (by decide) (by decide) ?_
  refine c_X11_init_0 h1 (fun S2 R2 D2 h2 => ?_)
  refine go_s 1 rfl ?_
  refine cs_new 9 1306 1307 103 h2 rfl rfl (by decide +kernel) (by decide +kernel) (by decide +kernel) (by decide) (by decide) rfl (fun S3 R3 D3 h3 => ?_)
  refine go_s 1 rfl ?_
  refine go_sp kL_law_12 okX12_init rfl rfl rfl (by decide) (by decide) ?_
  refine c_X12_init_69 h3 (fun S4 R4 D4 h4 => ?_)
  have h4 : cs S4 R4 D4 109 am_LF [(93, 1, (-1)), (93, 0, (-1)), (7, 5, (-1))] := h4
  refine go_s 3 rfl ?_
  rw [cs_hp h4]
  exact c_law hL q (L / 6 + 1) 0 _ _ D4 (S4, 109, L, xs) (by omega) rfl (Nat.le_refl 109) (cs_A h4) (by decide) (by decide) (by omega)
