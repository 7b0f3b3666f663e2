def am_inc (D : Nat → Nat → Int32) (lo hi : Nat) : Nat → Nat → Int32 := fun i j => if i = 6 ∧ lo ≤ j ∧ j < hi then D 6 j + 1 else D i j
theorem am_inc_0 (D : Nat → Nat → Int32) (lo : Nat) : am_inc D lo lo = D := by
  funext i j
  unfold am_inc
  rw [if_neg (by omega)]
theorem am_inc_s {D : Nat → Nat → Int32} {lo g : Nat} (h : lo ≤ g) : am_u (am_inc D lo g) 6 g (am_inc D lo g 6 g + 1) = am_inc D lo (g + 1) := by
  funext i j
  unfold am_u am_inc
  by_cases h1 : i = 6
  · subst h1
    by_cases h2 : j = g
    · subst h2
      rw [if_pos ⟨rfl, rfl⟩, if_neg (by omega), if_pos (by omega)]
    · rw [if_neg (by omega)]
      by_cases h3 : lo ≤ j ∧ j < g
      · rw [if_pos ⟨rfl, h3⟩, if_pos (by omega)]
      · rw [if_neg (fun z => h3 z.2), if_neg (by omega)]
  · rw [if_neg (fun z => h1 z.1), if_neg (fun z => h1 z.1), if_neg (fun z => h1 z.1)]
theorem c_put_loop {D : Nat → Nat → Int32} {e : am_E} {kc ks F lo : Nat} {Q : am_Q} {x1 x2 x3 x4 x5 x6 x7 x8 x9 : Int32} (hF : F ≤ 24) (hD : D 1 5 = nI F) (K : am_Go (mX5_addInstruction, 157, [.ref 1, .int x1, .int x2, .int x3, .int x4, .int x5, .int x6, .int x7, .int x8, .int x9, .int (nI (F + 1))], [], hp (am_inc D lo (F + 1)) e, kc, ks, Q)) : ∀ (n g : Nat), lo ≤ g → n + g = F + 1 → am_Go (mX5_addInstruction, 131, [.ref 1, .int x1, .int x2, .int x3, .int x4, .int x5, .int x6, .int x7, .int x8, .int x9, .int (nI g)], [], hp (am_inc D lo g) e, kc, ks, Q) := by
  intro n
  induction n with
  | zero =>
    intro g hl hg
    have hg : g = F + 1 := by omega
    subst hg
    refine go_s 4 rfl ?_
    refine go_if (fun c => ?_) (fun c => absurd (show am_inc D lo (F + 1) 1 5 < nI (F + 1) from by rw [show am_inc D lo (F + 1) 1 5 = D 1 5 from rfl, hD]; exact nI_lt (by omega) (by omega)) c)
    exact K
  | succ n ih =>
    intro g hl hg
    refine go_s 4 rfl ?_
    refine go_if (fun c => absurd c (show ¬ am_inc D lo g 1 5 < nI g from by rw [show am_inc D lo g 1 5 = D 1 5 from rfl, hD]; exact nI_nlt (by omega) (by omega))) (fun c => ?_)
    refine go_s 4 rfl ?_
    refine go_m rfl rfl (show vp_in (nI g) 25 from vp_in_nI (by omega) (by omega)) ?_
    refine go_s 2 rfl ?_
    refine go_m rfl rfl (show vp_in (nI g) 25 from vp_in_nI (by omega) (by omega)) ?_
    refine go_s 2 (pc' := 131) (ls' := [.ref 1, .int x1, .int x2, .int x3, .int x4, .int x5, .int x6, .int x7, .int x8, .int x9, .int (nI (g + 1))]) (st' := []) (h' := hp (am_inc D lo (g + 1)) e) (by
      rw [← nI_1, ← am_inc_s hl]
      show some (_, _, _, hp (am_u (am_inc D lo g) 6 (nI g).toNatClampNeg (am_inc D lo g 6 (nI g).toNatClampNeg + 1)) e) = _
      rw [nI_clamp (by omega)]
      rfl) ?_
    exact ih (g + 1) (by omega) (by omega)
