/-- Arrays.fill -/
def am_fil (D : Nat → Nat → Int32) (o n : Nat) (v : Int32) : Nat → Nat → Int32 := fun i j => if i = o ∧ j < n then v else D i j
theorem am_fil_s (D : Nat → Nat → Int32) (o k : Nat) (v : Int32) : am_u (am_fil D o k v) o k v = am_fil D o (k + 1) v := by
  funext i j
  unfold am_u am_fil
  by_cases h1 : i = o <;> by_cases h2 : j = k <;> by_cases h3 : j < k <;> simp [h1, h2, h3] <;> omega
theorem c_fill_loop {h : am_H} {o n : Nat} {v : Int32} {kc ks : Nat} {Q : am_Q} (hn : n < 2 ^ 31) (ho : h.1 o = .inr (0, n)) (q : Q none (h.1, h.2.1, am_fil h.2.2.1 o n v, h.2.2.2)) : ∀ (d k : Nat), d + k = n → am_Go (mJ7_fill_53178, 5, [.ref o, .int v, .int (nI k), .int (nI n)], [], (h.1, h.2.1, am_fil h.2.2.1 o k v, h.2.2.2), kc, ks, Q) := by
  intro d
  induction d with
  | zero =>
    intro k hk
    have hk : k = n := by omega
    subst hk
    refine go_s 3 rfl ?_
    refine go_if (fun c => absurd c (nI_nlt (Nat.le_refl k) hn)) (fun c => ?_)
    exact go_retv rfl rfl q
  | succ d ih =>
    intro k hk
    refine go_s 3 rfl ?_
    refine go_if (fun c => ?_) (fun c => absurd (nI_lt (by omega) hn) c)
    refine go_s 3 rfl ?_
    refine go_m (P := vp_in (nI k) n) (pc' := 14) (st' := []) (ls' := [.ref o, .int v, .int (nI k), .int (nI n)]) (h' := (h.1, h.2.1, am_u (am_fil h.2.2.1 o k v) o (nI k).toNatClampNeg v, h.2.2.2)) rfl (by show (match h.1 o with | .inr (0, n) => _ | _ => _) = _; rw [ho]; rfl) (vp_in_nI (by omega) hn) ?_
    rw [nI_clamp (by omega), am_fil_s]
    refine go_s 2 (pc' := 5) (ls' := [.ref o, .int v, .int (nI (k + 1)), .int (nI n)]) (st' := []) (h' := (h.1, h.2.1, am_fil h.2.2.1 o (k + 1) v, h.2.2.2)) (by rw [← nI_1]; rfl) ?_
    exact ih (k + 1) (by omega)
theorem c_fill {h : am_H} {o n : Nat} {v : Int32} {kc ks : Nat} {Q : am_Q} (hn : n < 2 ^ 31) (ho : h.1 o = .inr (0, n)) (q : Q none (h.1, h.2.1, am_fil h.2.2.1 o n v, h.2.2.2)) : am_Go (mJ7_fill_53178, 0, am_ent mJ7_fill_53178 [.ref o, .int v], [], h, kc, ks, Q) := by
  have e0 : h = (h.1, h.2.1, am_fil h.2.2.1 o 0 v, h.2.2.2) := by
    have : am_fil h.2.2.1 o 0 v = h.2.2.1 := by funext i j; simp [am_fil]
    rw [this]
  refine go_s 3 (pc' := 3) (ls' := [.ref o, .int v, .int 0, .long 0]) (st' := [.ref o]) (h' := h) rfl ?_
  refine am_Go.intro ⟨.arraylength, 1, rfl, Or.inl ⟨4, [.ref o, .int v, .int 0, .long 0], [.int (nI n)], h, ?_, ?_⟩⟩
  · show am_len 3 _ [.ref o] h = _
    unfold am_len
    dsimp only
    rw [ho]
    rfl
  refine go_s 1 (pc' := 5) (ls' := [.ref o, .int v, .int 0, .int (nI n)]) (st' := []) (h' := h) rfl ?_
  have := c_fill_loop (kc := kc) (ks := ks) hn ho q n 0 (by omega)
  rw [← e0, nI_0] at this
  exact this
theorem c_J7_fill_53178 {D : Nat → Nat → Int32} {e : am_E} {kc ks : Nat} {Q : am_Q} {o n : Nat} {v : Int32} (ho : (hp D e).1 o = .inr (0, n)) (hn : n < 2 ^ 31) (q : Q none (hp (am_fil D o n v) e)) : am_Go (mJ7_fill_53178, 0, am_ent mJ7_fill_53178 [.ref o, .int v], [], hp D e, kc, ks, Q) := c_fill hn ho q
