theorem am_rf30 : ∀ m, m < 21 → am_rf0 30 m = some (31 + m) := by decide +kernel
theorem am_sh30' : ∀ m, m < 21 → am_sh0[31 + m]? = some (.inr (0, 300)) := by decide +kernel
theorem am_sh30 {D : Nat → Nat → Int32} {e : am_E} {m : Nat} (hm : m < 21) : (hp D e).1 (31 + m) = .inr (0, 300) := by
  show am_sh0.getD (31 + m) _ = _
  rw [List.getD_eq_getElem?_getD, am_sh30' m hm]
  rfl
section NM30
variable {M : am_M} {pc kc ks m : Nat} {ls rest : List Value} {D : Nat → Nat → Int32} {e : am_E} {Q : am_Q} {x v : Int32}
theorem go_aa30 (hi : am_lk pc (am_code M) = some (.aaload, 1)) (hm : m < 21) (g : am_Go (M, pc + 1, ls, .ref (31 + m) :: rest, hp D e, kc, ks, Q)) : am_Go (M, pc, ls, .int (nI m) :: .ref 30 :: rest, hp D e, kc, ks, Q) := by
  refine go_m (P := vp_in (nI m) 21) (pc' := pc + 1) (ls' := ls) (st' := am_vr (am_rf0 30 (nI m).toNatClampNeg) :: rest) (h' := hp D e) hi rfl (vp_in_nI hm (by decide)) ?_
  rw [nI_clamp (by omega), am_rf30 m hm]
  exact g
theorem go_il30 (hi : am_lk pc (am_code M) = some (.iaload, 1)) (hm : m < 21) (hx : vp_in x 300) (g : am_Go (M, pc + 1, ls, .int (D (31 + m) x.toNatClampNeg) :: rest, hp D e, kc, ks, Q)) : am_Go (M, pc, ls, .int x :: .ref (31 + m) :: rest, hp D e, kc, ks, Q) := by
  refine go_m (P := vp_in x 300) hi ?_ hx g
  unfold am_mem
  dsimp only
  rw [am_sh30 hm]
  rfl
theorem go_is30 (hi : am_lk pc (am_code M) = some (.iastore, 1)) (hm : m < 21) (hx : vp_in x 300) (g : am_Go (M, pc + 1, ls, rest, hp (am_u D (31 + m) x.toNatClampNeg v) e, kc, ks, Q)) : am_Go (M, pc, ls, .int v :: .int x :: .ref (31 + m) :: rest, hp D e, kc, ks, Q) := by
  refine go_m (P := vp_in x 300) (pc' := pc + 1) (ls' := ls) (st' := rest) (h' := hp (am_u D (31 + m) x.toNatClampNeg v) e) hi ?_ hx g
  unfold am_mem
  dsimp only
  rw [am_sh30 hm]
  rfl
end NM30
/-- instructions that are the same -/
def am_sS (C : Nat → Nat → Int32) (s t : Nat) : Prop := C 2 s = C 2 t ∧ C 3 s = C 3 t ∧ C 4 s = C 4 t ∧ C 5 s = C 5 t
theorem am_sS_eqv (C : Nat → Nat → Int32) : am_eqv (am_sS C) := ⟨fun _ => ⟨rfl, rfl, rfl, rfl⟩, fun _ _ h => ⟨h.1.symm, h.2.1.symm, h.2.2.1.symm, h.2.2.2.symm⟩, fun _ _ _ h g => ⟨h.1.trans g.1, h.2.1.trans g.2.1, h.2.2.1.trans g.2.2.1, h.2.2.2.trans g.2.2.2⟩⟩
abbrev sq_f0 (N : Nat) (op en : Nat → Prop) (s n : Nat) : Prop := sq_ft N op en (fun _ => False) s n
def sq_fi (N : Nat) (op en : Nat → Prop) (sm : Nat → Nat → Prop) (n s r : Nat) : Prop := (r ≤ s) ∧ (sq_f0 N op en r n) ∧ (sq_rw sm r s n) ∧ (∀ t, t < r → sq_f0 N op en t n → ¬ sq_rw sm t s n)
theorem sq_fi.le {N : Nat} {op en : Nat → Prop} {sm : Nat → Nat → Prop} {n s r : Nat} (h : sq_fi N op en sm n s r) : r ≤ s := h.1
theorem sq_fi.ft {N : Nat} {op en : Nat → Prop} {sm : Nat → Nat → Prop} {n s r : Nat} (h : sq_fi N op en sm n s r) : sq_f0 N op en r n := h.2.1
theorem sq_fi.rw {N : Nat} {op en : Nat → Prop} {sm : Nat → Nat → Prop} {n s r : Nat} (h : sq_fi N op en sm n s r) : sq_rw sm r s n := h.2.2.1
theorem sq_fi.mn {N : Nat} {op en : Nat → Prop} {sm : Nat → Nat → Prop} {n s r : Nat} (h : sq_fi N op en sm n s r) : ∀ t, t < r → sq_f0 N op en t n → ¬ sq_rw sm t s n := h.2.2.2
def sq_NM (C : Nat → Nat → Int32) (N : Nat) (op en : Nat → Prop) (sm : Nat → Nat → Prop) (n M : Nat) : Prop := ∀ s, s < M → (sq_f0 N op en s n ∧ ∃ r, C (31 + n) s = nI r ∧ sq_fi N op en sm n s r) ∨ (¬ sq_f0 N op en s n ∧ C (31 + n) s = -1)
theorem sq_fi_eq {N : Nat} {op en : Nat → Prop} {sm : Nat → Nat → Prop} {n s t a b : Nat} (he : am_eqv sm) (h1 : sq_fi N op en sm n s a) (h2 : sq_fi N op en sm n t b) : a = b ↔ sq_rw sm s t n := by
  have E := sq_rw_eqv he n
  constructor
  · intro e; subst e; exact E.2.2 _ _ _ (E.2.1 _ _ h1.rw) h2.rw
  · intro z
    have x1 : ¬ a < b := fun y => h2.mn a y h1.ft (E.2.2 _ _ _ h1.rw z)
    have x2 : ¬ b < a := fun y => h1.mn b y h2.ft (E.2.2 _ _ _ h2.rw (E.2.1 _ _ z))
    omega
theorem sq_fi_self {N : Nat} {op en : Nat → Prop} {sm : Nat → Nat → Prop} {n s r : Nat} (he : am_eqv sm) (h : sq_fi N op en sm n s r) : sq_fi N op en sm n r r := ⟨Nat.le_refl _, h.ft, (sq_rw_eqv he n).1 r, fun t ht y z => h.mn t ht y ((sq_rw_eqv he n).2.2 _ _ _ z h.rw)⟩
theorem sq_f0_1 {N : Nat} {op en : Nat → Prop} {s n k : Nat} (h : sq_f0 N op en s n) (hk : k < n) : sq_f0 N op en (s + k) 1 := ⟨by have := h.1; omega, fun j hj => ⟨by rw [show j = 0 by omega]; exact (h.2 k hk).1, fun z => z, Or.inl (by omega)⟩⟩
theorem sq_rw_1 {sm : Nat → Nat → Prop} {s t : Nat} : sq_rw sm s t 1 ↔ sm s t := ⟨fun h => h 0 (by omega), fun h k hk => by rw [show k = 0 by omega]; exact h⟩
/-- a chain of spots, later ones first -/
def sq_ll (nx : Nat → Int32) : Int32 → Nat → List Nat → Prop
  | h, _, [] => h = -1
  | h, b, r :: l => h = nI r ∧ r < b ∧ sq_ll nx (nx r) r l
theorem sq_ll_mo {nx : Nat → Int32} : ∀ {l : List Nat} {h : Int32} {b b' : Nat}, sq_ll nx h b l → b ≤ b' → sq_ll nx h b' l
  | [], _, _, _, z, _ => z
  | _ :: _, _, _, _, z, hb => ⟨z.1, Nat.lt_of_lt_of_le z.2.1 hb, z.2.2⟩
theorem sq_ll_fr {nx nx' : Nat → Int32} : ∀ {l : List Nat} {h : Int32} {b : Nat}, sq_ll nx h b l → (∀ j, j < b → nx' j = nx j) → sq_ll nx' h b l
  | [], _, _, z, _ => z
  | r :: _, _, _, z, hf => ⟨z.1, z.2.1, by rw [hf r z.2.1]; exact sq_ll_fr z.2.2 (fun j hj => hf j (by have := z.2.1; omega))⟩
theorem am_sS_i {C D : Nat → Nat → Int32} {F s t : Nat} {sz : Nat → Nat} (hP : am_PG C D F sz) (hs : s < am_st sz F) (ht : t < am_st sz F) : ((0 ≤ nI s ∧ nI s < C 1 6) ∧ (0 ≤ nI t ∧ nI t < C 1 6) ∧ C 2 (nI s).toNatClampNeg = C 2 (nI t).toNatClampNeg ∧ C 3 (nI s).toNatClampNeg = C 3 (nI t).toNatClampNeg ∧ C 4 (nI s).toNatClampNeg = C 4 (nI t).toNatClampNeg ∧ C 5 (nI s).toNatClampNeg = C 5 (nI t).toNatClampNeg) ↔ am_sS C s t := by
  have h3 := hP.t300
  rw [nI_clamp (by omega), nI_clamp (by omega)]
  exact ⟨fun h => h.2.2, fun h => ⟨hP.inS hs, hP.inS ht, h⟩⟩
theorem c_X6_haveSameLast {C D : Nat → Nat → Int32} {F : Nat} {sz : Nat → Nat} {op en : Nat → Prop} {e : am_E} {Q : am_Q} (hP : am_PG C D F sz) (hN : C 26 12 = nI (am_st sz F)) {kc ks n r s : Nat} (h1 : 1 ≤ n) (h20 : n ≤ 20) (hr : sq_f0 (am_st sz F) op en r n) (hs : sq_f0 (am_st sz F) op en s n) (hM : 2 ≤ n → sq_NM C (am_st sz F) op en (am_sS C) 1 (am_st sz F)) (q : ∀ v, am_bz v (am_sS C (r + (n - 1)) (s + (n - 1))) → Q (some (.int v)) (hp C e)) : am_Go (mX6_haveSameLast, 0, am_ent mX6_haveSameLast [.ref 26, .int (nI r), .int (nI s), .int (nI n)], [], hp C e, kc, ks, Q) := by
  have h3 := hP.t300
  have r1 := hr.1
  have s1 := hs.1
  refine go_s 3 rfl ?_
  refine go_if (fun c => ?_) (fun c => ?_)
  · have c : nI n = 1 := c
    have e1 : n = 1 := (nI_eq (b := 1) (by omega) (by decide)).mp c
    subst e1
    refine go_s 4 rfl ?_
    refine go_v kX6_haveSameLast_11 okX5_isSame rfl rfl rfl rfl (Nat.zero_le _) (Nat.zero_le _) ?_
    refine c_X5_isSame hP.h6 ?_
    exact go_retz rfl rfl zb_01 (q _ (am_bz_iff am_bz_z (am_sS_i hP (by omega) (by omega))))
  · have c : ¬ nI n = 1 := c
    have e1 : 2 ≤ n := by
      have : ¬ n = 1 := fun z => c (by rw [z]; rfl)
      omega
    refine go_s 12 (pc' := 29) (ls' := [.ref 26, .int (nI r), .int (nI s), .int (nI n), .int (nI (r + (n - 1))), .int (nI (s + (n - 1)))]) (st' := []) (h' := hp C e) (by rw [show nI (r + (n - 1)) = nI r + nI n - 1 by rw [nI_add, show r + n = (r + (n - 1)) + 1 by omega, nI_pred], show nI (s + (n - 1)) = nI s + nI n - 1 by rw [nI_add, show s + n = (s + (n - 1)) + 1 by omega, nI_pred]]; rfl) ?_
    refine go_s 4 rfl ?_
    refine go_if (fun c => ?_) (fun c => absurd (show nI (r + (n - 1)) < C 26 12 by rw [hN]; exact nI_lt (by omega) (by omega)) c)
    refine go_s 4 rfl ?_
    refine go_if (fun c => ?_) (fun c => absurd (show nI (s + (n - 1)) < C 26 12 by rw [hN]; exact nI_lt (by omega) (by omega)) c)
    refine go_s 3 rfl ?_
    refine go_aa30 (m := 1) rfl (by decide) ?_
    refine go_s 1 rfl ?_
    refine go_il30 rfl (by decide) (vp_in_nI (by omega) (by decide)) ?_
    refine go_s 3 rfl ?_
    refine go_aa30 (m := 1) rfl (by decide) ?_
    refine go_s 1 rfl ?_
    refine go_il30 rfl (by decide) (vp_in_nI (by omega) (by decide)) ?_
    have f1 := sq_f0_1 hr (show n - 1 < n by omega)
    have f2 := sq_f0_1 hs (show n - 1 < n by omega)
    obtain ⟨_, a, ea, ha⟩ := (hM e1 (r + (n - 1)) (by omega)).resolve_right (fun z => z.1 f1)
    obtain ⟨_, b, eb, hb⟩ := (hM e1 (s + (n - 1)) (by omega)).resolve_right (fun z => z.1 f2)
    have la := ha.le
    have lb := hb.le
    have key : nI a = nI b ↔ am_sS C (r + (n - 1)) (s + (n - 1)) := by
      rw [nI_eq (by omega) (by omega), sq_fi_eq (am_sS_eqv C) ha hb, sq_rw_1]
    rw [nI_clamp (by omega), nI_clamp (by omega), ea, eb]
    refine go_s 1 rfl ?_
    refine go_if (fun c => ?_) (fun c => ?_)
    · refine go_s 2 rfl ?_
      exact go_retz rfl rfl (Or.inr rfl) (q 1 (Or.inr ⟨rfl, key.mp c⟩))
    · refine go_s 1 rfl ?_
      exact go_retz rfl rfl (Or.inl rfl) (q 0 (Or.inl ⟨rfl, fun z => c (key.mpr z)⟩))
theorem c_nic {C D : Nat → Nat → Int32} {F : Nat} {sz : Nat → Nat} {op en : Nat → Prop} {e : am_E} {Q : am_Q} (hP : am_PG C D F sz) (hN : C 26 12 = nI (am_st sz F)) {kc ks n c s : Nat} {L : List Nat} (hc : c < 300) (h1 : 1 ≤ n) (h20 : n ≤ 20) (hs : sq_f0 (am_st sz F) op en s n) (hM : 2 ≤ n → sq_NM C (am_st sz F) op en (am_sS C) 1 (am_st sz F)) (q1 : ∀ r, r < s → sq_f0 (am_st sz F) op en r n → r ∈ L → sq_rw (am_sS C) r s n → Q (some (.int (nI r))) (hp C e)) (q0 : (∀ r, r ∈ L → ¬ sq_rw (am_sS C) r s n) → Q (some (.int (nI s))) (hp (am_u (am_u C 53 s (C 52 c)) 52 c (nI s)) e)) : ∀ (l : List Nat) (h : Int32) (b i : Nat), sq_ll (C 53) h b l → b ≤ s → i + b ≤ 300 → (∀ r, r ∈ l → sq_f0 (am_st sz F) op en r n ∧ sq_rw (am_sS C) r s (n - 1)) → (∀ r, r ∈ L → r ∈ l ∨ ¬ sq_rw (am_sS C) r s n) → (∀ r, r ∈ l → r ∈ L) → am_Go (mX6_nameInChain, 24, [.ref 26, .int (nI c), .int (nI s), .int (nI n), .int h, .int (nI i)], [], hp C e, kc, ks, Q)
  | [], h, b, i, hl, hb, hi, hm, hL, hLl => by
    have h3 := hP.t300
    have s1 := hs.1
    have eh : h = -1 := hl
    subst eh
    have fin : am_Go (mX6_nameInChain, 74, [.ref 26, .int (nI c), .int (nI s), .int (nI n), .int (-1), .int (nI i)], [], hp C e, kc, ks, Q) := by
      refine go_s 6 rfl ?_
      refine go_m rfl rfl (show vp_in (nI c) 300 from vp_in_nI hc (by decide)) ?_
      refine go_m rfl rfl (show vp_in (nI s) 300 from vp_in_nI (by omega) (by decide)) ?_
      refine go_s 4 rfl ?_
      refine go_m rfl rfl (show vp_in (nI c) 300 from vp_in_nI hc (by decide)) ?_
      show am_Go (mX6_nameInChain, 93, _, [], hp (am_u (am_u C 53 (nI s).toNatClampNeg (C 52 (nI c).toNatClampNeg)) 52 (nI c).toNatClampNeg (nI s)) e, _, _, Q)
      rw [nI_clamp (by omega), nI_clamp (by omega)]
      refine go_s 1 rfl ?_
      exact go_ret rfl rfl (q0 (fun r hr => (hL r hr).resolve_left (fun z => by cases z)))
    refine go_s 3 rfl ?_
    refine go_if (fun c => ?_) (fun c => fin)
    refine go_s 2 rfl ?_
    refine go_if (fun c => fin) (fun c => absurd (by decide) c)
  | r :: l, h, b, i, hl, hb, hi, hm, hL, hLl => by
    have h3 := hP.t300
    have s1 := hs.1
    obtain ⟨eh, hrb, hl2⟩ := hl
    subst eh
    obtain ⟨m1, m2⟩ := hm r (List.mem_cons_self ..)
    refine go_s 3 rfl ?_
    refine go_if (fun z => ?_) (fun z => absurd (show nI i < 300 from nI_lt (a := i) (b := 300) (by omega) (by decide)) z)
    refine go_s 2 rfl ?_
    refine go_if (fun z => absurd z (nI_pos (by omega))) (fun z => ?_)
    refine go_s 3 rfl ?_
    refine go_if (fun z => ?_) (fun z => absurd (show nI r < 300 from nI_lt (a := r) (b := 300) (by omega) (by decide)) z)
    refine go_s 4 rfl ?_
    refine go_v kX6_nameInChain_50 okX6_haveSameLast rfl rfl rfl rfl (Nat.zero_le _) (Nat.zero_le _) ?_
    refine c_X6_haveSameLast hP hN h1 h20 m1 hs hM (fun v hv => ?_)
    have hv2 : am_bz v (sq_rw (am_sS C) r s n) := am_bz_iff hv (by
      obtain ⟨k, rfl⟩ : ∃ k, n = k + 1 := ⟨n - 1, by omega⟩
      rw [sq_rw_s]
      exact ⟨fun z => ⟨m2, z⟩, fun z => z.2⟩)
    refine go_s 1 rfl ?_
    refine go_if (fun c53 => ?_) (fun c53 => ?_)
    · refine go_s 3 rfl ?_
      refine go_m rfl rfl (show vp_in (nI r) 300 from vp_in_nI (by omega) (by decide)) ?_
      refine go_s 3 (pc' := 24) (ls' := [.ref 26, .int (nI c), .int (nI s), .int (nI n), .int (C 53 r), .int (nI (i + 1))]) (st' := []) (h' := hp C e) (by rw [← nI_1, show C 53 r = C 53 (nI r).toNatClampNeg by rw [nI_clamp (by omega)]]; rfl) ?_
      refine c_nic hP hN hc h1 h20 hs hM q1 q0 l (C 53 r) r (i + 1) hl2 (by omega) (by omega) (fun t ht => hm t (List.mem_cons_of_mem _ ht)) (fun t ht => ?_) (fun t ht => hLl t (List.mem_cons_of_mem _ ht))
      rcases hL t ht with z | z
      · rcases List.mem_cons.mp z with z | z
        · subst z; exact Or.inr (am_bz_0 hv2 c53)
        · exact Or.inl z
      · exact Or.inr z
    · refine go_s 1 rfl ?_
      exact go_ret rfl rfl (q1 r (by omega) m1 (hLl r (List.mem_cons_self ..)) (am_bz_n hv2 c53))
theorem c_X6_nameInChain {C D : Nat → Nat → Int32} {F : Nat} {sz : Nat → Nat} {op en : Nat → Prop} {e : am_E} {Q : am_Q} (hP : am_PG C D F sz) (hN : C 26 12 = nI (am_st sz F)) {kc ks n c s : Nat} {L : List Nat} (hc : c < 300) (h1 : 1 ≤ n) (h20 : n ≤ 20) (hs : sq_f0 (am_st sz F) op en s n) (hM : 2 ≤ n → sq_NM C (am_st sz F) op en (am_sS C) 1 (am_st sz F)) (q1 : ∀ r, r < s → sq_f0 (am_st sz F) op en r n → r ∈ L → sq_rw (am_sS C) r s n → Q (some (.int (nI r))) (hp C e)) (q0 : (∀ r, r ∈ L → ¬ sq_rw (am_sS C) r s n) → Q (some (.int (nI s))) (hp (am_u (am_u C 53 s (C 52 c)) 52 c (nI s)) e)) (hl : sq_ll (C 53) (C 52 c) s L) (hm : ∀ r, r ∈ L → sq_f0 (am_st sz F) op en r n ∧ sq_rw (am_sS C) r s (n - 1)) : am_Go (mX6_nameInChain, 0, am_ent mX6_nameInChain [.ref 26, .int (nI c), .int (nI s), .int (nI n)], [], hp C e, kc, ks, Q) := by
  have h3 := hP.t300
  have s1 := hs.1
  refine go_s 2 rfl ?_
  refine go_if (fun z => absurd z (nI_pos (by omega))) (fun z => ?_)
  refine go_s 3 rfl ?_
  refine go_if (fun z => ?_) (fun z => absurd (show nI c < 300 from nI_lt (a := c) (b := 300) hc (by decide)) z)
  refine go_s 3 rfl ?_
  refine go_m rfl rfl (show vp_in (nI c) 300 from vp_in_nI hc (by decide)) ?_
  refine go_s 3 (pc' := 24) (ls' := [.ref 26, .int (nI c), .int (nI s), .int (nI n), .int (C 52 c), .int (nI 0)]) (st' := []) (h' := hp C e) (by rw [show C 52 c = C 52 (nI c).toNatClampNeg by rw [nI_clamp (by omega)]]; rfl) ?_
  exact c_nic hP hN hc h1 h20 hs hM q1 q0 L _ s 0 hl (Nat.le_refl _) (by omega) hm (fun r hr => Or.inl hr) (fun r hr => hr)
