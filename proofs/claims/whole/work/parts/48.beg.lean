theorem am_u_self (D : Nat → Nat → Int32) (o k : Nat) : am_u D o k (D o k) = D := by
  funext i j
  unfold am_u
  split
  · rename_i h
    rw [h.1, h.2]
  · rfl
def am_fi2 (D : Nat → Nat → Int32) (o p k : Nat) : Nat → Nat → Int32 := fun i j => if (i = o ∨ i = p) ∧ j < k then 0 else D i j
theorem am_fi2_s (D : Nat → Nat → Int32) (o p k : Nat) : am_u (am_u (am_fi2 D o p k) o k 0) p k 0 = am_fi2 D o p (k + 1) := by
  funext i j
  unfold am_u am_fi2
  by_cases h1 : i = p ∧ j = k
  · rw [if_pos h1, if_pos ⟨Or.inr h1.1, by omega⟩]
  · rw [if_neg h1]
    by_cases h2 : i = o ∧ j = k
    · rw [if_pos h2, if_pos ⟨Or.inl h2.1, by omega⟩]
    · rw [if_neg h2]
      by_cases h3 : (i = o ∨ i = p) ∧ j < k
      · rw [if_pos h3, if_pos ⟨h3.1, by omega⟩]
      · rw [if_neg h3, if_neg]
        rintro ⟨a, b⟩
        have : j = k := by
          apply Classical.byContradiction
          intro hne
          exact h3 ⟨a, by omega⟩
        rcases a with a | a
        · exact h2 ⟨a, this⟩
        · exact h1 ⟨a, this⟩
theorem am_fi2_0 (D : Nat → Nat → Int32) (o p : Nat) : am_fi2 D o p 0 = D := by
  funext i j
  unfold am_fi2
  rw [if_neg (by omega)]
theorem am_fil_0 (D : Nat → Nat → Int32) (o : Nat) (v : Int32) : am_fil D o 0 v = D := by
  funext i j
  unfold am_fil
  rw [if_neg (by omega)]
theorem c_beg0_23 {B : Nat → Nat → Int32} {e : am_E} {kc ks : Nat} {Q : am_Q} (K : am_Go (mX12_begin, 64, [.ref 69, .int 0, .int (nI 32)], [], hp (am_fi2 B 102 107 32) e, kc, ks, Q)) : ∀ (n k : Nat), n + k = 32 → am_Go (mX12_begin, 23, [.ref 69, .int 0, .int (nI k)], [], hp (am_fi2 B 102 107 k) e, kc, ks, Q)
  | 0, k, h => by
    have e : k = 32 := by omega
    subst e
    refine go_s 3 rfl ?_
    refine go_if (fun c => absurd c (show ¬ nI 32 < nI 32 by decide)) (fun c => ?_)
    exact K
  | n + 1, k, h => by
    refine go_s 3 rfl ?_
    refine go_if (fun c => ?_) (fun c => absurd (show nI k < nI 32 from nI_lt (by omega) (by decide)) c)
    refine go_s 3 rfl ?_
    refine go_m rfl rfl (show vp_in _ 2 from vp_in_nI (n := 0) (by decide) (by decide)) ?_
    refine go_s 2 rfl ?_
    refine go_m rfl rfl (show vp_in (nI k) 32 from vp_in_nI (by omega) (by decide)) ?_
    refine go_s 5 rfl ?_
    refine go_if (fun c => ?_) (fun c => absurd (by decide) c)
    refine go_s 2 rfl ?_
    refine go_m rfl rfl (show vp_in (nI k) 32 from vp_in_nI (by omega) (by decide)) ?_
    refine go_s 2 (pc' := 23) (ls' := [.ref 69, .int 0, .int (nI (k + 1))]) (st' := []) (h' := hp (am_u (am_u (am_fi2 B 102 107 k) 102 (nI k).toNatClampNeg 0) 107 (nI k).toNatClampNeg 0) e) (by rw [nI_succ]; rfl) ?_
    rw [nI_clamp (show k < 2 ^ 31 by omega), am_fi2_s]
    exact c_beg0_23 K n (k + 1) (by omega)
theorem c_beg0_66 {B : Nat → Nat → Int32} {e : am_E} {kc ks : Nat} {Q : am_Q} (K : am_Go (mX12_begin, 107, [.ref 69, .int 0, .int (nI 64)], [], hp (am_fi2 B 105 108 64) e, kc, ks, Q)) : ∀ (n k : Nat), n + k = 64 → am_Go (mX12_begin, 66, [.ref 69, .int 0, .int (nI k)], [], hp (am_fi2 B 105 108 k) e, kc, ks, Q)
  | 0, k, h => by
    have e : k = 64 := by omega
    subst e
    refine go_s 3 rfl ?_
    refine go_if (fun c => absurd c (show ¬ nI 64 < nI 64 by decide)) (fun c => ?_)
    exact K
  | n + 1, k, h => by
    refine go_s 3 rfl ?_
    refine go_if (fun c => ?_) (fun c => absurd (show nI k < nI 64 from nI_lt (by omega) (by decide)) c)
    refine go_s 3 rfl ?_
    refine go_m rfl rfl (show vp_in _ 2 from vp_in_nI (n := 0) (by decide) (by decide)) ?_
    refine go_s 2 rfl ?_
    refine go_m rfl rfl (show vp_in (nI k) 64 from vp_in_nI (by omega) (by decide)) ?_
    refine go_s 5 rfl ?_
    refine go_if (fun c => ?_) (fun c => absurd (by decide) c)
    refine go_s 2 rfl ?_
    refine go_m rfl rfl (show vp_in (nI k) 64 from vp_in_nI (by omega) (by decide)) ?_
    refine go_s 2 (pc' := 66) (ls' := [.ref 69, .int 0, .int (nI (k + 1))]) (st' := []) (h' := hp (am_u (am_u (am_fi2 B 105 108 k) 105 (nI k).toNatClampNeg 0) 108 (nI k).toNatClampNeg 0) e) (by rw [nI_succ]; rfl) ?_
    rw [nI_clamp (show k < 2 ^ 31 by omega), am_fi2_s]
    exact c_beg0_66 K n (k + 1) (by omega)
theorem c_beg1_23 {B : Nat → Nat → Int32} {e : am_E} {kc ks : Nat} {Q : am_Q} (K : am_Go (mX12_begin, 64, [.ref 69, .int 1, .int (nI 32)], [], hp (am_fil B 103 32 0) e, kc, ks, Q)) : ∀ (n k : Nat), n + k = 32 → am_Go (mX12_begin, 23, [.ref 69, .int 1, .int (nI k)], [], hp (am_fil B 103 k 0) e, kc, ks, Q)
  | 0, k, h => by
    have e : k = 32 := by omega
    subst e
    refine go_s 3 rfl ?_
    refine go_if (fun c => absurd c (show ¬ nI 32 < nI 32 by decide)) (fun c => ?_)
    exact K
  | n + 1, k, h => by
    refine go_s 3 rfl ?_
    refine go_if (fun c => ?_) (fun c => absurd (show nI k < nI 32 from nI_lt (by omega) (by decide)) c)
    refine go_s 3 rfl ?_
    refine go_m rfl rfl (show vp_in _ 2 from vp_in_nI (n := 1) (by decide) (by decide)) ?_
    refine go_s 2 rfl ?_
    refine go_m rfl rfl (show vp_in (nI k) 32 from vp_in_nI (by omega) (by decide)) ?_
    refine go_s 5 rfl ?_
    refine go_if (fun c => absurd c (by decide)) (fun c => ?_)
    refine go_s 3 rfl ?_
    refine go_m rfl rfl (show vp_in (nI k) 32 from vp_in_nI (by omega) (by decide)) ?_
    refine go_m rfl rfl (show vp_in (nI k) 32 from vp_in_nI (by omega) (by decide)) ?_
    refine go_s 2 (pc' := 23) (ls' := [.ref 69, .int 1, .int (nI (k + 1))]) (st' := []) (h' := hp (am_u (am_u (am_fil B 103 k 0) 103 (nI k).toNatClampNeg 0) 107 (nI k).toNatClampNeg (am_u (am_fil B 103 k 0) 103 (nI k).toNatClampNeg 0 107 (nI k).toNatClampNeg)) e) (by rw [nI_succ]; rfl) ?_
    rw [am_u_self, nI_clamp (show k < 2 ^ 31 by omega), am_fil_s]
    exact c_beg1_23 K n (k + 1) (by omega)
theorem c_beg1_66 {B : Nat → Nat → Int32} {e : am_E} {kc ks : Nat} {Q : am_Q} (K : am_Go (mX12_begin, 107, [.ref 69, .int 1, .int (nI 64)], [], hp (am_fil B 106 64 0) e, kc, ks, Q)) : ∀ (n k : Nat), n + k = 64 → am_Go (mX12_begin, 66, [.ref 69, .int 1, .int (nI k)], [], hp (am_fil B 106 k 0) e, kc, ks, Q)
  | 0, k, h => by
    have e : k = 64 := by omega
    subst e
    refine go_s 3 rfl ?_
    refine go_if (fun c => absurd c (show ¬ nI 64 < nI 64 by decide)) (fun c => ?_)
    exact K
  | n + 1, k, h => by
    refine go_s 3 rfl ?_
    refine go_if (fun c => ?_) (fun c => absurd (show nI k < nI 64 from nI_lt (by omega) (by decide)) c)
    refine go_s 3 rfl ?_
    refine go_m rfl rfl (show vp_in _ 2 from vp_in_nI (n := 1) (by decide) (by decide)) ?_
    refine go_s 2 rfl ?_
    refine go_m rfl rfl (show vp_in (nI k) 64 from vp_in_nI (by omega) (by decide)) ?_
    refine go_s 5 rfl ?_
    refine go_if (fun c => absurd c (by decide)) (fun c => ?_)
    refine go_s 3 rfl ?_
    refine go_m rfl rfl (show vp_in (nI k) 64 from vp_in_nI (by omega) (by decide)) ?_
    refine go_m rfl rfl (show vp_in (nI k) 64 from vp_in_nI (by omega) (by decide)) ?_
    refine go_s 2 (pc' := 66) (ls' := [.ref 69, .int 1, .int (nI (k + 1))]) (st' := []) (h' := hp (am_u (am_u (am_fil B 106 k 0) 106 (nI k).toNatClampNeg 0) 108 (nI k).toNatClampNeg (am_u (am_fil B 106 k 0) 106 (nI k).toNatClampNeg 0 108 (nI k).toNatClampNeg)) e) (by rw [nI_succ]; rfl) ?_
    rw [am_u_self, nI_clamp (show k < 2 ^ 31 by omega), am_fil_s]
    exact c_beg1_66 K n (k + 1) (by omega)
def am_bg0 (D : Nat → Nat → Int32) : Nat → Nat → Int32 := (am_fi2 (am_fi2 (am_u (am_u (am_u D 94 0 0) 95 0 0) 97 0 (-1)) 102 107 32) 105 108 64)
theorem c_X12_begin_0 {D : Nat → Nat → Int32} {e : am_E} {kc ks : Nat} {Q : am_Q} (q : Q none (hp (am_bg0 D) e)) : am_Go (mX12_begin, 0, am_ent mX12_begin [.ref 69, .int 0], [], hp D e, kc, ks, Q) := by
  refine go_s 4 rfl ?_
  refine go_m rfl rfl (show vp_in _ 2 from vp_in_nI (n := 0) (by decide) (by decide)) ?_
  refine go_s 4 rfl ?_
  refine go_m rfl rfl (show vp_in _ 2 from vp_in_nI (n := 0) (by decide) (by decide)) ?_
  refine go_s 4 rfl ?_
  refine go_m rfl rfl (show vp_in _ 2 from vp_in_nI (n := 0) (by decide) (by decide)) ?_
  refine go_s 2 (pc' := 23) (ls' := [.ref 69, .int 0, .int (nI 0)]) (st' := []) (h' := hp (am_u (am_u (am_u D 94 0 0) 95 0 0) 97 0 (-1)) e) rfl ?_
  rw [← am_fi2_0 (am_u (am_u (am_u D 94 0 0) 95 0 0) 97 0 (-1)) 102 107]
  refine c_beg0_23 ?_ 32 0 rfl
  refine go_s 2 (pc' := 66) (ls' := [.ref 69, .int 0, .int (nI 0)]) (st' := []) (h' := hp (am_fi2 (am_u (am_u (am_u D 94 0 0) 95 0 0) 97 0 (-1)) 102 107 32) e) rfl ?_
  rw [← am_fi2_0 (am_fi2 (am_u (am_u (am_u D 94 0 0) 95 0 0) 97 0 (-1)) 102 107 32) 105 108]
  refine c_beg0_66 ?_ 64 0 rfl
  exact go_retv rfl rfl q
def am_bg1 (D : Nat → Nat → Int32) : Nat → Nat → Int32 := (am_fil (am_fil (am_u (am_u (am_u D 94 1 0) 95 1 0) 97 1 (-1)) 103 32 0) 106 64 0)
theorem c_X12_begin_1 {D : Nat → Nat → Int32} {e : am_E} {kc ks : Nat} {Q : am_Q} (q : Q none (hp (am_bg1 D) e)) : am_Go (mX12_begin, 0, am_ent mX12_begin [.ref 69, .int 1], [], hp D e, kc, ks, Q) := by
  refine go_s 4 rfl ?_
  refine go_m rfl rfl (show vp_in _ 2 from vp_in_nI (n := 1) (by decide) (by decide)) ?_
  refine go_s 4 rfl ?_
  refine go_m rfl rfl (show vp_in _ 2 from vp_in_nI (n := 1) (by decide) (by decide)) ?_
  refine go_s 4 rfl ?_
  refine go_m rfl rfl (show vp_in _ 2 from vp_in_nI (n := 1) (by decide) (by decide)) ?_
  refine go_s 2 (pc' := 23) (ls' := [.ref 69, .int 1, .int (nI 0)]) (st' := []) (h' := hp (am_u (am_u (am_u D 94 1 0) 95 1 0) 97 1 (-1)) e) rfl ?_
  rw [← am_fil_0 (am_u (am_u (am_u D 94 1 0) 95 1 0) 97 1 (-1)) 103 0]
  refine c_beg1_23 ?_ 32 0 rfl
  refine go_s 2 (pc' := 66) (ls' := [.ref 69, .int 1, .int (nI 0)]) (st' := []) (h' := hp (am_fil (am_u (am_u (am_u D 94 1 0) 95 1 0) 97 1 (-1)) 103 32 0) e) rfl ?_
  rw [← am_fil_0 (am_fil (am_u (am_u (am_u D 94 1 0) 95 1 0) 97 1 (-1)) 103 32 0) 106 0]
  refine c_beg1_66 ?_ 64 0 rfl
  exact go_retv rfl rfl q
