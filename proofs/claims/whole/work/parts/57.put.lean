theorem nI_sub {a b : Nat} (h : b ≤ a) : nI a - nI b = nI (a - b) := by
  obtain ⟨c, rfl⟩ := Nat.exists_eq_add_of_le h
  rw [Nat.add_comm b c, ← nI_add, Nat.add_sub_cancel]
  exact Int32.add_sub_cancel _ _
theorem am_inF {F : Nat} {f : Int32} (hF : F ≤ 1000) (h : ¬ f < 0 ∧ ¬ nI F - 1 < f) : ∃ ff, ff < F ∧ f = nI ff := by
  obtain ⟨j, hj, rfl⟩ := nI_of h.1
  rcases F with _ | F
  · exact absurd (show nI 0 - 1 < nI j by
      rw [Int32.lt_iff_toInt_lt, nI_toInt hj, show (nI 0 - 1).toInt = -1 by decide]; omega) h.2
  · rw [nI_pred] at h
    have := mt (nI_lt (a := F) (b := j) · hj) h.2
    exact ⟨j, by omega, rfl⟩
theorem am_inF' {F ff : Nat} (hF : F ≤ 1000) (h : ff < F) : ¬ nI ff < 0 ∧ ¬ nI F - 1 < nI ff := by
  rcases F with _ | F
  · omega
  · rw [nI_pred]
    exact ⟨nI_pos (by omega), nI_nlt (by omega) (by omega)⟩
def am_pk (F : Nat) (sz : Nat → Nat) (f n a b c : Int32) : Prop := am_gd n a b c ∧ ∃ ff, ff < F ∧ f = nI ff ∧ sz ff < 40 ∧ am_st sz F < 300
theorem am_pok_pk {C D : Nat → Nat → Int32} {F : Nat} {sz : Nat → Nat} {f n a b c : Int32} (h : am_PG C D F sz) : am_pok C f n a b c ↔ am_pk F sz f n a b c := by
  have hF := h.hF
  have ht := h.t300
  have key : ∀ ff, ff < F → am_lof C (nI ff) = nI (sz ff) := fun ff hf => by
    unfold am_lof
    rw [if_pos ⟨nI_pos' (by omega), by rw [h.c5]; exact nI_lt hf (by omega)⟩, nI_1, nI_clamp (by omega), nI_clamp (by omega), h.c6 _ (by omega), h.c6 _ (by omega), nI_sub (by show am_st sz ff ≤ am_st sz ff + sz ff; omega)]
    congr 1
    show am_st sz ff + sz ff - am_st sz ff = _
    omega
  constructor
  · rintro ⟨h1, h2, h3, h4, ⟨h5, h6⟩, h7, h8⟩
    refine ⟨⟨h1, h2, h3, h4⟩, ?_⟩
    obtain ⟨ff, hj, rfl⟩ := nI_of (Int32.not_lt.mpr h5)
    rw [h.c5] at h6
    have hf := (nI_ltI hj (by omega)).mp h6
    rw [key ff hf] at h7
    rw [h.cS] at h8
    have := h.s40 ff hf
    exact ⟨ff, hf, rfl, (nI_ltI (b := 40) (by omega) (by decide)).mp h7, (nI_ltI (b := 300) (by omega) (by decide)).mp h8⟩
  · rintro ⟨⟨h1, h2, h3, h4⟩, ff, hf, rfl, h7, h8⟩
    refine ⟨h1, h2, h3, h4, ⟨nI_pos' (by omega), by rw [h.c5]; exact nI_lt hf (by omega)⟩, ?_, ?_⟩
    · rw [key ff hf]; exact nI_lt (a := sz ff) (b := 40) h7 (by decide)
    · rw [h.cS]; exact nI_lt (a := am_st sz F) (b := 300) h8 (by decide)
theorem am_pv {C D : Nat → Nat → Int32} {F : Nat} {sz : Nat → Nat} {f : Int32} (c : ¬ zb (¬ f < 0 ∧ ¬ D 69 1 - 1 < f) = 0) (hP : am_PG C D F sz) : vp_in f 24 := by
  have hF := hP.hF
  have c := zb_ne.mp c
  rw [hP.m1] at c
  obtain ⟨ff, hf, rfl⟩ := am_inF (by omega) c
  exact vp_in_nI (by omega) (by decide)
theorem am_pn {C D : Nat → Nat → Int32} {F : Nat} {sz : Nat → Nat} {f n a b c : Int32} (c1 : ¬ zb (¬ f < 0 ∧ ¬ D 69 1 - 1 < f) = 0) (c2 : ¬ am_igd n a b c = 0) (c3 : ¬ D 70 f.toNatClampNeg = 40) (c4 : ¬ D 69 2 = 300) (hP : am_PG C D F sz) : am_pk F sz f n a b c := by
  have hF := hP.hF
  have ht := hP.t300
  have c1 := zb_ne.mp c1
  rw [hP.m1] at c1
  obtain ⟨ff, hf, rfl⟩ := am_inF (by omega) c1
  have h40 := hP.s40 ff hf
  rw [nI_clamp (by omega), hP.m70 ff hf] at c3
  rw [hP.mS] at c4
  refine ⟨?_, ff, hf, rfl, ?_, ?_⟩
  · rcases am_igP n a b c with h | h
    · exact absurd h.1 c2
    · exact h.2
  · have : ¬ sz ff = 40 := fun z => c3 (by rw [z]; rfl)
    omega
  · have : ¬ am_st sz F = 300 := fun z => c4 (by rw [z]; rfl)
    omega
theorem c_X12_put_no {D : Nat → Nat → Int32} {e : am_E} {kc ks : Nat} {Q : am_Q} {C : Nat → Nat → Int32} {F : Nat} {sz : Nat → Nat} {f n a b c : Int32} (hP : am_PG C D F sz) (hn : ¬ am_pk F sz f n a b c) (q : Q (some (.int (-1))) (hp D e)) : am_Go (mX12_put, 0, am_ent mX12_put [.ref 69, .int f, .int n, .int a, .int b, .int c], [], hp D e, kc, ks, Q) := by
  refine go_s 6 rfl ?_
  refine go_st kX12_put_8 okX12_in rfl rfl rfl (Nat.zero_le _) (Nat.zero_le _) ?_
  refine c_X12_in ?_
  refine go_s 1 rfl ?_
  refine go_if (fun c11 => ?_) (fun c11 => ?_)
  · refine go_s 1 rfl ?_
    exact go_ret rfl rfl (am_qi q (by rfl) (by rfl))
  · refine go_s 4 rfl ?_
    refine go_st kX12_put_20 okX12_isGood rfl rfl rfl (Nat.zero_le _) (Nat.zero_le _) ?_
    refine c_X12_isGood ?_
    refine go_s 1 rfl ?_
    refine go_if (fun c23 => ?_) (fun c23 => ?_)
    · refine go_s 1 rfl ?_
      exact go_ret rfl rfl (am_qi q (by rfl) (by rfl))
    · refine go_s 3 rfl ?_
      refine go_m rfl rfl (am_pv c11 hP) ?_
      refine go_s 2 rfl ?_
      refine go_if (fun c34 => ?_) (fun c34 => ?_)
      · refine go_s 1 rfl ?_
        exact go_ret rfl rfl (am_qi q (by rfl) (by rfl))
      · refine go_s 4 rfl ?_
        refine go_if (fun c44 => ?_) (fun c44 => ?_)
        · refine go_s 1 rfl ?_
          exact go_ret rfl rfl (am_qi q (by rfl) (by rfl))
        · exact absurd (am_pn c11 c23 c34 c44 hP) hn
def am_mput (D : Nat → Nat → Int32) (ff s T : Nat) (n a b c : Int32) : Nat → Nat → Int32 := am_u (am_u (am_u (am_u (am_u (am_u D 71 (40 * ff + s) n) 72 (40 * ff + s) a) 73 (40 * ff + s) b) 74 (40 * ff + s) c) 70 ff (nI (s + 1))) 69 2 (nI (T + 1))
theorem c_X12_put_ok {D : Nat → Nat → Int32} {e : am_E} {kc ks : Nat} {Q : am_Q} {C : Nat → Nat → Int32} {F ff : Nat} {sz : Nat → Nat} {n a b c : Int32} (hP : am_PG C D F sz) (hf : ff < F) (hs : sz ff < 40) (ht : am_st sz F < 300) (hgd : am_gd n a b c) (q : Q (some (.int (nI (sz ff)))) (hp (am_mput D ff (sz ff) (am_st sz F) n a b c) e)) : am_Go (mX12_put, 0, am_ent mX12_put [.ref 69, .int (nI ff), .int n, .int a, .int b, .int c], [], hp D e, kc, ks, Q) := by
  have hF := hP.hF
  have hg : ¬ am_igd n a b c = 0 := by
    rcases am_igP n a b c with h | h
    · exact absurd hgd h.2
    · rw [h.1]; decide
  have hX : vp_in (nI (40 * ff + sz ff)) 960 := vp_in_nI (by omega) (by decide)
  have hcl := nI_clamp (show 40 * ff + sz ff < 2 ^ 31 by omega)
  have hcf := nI_clamp (show ff < 2 ^ 31 by omega)
  refine go_s 6 rfl ?_
  refine go_st kX12_put_8 okX12_in rfl rfl rfl (Nat.zero_le _) (Nat.zero_le _) ?_
  refine c_X12_in ?_
  refine go_s 1 rfl ?_
  refine go_if (fun c11 => absurd c11 (zb_ne.mpr (by show ¬ nI ff < 0 ∧ ¬ D 69 1 - 1 < nI ff; rw [hP.m1]; exact am_inF' (by omega) hf))) (fun c11 => ?_)
  refine go_s 4 rfl ?_
  refine go_st kX12_put_20 okX12_isGood rfl rfl rfl (Nat.zero_le _) (Nat.zero_le _) ?_
  refine c_X12_isGood ?_
  refine go_s 1 rfl ?_
  refine go_if (fun c23 => absurd c23 hg) (fun c23 => ?_)
  refine go_s 3 rfl ?_
  refine go_m rfl rfl (show vp_in (nI ff) 24 from vp_in_nI (by omega) (by decide)) ?_
  refine go_s 2 rfl ?_
  refine go_if (fun c34 => absurd c34 (by show ¬ D 70 (nI ff).toNatClampNeg = 40; rw [nI_clamp (by omega), hP.m70 ff hf]; exact fun z => absurd ((nI_eq (b := 40) (by omega) (by decide)).mp z) (by omega))) (fun c34 => ?_)
  refine go_s 4 rfl ?_
  refine go_if (fun c44 => absurd c44 (by show ¬ D 69 2 = 300; rw [hP.mS]; exact fun z => absurd ((nI_eq (b := 300) (by omega) (by decide)).mp z) (by omega))) (fun c44 => ?_)
  refine go_s 6 rfl ?_
  refine go_m rfl rfl (show vp_in (nI ff) 24 from vp_in_nI (by omega) (by decide)) ?_
  refine go_s 2 (pc' := 62) (ls' := [.ref 69, .int (nI ff), .int n, .int a, .int b, .int c, .int (nI (40 * ff + sz ff))]) (st' := []) (h' := hp D e) (by rw [show nI (40 * ff + sz ff) = nI 40 * nI ff + D 70 (nI ff).toNatClampNeg by rw [hcf, hP.m70 ff hf, nI_mul, nI_add]]; rfl) ?_
  refine go_s 4 rfl ?_
  refine go_m rfl rfl hX ?_
  refine go_s 4 rfl ?_
  refine go_m rfl rfl hX ?_
  refine go_s 4 rfl ?_
  refine go_m rfl rfl hX ?_
  refine go_s 4 rfl ?_
  refine go_m rfl rfl hX ?_
  show am_Go (mX12_put, 96, [.ref 69, .int (nI ff), .int n, .int a, .int b, .int c, .int (nI (40 * ff + sz ff))], [], hp (am_u (am_u (am_u (am_u D 71 (nI (40 * ff + sz ff)).toNatClampNeg n) 72 (nI (40 * ff + sz ff)).toNatClampNeg a) 73 (nI (40 * ff + sz ff)).toNatClampNeg b) 74 (nI (40 * ff + sz ff)).toNatClampNeg c) e, kc, ks, Q)
  rw [hcl]
  unfold am_mput at q
  have e1 : am_u (am_u (am_u (am_u D 71 (40 * ff + sz ff) n) 72 (40 * ff + sz ff) a) 73 (40 * ff + sz ff) b) 74 (40 * ff + sz ff) c 70 ff = nI (sz ff) := by
    rw [am_u_ne (by decide), am_u_ne (by decide), am_u_ne (by decide), am_u_ne (by decide)]; exact hP.m70 ff hf
  have e2 : am_u (am_u (am_u (am_u D 71 (40 * ff + sz ff) n) 72 (40 * ff + sz ff) a) 73 (40 * ff + sz ff) b) 74 (40 * ff + sz ff) c 69 2 = nI (am_st sz F) := by
    rw [am_u_ne (by decide), am_u_ne (by decide), am_u_ne (by decide), am_u_ne (by decide)]; exact hP.mS
  generalize am_u (am_u (am_u (am_u D 71 (40 * ff + sz ff) n) 72 (40 * ff + sz ff) a) 73 (40 * ff + sz ff) b) 74 (40 * ff + sz ff) c = E at q e1 e2 ⊢
  refine go_s 4 rfl ?_
  refine go_m rfl rfl (show vp_in (nI ff) 24 from vp_in_nI (by omega) (by decide)) ?_
  refine go_s 2 rfl ?_
  refine go_m rfl rfl (show vp_in (nI ff) 24 from vp_in_nI (by omega) (by decide)) ?_
  show am_Go (mX12_put, 106, [.ref 69, .int (nI ff), .int n, .int a, .int b, .int c, .int (nI (40 * ff + sz ff))], [], hp (am_u E 70 (nI ff).toNatClampNeg (E 70 (nI ff).toNatClampNeg + 1)) e, kc, ks, Q)
  rw [hcf, e1, nI_1]
  refine go_s 9 rfl ?_
  refine go_m rfl rfl (show vp_in (nI ff) 24 from vp_in_nI (by omega) (by decide)) ?_
  refine go_s 2 rfl ?_
  refine go_ret rfl rfl (am_qi q ?_ ?_)
  · show am_u (am_u E 70 ff (nI (sz ff + 1))) 69 2 (am_u E 70 ff (nI (sz ff + 1)) 69 2 + 1) 70 (nI ff).toNatClampNeg - 1 = _
    rw [hcf, am_u_ne (by decide), am_u_eq, nI_pred]
  · show hp (am_u (am_u E 70 ff (nI (sz ff + 1))) 69 2 (am_u E 70 ff (nI (sz ff + 1)) 69 2 + 1)) e = _
    rw [am_u_ne (o := 70) (by decide), e2, nI_1]
theorem c_X11_put_no {D : Nat → Nat → Int32} {e : am_E} {kc ks : Nat} {Q : am_Q} {f n a b c : Int32} (hF : (D 1 5).toInt ≤ 24) (hn : ¬ am_pok D f n a b c) (q : Q (some (.int (-1))) (hp D e)) : am_Go (mX11_put, 0, am_ent mX11_put [.ref 0, .int f, .int n, .int a, .int b, .int c], [], hp D e, kc, ks, Q) := by
  refine go_s 7 rfl ?_
  refine go_v kX11_put_11 okX5_addInstruction rfl rfl rfl rfl (Nat.zero_le _) (Nat.zero_le _) ?_
  refine c_X5_addInstruction_no hF hn ?_
  exact go_ret rfl rfl (am_qi q (by rfl) (by rfl))
