theorem vpz {x y : Int32} {N : Nat} (h : ¬ zb (¬ x < 0 ∧ ¬ y < x) = 0) (hy : y.toInt < N) : vp_in x N := by
  have h := zb_ne.mp h
  rw [vp_in_iff]
  have h1 := Int32.le_iff_toInt_le.mp (Int32.not_lt.mp h.1)
  have h2 := Int32.le_iff_toInt_le.mp (Int32.not_lt.mp h.2)
  simp at h1
  omega
def am_mfn (D : Nat → Nat → Int32) : Int32 × (Nat → Nat → Int32) := if D 69 1 = 24 then (-1, D) else (D 69 1 + 1 - 1, am_u (am_u D 70 (D 69 1).toNatClampNeg 0) 69 1 (D 69 1 + 1))
theorem c_X12_function {D : Nat → Nat → Int32} {e : am_E} {kc ks : Nat} {Q : am_Q}  (h : ¬ D 69 1 = 24 → vp_in (D 69 1) 24) (q : Q (some (.int ((am_mfn D).1))) (hp (am_mfn D).2 e)) : am_Go (mX12_function, 0, am_ent mX12_function [.ref 69], [], hp D e, kc, ks, Q) := by
  refine go_s 4 rfl ?_
  refine go_if (fun c6 => ?_) (fun c6 => ?_)
  · refine go_s 1 rfl ?_
    exact go_ret rfl rfl (am_qp q (by exact if_pos c6))
  · refine go_s 5 rfl ?_
    refine go_m rfl rfl (show vp_in _ 24 from h c6) ?_
    refine go_s 10 rfl ?_
    exact go_ret rfl rfl (am_qp q (by exact if_neg c6))
theorem c_X12_hasRun_0 {D : Nat → Nat → Int32} {e : am_E} {kc ks : Nat} {Q : am_Q}   (q : Q (some (.int (zb (¬ D 93 0 = -1)))) (hp D e)) : am_Go (mX12_hasRun, 0, am_ent mX12_hasRun [.ref 69, .int 0], [], hp D e, kc, ks, Q) := by
  refine go_s 3 rfl ?_
  refine go_st kX12_hasRun_3 okX12_in rfl rfl rfl (Nat.zero_le _) (Nat.zero_le _) ?_
  refine c_X12_in ?_
  refine go_s 1 rfl ?_
  refine go_if (fun c6 => absurd c6 (by decide)) (fun c6 => ?_)
  refine go_s 3 rfl ?_
  refine go_m rfl rfl (show vp_in _ 2 from vp_in_nI (n := 0) (by decide) (by decide)) ?_
  refine go_s 2 rfl ?_
  refine go_if (fun c16 => ?_) (fun c16 => ?_)
  · refine go_s 1 rfl ?_
    exact go_retz rfl rfl (by first | exact Or.inl rfl | exact Or.inr rfl | exact zb_01) (am_qi q (by exact (zb_f (fun z => z c16)).symm) (by rfl))
  · refine go_s 2 rfl ?_
    exact go_retz rfl rfl (by first | exact Or.inl rfl | exact Or.inr rfl | exact zb_01) (am_qi q (by exact (zb_t c16).symm) (by rfl))
theorem c_X12_hasRun_1 {D : Nat → Nat → Int32} {e : am_E} {kc ks : Nat} {Q : am_Q}   (q : Q (some (.int (zb (¬ D 93 1 = -1)))) (hp D e)) : am_Go (mX12_hasRun, 0, am_ent mX12_hasRun [.ref 69, .int 1], [], hp D e, kc, ks, Q) := by
  refine go_s 3 rfl ?_
  refine go_st kX12_hasRun_3 okX12_in rfl rfl rfl (Nat.zero_le _) (Nat.zero_le _) ?_
  refine c_X12_in ?_
  refine go_s 1 rfl ?_
  refine go_if (fun c6 => absurd c6 (by decide)) (fun c6 => ?_)
  refine go_s 3 rfl ?_
  refine go_m rfl rfl (show vp_in _ 2 from vp_in_nI (n := 1) (by decide) (by decide)) ?_
  refine go_s 2 rfl ?_
  refine go_if (fun c16 => ?_) (fun c16 => ?_)
  · refine go_s 1 rfl ?_
    exact go_retz rfl rfl (by first | exact Or.inl rfl | exact Or.inr rfl | exact zb_01) (am_qi q (by exact (zb_f (fun z => z c16)).symm) (by rfl))
  · refine go_s 2 rfl ?_
    exact go_retz rfl rfl (by first | exact Or.inl rfl | exact Or.inr rfl | exact zb_01) (am_qi q (by exact (zb_t c16).symm) (by rfl))
theorem c_X12_hasRun_x {D : Nat → Nat → Int32} {e : am_E} {kc ks : Nat} {Q : am_Q} {w : Int32} (hw : zb (¬ w < 0 ∧ ¬ 1 < w) = 0) (q : Q (some (.int (0))) (hp D e)) : am_Go (mX12_hasRun, 0, am_ent mX12_hasRun [.ref 69, .int w], [], hp D e, kc, ks, Q) := by
  refine go_s 3 rfl ?_
  refine go_st kX12_hasRun_3 okX12_in rfl rfl rfl (Nat.zero_le _) (Nat.zero_le _) ?_
  refine c_X12_in ?_
  refine go_s 1 rfl ?_
  refine go_if (fun c6 => ?_) (fun c6 => absurd hw c6)
  refine go_s 1 rfl ?_
  exact go_retz rfl rfl (by first | exact Or.inl rfl | exact Or.inr rfl | exact zb_01) (am_qi q (by rfl) (by rfl))
theorem c_X12_ran_0 {D : Nat → Nat → Int32} {e : am_E} {kc ks : Nat} {Q : am_Q} {v : Int32}  (q : Q (some (.int (if zb (¬ D 93 0 = -1) = 0 then -1 else if v = 0 then D 93 0 else if v = 1 then D 94 0 else if v = 2 then D 95 0 else if v = 3 then D 96 0 else if v = 4 then D 97 0 else -1))) (hp D e)) : am_Go (mX12_ran, 0, am_ent mX12_ran [.ref 69, .int 0, .int v], [], hp D e, kc, ks, Q) := by
  refine go_s 2 rfl ?_
  refine go_v kX12_ran_2 okX12_hasRun rfl rfl rfl rfl (Nat.zero_le _) (Nat.zero_le _) ?_
  refine c_X12_hasRun_0 ?_
  refine go_s 1 rfl ?_
  refine go_if (fun c5 => ?_) (fun c5 => ?_)
  · refine go_s 1 rfl ?_
    exact go_ret rfl rfl (am_qi q (by exact (if_pos c5).symm) (by rfl))
  · refine go_s 2 rfl ?_
    refine go_if (fun c11_0 => ?_) (fun c11_0 => ?_)
    · refine go_s 3 rfl ?_
      refine go_m rfl rfl (show vp_in _ 2 from vp_in_nI (n := 0) (by decide) (by decide)) ?_
      exact go_ret rfl rfl (am_qi q (by exact ((if_neg c5).trans (if_pos c11_0)).symm) (by rfl))
    · refine go_if (fun c11_1 => ?_) (fun c11_1 => ?_)
      · refine go_s 3 rfl ?_
        refine go_m rfl rfl (show vp_in _ 2 from vp_in_nI (n := 0) (by decide) (by decide)) ?_
        exact go_ret rfl rfl (am_qi q (by exact ((if_neg c5).trans ((if_neg c11_0).trans (if_pos c11_1))).symm) (by rfl))
      · refine go_if (fun c11_2 => ?_) (fun c11_2 => ?_)
        · refine go_s 3 rfl ?_
          refine go_m rfl rfl (show vp_in _ 2 from vp_in_nI (n := 0) (by decide) (by decide)) ?_
          exact go_ret rfl rfl (am_qi q (by exact ((if_neg c5).trans ((if_neg c11_0).trans ((if_neg c11_1).trans (if_pos c11_2)))).symm) (by rfl))
        · refine go_if (fun c11_3 => ?_) (fun c11_3 => ?_)
          · refine go_s 3 rfl ?_
            refine go_m rfl rfl (show vp_in _ 2 from vp_in_nI (n := 0) (by decide) (by decide)) ?_
            exact go_ret rfl rfl (am_qi q (by exact ((if_neg c5).trans ((if_neg c11_0).trans ((if_neg c11_1).trans ((if_neg c11_2).trans (if_pos c11_3))))).symm) (by rfl))
          · refine go_if (fun c11_4 => ?_) (fun c11_4 => ?_)
            · refine go_s 2 rfl ?_
              refine go_if (fun c73 => ?_) (fun c73 => absurd (by decide) c73)
              refine go_s 3 rfl ?_
              refine go_m rfl rfl (show vp_in _ 2 from vp_in_nI (n := 0) (by decide) (by decide)) ?_
              refine go_s 1 rfl ?_
              exact go_ret rfl rfl (am_qi q (by exact ((if_neg c5).trans ((if_neg c11_0).trans ((if_neg c11_1).trans ((if_neg c11_2).trans ((if_neg c11_3).trans (if_pos c11_4)))))).symm) (by rfl))
            · refine go_s 1 rfl ?_
              exact go_ret rfl rfl (am_qi q (by exact ((if_neg c5).trans ((if_neg c11_0).trans ((if_neg c11_1).trans ((if_neg c11_2).trans ((if_neg c11_3).trans (if_neg c11_4)))))).symm) (by rfl))
theorem c_X12_printed_0 {D : Nat → Nat → Int32} {e : am_E} {kc ks : Nat} {Q : am_Q} {i : Int32}  (q : Q (some (.int (if ¬ zb (¬ D 93 0 = -1) = 0 ∧ ¬ i < 0 ∧ i < 200 ∧ i < D 95 0 then D 99 i.toNatClampNeg else 0))) (hp D e)) : am_Go (mX12_printed, 0, am_ent mX12_printed [.ref 69, .int 0, .int i], [], hp D e, kc, ks, Q) := by
  refine go_s 2 rfl ?_
  refine go_v kX12_printed_2 okX12_hasRun rfl rfl rfl rfl (Nat.zero_le _) (Nat.zero_le _) ?_
  refine c_X12_hasRun_0 ?_
  refine go_s 1 rfl ?_
  refine go_if (fun c5 => ?_) (fun c5 => ?_)
  · refine go_s 1 rfl ?_
    exact go_ret rfl rfl (am_qi q (by exact (if_neg (fun z => absurd c5 z.1)).symm) (by rfl))
  · refine go_s 2 rfl ?_
    refine go_if (fun c9 => ?_) (fun c9 => ?_)
    · refine go_s 1 rfl ?_
      exact go_ret rfl rfl (am_qi q (by exact (if_neg (fun z => absurd c9 z.2.1)).symm) (by rfl))
    · refine go_s 3 rfl ?_
      refine go_if (fun c16 => ?_) (fun c16 => ?_)
      · refine go_s 4 rfl ?_
        refine go_m rfl rfl (show vp_in _ 2 from vp_in_nI (n := 0) (by decide) (by decide)) ?_
        refine go_s 1 rfl ?_
        refine go_if (fun c26 => ?_) (fun c26 => ?_)
        · refine go_s 3 rfl ?_
          refine go_m rfl rfl (show vp_in _ 2 from vp_in_nI (n := 0) (by decide) (by decide)) ?_
          refine go_s 1 rfl ?_
          refine go_m rfl rfl (show vp_in _ 200 from vpn (y := 200) c9 c16 (by decide)) ?_
          refine go_s 1 rfl ?_
          exact go_ret rfl rfl (am_qi q (by exact (if_pos ⟨c5, c9, c16, c26⟩).symm) (by rfl))
        · refine go_s 1 rfl ?_
          exact go_ret rfl rfl (am_qi q (by exact (if_neg (fun z => absurd z.2.2.2 c26)).symm) (by rfl))
      · refine go_s 1 rfl ?_
        exact go_ret rfl rfl (am_qi q (by exact (if_neg (fun z => absurd z.2.2.1 c16)).symm) (by rfl))
theorem c_X12_register_0 {D : Nat → Nat → Int32} {e : am_E} {kc ks : Nat} {Q : am_Q} {k : Int32}  (q : Q (some (.int (if ¬ zb (¬ D 93 0 = -1) = 0 ∧ ¬ zb (¬ k < 0 ∧ ¬ 31 < k) = 0 ∧ D 107 k.toNatClampNeg = 0 then D 102 k.toNatClampNeg else 0))) (hp D e)) : am_Go (mX12_register, 0, am_ent mX12_register [.ref 69, .int 0, .int k], [], hp D e, kc, ks, Q) := by
  refine go_s 2 rfl ?_
  refine go_v kX12_register_2 okX12_hasRun rfl rfl rfl rfl (Nat.zero_le _) (Nat.zero_le _) ?_
  refine c_X12_hasRun_0 ?_
  refine go_s 1 rfl ?_
  refine go_if (fun c5 => ?_) (fun c5 => ?_)
  · refine go_s 1 rfl ?_
    exact go_ret rfl rfl (am_qi q (by exact (if_neg (fun z => absurd c5 z.1)).symm) (by rfl))
  · refine go_s 3 rfl ?_
    refine go_st kX12_register_12 okX12_in rfl rfl rfl (Nat.zero_le _) (Nat.zero_le _) ?_
    refine c_X12_in ?_
    refine go_s 1 rfl ?_
    refine go_if (fun c15 => ?_) (fun c15 => ?_)
    · refine go_s 1 rfl ?_
      exact go_ret rfl rfl (am_qi q (by exact (if_neg (fun z => absurd c15 z.2.1)).symm) (by rfl))
    · refine go_s 2 rfl ?_
      refine go_if (fun c19 => ?_) (fun c19 => absurd (by decide) c19)
      refine go_s 3 rfl ?_
      refine go_m rfl rfl (show vp_in _ 32 from vpz (y := 31) c15 (by decide)) ?_
      refine go_s 1 rfl ?_
      refine go_if (fun c28 => ?_) (fun c28 => ?_)
      · refine go_s 3 rfl ?_
        refine go_m rfl rfl (show vp_in _ 2 from vp_in_nI (n := 0) (by decide) (by decide)) ?_
        refine go_s 1 rfl ?_
        refine go_m rfl rfl (show vp_in _ 32 from vpz (y := 31) c15 (by decide)) ?_
        exact go_ret rfl rfl (am_qi q (by exact (if_pos ⟨c5, c15, c28⟩).symm) (by rfl))
      · refine go_s 1 rfl ?_
        exact go_ret rfl rfl (am_qi q (by exact (if_neg (fun z => absurd z.2.2 c28)).symm) (by rfl))
theorem c_X12_memory_0 {D : Nat → Nat → Int32} {e : am_E} {kc ks : Nat} {Q : am_Q} {k : Int32}  (q : Q (some (.int (if ¬ zb (¬ D 93 0 = -1) = 0 ∧ ¬ zb (¬ k < 0 ∧ ¬ 63 < k) = 0 ∧ D 108 k.toNatClampNeg = 0 then D 105 k.toNatClampNeg else 0))) (hp D e)) : am_Go (mX12_memory, 0, am_ent mX12_memory [.ref 69, .int 0, .int k], [], hp D e, kc, ks, Q) := by
  refine go_s 2 rfl ?_
  refine go_v kX12_memory_2 okX12_hasRun rfl rfl rfl rfl (Nat.zero_le _) (Nat.zero_le _) ?_
  refine c_X12_hasRun_0 ?_
  refine go_s 1 rfl ?_
  refine go_if (fun c5 => ?_) (fun c5 => ?_)
  · refine go_s 1 rfl ?_
    exact go_ret rfl rfl (am_qi q (by exact (if_neg (fun z => absurd c5 z.1)).symm) (by rfl))
  · refine go_s 3 rfl ?_
    refine go_st kX12_memory_12 okX12_in rfl rfl rfl (Nat.zero_le _) (Nat.zero_le _) ?_
    refine c_X12_in ?_
    refine go_s 1 rfl ?_
    refine go_if (fun c15 => ?_) (fun c15 => ?_)
    · refine go_s 1 rfl ?_
      exact go_ret rfl rfl (am_qi q (by exact (if_neg (fun z => absurd c15 z.2.1)).symm) (by rfl))
    · refine go_s 2 rfl ?_
      refine go_if (fun c19 => ?_) (fun c19 => absurd (by decide) c19)
      refine go_s 3 rfl ?_
      refine go_m rfl rfl (show vp_in _ 64 from vpz (y := 63) c15 (by decide)) ?_
      refine go_s 1 rfl ?_
      refine go_if (fun c28 => ?_) (fun c28 => ?_)
      · refine go_s 3 rfl ?_
        refine go_m rfl rfl (show vp_in _ 2 from vp_in_nI (n := 0) (by decide) (by decide)) ?_
        refine go_s 1 rfl ?_
        refine go_m rfl rfl (show vp_in _ 64 from vpz (y := 63) c15 (by decide)) ?_
        exact go_ret rfl rfl (am_qi q (by exact (if_pos ⟨c5, c15, c28⟩).symm) (by rfl))
      · refine go_s 1 rfl ?_
        exact go_ret rfl rfl (am_qi q (by exact (if_neg (fun z => absurd z.2.2 c28)).symm) (by rfl))
theorem c_X12_ran_1 {D : Nat → Nat → Int32} {e : am_E} {kc ks : Nat} {Q : am_Q} {v : Int32}  (q : Q (some (.int (if zb (¬ D 93 1 = -1) = 0 then -1 else if v = 0 then D 93 1 else if v = 1 then D 94 1 else if v = 2 then D 95 1 else if v = 3 then D 96 1 else if v = 4 then -1 else -1))) (hp D e)) : am_Go (mX12_ran, 0, am_ent mX12_ran [.ref 69, .int 1, .int v], [], hp D e, kc, ks, Q) := by
  refine go_s 2 rfl ?_
  refine go_v kX12_ran_2 okX12_hasRun rfl rfl rfl rfl (Nat.zero_le _) (Nat.zero_le _) ?_
  refine c_X12_hasRun_1 ?_
  refine go_s 1 rfl ?_
  refine go_if (fun c5 => ?_) (fun c5 => ?_)
  · refine go_s 1 rfl ?_
    exact go_ret rfl rfl (am_qi q (by exact (if_pos c5).symm) (by rfl))
  · refine go_s 2 rfl ?_
    refine go_if (fun c11_0 => ?_) (fun c11_0 => ?_)
    · refine go_s 3 rfl ?_
      refine go_m rfl rfl (show vp_in _ 2 from vp_in_nI (n := 1) (by decide) (by decide)) ?_
      exact go_ret rfl rfl (am_qi q (by exact ((if_neg c5).trans (if_pos c11_0)).symm) (by rfl))
    · refine go_if (fun c11_1 => ?_) (fun c11_1 => ?_)
      · refine go_s 3 rfl ?_
        refine go_m rfl rfl (show vp_in _ 2 from vp_in_nI (n := 1) (by decide) (by decide)) ?_
        exact go_ret rfl rfl (am_qi q (by exact ((if_neg c5).trans ((if_neg c11_0).trans (if_pos c11_1))).symm) (by rfl))
      · refine go_if (fun c11_2 => ?_) (fun c11_2 => ?_)
        · refine go_s 3 rfl ?_
          refine go_m rfl rfl (show vp_in _ 2 from vp_in_nI (n := 1) (by decide) (by decide)) ?_
          exact go_ret rfl rfl (am_qi q (by exact ((if_neg c5).trans ((if_neg c11_0).trans ((if_neg c11_1).trans (if_pos c11_2)))).symm) (by rfl))
        · refine go_if (fun c11_3 => ?_) (fun c11_3 => ?_)
          · refine go_s 3 rfl ?_
            refine go_m rfl rfl (show vp_in _ 2 from vp_in_nI (n := 1) (by decide) (by decide)) ?_
            exact go_ret rfl rfl (am_qi q (by exact ((if_neg c5).trans ((if_neg c11_0).trans ((if_neg c11_1).trans ((if_neg c11_2).trans (if_pos c11_3))))).symm) (by rfl))
          · refine go_if (fun c11_4 => ?_) (fun c11_4 => ?_)
            · refine go_s 2 rfl ?_
              refine go_if (fun c73 => absurd c73 (by decide)) (fun c73 => ?_)
              refine go_s 1 rfl ?_
              exact go_ret rfl rfl (am_qi q (by exact ((if_neg c5).trans ((if_neg c11_0).trans ((if_neg c11_1).trans ((if_neg c11_2).trans ((if_neg c11_3).trans (if_pos c11_4)))))).symm) (by rfl))
            · refine go_s 1 rfl ?_
              exact go_ret rfl rfl (am_qi q (by exact ((if_neg c5).trans ((if_neg c11_0).trans ((if_neg c11_1).trans ((if_neg c11_2).trans ((if_neg c11_3).trans (if_neg c11_4)))))).symm) (by rfl))
theorem c_X12_printed_1 {D : Nat → Nat → Int32} {e : am_E} {kc ks : Nat} {Q : am_Q} {i : Int32}  (q : Q (some (.int (if ¬ zb (¬ D 93 1 = -1) = 0 ∧ ¬ i < 0 ∧ i < 200 ∧ i < D 95 1 then D 100 i.toNatClampNeg else 0))) (hp D e)) : am_Go (mX12_printed, 0, am_ent mX12_printed [.ref 69, .int 1, .int i], [], hp D e, kc, ks, Q) := by
  refine go_s 2 rfl ?_
  refine go_v kX12_printed_2 okX12_hasRun rfl rfl rfl rfl (Nat.zero_le _) (Nat.zero_le _) ?_
  refine c_X12_hasRun_1 ?_
  refine go_s 1 rfl ?_
  refine go_if (fun c5 => ?_) (fun c5 => ?_)
  · refine go_s 1 rfl ?_
    exact go_ret rfl rfl (am_qi q (by exact (if_neg (fun z => absurd c5 z.1)).symm) (by rfl))
  · refine go_s 2 rfl ?_
    refine go_if (fun c9 => ?_) (fun c9 => ?_)
    · refine go_s 1 rfl ?_
      exact go_ret rfl rfl (am_qi q (by exact (if_neg (fun z => absurd c9 z.2.1)).symm) (by rfl))
    · refine go_s 3 rfl ?_
      refine go_if (fun c16 => ?_) (fun c16 => ?_)
      · refine go_s 4 rfl ?_
        refine go_m rfl rfl (show vp_in _ 2 from vp_in_nI (n := 1) (by decide) (by decide)) ?_
        refine go_s 1 rfl ?_
        refine go_if (fun c26 => ?_) (fun c26 => ?_)
        · refine go_s 3 rfl ?_
          refine go_m rfl rfl (show vp_in _ 2 from vp_in_nI (n := 1) (by decide) (by decide)) ?_
          refine go_s 1 rfl ?_
          refine go_m rfl rfl (show vp_in _ 200 from vpn (y := 200) c9 c16 (by decide)) ?_
          refine go_s 1 rfl ?_
          exact go_ret rfl rfl (am_qi q (by exact (if_pos ⟨c5, c9, c16, c26⟩).symm) (by rfl))
        · refine go_s 1 rfl ?_
          exact go_ret rfl rfl (am_qi q (by exact (if_neg (fun z => absurd z.2.2.2 c26)).symm) (by rfl))
      · refine go_s 1 rfl ?_
        exact go_ret rfl rfl (am_qi q (by exact (if_neg (fun z => absurd z.2.2.1 c16)).symm) (by rfl))
theorem c_X12_register_1 {D : Nat → Nat → Int32} {e : am_E} {kc ks : Nat} {Q : am_Q} {k : Int32}  (q : Q (some (.int (if ¬ zb (¬ D 93 1 = -1) = 0 ∧ ¬ zb (¬ k < 0 ∧ ¬ 31 < k) = 0 then D 103 k.toNatClampNeg else 0))) (hp D e)) : am_Go (mX12_register, 0, am_ent mX12_register [.ref 69, .int 1, .int k], [], hp D e, kc, ks, Q) := by
  refine go_s 2 rfl ?_
  refine go_v kX12_register_2 okX12_hasRun rfl rfl rfl rfl (Nat.zero_le _) (Nat.zero_le _) ?_
  refine c_X12_hasRun_1 ?_
  refine go_s 1 rfl ?_
  refine go_if (fun c5 => ?_) (fun c5 => ?_)
  · refine go_s 1 rfl ?_
    exact go_ret rfl rfl (am_qi q (by exact (if_neg (fun z => absurd c5 z.1)).symm) (by rfl))
  · refine go_s 3 rfl ?_
    refine go_st kX12_register_12 okX12_in rfl rfl rfl (Nat.zero_le _) (Nat.zero_le _) ?_
    refine c_X12_in ?_
    refine go_s 1 rfl ?_
    refine go_if (fun c15 => ?_) (fun c15 => ?_)
    · refine go_s 1 rfl ?_
      exact go_ret rfl rfl (am_qi q (by exact (if_neg (fun z => absurd c15 z.2)).symm) (by rfl))
    · refine go_s 2 rfl ?_
      refine go_if (fun c19 => absurd c19 (by decide)) (fun c19 => ?_)
      refine go_s 3 rfl ?_
      refine go_m rfl rfl (show vp_in _ 2 from vp_in_nI (n := 1) (by decide) (by decide)) ?_
      refine go_s 1 rfl ?_
      refine go_m rfl rfl (show vp_in _ 32 from vpz (y := 31) c15 (by decide)) ?_
      exact go_ret rfl rfl (am_qi q (by exact (if_pos ⟨c5, c15⟩).symm) (by rfl))
theorem c_X12_memory_1 {D : Nat → Nat → Int32} {e : am_E} {kc ks : Nat} {Q : am_Q} {k : Int32}  (q : Q (some (.int (if ¬ zb (¬ D 93 1 = -1) = 0 ∧ ¬ zb (¬ k < 0 ∧ ¬ 63 < k) = 0 then D 106 k.toNatClampNeg else 0))) (hp D e)) : am_Go (mX12_memory, 0, am_ent mX12_memory [.ref 69, .int 1, .int k], [], hp D e, kc, ks, Q) := by
  refine go_s 2 rfl ?_
  refine go_v kX12_memory_2 okX12_hasRun rfl rfl rfl rfl (Nat.zero_le _) (Nat.zero_le _) ?_
  refine c_X12_hasRun_1 ?_
  refine go_s 1 rfl ?_
  refine go_if (fun c5 => ?_) (fun c5 => ?_)
  · refine go_s 1 rfl ?_
    exact go_ret rfl rfl (am_qi q (by exact (if_neg (fun z => absurd c5 z.1)).symm) (by rfl))
  · refine go_s 3 rfl ?_
    refine go_st kX12_memory_12 okX12_in rfl rfl rfl (Nat.zero_le _) (Nat.zero_le _) ?_
    refine c_X12_in ?_
    refine go_s 1 rfl ?_
    refine go_if (fun c15 => ?_) (fun c15 => ?_)
    · refine go_s 1 rfl ?_
      exact go_ret rfl rfl (am_qi q (by exact (if_neg (fun z => absurd c15 z.2)).symm) (by rfl))
    · refine go_s 2 rfl ?_
      refine go_if (fun c19 => absurd c19 (by decide)) (fun c19 => ?_)
      refine go_s 3 rfl ?_
      refine go_m rfl rfl (show vp_in _ 2 from vp_in_nI (n := 1) (by decide) (by decide)) ?_
      refine go_s 1 rfl ?_
      refine go_m rfl rfl (show vp_in _ 64 from vpz (y := 63) c15 (by decide)) ?_
      exact go_ret rfl rfl (am_qi q (by exact (if_pos ⟨c5, c15⟩).symm) (by rfl))
theorem c_X12_printed_x {D : Nat → Nat → Int32} {e : am_E} {kc ks : Nat} {Q : am_Q} {w k : Int32} (hw : zb (¬ w < 0 ∧ ¬ 1 < w) = 0) (q : Q (some (.int (0))) (hp D e)) : am_Go (mX12_printed, 0, am_ent mX12_printed [.ref 69, .int w, .int k], [], hp D e, kc, ks, Q) := by
  refine go_s 2 rfl ?_
  refine go_v kX12_printed_2 okX12_hasRun rfl rfl rfl rfl (Nat.zero_le _) (Nat.zero_le _) ?_
  refine c_X12_hasRun_x hw ?_
  refine go_s 1 rfl ?_
  refine go_if (fun c5 => ?_) (fun c5 => absurd rfl c5)
  refine go_s 1 rfl ?_
  exact go_ret rfl rfl (am_qi q (by rfl) (by rfl))
theorem c_X12_register_x {D : Nat → Nat → Int32} {e : am_E} {kc ks : Nat} {Q : am_Q} {w k : Int32} (hw : zb (¬ w < 0 ∧ ¬ 1 < w) = 0) (q : Q (some (.int (0))) (hp D e)) : am_Go (mX12_register, 0, am_ent mX12_register [.ref 69, .int w, .int k], [], hp D e, kc, ks, Q) := by
  refine go_s 2 rfl ?_
  refine go_v kX12_register_2 okX12_hasRun rfl rfl rfl rfl (Nat.zero_le _) (Nat.zero_le _) ?_
  refine c_X12_hasRun_x hw ?_
  refine go_s 1 rfl ?_
  refine go_if (fun c5 => ?_) (fun c5 => absurd rfl c5)
  refine go_s 1 rfl ?_
  exact go_ret rfl rfl (am_qi q (by rfl) (by rfl))
theorem c_X12_memory_x {D : Nat → Nat → Int32} {e : am_E} {kc ks : Nat} {Q : am_Q} {w k : Int32} (hw : zb (¬ w < 0 ∧ ¬ 1 < w) = 0) (q : Q (some (.int (0))) (hp D e)) : am_Go (mX12_memory, 0, am_ent mX12_memory [.ref 69, .int w, .int k], [], hp D e, kc, ks, Q) := by
  refine go_s 2 rfl ?_
  refine go_v kX12_memory_2 okX12_hasRun rfl rfl rfl rfl (Nat.zero_le _) (Nat.zero_le _) ?_
  refine c_X12_hasRun_x hw ?_
  refine go_s 1 rfl ?_
  refine go_if (fun c5 => ?_) (fun c5 => absurd rfl c5)
  refine go_s 1 rfl ?_
  exact go_ret rfl rfl (am_qi q (by rfl) (by rfl))
theorem c_X12_ran_x {D : Nat → Nat → Int32} {e : am_E} {kc ks : Nat} {Q : am_Q} {w k : Int32} (hw : zb (¬ w < 0 ∧ ¬ 1 < w) = 0) (q : Q (some (.int (-1))) (hp D e)) : am_Go (mX12_ran, 0, am_ent mX12_ran [.ref 69, .int w, .int k], [], hp D e, kc, ks, Q) := by
  refine go_s 2 rfl ?_
  refine go_v kX12_ran_2 okX12_hasRun rfl rfl rfl rfl (Nat.zero_le _) (Nat.zero_le _) ?_
  refine c_X12_hasRun_x hw ?_
  refine go_s 1 rfl ?_
  refine go_if (fun c5 => ?_) (fun c5 => absurd rfl c5)
  refine go_s 1 rfl ?_
  exact go_ret rfl rfl (am_qi q (by rfl) (by rfl))
