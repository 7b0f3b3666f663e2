theorem c_X7_size {D : Nat → Nat → Int32} {e : am_E} {kc ks : Nat} {Q : am_Q}   (q : Q (some (.int (D 15 10))) (hp D e)) : am_Go (mX7_size, 0, am_ent mX7_size [.ref 15], [], hp D e, kc, ks, Q) := by
  refine go_s 2 rfl ?_
  exact go_ret rfl rfl (am_qi q (by rfl) (by rfl))
theorem c_X7_has {D : Nat → Nat → Int32} {e : am_E} {kc ks : Nat} {Q : am_Q} {k : Int32}  (q : Q (some (.int (zb (0 ≤ k ∧ k < D 15 10)))) (hp D e)) : am_Go (mX7_has, 0, am_ent mX7_has [.ref 15, .int k], [], hp D e, kc, ks, Q) := by
  refine go_s 2 rfl ?_
  refine go_if (fun c1 => ?_) (fun c1 => ?_)
  · refine go_s 1 rfl ?_
    exact go_retz rfl rfl (by first | exact Or.inl rfl | exact Or.inr rfl | exact zb_01) (am_qi q (by simp_all [zb, hp, am_fv, am_k, am_kd, ← Int32.not_lt]) (by rfl))
  · refine go_s 4 rfl ?_
    refine go_if (fun c9 => ?_) (fun c9 => ?_)
    · refine go_s 2 rfl ?_
      exact go_retz rfl rfl (by first | exact Or.inl rfl | exact Or.inr rfl | exact zb_01) (am_qi q (by simp_all [zb, hp, am_fv, am_k, am_kd, ← Int32.not_lt]) (by rfl))
    · refine go_s 1 rfl ?_
      exact go_retz rfl rfl (by first | exact Or.inl rfl | exact Or.inr rfl | exact zb_01) (am_qi q (by simp_all [zb, hp, am_fv, am_k, am_kd, ← Int32.not_lt]) (by rfl))
theorem c_X7_spotOf {D : Nat → Nat → Int32} {e : am_E} {kc ks : Nat} {Q : am_Q} {k : Int32} (hR : (D 15 10).toInt ≤ 60) (q : Q (some (.int (if 0 ≤ k ∧ k < D 15 10 then D 16 k.toNatClampNeg else -1))) (hp D e)) : am_Go (mX7_spotOf, 0, am_ent mX7_spotOf [.ref 15, .int k], [], hp D e, kc, ks, Q) := by
  refine go_s 2 rfl ?_
  refine go_v kX7_spotOf_2 okX7_has rfl rfl rfl rfl (Nat.zero_le _) (Nat.zero_le _) ?_
  refine c_X7_has ?_
  refine go_s 1 rfl ?_
  refine go_if (fun c5 => ?_) (fun c5 => ?_)
  · refine go_s 1 rfl ?_
    exact go_ret rfl rfl (am_qi q (by first | exact (if_pos (zb_ne.mp c5)).symm | exact (if_neg (zb_0.mp c5)).symm) (by rfl))
  · refine go_s 3 rfl ?_
    refine go_m rfl rfl (show vp_in _ 60 from vpl c5 (by omega)) ?_
    refine go_s 1 rfl ?_
    exact go_ret rfl rfl (am_qi q (by first | exact (if_pos (zb_ne.mp c5)).symm | exact (if_neg (zb_0.mp c5)).symm) (by rfl))
theorem c_X7_lengthOf {D : Nat → Nat → Int32} {e : am_E} {kc ks : Nat} {Q : am_Q} {k : Int32} (hR : (D 15 10).toInt ≤ 60) (q : Q (some (.int (if 0 ≤ k ∧ k < D 15 10 then D 17 k.toNatClampNeg else 0))) (hp D e)) : am_Go (mX7_lengthOf, 0, am_ent mX7_lengthOf [.ref 15, .int k], [], hp D e, kc, ks, Q) := by
  refine go_s 2 rfl ?_
  refine go_v kX7_lengthOf_2 okX7_has rfl rfl rfl rfl (Nat.zero_le _) (Nat.zero_le _) ?_
  refine c_X7_has ?_
  refine go_s 1 rfl ?_
  refine go_if (fun c5 => ?_) (fun c5 => ?_)
  · refine go_s 1 rfl ?_
    exact go_ret rfl rfl (am_qi q (by first | exact (if_pos (zb_ne.mp c5)).symm | exact (if_neg (zb_0.mp c5)).symm) (by rfl))
  · refine go_s 3 rfl ?_
    refine go_m rfl rfl (show vp_in _ 60 from vpl c5 (by omega)) ?_
    refine go_s 1 rfl ?_
    exact go_ret rfl rfl (am_qi q (by first | exact (if_pos (zb_ne.mp c5)).symm | exact (if_neg (zb_0.mp c5)).symm) (by rfl))
theorem c_X7_timesOf {D : Nat → Nat → Int32} {e : am_E} {kc ks : Nat} {Q : am_Q} {k : Int32} (hR : (D 15 10).toInt ≤ 60) (q : Q (some (.int (if 0 ≤ k ∧ k < D 15 10 then D 19 k.toNatClampNeg else 0))) (hp D e)) : am_Go (mX7_timesOf, 0, am_ent mX7_timesOf [.ref 15, .int k], [], hp D e, kc, ks, Q) := by
  refine go_s 2 rfl ?_
  refine go_v kX7_timesOf_2 okX7_has rfl rfl rfl rfl (Nat.zero_le _) (Nat.zero_le _) ?_
  refine c_X7_has ?_
  refine go_s 1 rfl ?_
  refine go_if (fun c5 => ?_) (fun c5 => ?_)
  · refine go_s 1 rfl ?_
    exact go_ret rfl rfl (am_qi q (by first | exact (if_pos (zb_ne.mp c5)).symm | exact (if_neg (zb_0.mp c5)).symm) (by rfl))
  · refine go_s 3 rfl ?_
    refine go_m rfl rfl (show vp_in _ 60 from vpl c5 (by omega)) ?_
    refine go_s 1 rfl ?_
    exact go_ret rfl rfl (am_qi q (by first | exact (if_pos (zb_ne.mp c5)).symm | exact (if_neg (zb_0.mp c5)).symm) (by rfl))
theorem c_X7_firstWordOf {D : Nat → Nat → Int32} {e : am_E} {kc ks : Nat} {Q : am_Q} {k : Int32} (hR : (D 15 10).toInt ≤ 60) (q : Q (some (.int (if 0 ≤ k ∧ k < D 15 10 then D 20 k.toNatClampNeg else -1))) (hp D e)) : am_Go (mX7_firstWordOf, 0, am_ent mX7_firstWordOf [.ref 15, .int k], [], hp D e, kc, ks, Q) := by
  refine go_s 2 rfl ?_
  refine go_v kX7_firstWordOf_2 okX7_has rfl rfl rfl rfl (Nat.zero_le _) (Nat.zero_le _) ?_
  refine c_X7_has ?_
  refine go_s 1 rfl ?_
  refine go_if (fun c5 => ?_) (fun c5 => ?_)
  · refine go_s 1 rfl ?_
    exact go_ret rfl rfl (am_qi q (by first | exact (if_pos (zb_ne.mp c5)).symm | exact (if_neg (zb_0.mp c5)).symm) (by rfl))
  · refine go_s 3 rfl ?_
    refine go_m rfl rfl (show vp_in _ 60 from vpl c5 (by omega)) ?_
    refine go_s 1 rfl ?_
    exact go_ret rfl rfl (am_qi q (by first | exact (if_pos (zb_ne.mp c5)).symm | exact (if_neg (zb_0.mp c5)).symm) (by rfl))
theorem c_X7_addressOf {D : Nat → Nat → Int32} {e : am_E} {kc ks : Nat} {Q : am_Q} {k : Int32} (hR : (D 15 10).toInt ≤ 60) (q : Q (some (.int (if 0 ≤ k ∧ k < D 15 10 then 4096 + 4 * D 20 k.toNatClampNeg else -1))) (hp D e)) : am_Go (mX7_addressOf, 0, am_ent mX7_addressOf [.ref 15, .int k], [], hp D e, kc, ks, Q) := by
  refine go_s 2 rfl ?_
  refine go_v kX7_addressOf_2 okX7_has rfl rfl rfl rfl (Nat.zero_le _) (Nat.zero_le _) ?_
  refine c_X7_has ?_
  refine go_s 1 rfl ?_
  refine go_if (fun c5 => ?_) (fun c5 => ?_)
  · refine go_s 1 rfl ?_
    exact go_ret rfl rfl (am_qi q (by first | exact (if_pos (zb_ne.mp c5)).symm | exact (if_neg (zb_0.mp c5)).symm) (by rfl))
  · refine go_s 3 rfl ?_
    refine go_m rfl rfl (show vp_in _ 60 from vpl c5 (by omega)) ?_
    refine go_st kX7_addressOf_14 okX1_address rfl rfl rfl (Nat.zero_le _) (Nat.zero_le _) ?_
    refine c_X1_address ?_
    refine go_s 1 rfl ?_
    exact go_ret rfl rfl (am_qi q (by first | exact (if_pos (zb_ne.mp c5)).symm | exact (if_neg (zb_0.mp c5)).symm) (by rfl))
theorem c_X7_savedBytes {D : Nat → Nat → Int32} {e : am_E} {kc ks : Nat} {Q : am_Q} {l t : Int32}  (q : Q (some (.int (4 * ((t - 1) * l - 1 - t)))) (hp D e)) : am_Go (mX7_savedBytes, 0, am_ent mX7_savedBytes [.int l, .int t], [], hp D e, kc, ks, Q) := by
  refine go_s 11 rfl ?_
  exact go_ret rfl rfl (am_qi q (by rfl) (by rfl))
theorem c_X7_savesOf {D : Nat → Nat → Int32} {e : am_E} {kc ks : Nat} {Q : am_Q} {k : Int32} (hR : (D 15 10).toInt ≤ 60) (q : Q (some (.int (if 0 ≤ k ∧ k < D 15 10 then 4 * ((D 19 k.toNatClampNeg - 1) * D 17 k.toNatClampNeg - 1 - D 19 k.toNatClampNeg) else 0))) (hp D e)) : am_Go (mX7_savesOf, 0, am_ent mX7_savesOf [.ref 15, .int k], [], hp D e, kc, ks, Q) := by
  refine go_s 2 rfl ?_
  refine go_v kX7_savesOf_2 okX7_has rfl rfl rfl rfl (Nat.zero_le _) (Nat.zero_le _) ?_
  refine c_X7_has ?_
  refine go_s 1 rfl ?_
  refine go_if (fun c5 => ?_) (fun c5 => ?_)
  · refine go_s 1 rfl ?_
    exact go_ret rfl rfl (am_qi q (by first | exact (if_pos (zb_ne.mp c5)).symm | exact (if_neg (zb_0.mp c5)).symm) (by rfl))
  · refine go_s 3 rfl ?_
    refine go_m rfl rfl (show vp_in _ 60 from vpl c5 (by omega)) ?_
    refine go_s 3 rfl ?_
    refine go_m rfl rfl (show vp_in _ 60 from vpl c5 (by omega)) ?_
    refine go_st kX7_savesOf_20 okX7_savedBytes rfl rfl rfl (Nat.zero_le _) (Nat.zero_le _) ?_
    refine c_X7_savedBytes ?_
    refine go_s 1 rfl ?_
    exact go_ret rfl rfl (am_qi q (by first | exact (if_pos (zb_ne.mp c5)).symm | exact (if_neg (zb_0.mp c5)).symm) (by rfl))
theorem c_X7_setFirstWord {D : Nat → Nat → Int32} {e : am_E} {kc ks : Nat} {Q : am_Q} {k b : Int32} (hR : (D 15 10).toInt ≤ 60) (q : Q none (hp (if 0 ≤ k ∧ k < D 15 10 then am_u D 20 k.toNatClampNeg b else D) e)) : am_Go (mX7_setFirstWord, 0, am_ent mX7_setFirstWord [.ref 15, .int k, .int b], [], hp D e, kc, ks, Q) := by
  refine go_s 2 rfl ?_
  refine go_v kX7_setFirstWord_2 okX7_has rfl rfl rfl rfl (Nat.zero_le _) (Nat.zero_le _) ?_
  refine c_X7_has ?_
  refine go_s 1 rfl ?_
  refine go_if (fun c5 => ?_) (fun c5 => ?_)
  · exact go_retv rfl rfl (am_qv q (by first | exact am_hD (if_pos (zb_ne.mp c5)).symm | exact am_hD (if_neg (zb_0.mp c5)).symm))
  · refine go_s 4 rfl ?_
    refine go_m rfl rfl (show vp_in _ 60 from vpl c5 (by omega)) ?_
    exact go_retv rfl rfl (am_qv q (by first | exact am_hD (if_pos (zb_ne.mp c5)).symm | exact am_hD (if_neg (zb_0.mp c5)).symm))
theorem c_X7_indexOf {D : Nat → Nat → Int32} {e : am_E} {kc ks : Nat} {Q : am_Q} {k i : Int32} (hR : (D 15 10).toInt ≤ 60) (q : Q (some (.int (if (0 ≤ k ∧ k < D 15 10) ∧ ¬ i < 0 ∧ i < D 19 k.toNatClampNeg then D 18 k.toNatClampNeg + i else -1))) (hp D e)) : am_Go (mX7_indexOf, 0, am_ent mX7_indexOf [.ref 15, .int k, .int i], [], hp D e, kc, ks, Q) := by
  refine go_s 2 rfl ?_
  refine go_v kX7_indexOf_2 okX7_has rfl rfl rfl rfl (Nat.zero_le _) (Nat.zero_le _) ?_
  refine c_X7_has ?_
  refine go_s 1 rfl ?_
  refine go_if (fun c5 => ?_) (fun c5 => ?_)
  · refine go_s 1 rfl ?_
    exact go_ret rfl rfl (am_qi q (by first | exact (if_pos ⟨zb_ne.mp c5, by assumption, by assumption⟩).symm | exact (if_neg (fun z => zb_0.mp c5 z.1)).symm | exact (if_neg (fun z => absurd (by assumption) z.2.1)).symm | exact (if_neg (fun z => absurd z.2.2 (by assumption))).symm) (by rfl))
  · refine go_s 2 rfl ?_
    refine go_if (fun c9 => ?_) (fun c9 => ?_)
    · refine go_s 1 rfl ?_
      exact go_ret rfl rfl (am_qi q (by first | exact (if_pos ⟨zb_ne.mp c5, by assumption, by assumption⟩).symm | exact (if_neg (fun z => zb_0.mp c5 z.1)).symm | exact (if_neg (fun z => absurd (by assumption) z.2.1)).symm | exact (if_neg (fun z => absurd z.2.2 (by assumption))).symm) (by rfl))
    · refine go_s 4 rfl ?_
      refine go_m rfl rfl (show vp_in _ 60 from vpl c5 (by omega)) ?_
      refine go_s 1 rfl ?_
      refine go_if (fun c19 => ?_) (fun c19 => ?_)
      · refine go_s 3 rfl ?_
        refine go_m rfl rfl (show vp_in _ 60 from vpl c5 (by omega)) ?_
        refine go_s 3 rfl ?_
        exact go_ret rfl rfl (am_qi q (by first | exact (if_pos ⟨zb_ne.mp c5, by assumption, by assumption⟩).symm | exact (if_neg (fun z => zb_0.mp c5 z.1)).symm | exact (if_neg (fun z => absurd (by assumption) z.2.1)).symm | exact (if_neg (fun z => absurd z.2.2 (by assumption))).symm) (by rfl))
      · refine go_s 1 rfl ?_
        exact go_ret rfl rfl (am_qi q (by first | exact (if_pos ⟨zb_ne.mp c5, by assumption, by assumption⟩).symm | exact (if_neg (fun z => zb_0.mp c5 z.1)).symm | exact (if_neg (fun z => absurd (by assumption) z.2.1)).symm | exact (if_neg (fun z => absurd z.2.2 (by assumption))).symm) (by rfl))
theorem c_X7_beginningAt {D : Nat → Nat → Int32} {e : am_E} {kc ks : Nat} {Q : am_Q} {i : Int32}  (q : Q (some (.int (if ¬ i < 0 ∧ i < 300 then D 25 i.toNatClampNeg else -1))) (hp D e)) : am_Go (mX7_beginningAt, 0, am_ent mX7_beginningAt [.ref 15, .int i], [], hp D e, kc, ks, Q) := by
  refine go_s 2 rfl ?_
  refine go_if (fun c1 => ?_) (fun c1 => ?_)
  · refine go_s 1 rfl ?_
    exact go_ret rfl rfl (am_qi q (by first | exact (if_pos ⟨by assumption, by assumption⟩).symm | exact (if_neg (fun z => absurd (by assumption) z.1)).symm | exact (if_neg (fun z => absurd z.2 (by assumption))).symm) (by rfl))
  · refine go_s 5 rfl ?_
    refine go_if (fun c10 => ?_) (fun c10 => ?_)
    · refine go_s 3 rfl ?_
      refine go_m rfl rfl (show vp_in _ 300 from vpn (y := 300) (by assumption) (by assumption) (by decide)) ?_
      refine go_s 1 rfl ?_
      exact go_ret rfl rfl (am_qi q (by first | exact (if_pos ⟨by assumption, by assumption⟩).symm | exact (if_neg (fun z => absurd (by assumption) z.1)).symm | exact (if_neg (fun z => absurd z.2 (by assumption))).symm) (by rfl))
    · refine go_s 1 rfl ?_
      exact go_ret rfl rfl (am_qi q (by first | exact (if_pos ⟨by assumption, by assumption⟩).symm | exact (if_neg (fun z => absurd (by assumption) z.1)).symm | exact (if_neg (fun z => absurd z.2 (by assumption))).symm) (by rfl))
theorem c_X7_hasIndex {D : Nat → Nat → Int32} {e : am_E} {kc ks : Nat} {Q : am_Q} {k : Int32}  (q : Q (some (.int (zb (0 ≤ k ∧ k < D 15 11)))) (hp D e)) : am_Go (mX7_hasIndex, 0, am_ent mX7_hasIndex [.ref 15, .int k], [], hp D e, kc, ks, Q) := by
  refine go_s 2 rfl ?_
  refine go_if (fun c1 => ?_) (fun c1 => ?_)
  · refine go_s 1 rfl ?_
    exact go_retz rfl rfl (by first | exact Or.inl rfl | exact Or.inr rfl | exact zb_01) (am_qi q (by simp_all [zb, hp, am_fv, am_k, am_kd, ← Int32.not_lt]) (by rfl))
  · refine go_s 4 rfl ?_
    refine go_if (fun c9 => ?_) (fun c9 => ?_)
    · refine go_s 2 rfl ?_
      exact go_retz rfl rfl (by first | exact Or.inl rfl | exact Or.inr rfl | exact zb_01) (am_qi q (by simp_all [zb, hp, am_fv, am_k, am_kd, ← Int32.not_lt]) (by rfl))
    · refine go_s 1 rfl ?_
      exact go_retz rfl rfl (by first | exact Or.inl rfl | exact Or.inr rfl | exact zb_01) (am_qi q (by simp_all [zb, hp, am_fv, am_k, am_kd, ← Int32.not_lt]) (by rfl))
theorem c_X7_ownerAt {D : Nat → Nat → Int32} {e : am_E} {kc ks : Nat} {Q : am_Q} {k : Int32} (hO : (D 15 11).toInt ≤ 150) (q : Q (some (.int (if 0 ≤ k ∧ k < D 15 11 then D 21 k.toNatClampNeg else -1))) (hp D e)) : am_Go (mX7_ownerAt, 0, am_ent mX7_ownerAt [.ref 15, .int k], [], hp D e, kc, ks, Q) := by
  refine go_s 2 rfl ?_
  refine go_v kX7_ownerAt_2 okX7_hasIndex rfl rfl rfl rfl (Nat.zero_le _) (Nat.zero_le _) ?_
  refine c_X7_hasIndex ?_
  refine go_s 1 rfl ?_
  refine go_if (fun c5 => ?_) (fun c5 => ?_)
  · refine go_s 1 rfl ?_
    exact go_ret rfl rfl (am_qi q (by first | exact (if_pos (zb_ne.mp c5)).symm | exact (if_neg (zb_0.mp c5)).symm) (by rfl))
  · refine go_s 3 rfl ?_
    refine go_m rfl rfl (show vp_in _ 150 from vpl c5 (by omega)) ?_
    refine go_s 1 rfl ?_
    exact go_ret rfl rfl (am_qi q (by first | exact (if_pos (zb_ne.mp c5)).symm | exact (if_neg (zb_0.mp c5)).symm) (by rfl))
theorem c_X7_bodyAt {D : Nat → Nat → Int32} {e : am_E} {kc ks : Nat} {Q : am_Q} {k : Int32} (hO : (D 15 11).toInt ≤ 150) (q : Q (some (.int (if 0 ≤ k ∧ k < D 15 11 then D 22 k.toNatClampNeg else -1))) (hp D e)) : am_Go (mX7_bodyAt, 0, am_ent mX7_bodyAt [.ref 15, .int k], [], hp D e, kc, ks, Q) := by
  refine go_s 2 rfl ?_
  refine go_v kX7_bodyAt_2 okX7_hasIndex rfl rfl rfl rfl (Nat.zero_le _) (Nat.zero_le _) ?_
  refine c_X7_hasIndex ?_
  refine go_s 1 rfl ?_
  refine go_if (fun c5 => ?_) (fun c5 => ?_)
  · refine go_s 1 rfl ?_
    exact go_ret rfl rfl (am_qi q (by first | exact (if_pos (zb_ne.mp c5)).symm | exact (if_neg (zb_0.mp c5)).symm) (by rfl))
  · refine go_s 3 rfl ?_
    refine go_m rfl rfl (show vp_in _ 150 from vpl c5 (by omega)) ?_
    refine go_s 1 rfl ?_
    exact go_ret rfl rfl (am_qi q (by first | exact (if_pos (zb_ne.mp c5)).symm | exact (if_neg (zb_0.mp c5)).symm) (by rfl))
theorem c_X7_placeAt {D : Nat → Nat → Int32} {e : am_E} {kc ks : Nat} {Q : am_Q} {k : Int32} (hO : (D 15 11).toInt ≤ 150) (q : Q (some (.int (if 0 ≤ k ∧ k < D 15 11 then D 23 k.toNatClampNeg else -1))) (hp D e)) : am_Go (mX7_placeAt, 0, am_ent mX7_placeAt [.ref 15, .int k], [], hp D e, kc, ks, Q) := by
  refine go_s 2 rfl ?_
  refine go_v kX7_placeAt_2 okX7_hasIndex rfl rfl rfl rfl (Nat.zero_le _) (Nat.zero_le _) ?_
  refine c_X7_hasIndex ?_
  refine go_s 1 rfl ?_
  refine go_if (fun c5 => ?_) (fun c5 => ?_)
  · refine go_s 1 rfl ?_
    exact go_ret rfl rfl (am_qi q (by first | exact (if_pos (zb_ne.mp c5)).symm | exact (if_neg (zb_0.mp c5)).symm) (by rfl))
  · refine go_s 3 rfl ?_
    refine go_m rfl rfl (show vp_in _ 150 from vpl c5 (by omega)) ?_
    refine go_s 1 rfl ?_
    exact go_ret rfl rfl (am_qi q (by first | exact (if_pos (zb_ne.mp c5)).symm | exact (if_neg (zb_0.mp c5)).symm) (by rfl))
theorem c_X7_wordAddressAt {D : Nat → Nat → Int32} {e : am_E} {kc ks : Nat} {Q : am_Q} {k : Int32} (hO : (D 15 11).toInt ≤ 150) (q : Q (some (.int (if 0 ≤ k ∧ k < D 15 11 then 4096 + 4 * D 24 k.toNatClampNeg else -1))) (hp D e)) : am_Go (mX7_wordAddressAt, 0, am_ent mX7_wordAddressAt [.ref 15, .int k], [], hp D e, kc, ks, Q) := by
  refine go_s 2 rfl ?_
  refine go_v kX7_wordAddressAt_2 okX7_hasIndex rfl rfl rfl rfl (Nat.zero_le _) (Nat.zero_le _) ?_
  refine c_X7_hasIndex ?_
  refine go_s 1 rfl ?_
  refine go_if (fun c5 => ?_) (fun c5 => ?_)
  · refine go_s 1 rfl ?_
    exact go_ret rfl rfl (am_qi q (by first | exact (if_pos (zb_ne.mp c5)).symm | exact (if_neg (zb_0.mp c5)).symm) (by rfl))
  · refine go_s 3 rfl ?_
    refine go_m rfl rfl (show vp_in _ 150 from vpl c5 (by omega)) ?_
    refine go_st kX7_wordAddressAt_14 okX1_address rfl rfl rfl (Nat.zero_le _) (Nat.zero_le _) ?_
    refine c_X1_address ?_
    refine go_s 1 rfl ?_
    exact go_ret rfl rfl (am_qi q (by first | exact (if_pos (zb_ne.mp c5)).symm | exact (if_neg (zb_0.mp c5)).symm) (by rfl))
theorem c_X7_setWord {D : Nat → Nat → Int32} {e : am_E} {kc ks : Nat} {Q : am_Q} {k b : Int32} (hO : (D 15 11).toInt ≤ 150) (q : Q none (hp (if 0 ≤ k ∧ k < D 15 11 then am_u D 24 k.toNatClampNeg b else D) e)) : am_Go (mX7_setWord, 0, am_ent mX7_setWord [.ref 15, .int k, .int b], [], hp D e, kc, ks, Q) := by
  refine go_s 2 rfl ?_
  refine go_v kX7_setWord_2 okX7_hasIndex rfl rfl rfl rfl (Nat.zero_le _) (Nat.zero_le _) ?_
  refine c_X7_hasIndex ?_
  refine go_s 1 rfl ?_
  refine go_if (fun c5 => ?_) (fun c5 => ?_)
  · exact go_retv rfl rfl (am_qv q (by first | exact am_hD (if_pos (zb_ne.mp c5)).symm | exact am_hD (if_neg (zb_0.mp c5)).symm))
  · refine go_s 4 rfl ?_
    refine go_m rfl rfl (show vp_in _ 150 from vpl c5 (by omega)) ?_
    exact go_retv rfl rfl (am_qv q (by first | exact am_hD (if_pos (zb_ne.mp c5)).symm | exact am_hD (if_neg (zb_0.mp c5)).symm))
theorem c_X7_drop {D : Nat → Nat → Int32} {e : am_E} {kc ks : Nat} {Q : am_Q}   (q : Q none (hp (am_u (am_u (am_fil D 25 300 (-1)) 15 10 0) 15 11 0) e)) : am_Go (mX7_drop, 0, am_ent mX7_drop [.ref 15], [], hp D e, kc, ks, Q) := by
  refine go_s 3 rfl ?_
  refine go_st kX7_drop_5 okJ7_fill_53178 rfl rfl rfl (Nat.zero_le _) (Nat.zero_le _) ?_
  refine c_J7_fill_53178 rfl (by decide) ?_
  refine go_s 6 rfl ?_
  exact go_retv rfl rfl (am_qv q (by rfl))
