theorem c_X1_drop {D : Nat → Nat → Int32} {e : am_E} {kc ks : Nat} {Q : am_Q}   (q : Q none (hp (am_u (am_u D 11 3 0) 11 4 0) e)) : am_Go (mX1_drop, 0, am_ent mX1_drop [.ref 11], [], hp D e, kc, ks, Q) := by
  refine go_s 6 rfl ?_
  exact go_retv rfl rfl (am_qv q (by rfl))
theorem c_X1_size {D : Nat → Nat → Int32} {e : am_E} {kc ks : Nat} {Q : am_Q}   (q : Q (some (.int (D 11 3))) (hp D e)) : am_Go (mX1_size, 0, am_ent mX1_size [.ref 11], [], hp D e, kc, ks, Q) := by
  refine go_s 2 rfl ?_
  exact go_ret rfl rfl (am_qi q (by rfl) (by rfl))
theorem c_X1_hasFunction {D : Nat → Nat → Int32} {e : am_E} {kc ks : Nat} {Q : am_Q} {f : Int32}  (q : Q (some (.int (zb (0 ≤ f ∧ f < D 11 4)))) (hp D e)) : am_Go (mX1_hasFunction, 0, am_ent mX1_hasFunction [.ref 11, .int f], [], hp D e, kc, ks, Q) := by
  refine go_s 2 rfl ?_
  refine go_if (fun c1 => ?_) (fun c1 => ?_)
  · refine go_s 1 rfl ?_
    exact go_retz rfl rfl (by first | exact Or.inl rfl | exact Or.inr rfl | exact zb_01) (am_qi q (by simp_all [zb, hp, am_fv, am_k, am_kd, ← Int32.not_lt]) (by rfl))
  · refine go_s 4 rfl ?_
    refine go_if (fun c9 => ?_) (fun c9 => ?_)
    · refine go_s 2 rfl ?_
      exact go_retz rfl rfl (by first | exact Or.inl rfl | exact Or.inr rfl | exact zb_01) (am_qi q (by simp_all [zb, hp, am_fv, am_k, am_kd, ← Int32.not_lt]) (by rfl))
    · refine go_s 1 rfl ?_
      exact go_retz rfl rfl (by first | exact Or.inl rfl | exact Or.inr rfl | exact zb_01) (am_qi q (by simp_all [zb, hp, am_fv, am_k, am_kd, ← Int32.not_lt]) (by rfl))
theorem c_X1_address {D : Nat → Nat → Int32} {e : am_E} {kc ks : Nat} {Q : am_Q} {i : Int32}  (q : Q (some (.int (4096 + 4 * i))) (hp D e)) : am_Go (mX1_address, 0, am_ent mX1_address [.int i], [], hp D e, kc, ks, Q) := by
  refine go_s 5 rfl ?_
  exact go_ret rfl rfl (am_qi q (by rfl) (by rfl))
theorem c_X1_setBody {D : Nat → Nat → Int32} {e : am_E} {kc ks : Nat} {Q : am_Q} {f b : Int32} (hI : (D 11 4).toInt ≤ 24) (q : Q none (hp (if 0 ≤ f ∧ f < D 11 4 then am_u D 13 f.toNatClampNeg b else D) e)) : am_Go (mX1_setBody, 0, am_ent mX1_setBody [.ref 11, .int f, .int b], [], hp D e, kc, ks, Q) := by
  refine go_s 2 rfl ?_
  refine go_v kX1_setBody_2 okX1_hasFunction rfl rfl rfl rfl (Nat.zero_le _) (Nat.zero_le _) ?_
  refine c_X1_hasFunction ?_
  refine go_s 1 rfl ?_
  refine go_if (fun c5 => ?_) (fun c5 => ?_)
  · exact go_retv rfl rfl (am_qv q (by first | exact am_hD (if_pos (zb_ne.mp c5)).symm | exact am_hD (if_neg (zb_0.mp c5)).symm))
  · refine go_s 4 rfl ?_
    refine go_m rfl rfl (show vp_in _ 24 from vpl c5 (by omega)) ?_
    exact go_retv rfl rfl (am_qv q (by first | exact am_hD (if_pos (zb_ne.mp c5)).symm | exact am_hD (if_neg (zb_0.mp c5)).symm))
theorem c_X1_setFirstWord {D : Nat → Nat → Int32} {e : am_E} {kc ks : Nat} {Q : am_Q} {f b : Int32} (hI : (D 11 4).toInt ≤ 24) (q : Q none (hp (if 0 ≤ f ∧ f < D 11 4 then am_u D 14 f.toNatClampNeg b else D) e)) : am_Go (mX1_setFirstWord, 0, am_ent mX1_setFirstWord [.ref 11, .int f, .int b], [], hp D e, kc, ks, Q) := by
  refine go_s 2 rfl ?_
  refine go_v kX1_setFirstWord_2 okX1_hasFunction rfl rfl rfl rfl (Nat.zero_le _) (Nat.zero_le _) ?_
  refine c_X1_hasFunction ?_
  refine go_s 1 rfl ?_
  refine go_if (fun c5 => ?_) (fun c5 => ?_)
  · exact go_retv rfl rfl (am_qv q (by first | exact am_hD (if_pos (zb_ne.mp c5)).symm | exact am_hD (if_neg (zb_0.mp c5)).symm))
  · refine go_s 4 rfl ?_
    refine go_m rfl rfl (show vp_in _ 24 from vpl c5 (by omega)) ?_
    exact go_retv rfl rfl (am_qv q (by first | exact am_hD (if_pos (zb_ne.mp c5)).symm | exact am_hD (if_neg (zb_0.mp c5)).symm))
theorem c_X1_bodyOf {D : Nat → Nat → Int32} {e : am_E} {kc ks : Nat} {Q : am_Q} {f : Int32} (hI : (D 11 4).toInt ≤ 24) (q : Q (some (.int (if 0 ≤ f ∧ f < D 11 4 then D 13 f.toNatClampNeg else -1))) (hp D e)) : am_Go (mX1_bodyOf, 0, am_ent mX1_bodyOf [.ref 11, .int f], [], hp D e, kc, ks, Q) := by
  refine go_s 2 rfl ?_
  refine go_v kX1_bodyOf_2 okX1_hasFunction rfl rfl rfl rfl (Nat.zero_le _) (Nat.zero_le _) ?_
  refine c_X1_hasFunction ?_
  refine go_s 1 rfl ?_
  refine go_if (fun c5 => ?_) (fun c5 => ?_)
  · refine go_s 1 rfl ?_
    exact go_ret rfl rfl (am_qi q (by first | exact (if_pos (zb_ne.mp c5)).symm | exact (if_neg (zb_0.mp c5)).symm) (by rfl))
  · refine go_s 3 rfl ?_
    refine go_m rfl rfl (show vp_in _ 24 from vpl c5 (by omega)) ?_
    refine go_s 1 rfl ?_
    exact go_ret rfl rfl (am_qi q (by first | exact (if_pos (zb_ne.mp c5)).symm | exact (if_neg (zb_0.mp c5)).symm) (by rfl))
theorem c_X1_firstWordOf {D : Nat → Nat → Int32} {e : am_E} {kc ks : Nat} {Q : am_Q} {f : Int32} (hI : (D 11 4).toInt ≤ 24) (q : Q (some (.int (if 0 ≤ f ∧ f < D 11 4 then D 14 f.toNatClampNeg else -1))) (hp D e)) : am_Go (mX1_firstWordOf, 0, am_ent mX1_firstWordOf [.ref 11, .int f], [], hp D e, kc, ks, Q) := by
  refine go_s 2 rfl ?_
  refine go_v kX1_firstWordOf_2 okX1_hasFunction rfl rfl rfl rfl (Nat.zero_le _) (Nat.zero_le _) ?_
  refine c_X1_hasFunction ?_
  refine go_s 1 rfl ?_
  refine go_if (fun c5 => ?_) (fun c5 => ?_)
  · refine go_s 1 rfl ?_
    exact go_ret rfl rfl (am_qi q (by first | exact (if_pos (zb_ne.mp c5)).symm | exact (if_neg (zb_0.mp c5)).symm) (by rfl))
  · refine go_s 3 rfl ?_
    refine go_m rfl rfl (show vp_in _ 24 from vpl c5 (by omega)) ?_
    refine go_s 1 rfl ?_
    exact go_ret rfl rfl (am_qi q (by first | exact (if_pos (zb_ne.mp c5)).symm | exact (if_neg (zb_0.mp c5)).symm) (by rfl))
theorem c_X1_addressOf {D : Nat → Nat → Int32} {e : am_E} {kc ks : Nat} {Q : am_Q} {f : Int32} (hI : (D 11 4).toInt ≤ 24) (q : Q (some (.int (if 0 ≤ f ∧ f < D 11 4 then 4096 + 4 * D 14 f.toNatClampNeg else -1))) (hp D e)) : am_Go (mX1_addressOf, 0, am_ent mX1_addressOf [.ref 11, .int f], [], hp D e, kc, ks, Q) := by
  refine go_s 2 rfl ?_
  refine go_v kX1_addressOf_2 okX1_hasFunction rfl rfl rfl rfl (Nat.zero_le _) (Nat.zero_le _) ?_
  refine c_X1_hasFunction ?_
  refine go_s 1 rfl ?_
  refine go_if (fun c5 => ?_) (fun c5 => ?_)
  · refine go_s 1 rfl ?_
    exact go_ret rfl rfl (am_qi q (by first | exact (if_pos (zb_ne.mp c5)).symm | exact (if_neg (zb_0.mp c5)).symm) (by rfl))
  · refine go_s 3 rfl ?_
    refine go_m rfl rfl (show vp_in _ 24 from vpl c5 (by omega)) ?_
    refine go_st kX1_addressOf_14 okX1_address rfl rfl rfl (Nat.zero_le _) (Nat.zero_le _) ?_
    refine c_X1_address ?_
    refine go_s 1 rfl ?_
    exact go_ret rfl rfl (am_qi q (by first | exact (if_pos (zb_ne.mp c5)).symm | exact (if_neg (zb_0.mp c5)).symm) (by rfl))
theorem c_X1_isBody {D : Nat → Nat → Int32} {e : am_E} {kc ks : Nat} {Q : am_Q} {f : Int32} (hI : (D 11 4).toInt ≤ 24) (q : Q (some (.int (zb ((0 ≤ f ∧ f < D 11 4) ∧ D 13 f.toNatClampNeg = f)))) (hp D e)) : am_Go (mX1_isBody, 0, am_ent mX1_isBody [.ref 11, .int f], [], hp D e, kc, ks, Q) := by
  refine go_s 2 rfl ?_
  refine go_v kX1_isBody_2 okX1_hasFunction rfl rfl rfl rfl (Nat.zero_le _) (Nat.zero_le _) ?_
  refine c_X1_hasFunction ?_
  refine go_s 1 rfl ?_
  refine go_if (fun c5 => ?_) (fun c5 => ?_)
  · refine go_s 1 rfl ?_
    exact go_retz rfl rfl (by first | exact Or.inl rfl | exact Or.inr rfl | exact zb_01) (am_qi q (by first | exact (zb_f (fun z => zb_0.mp c5 z.1)).symm | (simp_all [zb, hp]; done)) (by rfl))
  · refine go_s 3 rfl ?_
    refine go_m rfl rfl (show vp_in _ 24 from vpl c5 (by omega)) ?_
    refine go_s 2 rfl ?_
    refine go_if (fun c15 => ?_) (fun c15 => ?_)
    · refine go_s 2 rfl ?_
      exact go_retz rfl rfl (by first | exact Or.inl rfl | exact Or.inr rfl | exact zb_01) (am_qi q (by first | exact (zb_f (fun z => zb_0.mp c5 z.1)).symm | (simp_all [zb, hp]; done)) (by rfl))
    · refine go_s 1 rfl ?_
      exact go_retz rfl rfl (by first | exact Or.inl rfl | exact Or.inr rfl | exact zb_01) (am_qi q (by first | exact (zb_f (fun z => zb_0.mp c5 z.1)).symm | (simp_all [zb, hp]; done)) (by rfl))
theorem c_X1_wordAt {D : Nat → Nat → Int32} {e : am_E} {kc ks : Nat} {Q : am_Q} {i : Int32} (hW : (D 11 3).toInt ≤ 600) (q : Q (some (.int (if ¬ i < 0 ∧ i < D 11 3 then D 12 i.toNatClampNeg else 0))) (hp D e)) : am_Go (mX1_wordAt, 0, am_ent mX1_wordAt [.ref 11, .int i], [], hp D e, kc, ks, Q) := by
  refine go_s 2 rfl ?_
  refine go_if (fun c1 => ?_) (fun c1 => ?_)
  · refine go_s 1 rfl ?_
    exact go_ret rfl rfl (am_qi q (by simp_all [hp, am_fv, am_k, am_kd, ← Int32.not_lt]) (by rfl))
  · refine go_s 4 rfl ?_
    refine go_if (fun c9 => ?_) (fun c9 => ?_)
    · refine go_s 3 rfl ?_
      refine go_m rfl rfl (show vp_in _ 600 from vpn (y := D 11 3) (by assumption) (by assumption) (by omega)) ?_
      refine go_s 1 rfl ?_
      exact go_ret rfl rfl (am_qi q (by simp_all [hp, am_fv, am_k, am_kd, ← Int32.not_lt]) (by rfl))
    · refine go_s 1 rfl ?_
      exact go_ret rfl rfl (am_qi q (by simp_all [hp, am_fv, am_k, am_kd, ← Int32.not_lt]) (by rfl))
theorem c_X1_indexAt {D : Nat → Nat → Int32} {e : am_E} {kc ks : Nat} {Q : am_Q} {i : Int32}  (q : Q (some (.int (if i &&& (3 : Int32) = 0 ∧ ¬ (i - 4096) >>> (2 : Int32) < 0 ∧ (i - 4096) >>> (2 : Int32) < D 11 3 then (i - 4096) >>> (2 : Int32) else -1))) (hp D e)) : am_Go (mX1_indexAt, 0, am_ent mX1_indexAt [.ref 11, .int i], [], hp D e, kc, ks, Q) := by
  refine go_s 10 rfl ?_
  refine go_if (fun c11 => ?_) (fun c11 => ?_)
  · refine go_s 2 rfl ?_
    refine go_if (fun c15 => ?_) (fun c15 => ?_)
    · refine go_s 1 rfl ?_
      exact go_ret rfl rfl (am_qi q (by first | exact (if_pos ⟨by assumption, by assumption, by assumption⟩).symm | exact (if_neg (fun z => by first | exact absurd z.1 (by assumption) | exact absurd z.2.2 (by assumption) | exact absurd (by assumption) z.2.1)).symm) (by rfl))
    · refine go_s 4 rfl ?_
      refine go_if (fun c23 => ?_) (fun c23 => ?_)
      · refine go_s 2 rfl ?_
        exact go_ret rfl rfl (am_qi q (by first | exact (if_pos ⟨by assumption, by assumption, by assumption⟩).symm | exact (if_neg (fun z => by first | exact absurd z.1 (by assumption) | exact absurd z.2.2 (by assumption) | exact absurd (by assumption) z.2.1)).symm) (by rfl))
      · refine go_s 1 rfl ?_
        exact go_ret rfl rfl (am_qi q (by first | exact (if_pos ⟨by assumption, by assumption, by assumption⟩).symm | exact (if_neg (fun z => by first | exact absurd z.1 (by assumption) | exact absurd z.2.2 (by assumption) | exact absurd (by assumption) z.2.1)).symm) (by rfl))
  · refine go_s 1 rfl ?_
    exact go_ret rfl rfl (am_qi q (by first | exact (if_pos ⟨by assumption, by assumption, by assumption⟩).symm | exact (if_neg (fun z => by first | exact absurd z.1 (by assumption) | exact absurd z.2.2 (by assumption) | exact absurd (by assumption) z.2.1)).symm) (by rfl))
