theorem c_X2_isReady {D : Nat → Nat → Int32} {e : am_E} {kc ks : Nat} {Q : am_Q}   (q : Q (some (.int (zb (0 < D 11 3)))) (hp D e)) : am_Go (mX2_isReady, 0, am_ent mX2_isReady [.ref 65], [], hp D e, kc, ks, Q) := by
  refine go_s 2 rfl ?_
  refine go_v kX2_isReady_4 okX1_size rfl rfl rfl rfl (Nat.zero_le _) (Nat.zero_le _) ?_
  refine c_X1_size ?_
  refine go_s 1 rfl ?_
  refine go_if (fun c7 => ?_) (fun c7 => ?_)
  · refine go_s 2 rfl ?_
    exact go_retz rfl rfl (by first | exact Or.inl rfl | exact Or.inr rfl | exact zb_01) (am_qi q (by first | exact (zb_t (by assumption)).symm | exact (zb_f (by assumption)).symm) (by rfl))
  · refine go_s 1 rfl ?_
    exact go_retz rfl rfl (by first | exact Or.inl rfl | exact Or.inr rfl | exact zb_01) (am_qi q (by first | exact (zb_t (by assumption)).symm | exact (zb_f (by assumption)).symm) (by rfl))
theorem c_X2_where {D : Nat → Nat → Int32} {e : am_E} {kc ks : Nat} {Q : am_Q}   (q : Q (some (.int (D 65 8))) (hp D e)) : am_Go (mX2_where, 0, am_ent mX2_where [.ref 65], [], hp D e, kc, ks, Q) := by
  refine go_s 2 rfl ?_
  exact go_ret rfl rfl (am_qi q (by rfl) (by rfl))
theorem c_X2_whichPlace {D : Nat → Nat → Int32} {e : am_E} {kc ks : Nat} {Q : am_Q}   (q : Q (some (.int (-1))) (hp D e)) : am_Go (mX2_whichPlace, 0, am_ent mX2_whichPlace [.ref 65], [], hp D e, kc, ks, Q) := by
  refine go_s 1 rfl ?_
  exact go_ret rfl rfl (am_qi q (by rfl) (by rfl))
theorem c_X2_registerAt {D : Nat → Nat → Int32} {e : am_E} {kc ks : Nat} {Q : am_Q} {k : Int32}  (q : Q (some (.int (if 0 ≤ k ∧ k < 32 then D 67 k.toNatClampNeg else 0))) (hp D e)) : am_Go (mX2_registerAt, 0, am_ent mX2_registerAt [.ref 65, .int k], [], hp D e, kc, ks, Q) := by
  refine go_s 1 rfl ?_
  refine go_st kX2_registerAt_1 okX4_isRegister rfl rfl rfl (Nat.zero_le _) (Nat.zero_le _) ?_
  refine c_X4_isRegister ?_
  refine go_s 1 rfl ?_
  refine go_if (fun c4 => ?_) (fun c4 => ?_)
  · refine go_s 1 rfl ?_
    exact go_ret rfl rfl (am_qi q (by first | exact (if_pos (zb_ne.mp c4)).symm | exact (if_neg (zb_0.mp c4)).symm) (by rfl))
  · refine go_s 3 rfl ?_
    refine go_m rfl rfl (show vp_in _ 32 from vpl c4 (by decide)) ?_
    refine go_s 1 rfl ?_
    exact go_ret rfl rfl (am_qi q (by first | exact (if_pos (zb_ne.mp c4)).symm | exact (if_neg (zb_0.mp c4)).symm) (by rfl))
theorem c_X2_memoryAt {D : Nat → Nat → Int32} {e : am_E} {kc ks : Nat} {Q : am_Q} {k : Int32}  (q : Q (some (.int (if 0 ≤ k ∧ k < 64 then D 68 k.toNatClampNeg else 0))) (hp D e)) : am_Go (mX2_memoryAt, 0, am_ent mX2_memoryAt [.ref 65, .int k], [], hp D e, kc, ks, Q) := by
  refine go_s 1 rfl ?_
  refine go_st kX2_memoryAt_1 okX4_isMemoryWord rfl rfl rfl (Nat.zero_le _) (Nat.zero_le _) ?_
  refine c_X4_isMemoryWord ?_
  refine go_s 1 rfl ?_
  refine go_if (fun c4 => ?_) (fun c4 => ?_)
  · refine go_s 1 rfl ?_
    exact go_ret rfl rfl (am_qi q (by first | exact (if_pos (zb_ne.mp c4)).symm | exact (if_neg (zb_0.mp c4)).symm) (by rfl))
  · refine go_s 3 rfl ?_
    refine go_m rfl rfl (show vp_in _ 64 from vpl c4 (by decide)) ?_
    refine go_s 1 rfl ?_
    exact go_ret rfl rfl (am_qi q (by first | exact (if_pos (zb_ne.mp c4)).symm | exact (if_neg (zb_0.mp c4)).symm) (by rfl))
theorem c_X2_goTo {D : Nat → Nat → Int32} {e : am_E} {kc ks : Nat} {Q : am_Q} {g : Int32}  (q : Q (some (.int (if g = 0 then 0 else 3))) (hp (am_u D 65 8 g) e)) : am_Go (mX2_goTo, 0, am_ent mX2_goTo [.ref 65, .int g], [], hp D e, kc, ks, Q) := by
  refine go_s 6 rfl ?_
  refine go_if (fun c9 => ?_) (fun c9 => ?_)
  · refine go_s 2 rfl ?_
    exact go_ret rfl rfl (am_qi q (by first | exact (if_pos (by assumption)).symm | exact (if_neg (by assumption)).symm | simp_all [hp, am_fv, am_k, am_kd, am_u]) (by rfl))
  · refine go_s 1 rfl ?_
    exact go_ret rfl rfl (am_qi q (by first | exact (if_pos (by assumption)).symm | exact (if_neg (by assumption)).symm | simp_all [hp, am_fv, am_k, am_kd, am_u]) (by rfl))
theorem c_X2_goOn {D : Nat → Nat → Int32} {e : am_E} {kc ks : Nat} {Q : am_Q}   (q : Q (some (.int (if D 65 8 + 4 = 0 then 0 else 3))) (hp (am_u D 65 8 (D 65 8 + 4)) e)) : am_Go (mX2_goOn, 0, am_ent mX2_goOn [.ref 65], [], hp D e, kc, ks, Q) := by
  refine go_s 5 rfl ?_
  refine go_v kX2_goOn_7 okX2_goTo rfl rfl rfl rfl (Nat.zero_le _) (Nat.zero_le _) ?_
  refine c_X2_goTo ?_
  exact go_ret rfl rfl (am_qi q (by rfl) (by rfl))
theorem c_X2_write {D : Nat → Nat → Int32} {e : am_E} {kc ks : Nat} {Q : am_Q} {k v : Int32}  (q : Q none (hp (if ¬ k = 0 ∧ 0 ≤ k ∧ k < 32 then am_u D 67 k.toNatClampNeg v else D) e)) : am_Go (mX2_write, 0, am_ent mX2_write [.ref 65, .int k, .int v], [], hp D e, kc, ks, Q) := by
  refine go_s 2 rfl ?_
  refine go_if (fun c1 => ?_) (fun c1 => ?_)
  · exact go_retv rfl rfl (am_qv q (by first | exact am_hD (if_neg (fun z => z.1 (by assumption))).symm | exact am_hD (if_neg (fun z => zb_0.mp c8 z.2)).symm | exact am_hD (if_pos ⟨by assumption, zb_ne.mp c8⟩).symm))
  · refine go_s 1 rfl ?_
    refine go_st kX2_write_5 okX4_isRegister rfl rfl rfl (Nat.zero_le _) (Nat.zero_le _) ?_
    refine c_X4_isRegister ?_
    refine go_s 1 rfl ?_
    refine go_if (fun c8 => ?_) (fun c8 => ?_)
    · exact go_retv rfl rfl (am_qv q (by first | exact am_hD (if_neg (fun z => z.1 (by assumption))).symm | exact am_hD (if_neg (fun z => zb_0.mp c8 z.2)).symm | exact am_hD (if_pos ⟨by assumption, zb_ne.mp c8⟩).symm))
    · refine go_s 4 rfl ?_
      refine go_m rfl rfl (show vp_in _ 32 from vpl c8 (by decide)) ?_
      exact go_retv rfl rfl (am_qv q (by first | exact am_hD (if_neg (fun z => z.1 (by assumption))).symm | exact am_hD (if_neg (fun z => zb_0.mp c8 z.2)).symm | exact am_hD (if_pos ⟨by assumption, zb_ne.mp c8⟩).symm))
theorem c_X2_firstIn {D : Nat → Nat → Int32} {e : am_E} {kc ks : Nat} {Q : am_Q} {w : Int32}  (q : Q (some (.int (D 67 (w >>> (15 : Int32) &&& (31 : Int32)).toNatClampNeg))) (hp D e)) : am_Go (mX2_firstIn, 0, am_ent mX2_firstIn [.ref 65, .int w], [], hp D e, kc, ks, Q) := by
  refine go_s 3 rfl ?_
  refine go_st kX2_firstIn_5 okX8_firstOf rfl rfl rfl (Nat.zero_le _) (Nat.zero_le _) ?_
  refine c_X8_firstOf ?_
  refine go_m rfl rfl (show vp_in _ 32 from pk_andIn _ 5 (by decide) (by decide)) ?_
  exact go_ret rfl rfl (am_qi q (by rfl) (by rfl))
theorem c_X2_secondIn {D : Nat → Nat → Int32} {e : am_E} {kc ks : Nat} {Q : am_Q} {w : Int32}  (q : Q (some (.int (D 67 (w >>> (20 : Int32) &&& (31 : Int32)).toNatClampNeg))) (hp D e)) : am_Go (mX2_secondIn, 0, am_ent mX2_secondIn [.ref 65, .int w], [], hp D e, kc, ks, Q) := by
  refine go_s 3 rfl ?_
  refine go_st kX2_secondIn_5 okX8_secondOf rfl rfl rfl (Nat.zero_le _) (Nat.zero_le _) ?_
  refine c_X8_secondOf ?_
  refine go_m rfl rfl (show vp_in _ 32 from pk_andIn _ 5 (by decide) (by decide)) ?_
  exact go_ret rfl rfl (am_qi q (by rfl) (by rfl))
theorem c_X10_isReady {D : Nat → Nat → Int32} {e : am_E} {kc ks : Nat} {Q : am_Q}   (q : Q (some (.int (zb (0 ≤ (0 : Int32) ∧ 0 < D 1 5)))) (hp D e)) : am_Go (mX10_isReady, 0, am_ent mX10_isReady [.ref 59], [], hp D e, kc, ks, Q) := by
  refine go_s 3 rfl ?_
  refine go_v kX10_isReady_5 okX5_hasFunction rfl rfl rfl rfl (Nat.zero_le _) (Nat.zero_le _) ?_
  refine c_X5_hasFunction ?_
  exact go_retz rfl rfl (by first | exact Or.inl rfl | exact Or.inr rfl | exact zb_01) (am_qi q (by rfl) (by rfl))
theorem c_X10_where {D : Nat → Nat → Int32} {e : am_E} {kc ks : Nat} {Q : am_Q}   (q : Q (some (.int (if D 59 2 = 0 then -1 else D 59 10))) (hp D e)) : am_Go (mX10_where, 0, am_ent mX10_where [.ref 59], [], hp D e, kc, ks, Q) := by
  refine go_s 1 rfl ?_
  refine go_u kX10_where_1_7 okX4_outcome rfl rfl rfl rfl (Nat.zero_le _) (Nat.zero_le _) ?_
  refine c_X4_outcome_59 ?_
  refine go_s 1 rfl ?_
  refine go_if (fun c4 => ?_) (fun c4 => ?_)
  · refine go_s 2 rfl ?_
    exact go_ret rfl rfl (am_qi q (by first | exact (if_pos (by assumption)).symm | exact (if_neg (by assumption)).symm) (by rfl))
  · refine go_s 2 rfl ?_
    exact go_ret rfl rfl (am_qi q (by first | exact (if_pos (by assumption)).symm | exact (if_neg (by assumption)).symm) (by rfl))
theorem c_X10_whichPlace {D : Nat → Nat → Int32} {e : am_E} {kc ks : Nat} {Q : am_Q}   (q : Q (some (.int (if D 59 2 = 0 then -1 else D 59 11))) (hp D e)) : am_Go (mX10_whichPlace, 0, am_ent mX10_whichPlace [.ref 59], [], hp D e, kc, ks, Q) := by
  refine go_s 1 rfl ?_
  refine go_u kX10_whichPlace_1_7 okX4_outcome rfl rfl rfl rfl (Nat.zero_le _) (Nat.zero_le _) ?_
  refine c_X4_outcome_59 ?_
  refine go_s 1 rfl ?_
  refine go_if (fun c4 => ?_) (fun c4 => ?_)
  · refine go_s 2 rfl ?_
    exact go_ret rfl rfl (am_qi q (by first | exact (if_pos (by assumption)).symm | exact (if_neg (by assumption)).symm) (by rfl))
  · refine go_s 2 rfl ?_
    exact go_ret rfl rfl (am_qi q (by first | exact (if_pos (by assumption)).symm | exact (if_neg (by assumption)).symm) (by rfl))
def am_srt (D : Nat → Nat → Int32) (k : Int32) : Int32 := if ¬ k < 0 ∧ k < 32 then D 61 k.toNatClampNeg else 0
def am_val (D : Nat → Nat → Int32) (k : Int32) : Int32 := if ¬ k < 0 ∧ k < 32 then D 62 k.toNatClampNeg else 0
theorem c_X10_sortIn {D : Nat → Nat → Int32} {e : am_E} {kc ks : Nat} {Q : am_Q} {k : Int32}  (q : Q (some (.int (am_srt D k))) (hp D e)) : am_Go (mX10_sortIn, 0, am_ent mX10_sortIn [.ref 59, .int k], [], hp D e, kc, ks, Q) := by
  refine go_s 2 rfl ?_
  refine go_if (fun c1 => ?_) (fun c1 => ?_)
  · refine go_s 1 rfl ?_
    exact go_ret rfl rfl (am_qi q (by first | exact (if_pos ⟨by assumption, by assumption⟩).symm | exact (if_neg (fun z => absurd (by assumption) z.1)).symm | exact (if_neg (fun z => absurd z.2 (by assumption))).symm) (by rfl))
  · refine go_s 5 rfl ?_
    refine go_if (fun c10 => ?_) (fun c10 => ?_)
    · refine go_s 3 rfl ?_
      refine go_m rfl rfl (show vp_in _ 32 from vpn (y := 32) (by assumption) (by assumption) (by decide)) ?_
      refine go_s 1 rfl ?_
      exact go_ret rfl rfl (am_qi q (by first | exact (if_pos ⟨by assumption, by assumption⟩).symm | exact (if_neg (fun z => absurd (by assumption) z.1)).symm | exact (if_neg (fun z => absurd z.2 (by assumption))).symm) (by rfl))
    · refine go_s 1 rfl ?_
      exact go_ret rfl rfl (am_qi q (by first | exact (if_pos ⟨by assumption, by assumption⟩).symm | exact (if_neg (fun z => absurd (by assumption) z.1)).symm | exact (if_neg (fun z => absurd z.2 (by assumption))).symm) (by rfl))
theorem c_X10_valueIn {D : Nat → Nat → Int32} {e : am_E} {kc ks : Nat} {Q : am_Q} {k : Int32}  (q : Q (some (.int (am_val D k))) (hp D e)) : am_Go (mX10_valueIn, 0, am_ent mX10_valueIn [.ref 59, .int k], [], hp D e, kc, ks, Q) := by
  refine go_s 2 rfl ?_
  refine go_if (fun c1 => ?_) (fun c1 => ?_)
  · refine go_s 1 rfl ?_
    exact go_ret rfl rfl (am_qi q (by first | exact (if_pos ⟨by assumption, by assumption⟩).symm | exact (if_neg (fun z => absurd (by assumption) z.1)).symm | exact (if_neg (fun z => absurd z.2 (by assumption))).symm) (by rfl))
  · refine go_s 5 rfl ?_
    refine go_if (fun c10 => ?_) (fun c10 => ?_)
    · refine go_s 3 rfl ?_
      refine go_m rfl rfl (show vp_in _ 32 from vpn (y := 32) (by assumption) (by assumption) (by decide)) ?_
      refine go_s 1 rfl ?_
      exact go_ret rfl rfl (am_qi q (by first | exact (if_pos ⟨by assumption, by assumption⟩).symm | exact (if_neg (fun z => absurd (by assumption) z.1)).symm | exact (if_neg (fun z => absurd z.2 (by assumption))).symm) (by rfl))
    · refine go_s 1 rfl ?_
      exact go_ret rfl rfl (am_qi q (by first | exact (if_pos ⟨by assumption, by assumption⟩).symm | exact (if_neg (fun z => absurd (by assumption) z.1)).symm | exact (if_neg (fun z => absurd z.2 (by assumption))).symm) (by rfl))
theorem c_X10_isNumber {D : Nat → Nat → Int32} {e : am_E} {kc ks : Nat} {Q : am_Q} {k : Int32}  (q : Q (some (.int (zb (am_srt D k = 0)))) (hp D e)) : am_Go (mX10_isNumber, 0, am_ent mX10_isNumber [.ref 59, .int k], [], hp D e, kc, ks, Q) := by
  refine go_s 2 rfl ?_
  refine go_v kX10_isNumber_2 okX10_sortIn rfl rfl rfl rfl (Nat.zero_le _) (Nat.zero_le _) ?_
  refine c_X10_sortIn ?_
  refine go_s 1 rfl ?_
  refine go_if (fun c5 => ?_) (fun c5 => ?_)
  · refine go_s 2 rfl ?_
    exact go_retz rfl rfl (by first | exact Or.inl rfl | exact Or.inr rfl | exact zb_01) (am_qi q (by first | exact (zb_t (by assumption)).symm | exact (zb_f (by assumption)).symm) (by rfl))
  · refine go_s 1 rfl ?_
    exact go_retz rfl rfl (by first | exact Or.inl rfl | exact Or.inr rfl | exact zb_01) (am_qi q (by first | exact (zb_t (by assumption)).symm | exact (zb_f (by assumption)).symm) (by rfl))
theorem c_X10_registerAt {D : Nat → Nat → Int32} {e : am_E} {kc ks : Nat} {Q : am_Q} {k : Int32}  (q : Q (some (.int (if am_srt D k = 0 then am_val D k else 0))) (hp D e)) : am_Go (mX10_registerAt, 0, am_ent mX10_registerAt [.ref 59, .int k], [], hp D e, kc, ks, Q) := by
  refine go_s 2 rfl ?_
  refine go_v kX10_registerAt_2 okX10_isNumber rfl rfl rfl rfl (Nat.zero_le _) (Nat.zero_le _) ?_
  refine c_X10_isNumber ?_
  refine go_s 1 rfl ?_
  refine go_if (fun c5 => ?_) (fun c5 => ?_)
  · refine go_s 1 rfl ?_
    exact go_ret rfl rfl (am_qi q (by first | exact (if_pos (zb_ne.mp c5)).symm | exact (if_neg (zb_0.mp c5)).symm) (by rfl))
  · refine go_s 2 rfl ?_
    refine go_v kX10_registerAt_10 okX10_valueIn rfl rfl rfl rfl (Nat.zero_le _) (Nat.zero_le _) ?_
    refine c_X10_valueIn ?_
    refine go_s 1 rfl ?_
    exact go_ret rfl rfl (am_qi q (by first | exact (if_pos (zb_ne.mp c5)).symm | exact (if_neg (zb_0.mp c5)).symm) (by rfl))
theorem c_X10_memoryAt {D : Nat → Nat → Int32} {e : am_E} {kc ks : Nat} {Q : am_Q} {k : Int32}  (q : Q (some (.int (if (0 ≤ k ∧ k < 64) ∧ D 63 k.toNatClampNeg = 0 then D 64 k.toNatClampNeg else 0))) (hp D e)) : am_Go (mX10_memoryAt, 0, am_ent mX10_memoryAt [.ref 59, .int k], [], hp D e, kc, ks, Q) := by
  refine go_s 1 rfl ?_
  refine go_st kX10_memoryAt_1 okX4_isMemoryWord rfl rfl rfl (Nat.zero_le _) (Nat.zero_le _) ?_
  refine c_X4_isMemoryWord ?_
  refine go_s 1 rfl ?_
  refine go_if (fun c4 => ?_) (fun c4 => ?_)
  · refine go_s 1 rfl ?_
    exact go_ret rfl rfl (am_qi q (by first | exact (if_neg (fun z => zb_0.mp c4 z.1)).symm | exact (if_pos ⟨zb_ne.mp c4, by assumption⟩).symm | exact (if_neg (fun z => absurd z.2 (by assumption))).symm) (by rfl))
  · refine go_s 3 rfl ?_
    refine go_m rfl rfl (show vp_in _ 64 from vpl c4 (by decide)) ?_
    refine go_s 1 rfl ?_
    refine go_if (fun c13 => ?_) (fun c13 => ?_)
    · refine go_s 3 rfl ?_
      refine go_m rfl rfl (show vp_in _ 64 from vpl c4 (by decide)) ?_
      refine go_s 1 rfl ?_
      exact go_ret rfl rfl (am_qi q (by first | exact (if_neg (fun z => zb_0.mp c4 z.1)).symm | exact (if_pos ⟨zb_ne.mp c4, by assumption⟩).symm | exact (if_neg (fun z => absurd z.2 (by assumption))).symm) (by rfl))
    · refine go_s 1 rfl ?_
      exact go_ret rfl rfl (am_qi q (by first | exact (if_neg (fun z => zb_0.mp c4 z.1)).symm | exact (if_pos ⟨zb_ne.mp c4, by assumption⟩).symm | exact (if_neg (fun z => absurd z.2 (by assumption))).symm) (by rfl))
theorem c_X10_goTo {D : Nat → Nat → Int32} {e : am_E} {kc ks : Nat} {Q : am_Q} {f g : Int32}  (q : Q (some (.int (3))) (hp (am_u (am_u D 59 10 f) 59 11 g) e)) : am_Go (mX10_goTo, 0, am_ent mX10_goTo [.ref 59, .int f, .int g], [], hp D e, kc, ks, Q) := by
  refine go_s 7 rfl ?_
  exact go_ret rfl rfl (am_qi q (by rfl) (by rfl))
theorem c_X10_goOn {D : Nat → Nat → Int32} {e : am_E} {kc ks : Nat} {Q : am_Q}   (q : Q (some (.int (3))) (hp (am_u D 59 11 (D 59 11 + 1)) e)) : am_Go (mX10_goOn, 0, am_ent mX10_goOn [.ref 59], [], hp D e, kc, ks, Q) := by
  refine go_s 7 rfl ?_
  exact go_ret rfl rfl (am_qi q (by rfl) (by rfl))
def am_wr (D : Nat → Nat → Int32) (k s v : Int32) : Nat → Nat → Int32 := if ¬ k = 0 ∧ 0 ≤ k ∧ k < 32 then am_u (am_u D 61 k.toNatClampNeg s) 62 k.toNatClampNeg v else D
theorem c_X10_write {D : Nat → Nat → Int32} {e : am_E} {kc ks : Nat} {Q : am_Q} {k s v : Int32}  (q : Q none (hp (am_wr D k s v) e)) : am_Go (mX10_write, 0, am_ent mX10_write [.ref 59, .int k, .int s, .int v], [], hp D e, kc, ks, Q) := by
  refine go_s 2 rfl ?_
  refine go_if (fun c1 => ?_) (fun c1 => ?_)
  · exact go_retv rfl rfl (am_qv q (by first | exact am_hD (if_neg (fun z => z.1 (by assumption))).symm | exact am_hD (if_neg (fun z => zb_0.mp c8 z.2)).symm | exact am_hD (if_pos ⟨by assumption, zb_ne.mp c8⟩).symm))
  · refine go_s 1 rfl ?_
    refine go_st kX10_write_5 okX4_isRegister rfl rfl rfl (Nat.zero_le _) (Nat.zero_le _) ?_
    refine c_X4_isRegister ?_
    refine go_s 1 rfl ?_
    refine go_if (fun c8 => ?_) (fun c8 => ?_)
    · exact go_retv rfl rfl (am_qv q (by first | exact am_hD (if_neg (fun z => z.1 (by assumption))).symm | exact am_hD (if_neg (fun z => zb_0.mp c8 z.2)).symm | exact am_hD (if_pos ⟨by assumption, zb_ne.mp c8⟩).symm))
    · refine go_s 4 rfl ?_
      refine go_m rfl rfl (show vp_in _ 32 from vpl c8 (by decide)) ?_
      refine go_s 4 rfl ?_
      refine go_m rfl rfl (show vp_in _ 32 from vpl c8 (by decide)) ?_
      exact go_retv rfl rfl (am_qv q (by first | exact am_hD (if_neg (fun z => z.1 (by assumption))).symm | exact am_hD (if_neg (fun z => zb_0.mp c8 z.2)).symm | exact am_hD (if_pos ⟨by assumption, zb_ne.mp c8⟩).symm))
theorem c_X10_writeAndGoOn {D : Nat → Nat → Int32} {e : am_E} {kc ks : Nat} {Q : am_Q} {k s v : Int32}  (q : Q (some (.int (3))) (hp (am_u (am_wr D k s v) 59 11 (am_wr D k s v 59 11 + 1)) e)) : am_Go (mX10_writeAndGoOn, 0, am_ent mX10_writeAndGoOn [.ref 59, .int k, .int s, .int v], [], hp D e, kc, ks, Q) := by
  refine go_s 4 rfl ?_
  refine go_v kX10_writeAndGoOn_4 okX10_write rfl rfl rfl rfl (Nat.zero_le _) (Nat.zero_le _) ?_
  refine c_X10_write ?_
  refine go_s 1 rfl ?_
  refine go_v kX10_writeAndGoOn_8 okX10_goOn rfl rfl rfl rfl (Nat.zero_le _) (Nat.zero_le _) ?_
  refine c_X10_goOn ?_
  exact go_ret rfl rfl (am_qi q (by rfl) (by rfl))
theorem c_X10_callFunction {D : Nat → Nat → Int32} {e : am_E} {kc ks : Nat} {Q : am_Q} {f : Int32}  (q : Q (some (.int (3))) (hp (am_u (am_u (am_wr D 1 2 (D 59 10 <<< (6 : Int32) ||| (D 59 11 + 1))) 59 10 f) 59 11 0) e)) : am_Go (mX10_callFunction, 0, am_ent mX10_callFunction [.ref 59, .int f], [], hp D e, kc, ks, Q) := by
  refine go_s 12 rfl ?_
  refine go_v kX10_callFunction_17 okX10_write rfl rfl rfl rfl (Nat.zero_le _) (Nat.zero_le _) ?_
  refine c_X10_write ?_
  refine go_s 3 rfl ?_
  refine go_v kX10_callFunction_23 okX10_goTo rfl rfl rfl rfl (Nat.zero_le _) (Nat.zero_le _) ?_
  refine c_X10_goTo ?_
  exact go_ret rfl rfl (am_qi q (by rfl) (by rfl))
