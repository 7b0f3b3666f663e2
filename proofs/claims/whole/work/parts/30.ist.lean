def am_r1 (D : Nat → Nat → Int32) (w : Int32) : Int32 := D 67 (w >>> (15 : Int32) &&& (31 : Int32)).toNatClampNeg
def am_r2 (D : Nat → Nat → Int32) (w : Int32) : Int32 := D 67 (w >>> (20 : Int32) &&& (31 : Int32)).toNatClampNeg
def am_gi (D : Nat → Nat → Int32) (g : Int32) : Int32 × (Nat → Nat → Int32) := (if g = 0 then 0 else 3, am_u D 65 8 g)
def am_wi (D : Nat → Nat → Int32) (k v : Int32) : Nat → Nat → Int32 := if ¬ k = 0 ∧ 0 ≤ k ∧ k < 32 then am_u D 67 k.toNatClampNeg v else D
def am_wgi (D : Nat → Nat → Int32) (k v : Int32) : Int32 × (Nat → Nat → Int32) := am_gi (am_wi D k v) (am_wi D k v 65 8 + 4)
def am_cr (D : Nat → Nat → Int32) (w : Int32) : Int32 := am_calc (w >>> (12 : Int32) &&& (7 : Int32)) (zb (¬ w &&& (1073741824 : Int32) = 0)) (am_r1 D w) (am_r2 D w)
def am_cim (D : Nat → Nat → Int32) (w : Int32) : Int32 := am_calc (w >>> (12 : Int32) &&& (7 : Int32)) (zb (w >>> (12 : Int32) &&& (7 : Int32) = 5 ∧ ¬ w &&& (1073741824 : Int32) = 0)) (am_r1 D w) (w >>> (20 : Int32))
def am_ild (D : Nat → Nat → Int32) (w : Int32) : Int32 × (Nat → Nat → Int32) := if 0 ≤ am_mix (am_r1 D w + w >>> (20 : Int32)) ∧ am_mix (am_r1 D w + w >>> (20 : Int32)) < 64 then am_wgi D (w >>> (7 : Int32) &&& (31 : Int32)) (D 68 (am_mix (am_r1 D w + w >>> (20 : Int32))).toNatClampNeg) else (2, D)
def am_sof (w : Int32) : Int32 := w >>> (25 : Int32) <<< (5 : Int32) ||| w >>> (7 : Int32) &&& (31 : Int32)
def am_isr (D : Nat → Nat → Int32) (w : Int32) : Int32 × (Nat → Nat → Int32) := if 0 ≤ am_mix (am_r1 D w + am_sof w) ∧ am_mix (am_r1 D w + am_sof w) < 64 then am_gi (am_u D 68 (am_mix (am_r1 D w + am_sof w)).toNatClampNeg (am_r2 D w)) (D 65 8 + 4) else (2, D)
def am_bof (n : Int32) : Int32 := n >>> (31 : Int32) <<< (12 : Int32) ||| (n >>> (7 : Int32) &&& (1 : Int32)) <<< (11 : Int32) ||| (n >>> (25 : Int32) &&& (63 : Int32)) <<< (5 : Int32) ||| (n >>> (8 : Int32) &&& (15 : Int32)) <<< (1 : Int32)
def am_jof (n : Int32) : Int32 := n >>> (31 : Int32) <<< (20 : Int32) ||| n &&& (1044480 : Int32) ||| (n >>> (20 : Int32) &&& (1 : Int32)) <<< (11 : Int32) ||| (n >>> (21 : Int32) &&& (1023 : Int32)) <<< (1 : Int32)
def am_ibr (D : Nat → Nat → Int32) (w : Int32) : Int32 × (Nat → Nat → Int32) := if am_brs (w >>> (12 : Int32) &&& (7 : Int32)) (am_r1 D w) (am_r2 D w) = 0 then am_gi D (D 65 8 + 4) else am_gi D (D 65 8 + am_bof w)
def am_ijp (D : Nat → Nat → Int32) (k g : Int32) : Int32 × (Nat → Nat → Int32) := am_gi (am_wi D k (D 65 8 + 4)) g
def am_kpi (D : Nat → Nat → Int32) (v : Int32) : Nat → Nat → Int32 := am_u (if ¬ D 65 4 < 0 ∧ D 65 4 < 200 then am_u D 66 (D 65 4).toNatClampNeg v else D) 65 4 (D 65 4 + 1)
theorem c_X2_writeAndGoOn {D : Nat → Nat → Int32} {e : am_E} {kc ks : Nat} {Q : am_Q} {k v : Int32}  (q : Q (some (.int ((am_wgi D k v).1))) (hp (am_wgi D k v).2 e)) : am_Go (mX2_writeAndGoOn, 0, am_ent mX2_writeAndGoOn [.ref 65, .int k, .int v], [], hp D e, kc, ks, Q) := by
  refine go_s 3 rfl ?_
  refine go_v kX2_writeAndGoOn_3 okX2_write rfl rfl rfl rfl (Nat.zero_le _) (Nat.zero_le _) ?_
  refine c_X2_write ?_
  refine go_s 1 rfl ?_
  refine go_v kX2_writeAndGoOn_7 okX2_goOn rfl rfl rfl rfl (Nat.zero_le _) (Nat.zero_le _) ?_
  refine c_X2_goOn ?_
  exact go_ret rfl rfl (am_qp q (by rfl))
theorem c_X2_calculateByRegisters {D : Nat → Nat → Int32} {e : am_E} {kc ks : Nat} {Q : am_Q} {w : Int32}  (q : Q (some (.int (am_cr D w))) (hp D e)) : am_Go (mX2_calculateByRegisters, 0, am_ent mX2_calculateByRegisters [.ref 65, .int w], [], hp D e, kc, ks, Q) := by
  refine go_s 1 rfl ?_
  refine go_st kX2_calculateByRegisters_1 okX8_selectorIn rfl rfl rfl (Nat.zero_le _) (Nat.zero_le _) ?_
  refine c_X8_selectorIn ?_
  refine go_s 3 rfl ?_
  refine go_st kX2_calculateByRegisters_7 okX8_isOtherIn rfl rfl rfl (Nat.zero_le _) (Nat.zero_le _) ?_
  refine c_X8_isOtherIn ?_
  refine go_s 2 rfl ?_
  refine go_v kX2_calculateByRegisters_12 okX2_firstIn rfl rfl rfl rfl (Nat.zero_le _) (Nat.zero_le _) ?_
  refine c_X2_firstIn ?_
  refine go_s 2 rfl ?_
  refine go_v kX2_calculateByRegisters_17 okX2_secondIn rfl rfl rfl rfl (Nat.zero_le _) (Nat.zero_le _) ?_
  refine c_X2_secondIn ?_
  refine go_st kX2_calculateByRegisters_20 okX8_calculate rfl rfl rfl (Nat.zero_le _) (Nat.zero_le _) ?_
  refine c_X8_calculate ?_
  exact go_ret rfl rfl (am_qi q (by rfl) (by rfl))
theorem c_X2_calculateByImmediate {D : Nat → Nat → Int32} {e : am_E} {kc ks : Nat} {Q : am_Q} {w : Int32}  (q : Q (some (.int (am_cim D w))) (hp D e)) : am_Go (mX2_calculateByImmediate, 0, am_ent mX2_calculateByImmediate [.ref 65, .int w], [], hp D e, kc, ks, Q) := by
  refine go_s 1 rfl ?_
  refine go_st kX2_calculateByImmediate_1 okX8_selectorIn rfl rfl rfl (Nat.zero_le _) (Nat.zero_le _) ?_
  refine c_X8_selectorIn ?_
  refine go_s 4 rfl ?_
  refine go_if (fun c7 => ?_) (fun c7 => ?_)
  · refine go_s 1 rfl ?_
    refine go_st kX2_calculateByImmediate_11 okX8_isOtherIn rfl rfl rfl (Nat.zero_le _) (Nat.zero_le _) ?_
    refine c_X8_isOtherIn ?_
    refine go_s 1 rfl ?_
    refine go_if (fun c14 => ?_) (fun c14 => ?_)
    · refine go_s 6 rfl ?_
      refine go_v kX2_calculateByImmediate_27 okX2_firstIn rfl rfl rfl rfl (Nat.zero_le _) (Nat.zero_le _) ?_
      refine c_X2_firstIn ?_
      refine go_s 1 rfl ?_
      refine go_st kX2_calculateByImmediate_31 okX8_immediateOf rfl rfl rfl (Nat.zero_le _) (Nat.zero_le _) ?_
      refine c_X8_immediateOf ?_
      refine go_st kX2_calculateByImmediate_34 okX8_calculate rfl rfl rfl (Nat.zero_le _) (Nat.zero_le _) ?_
      refine c_X8_calculate ?_
      exact go_ret rfl rfl (am_qi q (by unfold am_cim; first | (rw [zb_t ⟨by assumption, zb_ne.mp c14⟩]; rfl) | (rw [zb_f (fun z => zb_0.mp c14 z.2)]; rfl) | (rw [zb_f (fun z => absurd z.1 (by assumption))]; rfl)) (by rfl))
    · refine go_s 7 rfl ?_
      refine go_v kX2_calculateByImmediate_27 okX2_firstIn rfl rfl rfl rfl (Nat.zero_le _) (Nat.zero_le _) ?_
      refine c_X2_firstIn ?_
      refine go_s 1 rfl ?_
      refine go_st kX2_calculateByImmediate_31 okX8_immediateOf rfl rfl rfl (Nat.zero_le _) (Nat.zero_le _) ?_
      refine c_X8_immediateOf ?_
      refine go_st kX2_calculateByImmediate_34 okX8_calculate rfl rfl rfl (Nat.zero_le _) (Nat.zero_le _) ?_
      refine c_X8_calculate ?_
      exact go_ret rfl rfl (am_qi q (by unfold am_cim; first | (rw [zb_t ⟨by assumption, zb_ne.mp c14⟩]; rfl) | (rw [zb_f (fun z => zb_0.mp c14 z.2)]; rfl) | (rw [zb_f (fun z => absurd z.1 (by assumption))]; rfl)) (by rfl))
  · refine go_s 6 rfl ?_
    refine go_v kX2_calculateByImmediate_27 okX2_firstIn rfl rfl rfl rfl (Nat.zero_le _) (Nat.zero_le _) ?_
    refine c_X2_firstIn ?_
    refine go_s 1 rfl ?_
    refine go_st kX2_calculateByImmediate_31 okX8_immediateOf rfl rfl rfl (Nat.zero_le _) (Nat.zero_le _) ?_
    refine c_X8_immediateOf ?_
    refine go_st kX2_calculateByImmediate_34 okX8_calculate rfl rfl rfl (Nat.zero_le _) (Nat.zero_le _) ?_
    refine c_X8_calculate ?_
    exact go_ret rfl rfl (am_qi q (by unfold am_cim; first | (rw [zb_t ⟨by assumption, zb_ne.mp c14⟩]; rfl) | (rw [zb_f (fun z => zb_0.mp c14 z.2)]; rfl) | (rw [zb_f (fun z => absurd z.1 (by assumption))]; rfl)) (by rfl))
theorem c_X2_load {D : Nat → Nat → Int32} {e : am_E} {kc ks : Nat} {Q : am_Q} {w : Int32}  (q : Q (some (.int ((am_ild D w).1))) (hp (am_ild D w).2 e)) : am_Go (mX2_load, 0, am_ent mX2_load [.ref 65, .int w], [], hp D e, kc, ks, Q) := by
  refine go_s 2 rfl ?_
  refine go_v kX2_load_2 okX2_firstIn rfl rfl rfl rfl (Nat.zero_le _) (Nat.zero_le _) ?_
  refine c_X2_firstIn ?_
  refine go_s 1 rfl ?_
  refine go_st kX2_load_6 okX8_immediateOf rfl rfl rfl (Nat.zero_le _) (Nat.zero_le _) ?_
  refine c_X8_immediateOf ?_
  refine go_s 1 rfl ?_
  refine go_st kX2_load_10 okX4_memoryIndex rfl rfl rfl (Nat.zero_le _) (Nat.zero_le _) ?_
  refine c_X4_memoryIndex ?_
  refine go_s 2 rfl ?_
  refine go_st kX2_load_15 okX4_isMemoryWord rfl rfl rfl (Nat.zero_le _) (Nat.zero_le _) ?_
  refine c_X4_isMemoryWord ?_
  refine go_s 1 rfl ?_
  refine go_if (fun c18 => ?_) (fun c18 => ?_)
  · refine go_s 1 rfl ?_
    exact go_ret rfl rfl (am_qp q (by first | exact if_pos (zb_ne.mp c18) | exact if_neg (zb_0.mp c18)))
  · refine go_s 2 rfl ?_
    refine go_st kX2_load_25 okX8_targetOf rfl rfl rfl (Nat.zero_le _) (Nat.zero_le _) ?_
    refine c_X8_targetOf ?_
    refine go_s 3 rfl ?_
    refine go_m rfl rfl (show vp_in _ 64 from vpl c18 (by decide)) ?_
    refine go_v kX2_load_34 okX2_writeAndGoOn rfl rfl rfl rfl (Nat.zero_le _) (Nat.zero_le _) ?_
    refine c_X2_writeAndGoOn ?_
    exact go_ret rfl rfl (am_qp q (by first | exact if_pos (zb_ne.mp c18) | exact if_neg (zb_0.mp c18)))
theorem c_X2_store {D : Nat → Nat → Int32} {e : am_E} {kc ks : Nat} {Q : am_Q} {w : Int32}  (q : Q (some (.int ((am_isr D w).1))) (hp (am_isr D w).2 e)) : am_Go (mX2_store, 0, am_ent mX2_store [.ref 65, .int w], [], hp D e, kc, ks, Q) := by
  refine go_s 2 rfl ?_
  refine go_v kX2_store_2 okX2_firstIn rfl rfl rfl rfl (Nat.zero_le _) (Nat.zero_le _) ?_
  refine c_X2_firstIn ?_
  refine go_s 1 rfl ?_
  refine go_st kX2_store_6 okX8_storeOffsetOf rfl rfl rfl (Nat.zero_le _) (Nat.zero_le _) ?_
  refine c_X8_storeOffsetOf ?_
  refine go_s 1 rfl ?_
  refine go_st kX2_store_10 okX4_memoryIndex rfl rfl rfl (Nat.zero_le _) (Nat.zero_le _) ?_
  refine c_X4_memoryIndex ?_
  refine go_s 2 rfl ?_
  refine go_st kX2_store_15 okX4_isMemoryWord rfl rfl rfl (Nat.zero_le _) (Nat.zero_le _) ?_
  refine c_X4_isMemoryWord ?_
  refine go_s 1 rfl ?_
  refine go_if (fun c18 => ?_) (fun c18 => ?_)
  · refine go_s 1 rfl ?_
    exact go_ret rfl rfl (am_qp q (by first | exact if_pos (zb_ne.mp c18) | exact if_neg (zb_0.mp c18)))
  · refine go_s 5 rfl ?_
    refine go_v kX2_store_30 okX2_secondIn rfl rfl rfl rfl (Nat.zero_le _) (Nat.zero_le _) ?_
    refine c_X2_secondIn ?_
    refine go_m rfl rfl (show vp_in _ 64 from vpl c18 (by decide)) ?_
    refine go_s 1 rfl ?_
    refine go_v kX2_store_35 okX2_goOn rfl rfl rfl rfl (Nat.zero_le _) (Nat.zero_le _) ?_
    refine c_X2_goOn ?_
    exact go_ret rfl rfl (am_qp q (by first | exact if_pos (zb_ne.mp c18) | exact if_neg (zb_0.mp c18)))
theorem c_X2_branch {D : Nat → Nat → Int32} {e : am_E} {kc ks : Nat} {Q : am_Q} {w : Int32}  (q : Q (some (.int ((am_ibr D w).1))) (hp (am_ibr D w).2 e)) : am_Go (mX2_branch, 0, am_ent mX2_branch [.ref 65, .int w], [], hp D e, kc, ks, Q) := by
  refine go_s 1 rfl ?_
  refine go_st kX2_branch_1 okX8_selectorIn rfl rfl rfl (Nat.zero_le _) (Nat.zero_le _) ?_
  refine c_X8_selectorIn ?_
  refine go_s 2 rfl ?_
  refine go_v kX2_branch_6 okX2_firstIn rfl rfl rfl rfl (Nat.zero_le _) (Nat.zero_le _) ?_
  refine c_X2_firstIn ?_
  refine go_s 2 rfl ?_
  refine go_v kX2_branch_11 okX2_secondIn rfl rfl rfl rfl (Nat.zero_le _) (Nat.zero_le _) ?_
  refine c_X2_secondIn ?_
  refine go_st kX2_branch_14 okX8_branches rfl rfl rfl (Nat.zero_le _) (Nat.zero_le _) ?_
  refine c_X8_branches ?_
  refine go_s 1 rfl ?_
  refine go_if (fun c17 => ?_) (fun c17 => ?_)
  · refine go_s 1 rfl ?_
    refine go_v kX2_branch_35 okX2_goOn rfl rfl rfl rfl (Nat.zero_le _) (Nat.zero_le _) ?_
    refine c_X2_goOn ?_
    exact go_ret rfl rfl (am_qp q (by first | exact if_pos c17 | exact if_neg c17))
  · refine go_s 4 rfl ?_
    refine go_st kX2_branch_26 okX8_branchOffsetOf rfl rfl rfl (Nat.zero_le _) (Nat.zero_le _) ?_
    refine c_X8_branchOffsetOf ?_
    refine go_s 1 rfl ?_
    refine go_v kX2_branch_30 okX2_goTo rfl rfl rfl rfl (Nat.zero_le _) (Nat.zero_le _) ?_
    refine c_X2_goTo ?_
    exact go_ret rfl rfl (am_qp q (by first | exact if_pos c17 | exact if_neg c17))
theorem c_X2_jump {D : Nat → Nat → Int32} {e : am_E} {kc ks : Nat} {Q : am_Q} {k g : Int32}  (q : Q (some (.int ((am_ijp D k g).1))) (hp (am_ijp D k g).2 e)) : am_Go (mX2_jump, 0, am_ent mX2_jump [.ref 65, .int k, .int g], [], hp D e, kc, ks, Q) := by
  refine go_s 6 rfl ?_
  refine go_v kX2_jump_8 okX2_write rfl rfl rfl rfl (Nat.zero_le _) (Nat.zero_le _) ?_
  refine c_X2_write ?_
  refine go_s 2 rfl ?_
  refine go_v kX2_jump_13 okX2_goTo rfl rfl rfl rfl (Nat.zero_le _) (Nat.zero_le _) ?_
  refine c_X2_goTo ?_
  exact go_ret rfl rfl (am_qp q (by rfl))
def am_isw (D : Nat → Nat → Int32) (w : Int32) : Int32 × (Nat → Nat → Int32) := if w &&& (127 : Int32) = 3 then am_ild D w else if w &&& (127 : Int32) = 19 then am_wgi D (w >>> (7 : Int32) &&& (31 : Int32)) (am_cim D w) else if w &&& (127 : Int32) = 35 then am_isr D w else if w &&& (127 : Int32) = 51 then am_wgi D (w >>> (7 : Int32) &&& (31 : Int32)) (am_cr D w) else if w &&& (127 : Int32) = 55 then am_wgi D (w >>> (7 : Int32) &&& (31 : Int32)) (w &&& (-4096 : Int32)) else if w &&& (127 : Int32) = 99 then am_ibr D w else if w &&& (127 : Int32) = 103 then am_ijp D (w >>> (7 : Int32) &&& (31 : Int32)) ((am_r1 D w + w >>> (20 : Int32)) &&& (-2 : Int32)) else if w &&& (127 : Int32) = 111 then am_ijp D (w >>> (7 : Int32) &&& (31 : Int32)) (D 65 8 + am_jof w) else if w &&& (127 : Int32) = 115 then am_gi (am_kpi D (D 67 10)) (am_kpi D (D 67 10) 65 8 + 4) else (2, D)
def am_ixa (D : Nat → Nat → Int32) (i : Int32) : Int32 := if i &&& (3 : Int32) = 0 ∧ ¬ (i - 4096) >>> (2 : Int32) < 0 ∧ (i - 4096) >>> (2 : Int32) < D 11 3 then (i - 4096) >>> (2 : Int32) else -1
def am_wda (D : Nat → Nat → Int32) (i : Int32) : Int32 := if ¬ i < 0 ∧ i < D 11 3 then D 12 i.toNatClampNeg else 0
def am_isp (D : Nat → Nat → Int32) : Int32 × (Nat → Nat → Int32) := if am_ixa D (D 65 8) = -1 then (2, D) else am_isw D (am_wda D (am_ixa D (D 65 8)))
theorem c_X2_step {D : Nat → Nat → Int32} {e : am_E} {kc ks : Nat} {Q : am_Q}  (hW : (D 11 3).toInt ≤ 600) (q : Q (some (.int ((am_isp D).1))) (hp (am_isp D).2 e)) : am_Go (mX2_step, 0, am_ent mX2_step [.ref 65], [], hp D e, kc, ks, Q) := by
  refine go_s 4 rfl ?_
  refine go_v kX2_step_8 okX1_indexAt rfl rfl rfl rfl (Nat.zero_le _) (Nat.zero_le _) ?_
  refine c_X1_indexAt ?_
  refine go_s 4 rfl ?_
  refine go_if (fun c14 => ?_) (fun c14 => ?_)
  · refine go_s 1 rfl ?_
    exact go_ret rfl rfl (am_qp q (by exact if_pos c14))
  · refine go_s 3 rfl ?_
    refine go_v kX2_step_24 okX1_wordAt rfl rfl rfl rfl (Nat.zero_le _) (Nat.zero_le _) ?_
    refine c_X1_wordAt hW ?_
    refine go_s 2 rfl ?_
    refine go_st kX2_step_29 okX8_targetOf rfl rfl rfl (Nat.zero_le _) (Nat.zero_le _) ?_
    refine c_X8_targetOf ?_
    refine go_s 2 rfl ?_
    refine go_st kX2_step_34 okX8_codeOf rfl rfl rfl (Nat.zero_le _) (Nat.zero_le _) ?_
    refine c_X8_codeOf ?_
    refine go_s 1 rfl ?_
    refine go_if (fun c37_0 => ?_) (fun c37_0 => ?_)
    · refine go_s 2 rfl ?_
      refine go_v kX2_step_155 okX2_load rfl rfl rfl rfl (Nat.zero_le _) (Nat.zero_le _) ?_
      refine c_X2_load ?_
      exact go_ret rfl rfl (am_qp2 q (by exact (if_neg c14).trans (if_pos c37_0)))
    · refine go_if (fun c37_1 => ?_) (fun c37_1 => ?_)
      · refine go_s 4 rfl ?_
        refine go_v kX2_step_135 okX2_calculateByImmediate rfl rfl rfl rfl (Nat.zero_le _) (Nat.zero_le _) ?_
        refine c_X2_calculateByImmediate ?_
        refine go_v kX2_step_138 okX2_writeAndGoOn rfl rfl rfl rfl (Nat.zero_le _) (Nat.zero_le _) ?_
        refine c_X2_writeAndGoOn ?_
        exact go_ret rfl rfl (am_qp2 q (by exact (if_neg c14).trans ((if_neg c37_0).trans (if_pos c37_1))))
      · refine go_if (fun c37_2 => ?_) (fun c37_2 => ?_)
        · refine go_s 2 rfl ?_
          refine go_v kX2_step_161 okX2_store rfl rfl rfl rfl (Nat.zero_le _) (Nat.zero_le _) ?_
          refine c_X2_store ?_
          exact go_ret rfl rfl (am_qp2 q (by exact (if_neg c14).trans ((if_neg c37_0).trans ((if_neg c37_1).trans (if_pos c37_2)))))
        · refine go_if (fun c37_3 => ?_) (fun c37_3 => ?_)
          · refine go_s 4 rfl ?_
            refine go_v kX2_step_124 okX2_calculateByRegisters rfl rfl rfl rfl (Nat.zero_le _) (Nat.zero_le _) ?_
            refine c_X2_calculateByRegisters ?_
            refine go_v kX2_step_127 okX2_writeAndGoOn rfl rfl rfl rfl (Nat.zero_le _) (Nat.zero_le _) ?_
            refine c_X2_writeAndGoOn ?_
            exact go_ret rfl rfl (am_qp2 q (by exact (if_neg c14).trans ((if_neg c37_0).trans ((if_neg c37_1).trans ((if_neg c37_2).trans (if_pos c37_3))))))
          · refine go_if (fun c37_4 => ?_) (fun c37_4 => ?_)
            · refine go_s 5 rfl ?_
              refine go_v kX2_step_149 okX2_writeAndGoOn rfl rfl rfl rfl (Nat.zero_le _) (Nat.zero_le _) ?_
              refine c_X2_writeAndGoOn ?_
              exact go_ret rfl rfl (am_qp2 q (by exact (if_neg c14).trans ((if_neg c37_0).trans ((if_neg c37_1).trans ((if_neg c37_2).trans ((if_neg c37_3).trans (if_pos c37_4)))))))
            · refine go_if (fun c37_5 => ?_) (fun c37_5 => ?_)
              · refine go_s 2 rfl ?_
                refine go_v kX2_step_167 okX2_branch rfl rfl rfl rfl (Nat.zero_le _) (Nat.zero_le _) ?_
                refine c_X2_branch ?_
                exact go_ret rfl rfl (am_qp2 q (by exact (if_neg c14).trans ((if_neg c37_0).trans ((if_neg c37_1).trans ((if_neg c37_2).trans ((if_neg c37_3).trans ((if_neg c37_4).trans (if_pos c37_5))))))))
              · refine go_if (fun c37_6 => ?_) (fun c37_6 => ?_)
                · refine go_s 4 rfl ?_
                  refine go_v kX2_step_190 okX2_firstIn rfl rfl rfl rfl (Nat.zero_le _) (Nat.zero_le _) ?_
                  refine c_X2_firstIn ?_
                  refine go_s 1 rfl ?_
                  refine go_st kX2_step_194 okX8_immediateOf rfl rfl rfl (Nat.zero_le _) (Nat.zero_le _) ?_
                  refine c_X8_immediateOf ?_
                  refine go_s 3 rfl ?_
                  refine go_v kX2_step_201 okX2_jump rfl rfl rfl rfl (Nat.zero_le _) (Nat.zero_le _) ?_
                  refine c_X2_jump ?_
                  exact go_ret rfl rfl (am_qp2 q (by exact (if_neg c14).trans ((if_neg c37_0).trans ((if_neg c37_1).trans ((if_neg c37_2).trans ((if_neg c37_3).trans ((if_neg c37_4).trans ((if_neg c37_5).trans (if_pos c37_6)))))))))
                · refine go_if (fun c37_7 => ?_) (fun c37_7 => ?_)
                  · refine go_s 5 rfl ?_
                    refine go_st kX2_step_178 okX8_jumpOffsetOf rfl rfl rfl (Nat.zero_le _) (Nat.zero_le _) ?_
                    refine c_X8_jumpOffsetOf ?_
                    refine go_s 1 rfl ?_
                    refine go_v kX2_step_182 okX2_jump rfl rfl rfl rfl (Nat.zero_le _) (Nat.zero_le _) ?_
                    refine c_X2_jump ?_
                    exact go_ret rfl rfl (am_qp2 q (by exact (if_neg c14).trans ((if_neg c37_0).trans ((if_neg c37_1).trans ((if_neg c37_2).trans ((if_neg c37_3).trans ((if_neg c37_4).trans ((if_neg c37_5).trans ((if_neg c37_6).trans (if_pos c37_7))))))))))
                  · refine go_if (fun c37_8 => ?_) (fun c37_8 => ?_)
                    · refine go_s 4 rfl ?_
                      refine go_m rfl rfl (show vp_in _ 32 from vp_in_nI (n := 10) (by decide) (by decide)) ?_
                      refine go_u kX2_step_213_2 okX4_keepPrint rfl rfl rfl rfl (Nat.zero_le _) (Nat.zero_le _) ?_
                      refine c_X4_keepPrint_65 ?_
                      refine go_s 1 rfl ?_
                      refine go_v kX2_step_217 okX2_goOn rfl rfl rfl rfl (Nat.zero_le _) (Nat.zero_le _) ?_
                      refine c_X2_goOn ?_
                      exact go_ret rfl rfl (am_qp q (by exact (if_neg c14).trans ((if_neg c37_0).trans ((if_neg c37_1).trans ((if_neg c37_2).trans ((if_neg c37_3).trans ((if_neg c37_4).trans ((if_neg c37_5).trans ((if_neg c37_6).trans ((if_neg c37_7).trans (if_pos c37_8)))))))))))
                    · refine go_s 1 rfl ?_
                      exact go_ret rfl rfl (am_qp q (by exact (if_neg c14).trans ((if_neg c37_0).trans ((if_neg c37_1).trans ((if_neg c37_2).trans ((if_neg c37_3).trans ((if_neg c37_4).trans ((if_neg c37_5).trans ((if_neg c37_6).trans ((if_neg c37_7).trans (if_neg c37_8)))))))))))
