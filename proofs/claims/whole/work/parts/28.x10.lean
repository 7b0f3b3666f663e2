theorem am_qp {Q : am_Q} {e : am_E} {p : Int32 × (Nat → Nat → Int32)} {b : Int32} {D' : Nat → Nat → Int32} (q : Q (some (.int p.1)) (hp p.2 e)) (h : p = (b, D')) : Q (some (.int b)) (hp D' e) := by
  subst h; exact q
theorem am_qp2 {Q : am_Q} {e : am_E} {p p' : Int32 × (Nat → Nat → Int32)} (q : Q (some (.int p.1)) (hp p.2 e)) (h : p = p') : Q (some (.int p'.1)) (hp p'.2 e) := by
  subst h; exact q
def am_go (D : Nat → Nat → Int32) : Nat → Nat → Int32 := am_u D 59 11 (D 59 11 + 1)
def am_mix (n : Int32) : Int32 := if n &&& (3 : Int32) = 0 ∧ (0 ≤ (n - 65536) >>> (2 : Int32) ∧ (n - 65536) >>> (2 : Int32) < 64) then (n - 65536) >>> (2 : Int32) else -1
def am_mio (D : Nat → Nat → Int32) (s : Int32) : Int32 := if am_srt D (am_fb D s) = 0 then am_mix (am_val D (am_fb D s) + am_fc D s) else -1
def am_tld (D : Nat → Nat → Int32) (s : Int32) : Int32 × (Nat → Nat → Int32) := if 0 ≤ am_mio D s ∧ am_mio D s < 64 then (3, am_go (am_wr D (am_fa D s) (D 63 (am_mio D s).toNatClampNeg) (D 64 (am_mio D s).toNatClampNeg))) else (2, D)
def am_tst (D : Nat → Nat → Int32) (s : Int32) : Int32 × (Nat → Nat → Int32) := if 0 ≤ am_mio D s ∧ am_mio D s < 64 then (3, am_go (am_u (am_u D 63 (am_mio D s).toNatClampNeg (am_srt D (am_fa D s))) 64 (am_mio D s).toNatClampNeg (am_val D (am_fa D s)))) else (2, D)
def am_tca (D : Nat → Nat → Int32) (s n : Int32) : Int32 × (Nat → Nat → Int32) := if n = 10 ∧ am_fc D s = 0 then (3, am_go (am_wr D (am_fa D s) (am_srt D (am_fb D s)) (am_val D (am_fb D s)))) else if n < 10 then (if am_srt D (am_fb D s) = 0 ∧ am_srt D (am_fc D s) = 0 then (3, am_go (am_wr D (am_fa D s) 0 (am_calc (am_sel n) (am_othz n) (am_val D (am_fb D s)) (am_val D (am_fc D s))))) else (2, D)) else (if am_srt D (am_fb D s) = 0 then (3, am_go (am_wr D (am_fa D s) 0 (am_calc (am_sel n) (am_othz n) (am_val D (am_fb D s)) (am_fc D s)))) else (2, D))
def am_tbr (D : Nat → Nat → Int32) (s n : Int32) : Int32 × (Nat → Nat → Int32) := if (am_srt D (am_fa D s) = 0 ∧ am_srt D (am_fb D s) = 0) ∨ ((am_srt D (am_fa D s) = 1 ∧ am_srt D (am_fb D s) = 1) ∧ (n = 22 ∨ n = 23)) then (if am_brs (am_sel n) (am_val D (am_fa D s)) (am_val D (am_fb D s)) = 0 then (3, am_go D) else (3, am_u (am_u D 59 10 (D 59 10)) 59 11 (am_fc D s))) else (2, D)
def am_tgb (D : Nat → Nat → Int32) : Int32 × (Nat → Nat → Int32) := if am_srt D 1 = 2 then (if am_val D 1 = -1 then (0, D) else (3, am_u (am_u D 59 10 (am_val D 1 >>> (6 : Int32))) 59 11 (am_val D 1 &&& (63 : Int32)))) else (2, D)
def am_kp (D : Nat → Nat → Int32) (v : Int32) : Nat → Nat → Int32 := am_u (if ¬ D 59 4 < 0 ∧ D 59 4 < 200 then am_u D 60 (D 59 4).toNatClampNeg v else D) 59 4 (D 59 4 + 1)
def am_tpr (D : Nat → Nat → Int32) : Int32 × (Nat → Nat → Int32) := if am_srt D 10 = 0 then (3, am_go (am_kp D (am_val D 10))) else (2, D)
theorem c_X10_memoryIndexOf {D : Nat → Nat → Int32} {e : am_E} {kc ks : Nat} {Q : am_Q} {s : Int32} (hS : (D 1 6).toInt ≤ 300) (q : Q (some (.int (am_mio D s))) (hp D e)) : am_Go (mX10_memoryIndexOf, 0, am_ent mX10_memoryIndexOf [.ref 59, .int s], [], hp D e, kc, ks, Q) := by
  refine go_s 3 rfl ?_
  refine go_v kX10_memoryIndexOf_5 okX5_bAt rfl rfl rfl rfl (Nat.zero_le _) (Nat.zero_le _) ?_
  refine c_X5_bAt hS ?_
  refine go_s 3 rfl ?_
  refine go_v kX10_memoryIndexOf_11 okX10_isNumber rfl rfl rfl rfl (Nat.zero_le _) (Nat.zero_le _) ?_
  refine c_X10_isNumber ?_
  refine go_s 1 rfl ?_
  refine go_if (fun c14 => ?_) (fun c14 => ?_)
  · refine go_s 1 rfl ?_
    exact go_ret rfl rfl (am_qi q (by first | exact (if_pos (zb_ne.mp c14)).symm | exact (if_neg (zb_0.mp c14)).symm) (by rfl))
  · refine go_s 2 rfl ?_
    refine go_v kX10_memoryIndexOf_19 okX10_valueIn rfl rfl rfl rfl (Nat.zero_le _) (Nat.zero_le _) ?_
    refine c_X10_valueIn ?_
    refine go_s 3 rfl ?_
    refine go_v kX10_memoryIndexOf_27 okX5_cAt rfl rfl rfl rfl (Nat.zero_le _) (Nat.zero_le _) ?_
    refine c_X5_cAt hS ?_
    refine go_s 1 rfl ?_
    refine go_st kX10_memoryIndexOf_31 okX4_memoryIndex rfl rfl rfl (Nat.zero_le _) (Nat.zero_le _) ?_
    refine c_X4_memoryIndex ?_
    refine go_s 1 rfl ?_
    exact go_ret rfl rfl (am_qi q (by first | exact (if_pos (zb_ne.mp c14)).symm | exact (if_neg (zb_0.mp c14)).symm) (by rfl))
theorem c_X10_load {D : Nat → Nat → Int32} {e : am_E} {kc ks : Nat} {Q : am_Q} {s : Int32} (hS : (D 1 6).toInt ≤ 300) (q : Q (some (.int ((am_tld D s).1))) (hp (am_tld D s).2 e)) : am_Go (mX10_load, 0, am_ent mX10_load [.ref 59, .int s], [], hp D e, kc, ks, Q) := by
  refine go_s 2 rfl ?_
  refine go_v kX10_load_2 okX10_memoryIndexOf rfl rfl rfl rfl (Nat.zero_le _) (Nat.zero_le _) ?_
  refine c_X10_memoryIndexOf hS ?_
  refine go_s 2 rfl ?_
  refine go_st kX10_load_7 okX4_isMemoryWord rfl rfl rfl (Nat.zero_le _) (Nat.zero_le _) ?_
  refine c_X4_isMemoryWord ?_
  refine go_s 1 rfl ?_
  refine go_if (fun c10 => ?_) (fun c10 => ?_)
  · refine go_s 1 rfl ?_
    exact go_ret rfl rfl (am_qp q (by first | exact if_pos (zb_ne.mp c10) | exact if_neg (zb_0.mp c10)))
  · refine go_s 4 rfl ?_
    refine go_v kX10_load_21 okX5_aAt rfl rfl rfl rfl (Nat.zero_le _) (Nat.zero_le _) ?_
    refine c_X5_aAt hS ?_
    refine go_s 3 rfl ?_
    refine go_m rfl rfl (show vp_in _ 64 from vpl c10 (by decide)) ?_
    refine go_s 3 rfl ?_
    refine go_m rfl rfl (show vp_in _ 64 from vpl c10 (by decide)) ?_
    refine go_v kX10_load_36 okX10_writeAndGoOn rfl rfl rfl rfl (Nat.zero_le _) (Nat.zero_le _) ?_
    refine c_X10_writeAndGoOn ?_
    exact go_ret rfl rfl (am_qp q (by first | exact if_pos (zb_ne.mp c10) | exact if_neg (zb_0.mp c10)))
theorem c_X10_store {D : Nat → Nat → Int32} {e : am_E} {kc ks : Nat} {Q : am_Q} {s : Int32} (hS : (D 1 6).toInt ≤ 300) (q : Q (some (.int ((am_tst D s).1))) (hp (am_tst D s).2 e)) : am_Go (mX10_store, 0, am_ent mX10_store [.ref 59, .int s], [], hp D e, kc, ks, Q) := by
  refine go_s 2 rfl ?_
  refine go_v kX10_store_2 okX10_memoryIndexOf rfl rfl rfl rfl (Nat.zero_le _) (Nat.zero_le _) ?_
  refine c_X10_memoryIndexOf hS ?_
  refine go_s 2 rfl ?_
  refine go_st kX10_store_7 okX4_isMemoryWord rfl rfl rfl (Nat.zero_le _) (Nat.zero_le _) ?_
  refine c_X4_isMemoryWord ?_
  refine go_s 1 rfl ?_
  refine go_if (fun c10 => ?_) (fun c10 => ?_)
  · refine go_s 1 rfl ?_
    exact go_ret rfl rfl (am_qp q (by first | exact if_pos (zb_ne.mp c10) | exact if_neg (zb_0.mp c10)))
  · refine go_s 7 rfl ?_
    refine go_v kX10_store_26 okX5_aAt rfl rfl rfl rfl (Nat.zero_le _) (Nat.zero_le _) ?_
    refine c_X5_aAt hS ?_
    refine go_v kX10_store_29 okX10_sortIn rfl rfl rfl rfl (Nat.zero_le _) (Nat.zero_le _) ?_
    refine c_X10_sortIn ?_
    refine go_m rfl rfl (show vp_in _ 64 from vpl c10 (by decide)) ?_
    refine go_s 7 rfl ?_
    refine go_v kX10_store_44 okX5_aAt rfl rfl rfl rfl (Nat.zero_le _) (Nat.zero_le _) ?_
    refine c_X5_aAt hS ?_
    refine go_v kX10_store_47 okX10_valueIn rfl rfl rfl rfl (Nat.zero_le _) (Nat.zero_le _) ?_
    refine c_X10_valueIn ?_
    refine go_m rfl rfl (show vp_in _ 64 from vpl c10 (by decide)) ?_
    refine go_s 1 rfl ?_
    refine go_v kX10_store_52 okX10_goOn rfl rfl rfl rfl (Nat.zero_le _) (Nat.zero_le _) ?_
    refine c_X10_goOn ?_
    exact go_ret rfl rfl (am_qp q (by first | exact if_pos (zb_ne.mp c10) | exact if_neg (zb_0.mp c10)))
theorem c_X10_goBack {D : Nat → Nat → Int32} {e : am_E} {kc ks : Nat} {Q : am_Q}   (q : Q (some (.int ((am_tgb D).1))) (hp (am_tgb D).2 e)) : am_Go (mX10_goBack, 0, am_ent mX10_goBack [.ref 59], [], hp D e, kc, ks, Q) := by
  refine go_s 2 rfl ?_
  refine go_v kX10_goBack_2 okX10_sortIn rfl rfl rfl rfl (Nat.zero_le _) (Nat.zero_le _) ?_
  refine c_X10_sortIn ?_
  refine go_s 2 rfl ?_
  refine go_if (fun c6 => ?_) (fun c6 => ?_)
  · refine go_s 2 rfl ?_
    refine go_v kX10_goBack_13 okX10_valueIn rfl rfl rfl rfl (Nat.zero_le _) (Nat.zero_le _) ?_
    refine c_X10_valueIn ?_
    refine go_s 4 rfl ?_
    refine go_if (fun c19 => ?_) (fun c19 => ?_)
    · refine go_s 2 rfl ?_
      exact go_ret rfl rfl (am_qp q (by unfold am_tgb; first | exact if_neg (by assumption) | (refine (if_pos (by assumption)).trans ?_; first | exact if_pos (by assumption) | exact if_neg (by assumption))))
    · refine go_s 7 rfl ?_
      refine go_v kX10_goBack_35 okX10_goTo rfl rfl rfl rfl (Nat.zero_le _) (Nat.zero_le _) ?_
      refine c_X10_goTo ?_
      exact go_ret rfl rfl (am_qp q (by unfold am_tgb; first | exact if_neg (by assumption) | (refine (if_pos (by assumption)).trans ?_; first | exact if_pos (by assumption) | exact if_neg (by assumption))))
  · refine go_s 1 rfl ?_
    exact go_ret rfl rfl (am_qp q (by unfold am_tgb; first | exact if_neg (by assumption) | (refine (if_pos (by assumption)).trans ?_; first | exact if_pos (by assumption) | exact if_neg (by assumption))))
theorem c_X10_print {D : Nat → Nat → Int32} {e : am_E} {kc ks : Nat} {Q : am_Q}   (q : Q (some (.int ((am_tpr D).1))) (hp (am_tpr D).2 e)) : am_Go (mX10_print, 0, am_ent mX10_print [.ref 59], [], hp D e, kc, ks, Q) := by
  refine go_s 2 rfl ?_
  refine go_v kX10_print_3 okX10_isNumber rfl rfl rfl rfl (Nat.zero_le _) (Nat.zero_le _) ?_
  refine c_X10_isNumber ?_
  refine go_s 1 rfl ?_
  refine go_if (fun c6 => ?_) (fun c6 => ?_)
  · refine go_s 1 rfl ?_
    exact go_ret rfl rfl (am_qp q (by first | exact if_pos (zb_ne.mp c6) | exact if_neg (zb_0.mp c6)))
  · refine go_s 3 rfl ?_
    refine go_v kX10_print_15 okX10_valueIn rfl rfl rfl rfl (Nat.zero_le _) (Nat.zero_le _) ?_
    refine c_X10_valueIn ?_
    refine go_u kX10_print_18_7 okX4_keepPrint rfl rfl rfl rfl (Nat.zero_le _) (Nat.zero_le _) ?_
    refine c_X4_keepPrint_59 ?_
    refine go_s 1 rfl ?_
    refine go_v kX10_print_22 okX10_goOn rfl rfl rfl rfl (Nat.zero_le _) (Nat.zero_le _) ?_
    refine c_X10_goOn ?_
    exact go_ret rfl rfl (am_qp q (by first | exact if_pos (zb_ne.mp c6) | exact if_neg (zb_0.mp c6)))
theorem c_X10_calculate {D : Nat → Nat → Int32} {e : am_E} {kc ks : Nat} {Q : am_Q} {s n : Int32} (hS : (D 1 6).toInt ≤ 300) (q : Q (some (.int ((am_tca D s n).1))) (hp (am_tca D s n).2 e)) : am_Go (mX10_calculate, 0, am_ent mX10_calculate [.ref 59, .int s, .int n], [], hp D e, kc, ks, Q) := by
  refine go_s 3 rfl ?_
  refine go_v kX10_calculate_5 okX5_aAt rfl rfl rfl rfl (Nat.zero_le _) (Nat.zero_le _) ?_
  refine c_X5_aAt hS ?_
  refine go_s 4 rfl ?_
  refine go_v kX10_calculate_14 okX5_bAt rfl rfl rfl rfl (Nat.zero_le _) (Nat.zero_le _) ?_
  refine c_X5_bAt hS ?_
  refine go_s 4 rfl ?_
  refine go_v kX10_calculate_24 okX5_cAt rfl rfl rfl rfl (Nat.zero_le _) (Nat.zero_le _) ?_
  refine c_X5_cAt hS ?_
  refine go_s 4 rfl ?_
  refine go_if (fun c32 => ?_) (fun c32 => ?_)
  · refine go_s 2 rfl ?_
    refine go_if (fun c37 => ?_) (fun c37 => ?_)
    · refine go_s 4 rfl ?_
      refine go_v kX10_calculate_45 okX10_sortIn rfl rfl rfl rfl (Nat.zero_le _) (Nat.zero_le _) ?_
      refine c_X10_sortIn ?_
      refine go_s 2 rfl ?_
      refine go_v kX10_calculate_51 okX10_valueIn rfl rfl rfl rfl (Nat.zero_le _) (Nat.zero_le _) ?_
      refine c_X10_valueIn ?_
      refine go_v kX10_calculate_54 okX10_writeAndGoOn rfl rfl rfl rfl (Nat.zero_le _) (Nat.zero_le _) ?_
      refine c_X10_writeAndGoOn ?_
      exact go_ret rfl rfl (am_qp q (by simp_all [am_tca, zb, am_go, hp, ← Int32.not_lt]))
    · refine go_s 3 rfl ?_
      refine go_if (fun c61 => ?_) (fun c61 => ?_)
      · refine go_s 5 rfl ?_
        refine go_v kX10_calculate_74 okX10_isNumber rfl rfl rfl rfl (Nat.zero_le _) (Nat.zero_le _) ?_
        refine c_X10_isNumber ?_
        refine go_s 1 rfl ?_
        refine go_if (fun c77 => ?_) (fun c77 => ?_)
        · refine go_s 1 rfl ?_
          exact go_ret rfl rfl (am_qp q (by simp_all [am_tca, zb, am_go, hp, ← Int32.not_lt]))
        · refine go_s 2 rfl ?_
          refine go_if (fun c82 => absurd c82 (by decide)) (fun c82 => ?_)
          refine go_s 2 rfl ?_
          refine go_v kX10_calculate_88 okX10_isNumber rfl rfl rfl rfl (Nat.zero_le _) (Nat.zero_le _) ?_
          refine c_X10_isNumber ?_
          refine go_s 1 rfl ?_
          refine go_if (fun c91 => ?_) (fun c91 => ?_)
          · refine go_s 1 rfl ?_
            exact go_ret rfl rfl (am_qp q (by simp_all [am_tca, zb, am_go, hp, ← Int32.not_lt]))
          · refine go_s 2 rfl ?_
            refine go_if (fun c98 => absurd c98 (by decide)) (fun c98 => ?_)
            refine go_s 2 rfl ?_
            refine go_v kX10_calculate_104 okX10_valueIn rfl rfl rfl rfl (Nat.zero_le _) (Nat.zero_le _) ?_
            refine c_X10_valueIn ?_
            refine go_s 3 rfl ?_
            refine go_st kX10_calculate_115 okX8_selectorOf rfl rfl rfl (Nat.zero_le _) (Nat.zero_le _) ?_
            refine c_X8_selectorOf ?_
            refine go_s 3 rfl ?_
            refine go_st kX10_calculate_123 okX8_isOther rfl rfl rfl (Nat.zero_le _) (Nat.zero_le _) ?_
            refine c_X8_isOther ?_
            refine go_s 2 rfl ?_
            refine go_v kX10_calculate_129 okX10_valueIn rfl rfl rfl rfl (Nat.zero_le _) (Nat.zero_le _) ?_
            refine c_X10_valueIn ?_
            refine go_s 1 rfl ?_
            refine go_st kX10_calculate_134 okX8_calculate rfl rfl rfl (Nat.zero_le _) (Nat.zero_le _) ?_
            refine c_X8_calculate ?_
            refine go_s 5 rfl ?_
            refine go_v kX10_calculate_144 okX10_writeAndGoOn rfl rfl rfl rfl (Nat.zero_le _) (Nat.zero_le _) ?_
            refine c_X10_writeAndGoOn ?_
            exact go_ret rfl rfl (am_qp q (by simp_all [am_tca, zb, am_go, hp, ← Int32.not_lt]))
      · refine go_s 4 rfl ?_
        refine go_v kX10_calculate_74 okX10_isNumber rfl rfl rfl rfl (Nat.zero_le _) (Nat.zero_le _) ?_
        refine c_X10_isNumber ?_
        refine go_s 1 rfl ?_
        refine go_if (fun c77 => ?_) (fun c77 => ?_)
        · refine go_s 1 rfl ?_
          exact go_ret rfl rfl (am_qp q (by simp_all [am_tca, zb, am_go, hp, ← Int32.not_lt]))
        · refine go_s 2 rfl ?_
          refine go_if (fun c82 => ?_) (fun c82 => absurd (by decide) c82)
          refine go_s 2 rfl ?_
          refine go_if (fun c98 => ?_) (fun c98 => absurd (by decide) c98)
          refine go_s 3 rfl ?_
          refine go_st kX10_calculate_115 okX8_selectorOf rfl rfl rfl (Nat.zero_le _) (Nat.zero_le _) ?_
          refine c_X8_selectorOf ?_
          refine go_s 3 rfl ?_
          refine go_st kX10_calculate_123 okX8_isOther rfl rfl rfl (Nat.zero_le _) (Nat.zero_le _) ?_
          refine c_X8_isOther ?_
          refine go_s 2 rfl ?_
          refine go_v kX10_calculate_129 okX10_valueIn rfl rfl rfl rfl (Nat.zero_le _) (Nat.zero_le _) ?_
          refine c_X10_valueIn ?_
          refine go_s 1 rfl ?_
          refine go_st kX10_calculate_134 okX8_calculate rfl rfl rfl (Nat.zero_le _) (Nat.zero_le _) ?_
          refine c_X8_calculate ?_
          refine go_s 5 rfl ?_
          refine go_v kX10_calculate_144 okX10_writeAndGoOn rfl rfl rfl rfl (Nat.zero_le _) (Nat.zero_le _) ?_
          refine c_X10_writeAndGoOn ?_
          exact go_ret rfl rfl (am_qp q (by simp_all [am_tca, zb, am_go, hp, ← Int32.not_lt]))
  · refine go_s 3 rfl ?_
    refine go_if (fun c61 => ?_) (fun c61 => ?_)
    · refine go_s 5 rfl ?_
      refine go_v kX10_calculate_74 okX10_isNumber rfl rfl rfl rfl (Nat.zero_le _) (Nat.zero_le _) ?_
      refine c_X10_isNumber ?_
      refine go_s 1 rfl ?_
      refine go_if (fun c77 => ?_) (fun c77 => ?_)
      · refine go_s 1 rfl ?_
        exact go_ret rfl rfl (am_qp q (by simp_all [am_tca, zb, am_go, hp, ← Int32.not_lt]))
      · refine go_s 2 rfl ?_
        refine go_if (fun c82 => absurd c82 (by decide)) (fun c82 => ?_)
        refine go_s 2 rfl ?_
        refine go_v kX10_calculate_88 okX10_isNumber rfl rfl rfl rfl (Nat.zero_le _) (Nat.zero_le _) ?_
        refine c_X10_isNumber ?_
        refine go_s 1 rfl ?_
        refine go_if (fun c91 => ?_) (fun c91 => ?_)
        · refine go_s 1 rfl ?_
          exact go_ret rfl rfl (am_qp q (by simp_all [am_tca, zb, am_go, hp, ← Int32.not_lt]))
        · refine go_s 2 rfl ?_
          refine go_if (fun c98 => absurd c98 (by decide)) (fun c98 => ?_)
          refine go_s 2 rfl ?_
          refine go_v kX10_calculate_104 okX10_valueIn rfl rfl rfl rfl (Nat.zero_le _) (Nat.zero_le _) ?_
          refine c_X10_valueIn ?_
          refine go_s 3 rfl ?_
          refine go_st kX10_calculate_115 okX8_selectorOf rfl rfl rfl (Nat.zero_le _) (Nat.zero_le _) ?_
          refine c_X8_selectorOf ?_
          refine go_s 3 rfl ?_
          refine go_st kX10_calculate_123 okX8_isOther rfl rfl rfl (Nat.zero_le _) (Nat.zero_le _) ?_
          refine c_X8_isOther ?_
          refine go_s 2 rfl ?_
          refine go_v kX10_calculate_129 okX10_valueIn rfl rfl rfl rfl (Nat.zero_le _) (Nat.zero_le _) ?_
          refine c_X10_valueIn ?_
          refine go_s 1 rfl ?_
          refine go_st kX10_calculate_134 okX8_calculate rfl rfl rfl (Nat.zero_le _) (Nat.zero_le _) ?_
          refine c_X8_calculate ?_
          refine go_s 5 rfl ?_
          refine go_v kX10_calculate_144 okX10_writeAndGoOn rfl rfl rfl rfl (Nat.zero_le _) (Nat.zero_le _) ?_
          refine c_X10_writeAndGoOn ?_
          exact go_ret rfl rfl (am_qp q (by simp_all [am_tca, zb, am_go, hp, ← Int32.not_lt]))
    · refine go_s 4 rfl ?_
      refine go_v kX10_calculate_74 okX10_isNumber rfl rfl rfl rfl (Nat.zero_le _) (Nat.zero_le _) ?_
      refine c_X10_isNumber ?_
      refine go_s 1 rfl ?_
      refine go_if (fun c77 => ?_) (fun c77 => ?_)
      · refine go_s 1 rfl ?_
        exact go_ret rfl rfl (am_qp q (by simp_all [am_tca, zb, am_go, hp, ← Int32.not_lt]))
      · refine go_s 2 rfl ?_
        refine go_if (fun c82 => ?_) (fun c82 => absurd (by decide) c82)
        refine go_s 2 rfl ?_
        refine go_if (fun c98 => ?_) (fun c98 => absurd (by decide) c98)
        refine go_s 3 rfl ?_
        refine go_st kX10_calculate_115 okX8_selectorOf rfl rfl rfl (Nat.zero_le _) (Nat.zero_le _) ?_
        refine c_X8_selectorOf ?_
        refine go_s 3 rfl ?_
        refine go_st kX10_calculate_123 okX8_isOther rfl rfl rfl (Nat.zero_le _) (Nat.zero_le _) ?_
        refine c_X8_isOther ?_
        refine go_s 2 rfl ?_
        refine go_v kX10_calculate_129 okX10_valueIn rfl rfl rfl rfl (Nat.zero_le _) (Nat.zero_le _) ?_
        refine c_X10_valueIn ?_
        refine go_s 1 rfl ?_
        refine go_st kX10_calculate_134 okX8_calculate rfl rfl rfl (Nat.zero_le _) (Nat.zero_le _) ?_
        refine c_X8_calculate ?_
        refine go_s 5 rfl ?_
        refine go_v kX10_calculate_144 okX10_writeAndGoOn rfl rfl rfl rfl (Nat.zero_le _) (Nat.zero_le _) ?_
        refine c_X10_writeAndGoOn ?_
        exact go_ret rfl rfl (am_qp q (by simp_all [am_tca, zb, am_go, hp, ← Int32.not_lt]))
theorem c_X10_branch {D : Nat → Nat → Int32} {e : am_E} {kc ks : Nat} {Q : am_Q} {s n : Int32} (hS : (D 1 6).toInt ≤ 300) (q : Q (some (.int ((am_tbr D s n).1))) (hp (am_tbr D s n).2 e)) : am_Go (mX10_branch, 0, am_ent mX10_branch [.ref 59, .int s, .int n], [], hp D e, kc, ks, Q) := by
  refine go_s 3 rfl ?_
  refine go_v kX10_branch_5 okX5_aAt rfl rfl rfl rfl (Nat.zero_le _) (Nat.zero_le _) ?_
  refine c_X5_aAt hS ?_
  refine go_s 4 rfl ?_
  refine go_v kX10_branch_14 okX5_bAt rfl rfl rfl rfl (Nat.zero_le _) (Nat.zero_le _) ?_
  refine c_X5_bAt hS ?_
  refine go_s 3 rfl ?_
  refine go_v kX10_branch_21 okX10_isNumber rfl rfl rfl rfl (Nat.zero_le _) (Nat.zero_le _) ?_
  refine c_X10_isNumber ?_
  refine go_s 1 rfl ?_
  refine go_if (fun c24 => ?_) (fun c24 => ?_)
  · refine go_s 4 rfl ?_
    refine go_v kX10_branch_45 okX10_sortIn rfl rfl rfl rfl (Nat.zero_le _) (Nat.zero_le _) ?_
    refine c_X10_sortIn ?_
    refine go_s 2 rfl ?_
    refine go_if (fun c49 => ?_) (fun c49 => ?_)
    · refine go_s 2 rfl ?_
      refine go_v kX10_branch_55 okX10_sortIn rfl rfl rfl rfl (Nat.zero_le _) (Nat.zero_le _) ?_
      refine c_X10_sortIn ?_
      refine go_s 2 rfl ?_
      refine go_if (fun c59 => ?_) (fun c59 => ?_)
      · refine go_s 6 rfl ?_
        refine go_if (fun c72 => ?_) (fun c72 => ?_)
        · refine go_s 5 rfl ?_
          refine go_if (fun c90 => ?_) (fun c90 => absurd (by decide) c90)
          refine go_s 2 rfl ?_
          refine go_if (fun c95 => absurd c95 (by decide)) (fun c95 => ?_)
          refine go_s 2 rfl ?_
          refine go_if (fun c100 => absurd c100 (by decide)) (fun c100 => ?_)
          refine go_s 1 rfl ?_
          refine go_st kX10_branch_106 okX8_selectorOf rfl rfl rfl (Nat.zero_le _) (Nat.zero_le _) ?_
          refine c_X8_selectorOf ?_
          refine go_s 2 rfl ?_
          refine go_v kX10_branch_111 okX10_valueIn rfl rfl rfl rfl (Nat.zero_le _) (Nat.zero_le _) ?_
          refine c_X10_valueIn ?_
          refine go_s 2 rfl ?_
          refine go_v kX10_branch_117 okX10_valueIn rfl rfl rfl rfl (Nat.zero_le _) (Nat.zero_le _) ?_
          refine c_X10_valueIn ?_
          refine go_st kX10_branch_120 okX8_branches rfl rfl rfl (Nat.zero_le _) (Nat.zero_le _) ?_
          refine c_X8_branches ?_
          refine go_s 1 rfl ?_
          refine go_if (fun c123 => ?_) (fun c123 => ?_)
          · refine go_s 1 rfl ?_
            refine go_v kX10_branch_144 okX10_goOn rfl rfl rfl rfl (Nat.zero_le _) (Nat.zero_le _) ?_
            refine c_X10_goOn ?_
            exact go_ret rfl rfl (am_qp q (by simp_all [am_tbr, zb, am_go, hp]))
          · refine go_s 6 rfl ?_
            refine go_v kX10_branch_136 okX5_cAt rfl rfl rfl rfl (Nat.zero_le _) (Nat.zero_le _) ?_
            refine c_X5_cAt hS ?_
            refine go_v kX10_branch_139 okX10_goTo rfl rfl rfl rfl (Nat.zero_le _) (Nat.zero_le _) ?_
            refine c_X10_goTo ?_
            exact go_ret rfl rfl (am_qp q (by simp_all [am_tbr, zb, am_go, hp]))
        · refine go_s 3 rfl ?_
          refine go_if (fun c78 => ?_) (fun c78 => ?_)
          · refine go_s 5 rfl ?_
            refine go_if (fun c90 => ?_) (fun c90 => absurd (by decide) c90)
            refine go_s 2 rfl ?_
            refine go_if (fun c95 => absurd c95 (by decide)) (fun c95 => ?_)
            refine go_s 2 rfl ?_
            refine go_if (fun c100 => absurd c100 (by decide)) (fun c100 => ?_)
            refine go_s 1 rfl ?_
            refine go_st kX10_branch_106 okX8_selectorOf rfl rfl rfl (Nat.zero_le _) (Nat.zero_le _) ?_
            refine c_X8_selectorOf ?_
            refine go_s 2 rfl ?_
            refine go_v kX10_branch_111 okX10_valueIn rfl rfl rfl rfl (Nat.zero_le _) (Nat.zero_le _) ?_
            refine c_X10_valueIn ?_
            refine go_s 2 rfl ?_
            refine go_v kX10_branch_117 okX10_valueIn rfl rfl rfl rfl (Nat.zero_le _) (Nat.zero_le _) ?_
            refine c_X10_valueIn ?_
            refine go_st kX10_branch_120 okX8_branches rfl rfl rfl (Nat.zero_le _) (Nat.zero_le _) ?_
            refine c_X8_branches ?_
            refine go_s 1 rfl ?_
            refine go_if (fun c123 => ?_) (fun c123 => ?_)
            · refine go_s 1 rfl ?_
              refine go_v kX10_branch_144 okX10_goOn rfl rfl rfl rfl (Nat.zero_le _) (Nat.zero_le _) ?_
              refine c_X10_goOn ?_
              exact go_ret rfl rfl (am_qp q (by simp_all [am_tbr, zb, am_go, hp]))
            · refine go_s 6 rfl ?_
              refine go_v kX10_branch_136 okX5_cAt rfl rfl rfl rfl (Nat.zero_le _) (Nat.zero_le _) ?_
              refine c_X5_cAt hS ?_
              refine go_v kX10_branch_139 okX10_goTo rfl rfl rfl rfl (Nat.zero_le _) (Nat.zero_le _) ?_
              refine c_X10_goTo ?_
              exact go_ret rfl rfl (am_qp q (by simp_all [am_tbr, zb, am_go, hp]))
          · refine go_s 4 rfl ?_
            refine go_if (fun c90 => ?_) (fun c90 => absurd (by decide) c90)
            refine go_s 2 rfl ?_
            refine go_if (fun c95 => absurd c95 (by decide)) (fun c95 => ?_)
            refine go_s 2 rfl ?_
            refine go_if (fun c100 => ?_) (fun c100 => absurd (by decide) c100)
            refine go_s 1 rfl ?_
            exact go_ret rfl rfl (am_qp q (by simp_all [am_tbr, zb, am_go, hp]))
      · refine go_s 5 rfl ?_
        refine go_if (fun c72 => ?_) (fun c72 => ?_)
        · refine go_s 5 rfl ?_
          refine go_if (fun c90 => ?_) (fun c90 => absurd (by decide) c90)
          refine go_s 2 rfl ?_
          refine go_if (fun c95 => ?_) (fun c95 => absurd (by decide) c95)
          refine go_s 1 rfl ?_
          exact go_ret rfl rfl (am_qp q (by simp_all [am_tbr, zb, am_go, hp]))
        · refine go_s 3 rfl ?_
          refine go_if (fun c78 => ?_) (fun c78 => ?_)
          · refine go_s 5 rfl ?_
            refine go_if (fun c90 => ?_) (fun c90 => absurd (by decide) c90)
            refine go_s 2 rfl ?_
            refine go_if (fun c95 => ?_) (fun c95 => absurd (by decide) c95)
            refine go_s 1 rfl ?_
            exact go_ret rfl rfl (am_qp q (by simp_all [am_tbr, zb, am_go, hp]))
          · refine go_s 4 rfl ?_
            refine go_if (fun c90 => ?_) (fun c90 => absurd (by decide) c90)
            refine go_s 2 rfl ?_
            refine go_if (fun c95 => ?_) (fun c95 => absurd (by decide) c95)
            refine go_s 1 rfl ?_
            exact go_ret rfl rfl (am_qp q (by simp_all [am_tbr, zb, am_go, hp]))
    · refine go_s 5 rfl ?_
      refine go_if (fun c72 => ?_) (fun c72 => ?_)
      · refine go_s 5 rfl ?_
        refine go_if (fun c90 => ?_) (fun c90 => absurd (by decide) c90)
        refine go_s 2 rfl ?_
        refine go_if (fun c95 => ?_) (fun c95 => absurd (by decide) c95)
        refine go_s 1 rfl ?_
        exact go_ret rfl rfl (am_qp q (by simp_all [am_tbr, zb, am_go, hp]))
      · refine go_s 3 rfl ?_
        refine go_if (fun c78 => ?_) (fun c78 => ?_)
        · refine go_s 5 rfl ?_
          refine go_if (fun c90 => ?_) (fun c90 => absurd (by decide) c90)
          refine go_s 2 rfl ?_
          refine go_if (fun c95 => ?_) (fun c95 => absurd (by decide) c95)
          refine go_s 1 rfl ?_
          exact go_ret rfl rfl (am_qp q (by simp_all [am_tbr, zb, am_go, hp]))
        · refine go_s 4 rfl ?_
          refine go_if (fun c90 => ?_) (fun c90 => absurd (by decide) c90)
          refine go_s 2 rfl ?_
          refine go_if (fun c95 => ?_) (fun c95 => absurd (by decide) c95)
          refine go_s 1 rfl ?_
          exact go_ret rfl rfl (am_qp q (by simp_all [am_tbr, zb, am_go, hp]))
  · refine go_s 2 rfl ?_
    refine go_v kX10_branch_30 okX10_isNumber rfl rfl rfl rfl (Nat.zero_le _) (Nat.zero_le _) ?_
    refine c_X10_isNumber ?_
    refine go_s 1 rfl ?_
    refine go_if (fun c33 => ?_) (fun c33 => ?_)
    · refine go_s 4 rfl ?_
      refine go_v kX10_branch_45 okX10_sortIn rfl rfl rfl rfl (Nat.zero_le _) (Nat.zero_le _) ?_
      refine c_X10_sortIn ?_
      refine go_s 2 rfl ?_
      refine go_if (fun c49 => ?_) (fun c49 => ?_)
      · refine go_s 2 rfl ?_
        refine go_v kX10_branch_55 okX10_sortIn rfl rfl rfl rfl (Nat.zero_le _) (Nat.zero_le _) ?_
        refine c_X10_sortIn ?_
        refine go_s 2 rfl ?_
        refine go_if (fun c59 => ?_) (fun c59 => ?_)
        · refine go_s 6 rfl ?_
          refine go_if (fun c72 => ?_) (fun c72 => ?_)
          · refine go_s 5 rfl ?_
            refine go_if (fun c90 => ?_) (fun c90 => absurd (by decide) c90)
            refine go_s 2 rfl ?_
            refine go_if (fun c95 => absurd c95 (by decide)) (fun c95 => ?_)
            refine go_s 2 rfl ?_
            refine go_if (fun c100 => absurd c100 (by decide)) (fun c100 => ?_)
            refine go_s 1 rfl ?_
            refine go_st kX10_branch_106 okX8_selectorOf rfl rfl rfl (Nat.zero_le _) (Nat.zero_le _) ?_
            refine c_X8_selectorOf ?_
            refine go_s 2 rfl ?_
            refine go_v kX10_branch_111 okX10_valueIn rfl rfl rfl rfl (Nat.zero_le _) (Nat.zero_le _) ?_
            refine c_X10_valueIn ?_
            refine go_s 2 rfl ?_
            refine go_v kX10_branch_117 okX10_valueIn rfl rfl rfl rfl (Nat.zero_le _) (Nat.zero_le _) ?_
            refine c_X10_valueIn ?_
            refine go_st kX10_branch_120 okX8_branches rfl rfl rfl (Nat.zero_le _) (Nat.zero_le _) ?_
            refine c_X8_branches ?_
            refine go_s 1 rfl ?_
            refine go_if (fun c123 => ?_) (fun c123 => ?_)
            · refine go_s 1 rfl ?_
              refine go_v kX10_branch_144 okX10_goOn rfl rfl rfl rfl (Nat.zero_le _) (Nat.zero_le _) ?_
              refine c_X10_goOn ?_
              exact go_ret rfl rfl (am_qp q (by simp_all [am_tbr, zb, am_go, hp]))
            · refine go_s 6 rfl ?_
              refine go_v kX10_branch_136 okX5_cAt rfl rfl rfl rfl (Nat.zero_le _) (Nat.zero_le _) ?_
              refine c_X5_cAt hS ?_
              refine go_v kX10_branch_139 okX10_goTo rfl rfl rfl rfl (Nat.zero_le _) (Nat.zero_le _) ?_
              refine c_X10_goTo ?_
              exact go_ret rfl rfl (am_qp q (by simp_all [am_tbr, zb, am_go, hp]))
          · refine go_s 3 rfl ?_
            refine go_if (fun c78 => ?_) (fun c78 => ?_)
            · refine go_s 5 rfl ?_
              refine go_if (fun c90 => ?_) (fun c90 => absurd (by decide) c90)
              refine go_s 2 rfl ?_
              refine go_if (fun c95 => absurd c95 (by decide)) (fun c95 => ?_)
              refine go_s 2 rfl ?_
              refine go_if (fun c100 => absurd c100 (by decide)) (fun c100 => ?_)
              refine go_s 1 rfl ?_
              refine go_st kX10_branch_106 okX8_selectorOf rfl rfl rfl (Nat.zero_le _) (Nat.zero_le _) ?_
              refine c_X8_selectorOf ?_
              refine go_s 2 rfl ?_
              refine go_v kX10_branch_111 okX10_valueIn rfl rfl rfl rfl (Nat.zero_le _) (Nat.zero_le _) ?_
              refine c_X10_valueIn ?_
              refine go_s 2 rfl ?_
              refine go_v kX10_branch_117 okX10_valueIn rfl rfl rfl rfl (Nat.zero_le _) (Nat.zero_le _) ?_
              refine c_X10_valueIn ?_
              refine go_st kX10_branch_120 okX8_branches rfl rfl rfl (Nat.zero_le _) (Nat.zero_le _) ?_
              refine c_X8_branches ?_
              refine go_s 1 rfl ?_
              refine go_if (fun c123 => ?_) (fun c123 => ?_)
              · refine go_s 1 rfl ?_
                refine go_v kX10_branch_144 okX10_goOn rfl rfl rfl rfl (Nat.zero_le _) (Nat.zero_le _) ?_
                refine c_X10_goOn ?_
                exact go_ret rfl rfl (am_qp q (by simp_all [am_tbr, zb, am_go, hp]))
              · refine go_s 6 rfl ?_
                refine go_v kX10_branch_136 okX5_cAt rfl rfl rfl rfl (Nat.zero_le _) (Nat.zero_le _) ?_
                refine c_X5_cAt hS ?_
                refine go_v kX10_branch_139 okX10_goTo rfl rfl rfl rfl (Nat.zero_le _) (Nat.zero_le _) ?_
                refine c_X10_goTo ?_
                exact go_ret rfl rfl (am_qp q (by simp_all [am_tbr, zb, am_go, hp]))
            · refine go_s 4 rfl ?_
              refine go_if (fun c90 => ?_) (fun c90 => absurd (by decide) c90)
              refine go_s 2 rfl ?_
              refine go_if (fun c95 => absurd c95 (by decide)) (fun c95 => ?_)
              refine go_s 2 rfl ?_
              refine go_if (fun c100 => ?_) (fun c100 => absurd (by decide) c100)
              refine go_s 1 rfl ?_
              exact go_ret rfl rfl (am_qp q (by simp_all [am_tbr, zb, am_go, hp]))
        · refine go_s 5 rfl ?_
          refine go_if (fun c72 => ?_) (fun c72 => ?_)
          · refine go_s 5 rfl ?_
            refine go_if (fun c90 => ?_) (fun c90 => absurd (by decide) c90)
            refine go_s 2 rfl ?_
            refine go_if (fun c95 => ?_) (fun c95 => absurd (by decide) c95)
            refine go_s 1 rfl ?_
            exact go_ret rfl rfl (am_qp q (by simp_all [am_tbr, zb, am_go, hp]))
          · refine go_s 3 rfl ?_
            refine go_if (fun c78 => ?_) (fun c78 => ?_)
            · refine go_s 5 rfl ?_
              refine go_if (fun c90 => ?_) (fun c90 => absurd (by decide) c90)
              refine go_s 2 rfl ?_
              refine go_if (fun c95 => ?_) (fun c95 => absurd (by decide) c95)
              refine go_s 1 rfl ?_
              exact go_ret rfl rfl (am_qp q (by simp_all [am_tbr, zb, am_go, hp]))
            · refine go_s 4 rfl ?_
              refine go_if (fun c90 => ?_) (fun c90 => absurd (by decide) c90)
              refine go_s 2 rfl ?_
              refine go_if (fun c95 => ?_) (fun c95 => absurd (by decide) c95)
              refine go_s 1 rfl ?_
              exact go_ret rfl rfl (am_qp q (by simp_all [am_tbr, zb, am_go, hp]))
      · refine go_s 5 rfl ?_
        refine go_if (fun c72 => ?_) (fun c72 => ?_)
        · refine go_s 5 rfl ?_
          refine go_if (fun c90 => ?_) (fun c90 => absurd (by decide) c90)
          refine go_s 2 rfl ?_
          refine go_if (fun c95 => ?_) (fun c95 => absurd (by decide) c95)
          refine go_s 1 rfl ?_
          exact go_ret rfl rfl (am_qp q (by simp_all [am_tbr, zb, am_go, hp]))
        · refine go_s 3 rfl ?_
          refine go_if (fun c78 => ?_) (fun c78 => ?_)
          · refine go_s 5 rfl ?_
            refine go_if (fun c90 => ?_) (fun c90 => absurd (by decide) c90)
            refine go_s 2 rfl ?_
            refine go_if (fun c95 => ?_) (fun c95 => absurd (by decide) c95)
            refine go_s 1 rfl ?_
            exact go_ret rfl rfl (am_qp q (by simp_all [am_tbr, zb, am_go, hp]))
          · refine go_s 4 rfl ?_
            refine go_if (fun c90 => ?_) (fun c90 => absurd (by decide) c90)
            refine go_s 2 rfl ?_
            refine go_if (fun c95 => ?_) (fun c95 => absurd (by decide) c95)
            refine go_s 1 rfl ?_
            exact go_ret rfl rfl (am_qp q (by simp_all [am_tbr, zb, am_go, hp]))
    · refine go_s 5 rfl ?_
      refine go_v kX10_branch_45 okX10_sortIn rfl rfl rfl rfl (Nat.zero_le _) (Nat.zero_le _) ?_
      refine c_X10_sortIn ?_
      refine go_s 2 rfl ?_
      refine go_if (fun c49 => ?_) (fun c49 => ?_)
      · refine go_s 2 rfl ?_
        refine go_v kX10_branch_55 okX10_sortIn rfl rfl rfl rfl (Nat.zero_le _) (Nat.zero_le _) ?_
        refine c_X10_sortIn ?_
        refine go_s 2 rfl ?_
        refine go_if (fun c59 => ?_) (fun c59 => ?_)
        · refine go_s 6 rfl ?_
          refine go_if (fun c72 => ?_) (fun c72 => ?_)
          · refine go_s 5 rfl ?_
            refine go_if (fun c90 => absurd c90 (by decide)) (fun c90 => ?_)
            refine go_s 1 rfl ?_
            refine go_st kX10_branch_106 okX8_selectorOf rfl rfl rfl (Nat.zero_le _) (Nat.zero_le _) ?_
            refine c_X8_selectorOf ?_
            refine go_s 2 rfl ?_
            refine go_v kX10_branch_111 okX10_valueIn rfl rfl rfl rfl (Nat.zero_le _) (Nat.zero_le _) ?_
            refine c_X10_valueIn ?_
            refine go_s 2 rfl ?_
            refine go_v kX10_branch_117 okX10_valueIn rfl rfl rfl rfl (Nat.zero_le _) (Nat.zero_le _) ?_
            refine c_X10_valueIn ?_
            refine go_st kX10_branch_120 okX8_branches rfl rfl rfl (Nat.zero_le _) (Nat.zero_le _) ?_
            refine c_X8_branches ?_
            refine go_s 1 rfl ?_
            refine go_if (fun c123 => ?_) (fun c123 => ?_)
            · refine go_s 1 rfl ?_
              refine go_v kX10_branch_144 okX10_goOn rfl rfl rfl rfl (Nat.zero_le _) (Nat.zero_le _) ?_
              refine c_X10_goOn ?_
              exact go_ret rfl rfl (am_qp q (by simp_all [am_tbr, zb, am_go, hp]))
            · refine go_s 6 rfl ?_
              refine go_v kX10_branch_136 okX5_cAt rfl rfl rfl rfl (Nat.zero_le _) (Nat.zero_le _) ?_
              refine c_X5_cAt hS ?_
              refine go_v kX10_branch_139 okX10_goTo rfl rfl rfl rfl (Nat.zero_le _) (Nat.zero_le _) ?_
              refine c_X10_goTo ?_
              exact go_ret rfl rfl (am_qp q (by simp_all [am_tbr, zb, am_go, hp]))
          · refine go_s 3 rfl ?_
            refine go_if (fun c78 => ?_) (fun c78 => ?_)
            · refine go_s 5 rfl ?_
              refine go_if (fun c90 => absurd c90 (by decide)) (fun c90 => ?_)
              refine go_s 1 rfl ?_
              refine go_st kX10_branch_106 okX8_selectorOf rfl rfl rfl (Nat.zero_le _) (Nat.zero_le _) ?_
              refine c_X8_selectorOf ?_
              refine go_s 2 rfl ?_
              refine go_v kX10_branch_111 okX10_valueIn rfl rfl rfl rfl (Nat.zero_le _) (Nat.zero_le _) ?_
              refine c_X10_valueIn ?_
              refine go_s 2 rfl ?_
              refine go_v kX10_branch_117 okX10_valueIn rfl rfl rfl rfl (Nat.zero_le _) (Nat.zero_le _) ?_
              refine c_X10_valueIn ?_
              refine go_st kX10_branch_120 okX8_branches rfl rfl rfl (Nat.zero_le _) (Nat.zero_le _) ?_
              refine c_X8_branches ?_
              refine go_s 1 rfl ?_
              refine go_if (fun c123 => ?_) (fun c123 => ?_)
              · refine go_s 1 rfl ?_
                refine go_v kX10_branch_144 okX10_goOn rfl rfl rfl rfl (Nat.zero_le _) (Nat.zero_le _) ?_
                refine c_X10_goOn ?_
                exact go_ret rfl rfl (am_qp q (by simp_all [am_tbr, zb, am_go, hp]))
              · refine go_s 6 rfl ?_
                refine go_v kX10_branch_136 okX5_cAt rfl rfl rfl rfl (Nat.zero_le _) (Nat.zero_le _) ?_
                refine c_X5_cAt hS ?_
                refine go_v kX10_branch_139 okX10_goTo rfl rfl rfl rfl (Nat.zero_le _) (Nat.zero_le _) ?_
                refine c_X10_goTo ?_
                exact go_ret rfl rfl (am_qp q (by simp_all [am_tbr, zb, am_go, hp]))
            · refine go_s 4 rfl ?_
              refine go_if (fun c90 => absurd c90 (by decide)) (fun c90 => ?_)
              refine go_s 1 rfl ?_
              refine go_st kX10_branch_106 okX8_selectorOf rfl rfl rfl (Nat.zero_le _) (Nat.zero_le _) ?_
              refine c_X8_selectorOf ?_
              refine go_s 2 rfl ?_
              refine go_v kX10_branch_111 okX10_valueIn rfl rfl rfl rfl (Nat.zero_le _) (Nat.zero_le _) ?_
              refine c_X10_valueIn ?_
              refine go_s 2 rfl ?_
              refine go_v kX10_branch_117 okX10_valueIn rfl rfl rfl rfl (Nat.zero_le _) (Nat.zero_le _) ?_
              refine c_X10_valueIn ?_
              refine go_st kX10_branch_120 okX8_branches rfl rfl rfl (Nat.zero_le _) (Nat.zero_le _) ?_
              refine c_X8_branches ?_
              refine go_s 1 rfl ?_
              refine go_if (fun c123 => ?_) (fun c123 => ?_)
              · refine go_s 1 rfl ?_
                refine go_v kX10_branch_144 okX10_goOn rfl rfl rfl rfl (Nat.zero_le _) (Nat.zero_le _) ?_
                refine c_X10_goOn ?_
                exact go_ret rfl rfl (am_qp q (by simp_all [am_tbr, zb, am_go, hp]))
              · refine go_s 6 rfl ?_
                refine go_v kX10_branch_136 okX5_cAt rfl rfl rfl rfl (Nat.zero_le _) (Nat.zero_le _) ?_
                refine c_X5_cAt hS ?_
                refine go_v kX10_branch_139 okX10_goTo rfl rfl rfl rfl (Nat.zero_le _) (Nat.zero_le _) ?_
                refine c_X10_goTo ?_
                exact go_ret rfl rfl (am_qp q (by simp_all [am_tbr, zb, am_go, hp]))
        · refine go_s 5 rfl ?_
          refine go_if (fun c72 => ?_) (fun c72 => ?_)
          · refine go_s 5 rfl ?_
            refine go_if (fun c90 => absurd c90 (by decide)) (fun c90 => ?_)
            refine go_s 1 rfl ?_
            refine go_st kX10_branch_106 okX8_selectorOf rfl rfl rfl (Nat.zero_le _) (Nat.zero_le _) ?_
            refine c_X8_selectorOf ?_
            refine go_s 2 rfl ?_
            refine go_v kX10_branch_111 okX10_valueIn rfl rfl rfl rfl (Nat.zero_le _) (Nat.zero_le _) ?_
            refine c_X10_valueIn ?_
            refine go_s 2 rfl ?_
            refine go_v kX10_branch_117 okX10_valueIn rfl rfl rfl rfl (Nat.zero_le _) (Nat.zero_le _) ?_
            refine c_X10_valueIn ?_
            refine go_st kX10_branch_120 okX8_branches rfl rfl rfl (Nat.zero_le _) (Nat.zero_le _) ?_
            refine c_X8_branches ?_
            refine go_s 1 rfl ?_
            refine go_if (fun c123 => ?_) (fun c123 => ?_)
            · refine go_s 1 rfl ?_
              refine go_v kX10_branch_144 okX10_goOn rfl rfl rfl rfl (Nat.zero_le _) (Nat.zero_le _) ?_
              refine c_X10_goOn ?_
              exact go_ret rfl rfl (am_qp q (by simp_all [am_tbr, zb, am_go, hp]))
            · refine go_s 6 rfl ?_
              refine go_v kX10_branch_136 okX5_cAt rfl rfl rfl rfl (Nat.zero_le _) (Nat.zero_le _) ?_
              refine c_X5_cAt hS ?_
              refine go_v kX10_branch_139 okX10_goTo rfl rfl rfl rfl (Nat.zero_le _) (Nat.zero_le _) ?_
              refine c_X10_goTo ?_
              exact go_ret rfl rfl (am_qp q (by simp_all [am_tbr, zb, am_go, hp]))
          · refine go_s 3 rfl ?_
            refine go_if (fun c78 => ?_) (fun c78 => ?_)
            · refine go_s 5 rfl ?_
              refine go_if (fun c90 => absurd c90 (by decide)) (fun c90 => ?_)
              refine go_s 1 rfl ?_
              refine go_st kX10_branch_106 okX8_selectorOf rfl rfl rfl (Nat.zero_le _) (Nat.zero_le _) ?_
              refine c_X8_selectorOf ?_
              refine go_s 2 rfl ?_
              refine go_v kX10_branch_111 okX10_valueIn rfl rfl rfl rfl (Nat.zero_le _) (Nat.zero_le _) ?_
              refine c_X10_valueIn ?_
              refine go_s 2 rfl ?_
              refine go_v kX10_branch_117 okX10_valueIn rfl rfl rfl rfl (Nat.zero_le _) (Nat.zero_le _) ?_
              refine c_X10_valueIn ?_
              refine go_st kX10_branch_120 okX8_branches rfl rfl rfl (Nat.zero_le _) (Nat.zero_le _) ?_
              refine c_X8_branches ?_
              refine go_s 1 rfl ?_
              refine go_if (fun c123 => ?_) (fun c123 => ?_)
              · refine go_s 1 rfl ?_
                refine go_v kX10_branch_144 okX10_goOn rfl rfl rfl rfl (Nat.zero_le _) (Nat.zero_le _) ?_
                refine c_X10_goOn ?_
                exact go_ret rfl rfl (am_qp q (by simp_all [am_tbr, zb, am_go, hp]))
              · refine go_s 6 rfl ?_
                refine go_v kX10_branch_136 okX5_cAt rfl rfl rfl rfl (Nat.zero_le _) (Nat.zero_le _) ?_
                refine c_X5_cAt hS ?_
                refine go_v kX10_branch_139 okX10_goTo rfl rfl rfl rfl (Nat.zero_le _) (Nat.zero_le _) ?_
                refine c_X10_goTo ?_
                exact go_ret rfl rfl (am_qp q (by simp_all [am_tbr, zb, am_go, hp]))
            · refine go_s 4 rfl ?_
              refine go_if (fun c90 => absurd c90 (by decide)) (fun c90 => ?_)
              refine go_s 1 rfl ?_
              refine go_st kX10_branch_106 okX8_selectorOf rfl rfl rfl (Nat.zero_le _) (Nat.zero_le _) ?_
              refine c_X8_selectorOf ?_
              refine go_s 2 rfl ?_
              refine go_v kX10_branch_111 okX10_valueIn rfl rfl rfl rfl (Nat.zero_le _) (Nat.zero_le _) ?_
              refine c_X10_valueIn ?_
              refine go_s 2 rfl ?_
              refine go_v kX10_branch_117 okX10_valueIn rfl rfl rfl rfl (Nat.zero_le _) (Nat.zero_le _) ?_
              refine c_X10_valueIn ?_
              refine go_st kX10_branch_120 okX8_branches rfl rfl rfl (Nat.zero_le _) (Nat.zero_le _) ?_
              refine c_X8_branches ?_
              refine go_s 1 rfl ?_
              refine go_if (fun c123 => ?_) (fun c123 => ?_)
              · refine go_s 1 rfl ?_
                refine go_v kX10_branch_144 okX10_goOn rfl rfl rfl rfl (Nat.zero_le _) (Nat.zero_le _) ?_
                refine c_X10_goOn ?_
                exact go_ret rfl rfl (am_qp q (by simp_all [am_tbr, zb, am_go, hp]))
              · refine go_s 6 rfl ?_
                refine go_v kX10_branch_136 okX5_cAt rfl rfl rfl rfl (Nat.zero_le _) (Nat.zero_le _) ?_
                refine c_X5_cAt hS ?_
                refine go_v kX10_branch_139 okX10_goTo rfl rfl rfl rfl (Nat.zero_le _) (Nat.zero_le _) ?_
                refine c_X10_goTo ?_
                exact go_ret rfl rfl (am_qp q (by simp_all [am_tbr, zb, am_go, hp]))
      · refine go_s 5 rfl ?_
        refine go_if (fun c72 => ?_) (fun c72 => ?_)
        · refine go_s 5 rfl ?_
          refine go_if (fun c90 => absurd c90 (by decide)) (fun c90 => ?_)
          refine go_s 1 rfl ?_
          refine go_st kX10_branch_106 okX8_selectorOf rfl rfl rfl (Nat.zero_le _) (Nat.zero_le _) ?_
          refine c_X8_selectorOf ?_
          refine go_s 2 rfl ?_
          refine go_v kX10_branch_111 okX10_valueIn rfl rfl rfl rfl (Nat.zero_le _) (Nat.zero_le _) ?_
          refine c_X10_valueIn ?_
          refine go_s 2 rfl ?_
          refine go_v kX10_branch_117 okX10_valueIn rfl rfl rfl rfl (Nat.zero_le _) (Nat.zero_le _) ?_
          refine c_X10_valueIn ?_
          refine go_st kX10_branch_120 okX8_branches rfl rfl rfl (Nat.zero_le _) (Nat.zero_le _) ?_
          refine c_X8_branches ?_
          refine go_s 1 rfl ?_
          refine go_if (fun c123 => ?_) (fun c123 => ?_)
          · refine go_s 1 rfl ?_
            refine go_v kX10_branch_144 okX10_goOn rfl rfl rfl rfl (Nat.zero_le _) (Nat.zero_le _) ?_
            refine c_X10_goOn ?_
            exact go_ret rfl rfl (am_qp q (by simp_all [am_tbr, zb, am_go, hp]))
          · refine go_s 6 rfl ?_
            refine go_v kX10_branch_136 okX5_cAt rfl rfl rfl rfl (Nat.zero_le _) (Nat.zero_le _) ?_
            refine c_X5_cAt hS ?_
            refine go_v kX10_branch_139 okX10_goTo rfl rfl rfl rfl (Nat.zero_le _) (Nat.zero_le _) ?_
            refine c_X10_goTo ?_
            exact go_ret rfl rfl (am_qp q (by simp_all [am_tbr, zb, am_go, hp]))
        · refine go_s 3 rfl ?_
          refine go_if (fun c78 => ?_) (fun c78 => ?_)
          · refine go_s 5 rfl ?_
            refine go_if (fun c90 => absurd c90 (by decide)) (fun c90 => ?_)
            refine go_s 1 rfl ?_
            refine go_st kX10_branch_106 okX8_selectorOf rfl rfl rfl (Nat.zero_le _) (Nat.zero_le _) ?_
            refine c_X8_selectorOf ?_
            refine go_s 2 rfl ?_
            refine go_v kX10_branch_111 okX10_valueIn rfl rfl rfl rfl (Nat.zero_le _) (Nat.zero_le _) ?_
            refine c_X10_valueIn ?_
            refine go_s 2 rfl ?_
            refine go_v kX10_branch_117 okX10_valueIn rfl rfl rfl rfl (Nat.zero_le _) (Nat.zero_le _) ?_
            refine c_X10_valueIn ?_
            refine go_st kX10_branch_120 okX8_branches rfl rfl rfl (Nat.zero_le _) (Nat.zero_le _) ?_
            refine c_X8_branches ?_
            refine go_s 1 rfl ?_
            refine go_if (fun c123 => ?_) (fun c123 => ?_)
            · refine go_s 1 rfl ?_
              refine go_v kX10_branch_144 okX10_goOn rfl rfl rfl rfl (Nat.zero_le _) (Nat.zero_le _) ?_
              refine c_X10_goOn ?_
              exact go_ret rfl rfl (am_qp q (by simp_all [am_tbr, zb, am_go, hp]))
            · refine go_s 6 rfl ?_
              refine go_v kX10_branch_136 okX5_cAt rfl rfl rfl rfl (Nat.zero_le _) (Nat.zero_le _) ?_
              refine c_X5_cAt hS ?_
              refine go_v kX10_branch_139 okX10_goTo rfl rfl rfl rfl (Nat.zero_le _) (Nat.zero_le _) ?_
              refine c_X10_goTo ?_
              exact go_ret rfl rfl (am_qp q (by simp_all [am_tbr, zb, am_go, hp]))
          · refine go_s 4 rfl ?_
            refine go_if (fun c90 => absurd c90 (by decide)) (fun c90 => ?_)
            refine go_s 1 rfl ?_
            refine go_st kX10_branch_106 okX8_selectorOf rfl rfl rfl (Nat.zero_le _) (Nat.zero_le _) ?_
            refine c_X8_selectorOf ?_
            refine go_s 2 rfl ?_
            refine go_v kX10_branch_111 okX10_valueIn rfl rfl rfl rfl (Nat.zero_le _) (Nat.zero_le _) ?_
            refine c_X10_valueIn ?_
            refine go_s 2 rfl ?_
            refine go_v kX10_branch_117 okX10_valueIn rfl rfl rfl rfl (Nat.zero_le _) (Nat.zero_le _) ?_
            refine c_X10_valueIn ?_
            refine go_st kX10_branch_120 okX8_branches rfl rfl rfl (Nat.zero_le _) (Nat.zero_le _) ?_
            refine c_X8_branches ?_
            refine go_s 1 rfl ?_
            refine go_if (fun c123 => ?_) (fun c123 => ?_)
            · refine go_s 1 rfl ?_
              refine go_v kX10_branch_144 okX10_goOn rfl rfl rfl rfl (Nat.zero_le _) (Nat.zero_le _) ?_
              refine c_X10_goOn ?_
              exact go_ret rfl rfl (am_qp q (by simp_all [am_tbr, zb, am_go, hp]))
            · refine go_s 6 rfl ?_
              refine go_v kX10_branch_136 okX5_cAt rfl rfl rfl rfl (Nat.zero_le _) (Nat.zero_le _) ?_
              refine c_X5_cAt hS ?_
              refine go_v kX10_branch_139 okX10_goTo rfl rfl rfl rfl (Nat.zero_le _) (Nat.zero_le _) ?_
              refine c_X10_goTo ?_
              exact go_ret rfl rfl (am_qp q (by simp_all [am_tbr, zb, am_go, hp]))
