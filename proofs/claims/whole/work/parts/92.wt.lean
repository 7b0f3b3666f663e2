def am_jw (a b : Int32) : Int32 := ((b >>> (20 : Int32) &&& (1 : Int32)) <<< (31 : Int32) ||| (b >>> (1 : Int32) &&& (1023 : Int32)) <<< (21 : Int32)) ||| ((b >>> (11 : Int32) &&& (1 : Int32)) <<< (20 : Int32) ||| (b >>> (12 : Int32) &&& (255 : Int32)) <<< (12 : Int32)) ||| a <<< (7 : Int32) ||| (111 : Int32)
def am_bw (n a b o : Int32) : Int32 := ((o >>> (12 : Int32) &&& (1 : Int32)) <<< (31 : Int32) ||| (o >>> (5 : Int32) &&& (63 : Int32)) <<< (25 : Int32)) ||| b <<< (20 : Int32) ||| a <<< (15 : Int32) ||| am_sel n <<< (12 : Int32) ||| ((o >>> (1 : Int32) &&& (15 : Int32)) <<< (8 : Int32) ||| (o >>> (11 : Int32) &&& (1 : Int32)) <<< (7 : Int32)) ||| (99 : Int32)
def am_rw (n a b c : Int32) : Int32 := (if am_othz n = 0 then 0 else 1073741824) ||| c <<< (20 : Int32) ||| b <<< (15 : Int32) ||| am_sel n <<< (12 : Int32) ||| a <<< (7 : Int32) ||| (51 : Int32)
def am_iw (n a b c : Int32) : Int32 := (if am_othz n = 0 then 0 else 1073741824) ||| c <<< (20 : Int32) ||| b <<< (15 : Int32) ||| am_sel n <<< (12 : Int32) ||| a <<< (7 : Int32) ||| (19 : Int32)
def am_uw (a b : Int32) : Int32 := b <<< (12 : Int32) ||| a <<< (7 : Int32) ||| (55 : Int32)
def am_lw (a b c : Int32) : Int32 := c <<< (20 : Int32) ||| b <<< (15 : Int32) ||| (8192 : Int32) ||| a <<< (7 : Int32) ||| (3 : Int32)
def am_sw (a b c : Int32) : Int32 := c >>> (5 : Int32) <<< (25 : Int32) ||| a <<< (20 : Int32) ||| b <<< (15 : Int32) ||| (8192 : Int32) ||| (c &&& (31 : Int32)) <<< (7 : Int32) ||| (35 : Int32)
def am_jr (a b : Int32) : Int32 := b <<< (15 : Int32) ||| a <<< (7 : Int32) ||| (103 : Int32)
def am_pw (n a b c : Int32) : Int32 := if n = 19 then am_uw a b else if n = 20 then am_lw a b c else if n = 21 then am_sw a b c else if n = 34 then 115 else if n < 10 then am_rw n a b c else am_iw n a b c
def am_alo (v : Int32) : Int32 := v <<< (20 : Int32) >>> (20 : Int32)
def am_aup (v : Int32) : Int32 := ((v - am_alo v).toUInt32 >>> (12 : UInt32)).toInt32
def am_wop (D : Nat → Nat → Int32) (f p : Int32) : Int32 := if am_spo D f p < 0 then 0 else if am_spo D f p < 300 then D 58 (am_spo D f p).toNatClampNeg else 0
def am_fwo (D : Nat → Nat → Int32) (b : Int32) : Int32 := if 0 ≤ b ∧ b < D 11 4 then D 14 b.toNatClampNeg else -1
def am_wa (D : Nat → Nat → Int32) (a v : Int32) : Nat → Nat → Int32 := am_app (am_app D (am_uw a (am_aup v))) (am_iw 10 a a (am_alo v))
def am_wis (D : Nat → Nat → Int32) (f s : Int32) : Nat → Nat → Int32 := if am_num D s = 28 then am_app D (am_jw 0 (4 * (am_wop D f (am_fa D s) - D 11 3))) else if am_num D s = 29 then am_app D (am_jw 1 (4 * (am_fwo D (am_bdy D (am_fa D s)) - D 11 3))) else if am_num D s = 30 then am_app D (am_jw 0 (4 * (am_fwo D (am_bdy D (am_fa D s)) - D 11 3))) else if am_num D s = 31 then am_app D (am_jr 0 1) else if am_num D s = 32 then am_wa D (am_fa D s) (am_adr D (am_bdy D (am_fb D s))) else if am_num D s = 33 then am_app D (am_jr 1 (am_fa D s)) else if zb (¬ am_num D s < 22 ∧ ¬ 27 < am_num D s) = 0 then am_app D (am_pw (am_num D s) (am_fa D s) (am_fb D s) (am_fc D s)) else am_app D (am_bw (am_num D s) (am_fa D s) (am_fb D s) (4 * (am_wop D f (am_fc D s) - D 11 3)))
theorem am_app_n {D : Nat → Nat → Int32} {w : Int32} {n : Nat} (h : D 11 3 = nI n) (hn : n < 600) : am_app D w = am_u (am_u D 12 n w) 11 3 (nI (n + 1)) := by
  unfold am_app
  rw [h, if_pos (show nI n < 600 from nI_lt (a := n) (b := 600) hn (by decide)), nI_clamp (by omega), nI_1]
theorem am_app_0 {D : Nat → Nat → Int32} {w : Int32} (h0 : ¬ D 11 3 < 0) : ¬ am_app D w 11 3 < 0 := by
  unfold am_app
  split
  · rename_i h
    rw [am_u_eq]
    have h1 := Int32.lt_iff_toInt_lt.mp h
    have h2 := Int32.le_iff_toInt_le.mp (Int32.not_lt.mp h0)
    have e6 : (600 : Int32).toInt = 600 := by decide
    have e0 : (0 : Int32).toInt = 0 := by decide
    rw [e6] at h1
    rw [e0] at h2
    rw [Int32.not_lt, Int32.le_iff_toInt_le, am_toInt1 (by omega), e0]
    omega
  · exact h0
theorem c_X3_writeJump {D : Nat → Nat → Int32} {e : am_E} {kc ks : Nat} {Q : am_Q} {a g : Int32} (h0 : ¬ D 11 3 < 0) (q : Q none (hp (am_app D (am_jw a (4 * (g - D 11 3)))) e)) : am_Go (mX3_writeJump, 0, am_ent mX3_writeJump [.ref 57, .int a, .int g], [], hp D e, kc, ks, Q) := by
  refine go_s 7 rfl ?_
  refine go_v kX3_writeJump_11 okX1_size rfl rfl rfl rfl (Nat.zero_le _) (Nat.zero_le _) ?_
  refine c_X1_size ?_
  refine go_s 2 rfl ?_
  refine go_st kX3_writeJump_16 okX8_jumpWord rfl rfl rfl (Nat.zero_le _) (Nat.zero_le _) ?_
  refine c_X8_jumpWord ?_
  refine go_v kX3_writeJump_19 okX1_append rfl rfl rfl rfl (Nat.zero_le _) (Nat.zero_le _) ?_
  refine c_X1_append h0 ?_
  exact go_retv rfl rfl (am_qv q (by rfl))
theorem c_X3_writePlain {D : Nat → Nat → Int32} {e : am_E} {kc ks : Nat} {Q : am_Q} {s : Int32} (h0 : ¬ D 11 3 < 0) (hS : (D 1 6).toInt ≤ 300) (q : Q none (hp (am_app D (am_pw (am_num D s) (am_fa D s) (am_fb D s) (am_fc D s))) e)) : am_Go (mX3_writePlain, 0, am_ent mX3_writePlain [.ref 57, .int s], [], hp D e, kc, ks, Q) := by
  refine go_s 3 rfl ?_
  refine go_v kX3_writePlain_5 okX5_numberAt rfl rfl rfl rfl (Nat.zero_le _) (Nat.zero_le _) ?_
  refine c_X5_numberAt hS ?_
  refine go_s 4 rfl ?_
  refine go_v kX3_writePlain_14 okX5_aAt rfl rfl rfl rfl (Nat.zero_le _) (Nat.zero_le _) ?_
  refine c_X5_aAt hS ?_
  refine go_s 4 rfl ?_
  refine go_v kX3_writePlain_23 okX5_bAt rfl rfl rfl rfl (Nat.zero_le _) (Nat.zero_le _) ?_
  refine c_X5_bAt hS ?_
  refine go_s 4 rfl ?_
  refine go_v kX3_writePlain_33 okX5_cAt rfl rfl rfl rfl (Nat.zero_le _) (Nat.zero_le _) ?_
  refine c_X5_cAt hS ?_
  refine go_s 3 rfl ?_
  refine go_if (fun c39_0 => ?_) (fun c39_0 => ?_)
  · refine go_s 4 rfl ?_
    refine go_st kX3_writePlain_87 okX8_upperWord rfl rfl rfl (Nat.zero_le _) (Nat.zero_le _) ?_
    refine c_X8_upperWord ?_
    refine go_v kX3_writePlain_90 okX1_append rfl rfl rfl rfl (Nat.zero_le _) (Nat.zero_le _) ?_
    refine c_X1_append h0 ?_
    refine go_s 1 rfl ?_
    exact go_retv rfl rfl (am_qv q (am_hD (congrArg (am_app D) (Eq.symm (if_pos c39_0)))))
  · refine go_if (fun c39_1 => ?_) (fun c39_1 => ?_)
    · refine go_s 5 rfl ?_
      refine go_st kX3_writePlain_105 okX8_loadWord rfl rfl rfl (Nat.zero_le _) (Nat.zero_le _) ?_
      refine c_X8_loadWord ?_
      refine go_v kX3_writePlain_108 okX1_append rfl rfl rfl rfl (Nat.zero_le _) (Nat.zero_le _) ?_
      refine c_X1_append h0 ?_
      refine go_s 1 rfl ?_
      exact go_retv rfl rfl (am_qv q (am_hD (congrArg (am_app D) (Eq.symm ((if_neg c39_0).trans (if_pos c39_1))))))
    · refine go_if (fun c39_2 => ?_) (fun c39_2 => ?_)
      · refine go_s 5 rfl ?_
        refine go_st kX3_writePlain_123 okX8_storeWord rfl rfl rfl (Nat.zero_le _) (Nat.zero_le _) ?_
        refine c_X8_storeWord ?_
        refine go_v kX3_writePlain_126 okX1_append rfl rfl rfl rfl (Nat.zero_le _) (Nat.zero_le _) ?_
        refine c_X1_append h0 ?_
        refine go_s 1 rfl ?_
        exact go_retv rfl rfl (am_qv q (am_hD (congrArg (am_app D) (Eq.symm ((if_neg c39_0).trans ((if_neg c39_1).trans (if_pos c39_2)))))))
      · refine go_if (fun c39_3 => ?_) (fun c39_3 => ?_)
        · refine go_s 3 rfl ?_
          refine go_v kX3_writePlain_138 okX1_append rfl rfl rfl rfl (Nat.zero_le _) (Nat.zero_le _) ?_
          refine c_X1_append h0 ?_
          refine go_s 1 rfl ?_
          exact go_retv rfl rfl (am_qv q (am_hD (congrArg (am_app D) (Eq.symm ((if_neg c39_0).trans ((if_neg c39_1).trans ((if_neg c39_2).trans (if_pos c39_3))))))))
        · refine go_s 5 rfl ?_
          refine go_if (fun c151 => ?_) (fun c151 => ?_)
          · refine go_s 4 rfl ?_
            refine go_st kX3_writePlain_160 okX8_registersWord rfl rfl rfl (Nat.zero_le _) (Nat.zero_le _) ?_
            refine c_X8_registersWord ?_
            refine go_s 1 rfl ?_
            refine go_v kX3_writePlain_175 okX1_append rfl rfl rfl rfl (Nat.zero_le _) (Nat.zero_le _) ?_
            refine c_X1_append h0 ?_
            exact go_retv rfl rfl (am_qv q (am_hD (congrArg (am_app D) (Eq.symm ((if_neg c39_0).trans ((if_neg c39_1).trans ((if_neg c39_2).trans ((if_neg c39_3).trans (if_pos c151)))))))))
          · refine go_s 4 rfl ?_
            refine go_st kX3_writePlain_172 okX8_immediateWord rfl rfl rfl (Nat.zero_le _) (Nat.zero_le _) ?_
            refine c_X8_immediateWord ?_
            refine go_v kX3_writePlain_175 okX1_append rfl rfl rfl rfl (Nat.zero_le _) (Nat.zero_le _) ?_
            refine c_X1_append h0 ?_
            exact go_retv rfl rfl (am_qv q (am_hD (congrArg (am_app D) (Eq.symm ((if_neg c39_0).trans ((if_neg c39_1).trans ((if_neg c39_2).trans ((if_neg c39_3).trans (if_neg c151)))))))))
theorem c_X3_wordOfPlace {D : Nat → Nat → Int32} {e : am_E} {kc ks : Nat} {Q : am_Q} {f p : Int32} (hF : (D 1 5).toInt ≤ 24) (q : Q (some (.int (am_wop D f p))) (hp D e)) : am_Go (mX3_wordOfPlace, 0, am_ent mX3_wordOfPlace [.ref 57, .int f, .int p], [], hp D e, kc, ks, Q) := by
  refine go_s 4 rfl ?_
  refine go_v kX3_wordOfPlace_6 okX5_spotOf rfl rfl rfl rfl (Nat.zero_le _) (Nat.zero_le _) ?_
  refine c_X5_spotOf hF ?_
  refine go_s 3 rfl ?_
  refine go_if (fun c11 => ?_) (fun c11 => ?_)
  · refine go_s 1 rfl ?_
    exact go_ret rfl rfl (am_qi q (by exact (if_pos c11).symm) (by rfl))
  · refine go_s 5 rfl ?_
    refine go_if (fun c20 => ?_) (fun c20 => ?_)
    · refine go_s 3 rfl ?_
      refine go_m rfl rfl (show vp_in _ 300 from vpn c11 c20 (by decide)) ?_
      refine go_s 1 rfl ?_
      exact go_ret rfl rfl (am_qi q (by exact ((if_neg c11).trans (if_pos c20)).symm) (by rfl))
    · refine go_s 1 rfl ?_
      exact go_ret rfl rfl (am_qi q (by exact ((if_neg c11).trans (if_neg c20)).symm) (by rfl))
theorem c_X3_writeBranch {D : Nat → Nat → Int32} {e : am_E} {kc ks : Nat} {Q : am_Q} {f s : Int32} (h0 : ¬ D 11 3 < 0) (hF : (D 1 5).toInt ≤ 24) (hS : (D 1 6).toInt ≤ 300) (q : Q none (hp (am_app D (am_bw (am_num D s) (am_fa D s) (am_fb D s) (4 * (am_wop D f (am_fc D s) - D 11 3)))) e)) : am_Go (mX3_writeBranch, 0, am_ent mX3_writeBranch [.ref 57, .int f, .int s], [], hp D e, kc, ks, Q) := by
  refine go_s 6 rfl ?_
  refine go_v kX3_writeBranch_8 okX5_cAt rfl rfl rfl rfl (Nat.zero_le _) (Nat.zero_le _) ?_
  refine c_X5_cAt hS ?_
  refine go_v kX3_writeBranch_11 okX3_wordOfPlace rfl rfl rfl rfl (Nat.zero_le _) (Nat.zero_le _) ?_
  refine c_X3_wordOfPlace hF ?_
  refine go_s 2 rfl ?_
  refine go_v kX3_writeBranch_18 okX1_size rfl rfl rfl rfl (Nat.zero_le _) (Nat.zero_le _) ?_
  refine c_X1_size ?_
  refine go_s 6 rfl ?_
  refine go_v kX3_writeBranch_29 okX5_numberAt rfl rfl rfl rfl (Nat.zero_le _) (Nat.zero_le _) ?_
  refine c_X5_numberAt hS ?_
  refine go_s 7 rfl ?_
  refine go_v kX3_writeBranch_45 okX5_aAt rfl rfl rfl rfl (Nat.zero_le _) (Nat.zero_le _) ?_
  refine c_X5_aAt hS ?_
  refine go_s 3 rfl ?_
  refine go_v kX3_writeBranch_53 okX5_bAt rfl rfl rfl rfl (Nat.zero_le _) (Nat.zero_le _) ?_
  refine c_X5_bAt hS ?_
  refine go_s 1 rfl ?_
  refine go_st kX3_writeBranch_57 okX8_branchWord rfl rfl rfl (Nat.zero_le _) (Nat.zero_le _) ?_
  refine c_X8_branchWord ?_
  refine go_v kX3_writeBranch_60 okX1_append rfl rfl rfl rfl (Nat.zero_le _) (Nat.zero_le _) ?_
  refine c_X1_append h0 ?_
  exact go_retv rfl rfl (am_qv q (by rfl))
theorem c_X3_writeAddress {D : Nat → Nat → Int32} {e : am_E} {kc ks : Nat} {Q : am_Q} {a v : Int32} (h0 : ¬ D 11 3 < 0) (q : Q none (hp (am_wa D a v) e)) : am_Go (mX3_writeAddress, 0, am_ent mX3_writeAddress [.ref 57, .int a, .int v], [], hp D e, kc, ks, Q) := by
  refine go_s 16 rfl ?_
  refine go_st kX3_writeAddress_23 okX8_upperWord rfl rfl rfl (Nat.zero_le _) (Nat.zero_le _) ?_
  refine c_X8_upperWord ?_
  refine go_v kX3_writeAddress_26 okX1_append rfl rfl rfl rfl (Nat.zero_le _) (Nat.zero_le _) ?_
  refine c_X1_append h0 ?_
  refine go_s 6 rfl ?_
  refine go_st kX3_writeAddress_38 okX8_immediateWord rfl rfl rfl (Nat.zero_le _) (Nat.zero_le _) ?_
  refine c_X8_immediateWord ?_
  refine go_v kX3_writeAddress_41 okX1_append rfl rfl rfl rfl (Nat.zero_le _) (Nat.zero_le _) ?_
  refine c_X1_append (am_app_0 h0) ?_
  exact go_retv rfl rfl (am_qv q (by rfl))
theorem c_X3_writeInstruction {D : Nat → Nat → Int32} {e : am_E} {kc ks : Nat} {Q : am_Q} {f s : Int32} (h0 : ¬ D 11 3 < 0) (hF : (D 1 5).toInt ≤ 24) (hS : (D 1 6).toInt ≤ 300) (hI : (D 11 4).toInt ≤ 24) (q : Q none (hp (am_wis D f s) e)) : am_Go (mX3_writeInstruction, 0, am_ent mX3_writeInstruction [.ref 57, .int f, .int s], [], hp D e, kc, ks, Q) := by
  refine go_s 3 rfl ?_
  refine go_v kX3_writeInstruction_5 okX5_aAt rfl rfl rfl rfl (Nat.zero_le _) (Nat.zero_le _) ?_
  refine c_X5_aAt hS ?_
  refine go_s 4 rfl ?_
  refine go_v kX3_writeInstruction_14 okX5_numberAt rfl rfl rfl rfl (Nat.zero_le _) (Nat.zero_le _) ?_
  refine c_X5_numberAt hS ?_
  refine go_s 3 rfl ?_
  refine go_if (fun c21_0 => ?_) (fun c21_0 => ?_)
  · refine go_s 5 rfl ?_
    refine go_v kX3_writeInstruction_65 okX3_wordOfPlace rfl rfl rfl rfl (Nat.zero_le _) (Nat.zero_le _) ?_
    refine c_X3_wordOfPlace hF ?_
    refine go_v kX3_writeInstruction_68 okX3_writeJump rfl rfl rfl rfl (Nat.zero_le _) (Nat.zero_le _) ?_
    refine c_X3_writeJump h0 ?_
    refine go_s 1 rfl ?_
    exact go_retv rfl rfl (am_qv q (am_hD ((Eq.symm (if_pos c21_0)))))
  · refine go_if (fun c21_1 => ?_) (fun c21_1 => ?_)
    · refine go_s 7 rfl ?_
      refine go_v kX3_writeInstruction_85 okX1_bodyOf rfl rfl rfl rfl (Nat.zero_le _) (Nat.zero_le _) ?_
      refine c_X1_bodyOf hI ?_
      refine go_v kX3_writeInstruction_88 okX1_firstWordOf rfl rfl rfl rfl (Nat.zero_le _) (Nat.zero_le _) ?_
      refine c_X1_firstWordOf hI ?_
      refine go_v kX3_writeInstruction_91 okX3_writeJump rfl rfl rfl rfl (Nat.zero_le _) (Nat.zero_le _) ?_
      refine c_X3_writeJump h0 ?_
      refine go_s 1 rfl ?_
      exact go_retv rfl rfl (am_qv q (am_hD ((Eq.symm ((if_neg c21_0).trans (if_pos c21_1))))))
    · refine go_if (fun c21_2 => ?_) (fun c21_2 => ?_)
      · refine go_s 7 rfl ?_
        refine go_v kX3_writeInstruction_108 okX1_bodyOf rfl rfl rfl rfl (Nat.zero_le _) (Nat.zero_le _) ?_
        refine c_X1_bodyOf hI ?_
        refine go_v kX3_writeInstruction_111 okX1_firstWordOf rfl rfl rfl rfl (Nat.zero_le _) (Nat.zero_le _) ?_
        refine c_X1_firstWordOf hI ?_
        refine go_v kX3_writeInstruction_114 okX3_writeJump rfl rfl rfl rfl (Nat.zero_le _) (Nat.zero_le _) ?_
        refine c_X3_writeJump h0 ?_
        refine go_s 1 rfl ?_
        exact go_retv rfl rfl (am_qv q (am_hD ((Eq.symm ((if_neg c21_0).trans ((if_neg c21_1).trans (if_pos c21_2)))))))
      · refine go_if (fun c21_3 => ?_) (fun c21_3 => ?_)
        · refine go_s 4 rfl ?_
          refine go_st kX3_writeInstruction_126 okX8_jumpRegisterWord rfl rfl rfl (Nat.zero_le _) (Nat.zero_le _) ?_
          refine c_X8_jumpRegisterWord ?_
          refine go_v kX3_writeInstruction_129 okX1_append rfl rfl rfl rfl (Nat.zero_le _) (Nat.zero_le _) ?_
          refine c_X1_append h0 ?_
          refine go_s 1 rfl ?_
          exact go_retv rfl rfl (am_qv q (am_hD ((Eq.symm ((if_neg c21_0).trans ((if_neg c21_1).trans ((if_neg c21_2).trans (if_pos c21_3))))))))
        · refine go_if (fun c21_4 => ?_) (fun c21_4 => ?_)
          · refine go_s 9 rfl ?_
            refine go_v kX3_writeInstruction_150 okX5_bAt rfl rfl rfl rfl (Nat.zero_le _) (Nat.zero_le _) ?_
            refine c_X5_bAt hS ?_
            refine go_v kX3_writeInstruction_153 okX1_bodyOf rfl rfl rfl rfl (Nat.zero_le _) (Nat.zero_le _) ?_
            refine c_X1_bodyOf hI ?_
            refine go_v kX3_writeInstruction_156 okX1_addressOf rfl rfl rfl rfl (Nat.zero_le _) (Nat.zero_le _) ?_
            refine c_X1_addressOf hI ?_
            refine go_v kX3_writeInstruction_159 okX3_writeAddress rfl rfl rfl rfl (Nat.zero_le _) (Nat.zero_le _) ?_
            refine c_X3_writeAddress h0 ?_
            refine go_s 1 rfl ?_
            exact go_retv rfl rfl (am_qv q (am_hD ((Eq.symm ((if_neg c21_0).trans ((if_neg c21_1).trans ((if_neg c21_2).trans ((if_neg c21_3).trans (if_pos c21_4)))))))))
          · refine go_if (fun c21_5 => ?_) (fun c21_5 => ?_)
            · refine go_s 4 rfl ?_
              refine go_st kX3_writeInstruction_171 okX8_jumpRegisterWord rfl rfl rfl (Nat.zero_le _) (Nat.zero_le _) ?_
              refine c_X8_jumpRegisterWord ?_
              refine go_v kX3_writeInstruction_174 okX1_append rfl rfl rfl rfl (Nat.zero_le _) (Nat.zero_le _) ?_
              refine c_X1_append h0 ?_
              refine go_s 1 rfl ?_
              exact go_retv rfl rfl (am_qv q (am_hD ((Eq.symm ((if_neg c21_0).trans ((if_neg c21_1).trans ((if_neg c21_2).trans ((if_neg c21_3).trans ((if_neg c21_4).trans (if_pos c21_5))))))))))
            · refine go_s 1 rfl ?_
              refine go_st kX3_writeInstruction_182 okX9_isBranch rfl rfl rfl (Nat.zero_le _) (Nat.zero_le _) ?_
              refine c_X9_isBranch ?_
              refine go_s 1 rfl ?_
              refine go_if (fun c185 => ?_) (fun c185 => ?_)
              · refine go_s 2 rfl ?_
                refine go_v kX3_writeInstruction_199 okX3_writePlain rfl rfl rfl rfl (Nat.zero_le _) (Nat.zero_le _) ?_
                refine c_X3_writePlain h0 hS ?_
                exact go_retv rfl rfl (am_qv q (am_hD ((Eq.symm ((if_neg c21_0).trans ((if_neg c21_1).trans ((if_neg c21_2).trans ((if_neg c21_3).trans ((if_neg c21_4).trans ((if_neg c21_5).trans (if_pos c185)))))))))))
              · refine go_s 3 rfl ?_
                refine go_v kX3_writeInstruction_191 okX3_writeBranch rfl rfl rfl rfl (Nat.zero_le _) (Nat.zero_le _) ?_
                refine c_X3_writeBranch h0 hF hS ?_
                refine go_s 1 rfl ?_
                exact go_retv rfl rfl (am_qv q (am_hD ((Eq.symm ((if_neg c21_0).trans ((if_neg c21_1).trans ((if_neg c21_2).trans ((if_neg c21_3).trans ((if_neg c21_4).trans ((if_neg c21_5).trans (if_neg c185)))))))))))
