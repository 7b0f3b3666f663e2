def am_tr0 (D : Nat → Nat → Int32) : Nat → Nat → Int32 := am_u (am_u (am_wr (am_fil (am_fil (am_fil (am_fil D 61 32 0) 62 32 0) 63 64 0) 64 64 0) 1 2 (-1)) 59 10 0) 59 11 0
def am_bdy (D : Nat → Nat → Int32) (f : Int32) : Int32 := if 0 ≤ f ∧ f < D 11 4 then D 13 f.toNatClampNeg else -1
def am_adr (D : Nat → Nat → Int32) (f : Int32) : Int32 := if 0 ≤ f ∧ f < D 11 4 then 4096 + 4 * D 14 f.toNatClampNeg else -1
def am_ir1 (D : Nat → Nat → Int32) : Nat → Nat → Int32 := am_fil (am_fil D 67 32 0) 68 64 0
def am_ir0 (D : Nat → Nat → Int32) : Nat → Nat → Int32 := am_u (am_ir1 D) 65 8 (am_adr (am_ir1 D) (am_bdy (am_ir1 D) 0))
theorem c_X10_restart {D : Nat → Nat → Int32} {e : am_E} {kc ks : Nat} {Q : am_Q}   (q : Q none (hp (am_tr0 D) e)) : am_Go (mX10_restart, 0, am_ent mX10_restart [.ref 59], [], hp D e, kc, ks, Q) := by
  refine go_s 3 rfl ?_
  refine go_st kX10_restart_5 okJ7_fill_53178 rfl rfl rfl (Nat.zero_le _) (Nat.zero_le _) ?_
  refine c_J7_fill_53178 rfl (by decide) ?_
  refine go_s 3 rfl ?_
  refine go_st kX10_restart_13 okJ7_fill_53178 rfl rfl rfl (Nat.zero_le _) (Nat.zero_le _) ?_
  refine c_J7_fill_53178 rfl (by decide) ?_
  refine go_s 3 rfl ?_
  refine go_st kX10_restart_21 okJ7_fill_53178 rfl rfl rfl (Nat.zero_le _) (Nat.zero_le _) ?_
  refine c_J7_fill_53178 rfl (by decide) ?_
  refine go_s 3 rfl ?_
  refine go_st kX10_restart_29 okJ7_fill_53178 rfl rfl rfl (Nat.zero_le _) (Nat.zero_le _) ?_
  refine c_J7_fill_53178 rfl (by decide) ?_
  refine go_s 4 rfl ?_
  refine go_v kX10_restart_36 okX10_write rfl rfl rfl rfl (Nat.zero_le _) (Nat.zero_le _) ?_
  refine c_X10_write ?_
  refine go_s 6 rfl ?_
  exact go_retv rfl rfl (am_qv q (by rfl))
theorem c_X2_restart {D : Nat → Nat → Int32} {e : am_E} {kc ks : Nat} {Q : am_Q}  (hI : (D 11 4).toInt ≤ 24) (q : Q none (hp (am_ir0 D) e)) : am_Go (mX2_restart, 0, am_ent mX2_restart [.ref 65], [], hp D e, kc, ks, Q) := by
  refine go_s 3 rfl ?_
  refine go_st kX2_restart_5 okJ7_fill_53178 rfl rfl rfl (Nat.zero_le _) (Nat.zero_le _) ?_
  refine c_J7_fill_53178 rfl (by decide) ?_
  refine go_s 3 rfl ?_
  refine go_st kX2_restart_13 okJ7_fill_53178 rfl rfl rfl (Nat.zero_le _) (Nat.zero_le _) ?_
  refine c_J7_fill_53178 rfl (by decide) ?_
  refine go_s 6 rfl ?_
  refine go_v kX2_restart_26 okX1_bodyOf rfl rfl rfl rfl (Nat.zero_le _) (Nat.zero_le _) ?_
  refine c_X1_bodyOf hI ?_
  refine go_v kX2_restart_29 okX1_addressOf rfl rfl rfl rfl (Nat.zero_le _) (Nat.zero_le _) ?_
  refine c_X1_addressOf hI ?_
  refine go_s 1 rfl ?_
  exact go_retv rfl rfl (am_qv q (by rfl))
