def am_jw (a b : Int32) : Int32 := ((b >>> (20 : Int32) &&& (1 : Int32)) <<< (31 : Int32) ||| (b >>> (1 : Int32) &&& (1023 : Int32)) <<< (21 : Int32)) ||| ((b >>> (11 : Int32) &&& (1 : Int32)) <<< (20 : Int32) ||| (b >>> (12 : Int32) &&& (255 : Int32)) <<< (12 : Int32)) ||| a <<< (7 : Int32) ||| (111 : Int32)
def am_bw (n a b o : Int32) : Int32 := ((o >>> (12 : Int32) &&& (1 : Int32)) <<< (31 : Int32) ||| (o >>> (5 : Int32) &&& (63 : Int32)) <<< (25 : Int32)) ||| b <<< (20 : Int32) ||| a <<< (15 : Int32) ||| am_sel n <<< (12 : Int32) ||| ((o >>> (1 : Int32) &&& (15 : Int32)) <<< (8 : Int32) ||| (o >>> (11 : Int32) &&& (1 : Int32)) <<< (7 : Int32)) ||| (99 : Int32)
def am_rw (n a b c : Int32) : Int32 := (if am_othz n = 0 then 0 else 1073741824) ||| c <<< (20 : Int32) ||| b <<< (15 : Int32) ||| am_sel n <<< (12 : Int32) ||| a <<< (7 : Int32) ||| (51 : Int32)
def am_iw (n a b c : Int32) : Int32 := (if am_othz n = 0 then 0 else 1073741824) ||| c <<< (20 : Int32) ||| b <<< (15 : Int32) ||| am_sel n <<< (12 : Int32) ||| a <<< (7 : Int32) ||| (19 : Int32)
theorem c_X3_writeJump {D : Nat → Nat → Int32} {e : am_E} {kc ks : Nat} {Q : am_Q} {a g : Int32} (h0 : ¬ D 11 3 < 0) (q : Q none (hp (am_app D (am_jw a (4 * (g - D 11 3)))) e)) : am_Go (mX3_writeJump, 0, am_ent mX3_writeJump [.ref 57, .int a, .int g], [], hp D e, kc, ks, Q) := by
  refine go_s 7 rfl ?_
  refine go_v kX3_writeJump_11 okX1_size rfl rfl rfl rfl (Nat.zero_le _) (Nat.zero_le _) ?_
  refine c_X1_size ?_
  refine go_s 2 rfl ?_
  refine go_st kX3_writeJump_16 okX8_jumpWord rfl rfl rfl (Nat.zero_le _) (Nat.zero_le _) ?_
  refine c_X8_jumpWord ?_
  refine go_v kX3_writeJump_19 okX1_append rfl rfl rfl rfl (Nat.zero_le _) (Nat.zero_le _) ?_
  refine c_X1_append h0 ?_
  exact go_retv rfl rfl (am_qv q (by rfl))
