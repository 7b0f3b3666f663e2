def am_sel (n : Int32) : Int32 := if 0 ≤ n ∧ n < 28 then am_t3.getD n.toNatClampNeg 0 else 0
def am_othz (n : Int32) : Int32 := zb (0 ≤ n ∧ n < 28 ∧ am_t4.getD n.toNatClampNeg 0 = 1)
theorem am_othz_01 (n : Int32) : am_othz n = 0 ∨ am_othz n = 1 := zb_01
def am_blw (a b : Int32) : Prop := a ^^^ (-2147483648) < b ^^^ (-2147483648)
theorem c_X8_isBelow {D : Nat → Nat → Int32} {e : am_E} {kc ks : Nat} {Q : am_Q} {a b : Int32}  (q : Q (some (.int (zb (a ^^^ (-2147483648) < b ^^^ (-2147483648))))) (hp D e)) : am_Go (mX8_isBelow, 0, am_ent mX8_isBelow [.int a, .int b], [], hp D e, kc, ks, Q) := by
  refine go_s 7 rfl ?_
  refine go_if (fun c8 => ?_) (fun c8 => ?_)
  · refine go_s 2 rfl ?_
    exact go_retz rfl rfl (by first | exact Or.inl rfl | exact Or.inr rfl | exact zb_01) (am_qi q (by simp_all [zb]) (by rfl))
  · refine go_s 1 rfl ?_
    exact go_retz rfl rfl (by first | exact Or.inl rfl | exact Or.inr rfl | exact zb_01) (am_qi q (by simp_all [zb]) (by rfl))
theorem c_X8_selectorOf {D : Nat → Nat → Int32} {e : am_E} {kc ks : Nat} {Q : am_Q} {n : Int32}  (q : Q (some (.int (am_sel n))) (hp D e)) : am_Go (mX8_selectorOf, 0, am_ent mX8_selectorOf [.int n], [], hp D e, kc, ks, Q) := by
  refine go_s 2 rfl ?_
  refine go_if (fun c1 => ?_) (fun c1 => ?_)
  · refine go_s 1 rfl ?_
    exact go_ret rfl rfl (am_qi q (by simp_all [am_sel, hp, am_tb, ← Int32.not_lt]) (by rfl))
  · refine go_s 4 rfl ?_
    refine go_if (fun c9 => ?_) (fun c9 => ?_)
    · refine go_s 2 rfl ?_
      refine go_m rfl rfl (show vp_in _ 28 from vpn (y := 28) (by assumption) (by assumption) (by decide)) ?_
      refine go_s 1 rfl ?_
      exact go_ret rfl rfl (am_qi q (by simp_all [am_sel, hp, am_tb, ← Int32.not_lt]) (by rfl))
    · refine go_s 1 rfl ?_
      exact go_ret rfl rfl (am_qi q (by simp_all [am_sel, hp, am_tb, ← Int32.not_lt]) (by rfl))
theorem c_X8_isOther {D : Nat → Nat → Int32} {e : am_E} {kc ks : Nat} {Q : am_Q} {n : Int32}  (q : Q (some (.int (am_othz n))) (hp D e)) : am_Go (mX8_isOther, 0, am_ent mX8_isOther [.int n], [], hp D e, kc, ks, Q) := by
  refine go_s 2 rfl ?_
  refine go_if (fun c1 => ?_) (fun c1 => ?_)
  · refine go_s 1 rfl ?_
    exact go_retz rfl rfl (by first | exact Or.inl rfl | exact Or.inr rfl | exact zb_01) (am_qi q (by simp_all [am_othz, zb, hp, am_tb, ← Int32.not_lt]) (by rfl))
  · refine go_s 4 rfl ?_
    refine go_if (fun c9 => ?_) (fun c9 => ?_)
    · refine go_s 2 rfl ?_
      refine go_m rfl rfl (show vp_in _ 28 from vpn (y := 28) (by assumption) (by assumption) (by decide)) ?_
      refine go_s 2 rfl ?_
      refine go_if (fun c18 => ?_) (fun c18 => ?_)
      · refine go_s 2 rfl ?_
        exact go_retz rfl rfl (by first | exact Or.inl rfl | exact Or.inr rfl | exact zb_01) (am_qi q (by simp_all [am_othz, zb, hp, am_tb, ← Int32.not_lt]) (by rfl))
      · refine go_s 1 rfl ?_
        exact go_retz rfl rfl (by first | exact Or.inl rfl | exact Or.inr rfl | exact zb_01) (am_qi q (by simp_all [am_othz, zb, hp, am_tb, ← Int32.not_lt]) (by rfl))
    · refine go_s 1 rfl ?_
      exact go_retz rfl rfl (by first | exact Or.inl rfl | exact Or.inr rfl | exact zb_01) (am_qi q (by simp_all [am_othz, zb, hp, am_tb, ← Int32.not_lt]) (by rfl))
theorem c_X8_upperWord {D : Nat → Nat → Int32} {e : am_E} {kc ks : Nat} {Q : am_Q} {a b : Int32}  (q : Q (some (.int (b <<< (12 : Int32) ||| a <<< (7 : Int32) ||| (55 : Int32)))) (hp D e)) : am_Go (mX8_upperWord, 0, am_ent mX8_upperWord [.int a, .int b], [], hp D e, kc, ks, Q) := by
  refine go_s 9 rfl ?_
  exact go_ret rfl rfl (am_qi q (by rfl) (by rfl))
theorem c_X8_loadWord {D : Nat → Nat → Int32} {e : am_E} {kc ks : Nat} {Q : am_Q} {a b c : Int32}  (q : Q (some (.int (c <<< (20 : Int32) ||| b <<< (15 : Int32) ||| (8192 : Int32) ||| a <<< (7 : Int32) ||| (3 : Int32)))) (hp D e)) : am_Go (mX8_loadWord, 0, am_ent mX8_loadWord [.int a, .int b, .int c], [], hp D e, kc, ks, Q) := by
  refine go_s 15 rfl ?_
  exact go_ret rfl rfl (am_qi q (by rfl) (by rfl))
theorem c_X8_storeWord {D : Nat → Nat → Int32} {e : am_E} {kc ks : Nat} {Q : am_Q} {a b c : Int32}  (q : Q (some (.int (c >>> (5 : Int32) <<< (25 : Int32) ||| a <<< (20 : Int32) ||| b <<< (15 : Int32) ||| (8192 : Int32) ||| (c &&& (31 : Int32)) <<< (7 : Int32) ||| (35 : Int32)))) (hp D e)) : am_Go (mX8_storeWord, 0, am_ent mX8_storeWord [.int a, .int b, .int c], [], hp D e, kc, ks, Q) := by
  refine go_s 23 rfl ?_
  exact go_ret rfl rfl (am_qi q (by rfl) (by rfl))
theorem c_X8_jumpWord {D : Nat → Nat → Int32} {e : am_E} {kc ks : Nat} {Q : am_Q} {a b : Int32}  (q : Q (some (.int (((b >>> (20 : Int32) &&& (1 : Int32)) <<< (31 : Int32) ||| (b >>> (1 : Int32) &&& (1023 : Int32)) <<< (21 : Int32)) ||| ((b >>> (11 : Int32) &&& (1 : Int32)) <<< (20 : Int32) ||| (b >>> (12 : Int32) &&& (255 : Int32)) <<< (12 : Int32)) ||| a <<< (7 : Int32) ||| (111 : Int32)))) (hp D e)) : am_Go (mX8_jumpWord, 0, am_ent mX8_jumpWord [.int a, .int b], [], hp D e, kc, ks, Q) := by
  refine go_s 41 rfl ?_
  exact go_ret rfl rfl (am_qi q (by rfl) (by rfl))
theorem c_X8_jumpRegisterWord {D : Nat → Nat → Int32} {e : am_E} {kc ks : Nat} {Q : am_Q} {a b : Int32}  (q : Q (some (.int (b <<< (15 : Int32) ||| a <<< (7 : Int32) ||| (103 : Int32)))) (hp D e)) : am_Go (mX8_jumpRegisterWord, 0, am_ent mX8_jumpRegisterWord [.int a, .int b], [], hp D e, kc, ks, Q) := by
  refine go_s 9 rfl ?_
  exact go_ret rfl rfl (am_qi q (by rfl) (by rfl))
theorem c_X8_codeOf {D : Nat → Nat → Int32} {e : am_E} {kc ks : Nat} {Q : am_Q} {n : Int32}  (q : Q (some (.int (n &&& (127 : Int32)))) (hp D e)) : am_Go (mX8_codeOf, 0, am_ent mX8_codeOf [.int n], [], hp D e, kc, ks, Q) := by
  refine go_s 3 rfl ?_
  exact go_ret rfl rfl (am_qi q (by rfl) (by rfl))
theorem c_X8_targetOf {D : Nat → Nat → Int32} {e : am_E} {kc ks : Nat} {Q : am_Q} {n : Int32}  (q : Q (some (.int (n >>> (7 : Int32) &&& (31 : Int32)))) (hp D e)) : am_Go (mX8_targetOf, 0, am_ent mX8_targetOf [.int n], [], hp D e, kc, ks, Q) := by
  refine go_s 5 rfl ?_
  exact go_ret rfl rfl (am_qi q (by rfl) (by rfl))
theorem c_X8_firstOf {D : Nat → Nat → Int32} {e : am_E} {kc ks : Nat} {Q : am_Q} {n : Int32}  (q : Q (some (.int (n >>> (15 : Int32) &&& (31 : Int32)))) (hp D e)) : am_Go (mX8_firstOf, 0, am_ent mX8_firstOf [.int n], [], hp D e, kc, ks, Q) := by
  refine go_s 5 rfl ?_
  exact go_ret rfl rfl (am_qi q (by rfl) (by rfl))
theorem c_X8_secondOf {D : Nat → Nat → Int32} {e : am_E} {kc ks : Nat} {Q : am_Q} {n : Int32}  (q : Q (some (.int (n >>> (20 : Int32) &&& (31 : Int32)))) (hp D e)) : am_Go (mX8_secondOf, 0, am_ent mX8_secondOf [.int n], [], hp D e, kc, ks, Q) := by
  refine go_s 5 rfl ?_
  exact go_ret rfl rfl (am_qi q (by rfl) (by rfl))
theorem c_X8_selectorIn {D : Nat → Nat → Int32} {e : am_E} {kc ks : Nat} {Q : am_Q} {n : Int32}  (q : Q (some (.int (n >>> (12 : Int32) &&& (7 : Int32)))) (hp D e)) : am_Go (mX8_selectorIn, 0, am_ent mX8_selectorIn [.int n], [], hp D e, kc, ks, Q) := by
  refine go_s 5 rfl ?_
  exact go_ret rfl rfl (am_qi q (by rfl) (by rfl))
theorem c_X8_isOtherIn {D : Nat → Nat → Int32} {e : am_E} {kc ks : Nat} {Q : am_Q} {n : Int32}  (q : Q (some (.int (zb (¬ n &&& (1073741824 : Int32) = 0)))) (hp D e)) : am_Go (mX8_isOtherIn, 0, am_ent mX8_isOtherIn [.int n], [], hp D e, kc, ks, Q) := by
  refine go_s 4 rfl ?_
  refine go_if (fun c4 => ?_) (fun c4 => ?_)
  · refine go_s 1 rfl ?_
    exact go_retz rfl rfl (by first | exact Or.inl rfl | exact Or.inr rfl | exact zb_01) (am_qi q (by simp_all [zb]) (by rfl))
  · refine go_s 2 rfl ?_
    exact go_retz rfl rfl (by first | exact Or.inl rfl | exact Or.inr rfl | exact zb_01) (am_qi q (by simp_all [zb]) (by rfl))
theorem c_X8_immediateOf {D : Nat → Nat → Int32} {e : am_E} {kc ks : Nat} {Q : am_Q} {n : Int32}  (q : Q (some (.int (n >>> (20 : Int32)))) (hp D e)) : am_Go (mX8_immediateOf, 0, am_ent mX8_immediateOf [.int n], [], hp D e, kc, ks, Q) := by
  refine go_s 3 rfl ?_
  exact go_ret rfl rfl (am_qi q (by rfl) (by rfl))
theorem c_X8_storeOffsetOf {D : Nat → Nat → Int32} {e : am_E} {kc ks : Nat} {Q : am_Q} {n : Int32}  (q : Q (some (.int (n >>> (25 : Int32) <<< (5 : Int32) ||| n >>> (7 : Int32) &&& (31 : Int32)))) (hp D e)) : am_Go (mX8_storeOffsetOf, 0, am_ent mX8_storeOffsetOf [.int n], [], hp D e, kc, ks, Q) := by
  refine go_s 11 rfl ?_
  exact go_ret rfl rfl (am_qi q (by rfl) (by rfl))
theorem c_X8_branchOffsetOf {D : Nat → Nat → Int32} {e : am_E} {kc ks : Nat} {Q : am_Q} {n : Int32}  (q : Q (some (.int (n >>> (31 : Int32) <<< (12 : Int32) ||| (n >>> (7 : Int32) &&& (1 : Int32)) <<< (11 : Int32) ||| (n >>> (25 : Int32) &&& (63 : Int32)) <<< (5 : Int32) ||| (n >>> (8 : Int32) &&& (15 : Int32)) <<< (1 : Int32)))) (hp D e)) : am_Go (mX8_branchOffsetOf, 0, am_ent mX8_branchOffsetOf [.int n], [], hp D e, kc, ks, Q) := by
  refine go_s 29 rfl ?_
  exact go_ret rfl rfl (am_qi q (by rfl) (by rfl))
theorem c_X8_jumpOffsetOf {D : Nat → Nat → Int32} {e : am_E} {kc ks : Nat} {Q : am_Q} {n : Int32}  (q : Q (some (.int (n >>> (31 : Int32) <<< (20 : Int32) ||| n &&& (1044480 : Int32) ||| (n >>> (20 : Int32) &&& (1 : Int32)) <<< (11 : Int32) ||| (n >>> (21 : Int32) &&& (1023 : Int32)) <<< (1 : Int32)))) (hp D e)) : am_Go (mX8_jumpOffsetOf, 0, am_ent mX8_jumpOffsetOf [.int n], [], hp D e, kc, ks, Q) := by
  refine go_s 25 rfl ?_
  exact go_ret rfl rfl (am_qi q (by rfl) (by rfl))
