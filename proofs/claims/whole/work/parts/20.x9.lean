theorem c_X9_isNumber {D : Nat → Nat → Int32} {e : am_E} {kc ks : Nat} {Q : am_Q} {n : Int32}  (q : Q (some (.int (zb (0 ≤ n ∧ n < 35)))) (hp D e)) : am_Go (mX9_isNumber, 0, am_ent mX9_isNumber [.int n], [], hp D e, kc, ks, Q) := by
  refine go_s 2 rfl ?_
  refine go_if (fun c1 => ?_) (fun c1 => ?_)
  · refine go_s 1 rfl ?_
    exact go_retz rfl rfl (by first | exact Or.inl rfl | exact Or.inr rfl | exact zb_01) (am_qi q (by simp_all [zb, ← Int32.not_lt]) (by rfl))
  · refine go_s 3 rfl ?_
    refine go_if (fun c7 => ?_) (fun c7 => ?_)
    · refine go_s 2 rfl ?_
      exact go_retz rfl rfl (by first | exact Or.inl rfl | exact Or.inr rfl | exact zb_01) (am_qi q (by simp_all [zb, ← Int32.not_lt]) (by rfl))
    · refine go_s 1 rfl ?_
      exact go_retz rfl rfl (by first | exact Or.inl rfl | exact Or.inr rfl | exact zb_01) (am_qi q (by simp_all [zb, ← Int32.not_lt]) (by rfl))
theorem c_X9_kindOfA {D : Nat → Nat → Int32} {e : am_E} {kc ks : Nat} {Q : am_Q} {n : Int32}  (q : Q (some (.int (if 0 ≤ n ∧ n < 35 then am_t0.getD n.toNatClampNeg 0 else 0))) (hp D e)) : am_Go (mX9_kindOfA, 0, am_ent mX9_kindOfA [.int n], [], hp D e, kc, ks, Q) := by
  refine go_s 1 rfl ?_
  refine go_st kX9_kindOfA_1 okX9_isNumber rfl rfl rfl (Nat.zero_le _) (Nat.zero_le _) ?_
  refine c_X9_isNumber ?_
  refine go_s 1 rfl ?_
  refine go_if (fun c4 => ?_) (fun c4 => ?_)
  · refine go_s 1 rfl ?_
    exact go_ret rfl rfl (am_qi q (by first | (rw [if_neg (zb_0.mp c4)]; rfl) | (rw [if_pos (zb_ne.mp c4)]; rfl)) (by rfl))
  · refine go_s 2 rfl ?_
    refine go_m rfl rfl (show vp_in _ 35 from vpl c4 (by decide)) ?_
    refine go_s 1 rfl ?_
    exact go_ret rfl rfl (am_qi q (by first | (rw [if_neg (zb_0.mp c4)]; rfl) | (rw [if_pos (zb_ne.mp c4)]; rfl)) (by rfl))
theorem c_X9_kindOfB {D : Nat → Nat → Int32} {e : am_E} {kc ks : Nat} {Q : am_Q} {n : Int32}  (q : Q (some (.int (if 0 ≤ n ∧ n < 35 then am_t1.getD n.toNatClampNeg 0 else 0))) (hp D e)) : am_Go (mX9_kindOfB, 0, am_ent mX9_kindOfB [.int n], [], hp D e, kc, ks, Q) := by
  refine go_s 1 rfl ?_
  refine go_st kX9_kindOfB_1 okX9_isNumber rfl rfl rfl (Nat.zero_le _) (Nat.zero_le _) ?_
  refine c_X9_isNumber ?_
  refine go_s 1 rfl ?_
  refine go_if (fun c4 => ?_) (fun c4 => ?_)
  · refine go_s 1 rfl ?_
    exact go_ret rfl rfl (am_qi q (by first | (rw [if_neg (zb_0.mp c4)]; rfl) | (rw [if_pos (zb_ne.mp c4)]; rfl)) (by rfl))
  · refine go_s 2 rfl ?_
    refine go_m rfl rfl (show vp_in _ 35 from vpl c4 (by decide)) ?_
    refine go_s 1 rfl ?_
    exact go_ret rfl rfl (am_qi q (by first | (rw [if_neg (zb_0.mp c4)]; rfl) | (rw [if_pos (zb_ne.mp c4)]; rfl)) (by rfl))
theorem c_X9_kindOfC {D : Nat → Nat → Int32} {e : am_E} {kc ks : Nat} {Q : am_Q} {n : Int32}  (q : Q (some (.int (if 0 ≤ n ∧ n < 35 then am_t2.getD n.toNatClampNeg 0 else 0))) (hp D e)) : am_Go (mX9_kindOfC, 0, am_ent mX9_kindOfC [.int n], [], hp D e, kc, ks, Q) := by
  refine go_s 1 rfl ?_
  refine go_st kX9_kindOfC_1 okX9_isNumber rfl rfl rfl (Nat.zero_le _) (Nat.zero_le _) ?_
  refine c_X9_isNumber ?_
  refine go_s 1 rfl ?_
  refine go_if (fun c4 => ?_) (fun c4 => ?_)
  · refine go_s 1 rfl ?_
    exact go_ret rfl rfl (am_qi q (by first | (rw [if_neg (zb_0.mp c4)]; rfl) | (rw [if_pos (zb_ne.mp c4)]; rfl)) (by rfl))
  · refine go_s 2 rfl ?_
    refine go_m rfl rfl (show vp_in _ 35 from vpl c4 (by decide)) ?_
    refine go_s 1 rfl ?_
    exact go_ret rfl rfl (am_qi q (by first | (rw [if_neg (zb_0.mp c4)]; rfl) | (rw [if_pos (zb_ne.mp c4)]; rfl)) (by rfl))
theorem c_X9_kept {D : Nat → Nat → Int32} {e : am_E} {kc ks : Nat} {Q : am_Q} {k v : Int32}  (q : Q (some (.int (if k = 0 then 0 else v))) (hp D e)) : am_Go (mX9_kept, 0, am_ent mX9_kept [.int k, .int v], [], hp D e, kc, ks, Q) := by
  refine go_s 2 rfl ?_
  refine go_if (fun c1 => ?_) (fun c1 => ?_)
  · refine go_s 2 rfl ?_
    exact go_ret rfl rfl (am_qi q (by simp_all [zb]) (by rfl))
  · refine go_s 1 rfl ?_
    exact go_ret rfl rfl (am_qi q (by simp_all [zb]) (by rfl))
theorem c_X9_isReturnRegister {D : Nat → Nat → Int32} {e : am_E} {kc ks : Nat} {Q : am_Q} {k v : Int32}  (q : Q (some (.int (zb (k = 1 ∧ v = 1)))) (hp D e)) : am_Go (mX9_isReturnRegister, 0, am_ent mX9_isReturnRegister [.int k, .int v], [], hp D e, kc, ks, Q) := by
  refine go_s 3 rfl ?_
  refine go_if (fun c2 => ?_) (fun c2 => ?_)
  · refine go_s 3 rfl ?_
    refine go_if (fun c7 => ?_) (fun c7 => ?_)
    · refine go_s 2 rfl ?_
      exact go_retz rfl rfl (by first | exact Or.inl rfl | exact Or.inr rfl | exact zb_01) (am_qi q (by simp_all [zb]) (by rfl))
    · refine go_s 1 rfl ?_
      exact go_retz rfl rfl (by first | exact Or.inl rfl | exact Or.inr rfl | exact zb_01) (am_qi q (by simp_all [zb]) (by rfl))
  · refine go_s 1 rfl ?_
    exact go_retz rfl rfl (by first | exact Or.inl rfl | exact Or.inr rfl | exact zb_01) (am_qi q (by simp_all [zb]) (by rfl))
theorem c_X9_isBranch {D : Nat → Nat → Int32} {e : am_E} {kc ks : Nat} {Q : am_Q} {n : Int32}  (q : Q (some (.int (zb (¬ n < 22 ∧ ¬ 27 < n)))) (hp D e)) : am_Go (mX9_isBranch, 0, am_ent mX9_isBranch [.int n], [], hp D e, kc, ks, Q) := by
  refine go_s 3 rfl ?_
  refine go_if (fun c3 => ?_) (fun c3 => ?_)
  · refine go_s 1 rfl ?_
    exact go_retz rfl rfl (by first | exact Or.inl rfl | exact Or.inr rfl | exact zb_01) (am_qi q (by simp_all [zb]) (by rfl))
  · refine go_s 3 rfl ?_
    refine go_if (fun c9 => ?_) (fun c9 => ?_)
    · refine go_s 1 rfl ?_
      exact go_retz rfl rfl (by first | exact Or.inl rfl | exact Or.inr rfl | exact zb_01) (am_qi q (by simp_all [zb]) (by rfl))
    · refine go_s 2 rfl ?_
      exact go_retz rfl rfl (by first | exact Or.inl rfl | exact Or.inr rfl | exact zb_01) (am_qi q (by simp_all [zb]) (by rfl))
theorem c_X9_isCallOrTail {D : Nat → Nat → Int32} {e : am_E} {kc ks : Nat} {Q : am_Q} {n : Int32}  (q : Q (some (.int (zb (n = 29 ∨ n = 30)))) (hp D e)) : am_Go (mX9_isCallOrTail, 0, am_ent mX9_isCallOrTail [.int n], [], hp D e, kc, ks, Q) := by
  refine go_s 3 rfl ?_
  refine go_if (fun c3 => ?_) (fun c3 => ?_)
  · refine go_s 2 rfl ?_
    exact go_retz rfl rfl (by first | exact Or.inl rfl | exact Or.inr rfl | exact zb_01) (am_qi q (by simp_all [zb]) (by rfl))
  · refine go_s 3 rfl ?_
    refine go_if (fun c9 => ?_) (fun c9 => ?_)
    · refine go_s 2 rfl ?_
      exact go_retz rfl rfl (by first | exact Or.inl rfl | exact Or.inr rfl | exact zb_01) (am_qi q (by simp_all [zb]) (by rfl))
    · refine go_s 1 rfl ?_
      exact go_retz rfl rfl (by first | exact Or.inl rfl | exact Or.inr rfl | exact zb_01) (am_qi q (by simp_all [zb]) (by rfl))
theorem c_X9_isClosing {D : Nat → Nat → Int32} {e : am_E} {kc ks : Nat} {Q : am_Q} {n : Int32}  (q : Q (some (.int (zb (n = 28 ∨ n = 30 ∨ n = 31)))) (hp D e)) : am_Go (mX9_isClosing, 0, am_ent mX9_isClosing [.int n], [], hp D e, kc, ks, Q) := by
  refine go_s 3 rfl ?_
  refine go_if (fun c3 => ?_) (fun c3 => ?_)
  · refine go_s 2 rfl ?_
    exact go_retz rfl rfl (by first | exact Or.inl rfl | exact Or.inr rfl | exact zb_01) (am_qi q (by simp_all [zb]) (by rfl))
  · refine go_s 3 rfl ?_
    refine go_if (fun c9 => ?_) (fun c9 => ?_)
    · refine go_s 2 rfl ?_
      exact go_retz rfl rfl (by first | exact Or.inl rfl | exact Or.inr rfl | exact zb_01) (am_qi q (by simp_all [zb]) (by rfl))
    · refine go_s 3 rfl ?_
      refine go_if (fun c15 => ?_) (fun c15 => ?_)
      · refine go_s 2 rfl ?_
        exact go_retz rfl rfl (by first | exact Or.inl rfl | exact Or.inr rfl | exact zb_01) (am_qi q (by simp_all [zb]) (by rfl))
      · refine go_s 1 rfl ?_
        exact go_retz rfl rfl (by first | exact Or.inl rfl | exact Or.inr rfl | exact zb_01) (am_qi q (by simp_all [zb]) (by rfl))
theorem c_X9_mayBeInRow {D : Nat → Nat → Int32} {e : am_E} {kc ks : Nat} {Q : am_Q} {n : Int32}  (q : Q (some (.int (zb ((¬ n < 0 ∧ ¬ 21 < n) ∨ n = 34)))) (hp D e)) : am_Go (mX9_mayBeInRow, 0, am_ent mX9_mayBeInRow [.int n], [], hp D e, kc, ks, Q) := by
  refine go_s 2 rfl ?_
  refine go_if (fun c1 => ?_) (fun c1 => ?_)
  · refine go_s 3 rfl ?_
    refine go_if (fun c13 => ?_) (fun c13 => ?_)
    · refine go_s 2 rfl ?_
      exact go_retz rfl rfl (by first | exact Or.inl rfl | exact Or.inr rfl | exact zb_01) (am_qi q (by simp_all [zb]) (by rfl))
    · refine go_s 1 rfl ?_
      exact go_retz rfl rfl (by first | exact Or.inl rfl | exact Or.inr rfl | exact zb_01) (am_qi q (by simp_all [zb]) (by rfl))
  · refine go_s 3 rfl ?_
    refine go_if (fun c7 => ?_) (fun c7 => ?_)
    · refine go_s 3 rfl ?_
      refine go_if (fun c13 => ?_) (fun c13 => ?_)
      · refine go_s 2 rfl ?_
        exact go_retz rfl rfl (by first | exact Or.inl rfl | exact Or.inr rfl | exact zb_01) (am_qi q (by simp_all [zb]) (by rfl))
      · refine go_s 1 rfl ?_
        exact go_retz rfl rfl (by first | exact Or.inl rfl | exact Or.inr rfl | exact zb_01) (am_qi q (by simp_all [zb]) (by rfl))
    · refine go_s 2 rfl ?_
      exact go_retz rfl rfl (by first | exact Or.inl rfl | exact Or.inr rfl | exact zb_01) (am_qi q (by simp_all [zb]) (by rfl))
