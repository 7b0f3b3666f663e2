theorem c_X12_in {D : Nat → Nat → Int32} {e : am_E} {kc ks : Nat} {Q : am_Q} {v l h : Int32}  (q : Q (some (.int (zb (¬ v < l ∧ ¬ h < v)))) (hp D e)) : am_Go (mX12_in, 0, am_ent mX12_in [.int v, .int l, .int h], [], hp D e, kc, ks, Q) := by
  refine go_s 3 rfl ?_
  refine go_if (fun c2 => ?_) (fun c2 => ?_)
  · refine go_s 1 rfl ?_
    exact go_retz rfl rfl (by first | exact Or.inl rfl | exact Or.inr rfl | exact zb_01) (am_qi q (by simp_all [zb]) (by rfl))
  · refine go_s 3 rfl ?_
    refine go_if (fun c7 => ?_) (fun c7 => ?_)
    · refine go_s 1 rfl ?_
      exact go_retz rfl rfl (by first | exact Or.inl rfl | exact Or.inr rfl | exact zb_01) (am_qi q (by simp_all [zb]) (by rfl))
    · refine go_s 2 rfl ?_
      exact go_retz rfl rfl (by first | exact Or.inl rfl | exact Or.inr rfl | exact zb_01) (am_qi q (by simp_all [zb]) (by rfl))
theorem c_X12_isRegister {D : Nat → Nat → Int32} {e : am_E} {kc ks : Nat} {Q : am_Q} {r : Int32}  (q : Q (some (.int (zb ((¬ r < 0 ∧ ¬ 31 < r) ∧ ¬ r = 5)))) (hp D e)) : am_Go (mX12_isRegister, 0, am_ent mX12_isRegister [.int r], [], hp D e, kc, ks, Q) := by
  refine go_s 3 rfl ?_
  refine go_st kX12_isRegister_4 okX12_in rfl rfl rfl (Nat.zero_le _) (Nat.zero_le _) ?_
  refine c_X12_in ?_
  refine go_s 1 rfl ?_
  refine go_if (fun c7 => ?_) (fun c7 => ?_)
  · refine go_s 1 rfl ?_
    exact go_retz rfl rfl (by first | exact Or.inl rfl | exact Or.inr rfl | exact zb_01) (am_qi q (by first | exact (zb_f (fun z => zb_0.mp c7 z.1)).symm | exact (zb_t ⟨zb_ne.mp c7, by assumption⟩).symm | exact (zb_f (fun z => z.2 (by assumption))).symm) (by rfl))
  · refine go_s 3 rfl ?_
    refine go_if (fun c12 => ?_) (fun c12 => ?_)
    · refine go_s 1 rfl ?_
      exact go_retz rfl rfl (by first | exact Or.inl rfl | exact Or.inr rfl | exact zb_01) (am_qi q (by first | exact (zb_f (fun z => zb_0.mp c7 z.1)).symm | exact (zb_t ⟨zb_ne.mp c7, by assumption⟩).symm | exact (zb_f (fun z => z.2 (by assumption))).symm) (by rfl))
    · refine go_s 2 rfl ?_
      exact go_retz rfl rfl (by first | exact Or.inl rfl | exact Or.inr rfl | exact zb_01) (am_qi q (by first | exact (zb_f (fun z => zb_0.mp c7 z.1)).symm | exact (zb_t ⟨zb_ne.mp c7, by assumption⟩).symm | exact (zb_f (fun z => z.2 (by assumption))).symm) (by rfl))
theorem c_X12_tellsA {D : Nat → Nat → Int32} {e : am_E} {kc ks : Nat} {Q : am_Q} {n : Int32}  (q : Q (some (.int (zb (¬ n = 31 ∧ ¬ n = 34)))) (hp D e)) : am_Go (mX12_tellsA, 0, am_ent mX12_tellsA [.int n], [], hp D e, kc, ks, Q) := by
  refine go_s 3 rfl ?_
  refine go_if (fun c3 => ?_) (fun c3 => ?_)
  · refine go_s 1 rfl ?_
    exact go_retz rfl rfl (by first | exact Or.inl rfl | exact Or.inr rfl | exact zb_01) (am_qi q (by simp_all [zb]) (by rfl))
  · refine go_s 3 rfl ?_
    refine go_if (fun c9 => ?_) (fun c9 => ?_)
    · refine go_s 1 rfl ?_
      exact go_retz rfl rfl (by first | exact Or.inl rfl | exact Or.inr rfl | exact zb_01) (am_qi q (by simp_all [zb]) (by rfl))
    · refine go_s 2 rfl ?_
      exact go_retz rfl rfl (by first | exact Or.inl rfl | exact Or.inr rfl | exact zb_01) (am_qi q (by simp_all [zb]) (by rfl))
theorem c_X12_tellsB {D : Nat → Nat → Int32} {e : am_E} {kc ks : Nat} {Q : am_Q} {n : Int32}  (q : Q (some (.int (zb (¬ 27 < n ∨ n = 32)))) (hp D e)) : am_Go (mX12_tellsB, 0, am_ent mX12_tellsB [.int n], [], hp D e, kc, ks, Q) := by
  refine go_s 3 rfl ?_
  refine go_if (fun c3 => ?_) (fun c3 => ?_)
  · refine go_s 3 rfl ?_
    refine go_if (fun c9 => ?_) (fun c9 => ?_)
    · refine go_s 2 rfl ?_
      exact go_retz rfl rfl (by first | exact Or.inl rfl | exact Or.inr rfl | exact zb_01) (am_qi q (by simp_all [zb]) (by rfl))
    · refine go_s 1 rfl ?_
      exact go_retz rfl rfl (by first | exact Or.inl rfl | exact Or.inr rfl | exact zb_01) (am_qi q (by simp_all [zb]) (by rfl))
  · refine go_s 2 rfl ?_
    exact go_retz rfl rfl (by first | exact Or.inl rfl | exact Or.inr rfl | exact zb_01) (am_qi q (by simp_all [zb]) (by rfl))
theorem c_X12_tellsC {D : Nat → Nat → Int32} {e : am_E} {kc ks : Nat} {Q : am_Q} {n : Int32}  (q : Q (some (.int (zb (¬ 27 < n ∧ ¬ n = 19)))) (hp D e)) : am_Go (mX12_tellsC, 0, am_ent mX12_tellsC [.int n], [], hp D e, kc, ks, Q) := by
  refine go_s 3 rfl ?_
  refine go_if (fun c3 => ?_) (fun c3 => ?_)
  · refine go_s 1 rfl ?_
    exact go_retz rfl rfl (by first | exact Or.inl rfl | exact Or.inr rfl | exact zb_01) (am_qi q (by simp_all [zb]) (by rfl))
  · refine go_s 3 rfl ?_
    refine go_if (fun c9 => ?_) (fun c9 => ?_)
    · refine go_s 1 rfl ?_
      exact go_retz rfl rfl (by first | exact Or.inl rfl | exact Or.inr rfl | exact zb_01) (am_qi q (by simp_all [zb]) (by rfl))
    · refine go_s 2 rfl ?_
      exact go_retz rfl rfl (by first | exact Or.inl rfl | exact Or.inr rfl | exact zb_01) (am_qi q (by simp_all [zb]) (by rfl))
theorem c_X12_isCall {D : Nat → Nat → Int32} {e : am_E} {kc ks : Nat} {Q : am_Q} {n : Int32}  (q : Q (some (.int (zb (n = 29 ∨ n = 30)))) (hp D e)) : am_Go (mX12_isCall, 0, am_ent mX12_isCall [.int n], [], hp D e, kc, ks, Q) := by
  refine go_s 3 rfl ?_
  refine go_if (fun c3 => ?_) (fun c3 => ?_)
  · refine go_s 2 rfl ?_
    exact go_retz rfl rfl (by first | exact Or.inl rfl | exact Or.inr rfl | exact zb_01) (am_qi q (by simp_all [zb]) (by rfl))
  · refine go_s 3 rfl ?_
    refine go_if (fun c9 => ?_) (fun c9 => ?_)
    · refine go_s 2 rfl ?_
      exact go_retz rfl rfl (by first | exact Or.inl rfl | exact Or.inr rfl | exact zb_01) (am_qi q (by simp_all [zb]) (by rfl))
    · refine go_s 1 rfl ?_
      exact go_retz rfl rfl (by first | exact Or.inl rfl | exact Or.inr rfl | exact zb_01) (am_qi q (by simp_all [zb]) (by rfl))
theorem c_X12_isBranch {D : Nat → Nat → Int32} {e : am_E} {kc ks : Nat} {Q : am_Q} {n : Int32}  (q : Q (some (.int (zb (¬ n < 22 ∧ ¬ 27 < n)))) (hp D e)) : am_Go (mX12_isBranch, 0, am_ent mX12_isBranch [.int n], [], hp D e, kc, ks, Q) := by
  refine go_s 3 rfl ?_
  refine go_st kX12_isBranch_5 okX12_in rfl rfl rfl (Nat.zero_le _) (Nat.zero_le _) ?_
  refine c_X12_in ?_
  exact go_retz rfl rfl (by first | exact Or.inl rfl | exact Or.inr rfl | exact zb_01) (am_qi q (by rfl) (by rfl))
theorem c_X12_isBelow {D : Nat → Nat → Int32} {e : am_E} {kc ks : Nat} {Q : am_Q} {a b : Int32}  (q : Q (some (.int (zb (a + (-2147483648) < b + (-2147483648))))) (hp D e)) : am_Go (mX12_isBelow, 0, am_ent mX12_isBelow [.int a, .int b], [], hp D e, kc, ks, Q) := by
  refine go_s 7 rfl ?_
  refine go_if (fun c10 => ?_) (fun c10 => ?_)
  · refine go_s 2 rfl ?_
    exact go_retz rfl rfl (by first | exact Or.inl rfl | exact Or.inr rfl | exact zb_01) (am_qi q (by simp_all [zb]) (by rfl))
  · refine go_s 1 rfl ?_
    exact go_retz rfl rfl (by first | exact Or.inl rfl | exact Or.inr rfl | exact zb_01) (am_qi q (by simp_all [zb]) (by rfl))
theorem c_X12_jal {D : Nat → Nat → Int32} {e : am_E} {kc ks : Nat} {Q : am_Q} {r b : Int32}  (q : Q (some (.int ((b >>> (20 : Int32) &&& (1 : Int32)) <<< (31 : Int32) ||| (b >>> (1 : Int32) &&& (1023 : Int32)) <<< (21 : Int32) ||| (b >>> (11 : Int32) &&& (1 : Int32)) <<< (20 : Int32) ||| b &&& (1044480 : Int32) ||| r <<< (7 : Int32) ||| (111 : Int32)))) (hp D e)) : am_Go (mX12_jal, 0, am_ent mX12_jal [.int r, .int b], [], hp D e, kc, ks, Q) := by
  refine go_s 33 rfl ?_
  exact go_ret rfl rfl (am_qi q (by rfl) (by rfl))
theorem c_X12_branch {D : Nat → Nat → Int32} {e : am_E} {kc ks : Nat} {Q : am_Q} {f a b o : Int32}  (q : Q (some (.int ((o >>> (12 : Int32) &&& (1 : Int32)) <<< (31 : Int32) ||| (o >>> (5 : Int32) &&& (63 : Int32)) <<< (25 : Int32) ||| b <<< (20 : Int32) ||| a <<< (15 : Int32) ||| f <<< (12 : Int32) ||| (o >>> (1 : Int32) &&& (15 : Int32)) <<< (8 : Int32) ||| (o >>> (11 : Int32) &&& (1 : Int32)) <<< (7 : Int32) ||| (99 : Int32)))) (hp D e)) : am_Go (mX12_branch, 0, am_ent mX12_branch [.int f, .int a, .int b, .int o], [], hp D e, kc, ks, Q) := by
  refine go_s 45 rfl ?_
  exact go_ret rfl rfl (am_qi q (by rfl) (by rfl))
def am_f3 (n : Int32) : Int32 := if n = 0 then 0 else if n = 1 then 0 else if n = 2 then 7 else if n = 3 then 6 else if n = 4 then 4 else if n = 5 then 1 else if n = 6 then 5 else if n = 7 then 5 else if n = 8 then 2 else if n = 9 then 3 else if n = 10 then 0 else if n = 11 then 7 else if n = 12 then 6 else if n = 13 then 4 else if n = 14 then 2 else if n = 15 then 3 else if n = 16 then 1 else if n = 17 then 5 else if n = 18 then 5 else 7
theorem c_X12_f3Of {D : Nat → Nat → Int32} {e : am_E} {kc ks : Nat} {Q : am_Q} {n : Int32}  (q : Q (some (.int (am_f3 n))) (hp D e)) : am_Go (mX12_f3Of, 0, am_ent mX12_f3Of [.int n], [], hp D e, kc, ks, Q) := by
  refine go_s 2 rfl ?_
  refine go_if (fun c1_0 => ?_) (fun c1_0 => ?_)
  · refine go_s 1 rfl ?_
    exact go_ret rfl rfl (am_qi q (by exact (if_pos c1_0).symm) (by rfl))
  · refine go_if (fun c1_1 => ?_) (fun c1_1 => ?_)
    · refine go_s 1 rfl ?_
      exact go_ret rfl rfl (am_qi q (by exact ((if_neg c1_0).trans (if_pos c1_1)).symm) (by rfl))
    · refine go_if (fun c1_2 => ?_) (fun c1_2 => ?_)
      · refine go_s 1 rfl ?_
        exact go_ret rfl rfl (am_qi q (by exact ((if_neg c1_0).trans ((if_neg c1_1).trans (if_pos c1_2))).symm) (by rfl))
      · refine go_if (fun c1_3 => ?_) (fun c1_3 => ?_)
        · refine go_s 1 rfl ?_
          exact go_ret rfl rfl (am_qi q (by exact ((if_neg c1_0).trans ((if_neg c1_1).trans ((if_neg c1_2).trans (if_pos c1_3)))).symm) (by rfl))
        · refine go_if (fun c1_4 => ?_) (fun c1_4 => ?_)
          · refine go_s 1 rfl ?_
            exact go_ret rfl rfl (am_qi q (by exact ((if_neg c1_0).trans ((if_neg c1_1).trans ((if_neg c1_2).trans ((if_neg c1_3).trans (if_pos c1_4))))).symm) (by rfl))
          · refine go_if (fun c1_5 => ?_) (fun c1_5 => ?_)
            · refine go_s 1 rfl ?_
              exact go_ret rfl rfl (am_qi q (by exact ((if_neg c1_0).trans ((if_neg c1_1).trans ((if_neg c1_2).trans ((if_neg c1_3).trans ((if_neg c1_4).trans (if_pos c1_5)))))).symm) (by rfl))
            · refine go_if (fun c1_6 => ?_) (fun c1_6 => ?_)
              · refine go_s 1 rfl ?_
                exact go_ret rfl rfl (am_qi q (by exact ((if_neg c1_0).trans ((if_neg c1_1).trans ((if_neg c1_2).trans ((if_neg c1_3).trans ((if_neg c1_4).trans ((if_neg c1_5).trans (if_pos c1_6))))))).symm) (by rfl))
              · refine go_if (fun c1_7 => ?_) (fun c1_7 => ?_)
                · refine go_s 1 rfl ?_
                  exact go_ret rfl rfl (am_qi q (by exact ((if_neg c1_0).trans ((if_neg c1_1).trans ((if_neg c1_2).trans ((if_neg c1_3).trans ((if_neg c1_4).trans ((if_neg c1_5).trans ((if_neg c1_6).trans (if_pos c1_7)))))))).symm) (by rfl))
                · refine go_if (fun c1_8 => ?_) (fun c1_8 => ?_)
                  · refine go_s 1 rfl ?_
                    exact go_ret rfl rfl (am_qi q (by exact ((if_neg c1_0).trans ((if_neg c1_1).trans ((if_neg c1_2).trans ((if_neg c1_3).trans ((if_neg c1_4).trans ((if_neg c1_5).trans ((if_neg c1_6).trans ((if_neg c1_7).trans (if_pos c1_8))))))))).symm) (by rfl))
                  · refine go_if (fun c1_9 => ?_) (fun c1_9 => ?_)
                    · refine go_s 1 rfl ?_
                      exact go_ret rfl rfl (am_qi q (by exact ((if_neg c1_0).trans ((if_neg c1_1).trans ((if_neg c1_2).trans ((if_neg c1_3).trans ((if_neg c1_4).trans ((if_neg c1_5).trans ((if_neg c1_6).trans ((if_neg c1_7).trans ((if_neg c1_8).trans (if_pos c1_9)))))))))).symm) (by rfl))
                    · refine go_if (fun c1_10 => ?_) (fun c1_10 => ?_)
                      · refine go_s 1 rfl ?_
                        exact go_ret rfl rfl (am_qi q (by exact ((if_neg c1_0).trans ((if_neg c1_1).trans ((if_neg c1_2).trans ((if_neg c1_3).trans ((if_neg c1_4).trans ((if_neg c1_5).trans ((if_neg c1_6).trans ((if_neg c1_7).trans ((if_neg c1_8).trans ((if_neg c1_9).trans (if_pos c1_10))))))))))).symm) (by rfl))
                      · refine go_if (fun c1_11 => ?_) (fun c1_11 => ?_)
                        · refine go_s 1 rfl ?_
                          exact go_ret rfl rfl (am_qi q (by exact ((if_neg c1_0).trans ((if_neg c1_1).trans ((if_neg c1_2).trans ((if_neg c1_3).trans ((if_neg c1_4).trans ((if_neg c1_5).trans ((if_neg c1_6).trans ((if_neg c1_7).trans ((if_neg c1_8).trans ((if_neg c1_9).trans ((if_neg c1_10).trans (if_pos c1_11)))))))))))).symm) (by rfl))
                        · refine go_if (fun c1_12 => ?_) (fun c1_12 => ?_)
                          · refine go_s 1 rfl ?_
                            exact go_ret rfl rfl (am_qi q (by exact ((if_neg c1_0).trans ((if_neg c1_1).trans ((if_neg c1_2).trans ((if_neg c1_3).trans ((if_neg c1_4).trans ((if_neg c1_5).trans ((if_neg c1_6).trans ((if_neg c1_7).trans ((if_neg c1_8).trans ((if_neg c1_9).trans ((if_neg c1_10).trans ((if_neg c1_11).trans (if_pos c1_12))))))))))))).symm) (by rfl))
                          · refine go_if (fun c1_13 => ?_) (fun c1_13 => ?_)
                            · refine go_s 1 rfl ?_
                              exact go_ret rfl rfl (am_qi q (by exact ((if_neg c1_0).trans ((if_neg c1_1).trans ((if_neg c1_2).trans ((if_neg c1_3).trans ((if_neg c1_4).trans ((if_neg c1_5).trans ((if_neg c1_6).trans ((if_neg c1_7).trans ((if_neg c1_8).trans ((if_neg c1_9).trans ((if_neg c1_10).trans ((if_neg c1_11).trans ((if_neg c1_12).trans (if_pos c1_13)))))))))))))).symm) (by rfl))
                            · refine go_if (fun c1_14 => ?_) (fun c1_14 => ?_)
                              · refine go_s 1 rfl ?_
                                exact go_ret rfl rfl (am_qi q (by exact ((if_neg c1_0).trans ((if_neg c1_1).trans ((if_neg c1_2).trans ((if_neg c1_3).trans ((if_neg c1_4).trans ((if_neg c1_5).trans ((if_neg c1_6).trans ((if_neg c1_7).trans ((if_neg c1_8).trans ((if_neg c1_9).trans ((if_neg c1_10).trans ((if_neg c1_11).trans ((if_neg c1_12).trans ((if_neg c1_13).trans (if_pos c1_14))))))))))))))).symm) (by rfl))
                              · refine go_if (fun c1_15 => ?_) (fun c1_15 => ?_)
                                · refine go_s 1 rfl ?_
                                  exact go_ret rfl rfl (am_qi q (by exact ((if_neg c1_0).trans ((if_neg c1_1).trans ((if_neg c1_2).trans ((if_neg c1_3).trans ((if_neg c1_4).trans ((if_neg c1_5).trans ((if_neg c1_6).trans ((if_neg c1_7).trans ((if_neg c1_8).trans ((if_neg c1_9).trans ((if_neg c1_10).trans ((if_neg c1_11).trans ((if_neg c1_12).trans ((if_neg c1_13).trans ((if_neg c1_14).trans (if_pos c1_15)))))))))))))))).symm) (by rfl))
                                · refine go_if (fun c1_16 => ?_) (fun c1_16 => ?_)
                                  · refine go_s 1 rfl ?_
                                    exact go_ret rfl rfl (am_qi q (by exact ((if_neg c1_0).trans ((if_neg c1_1).trans ((if_neg c1_2).trans ((if_neg c1_3).trans ((if_neg c1_4).trans ((if_neg c1_5).trans ((if_neg c1_6).trans ((if_neg c1_7).trans ((if_neg c1_8).trans ((if_neg c1_9).trans ((if_neg c1_10).trans ((if_neg c1_11).trans ((if_neg c1_12).trans ((if_neg c1_13).trans ((if_neg c1_14).trans ((if_neg c1_15).trans (if_pos c1_16))))))))))))))))).symm) (by rfl))
                                  · refine go_if (fun c1_17 => ?_) (fun c1_17 => ?_)
                                    · refine go_s 1 rfl ?_
                                      exact go_ret rfl rfl (am_qi q (by exact ((if_neg c1_0).trans ((if_neg c1_1).trans ((if_neg c1_2).trans ((if_neg c1_3).trans ((if_neg c1_4).trans ((if_neg c1_5).trans ((if_neg c1_6).trans ((if_neg c1_7).trans ((if_neg c1_8).trans ((if_neg c1_9).trans ((if_neg c1_10).trans ((if_neg c1_11).trans ((if_neg c1_12).trans ((if_neg c1_13).trans ((if_neg c1_14).trans ((if_neg c1_15).trans ((if_neg c1_16).trans (if_pos c1_17)))))))))))))))))).symm) (by rfl))
                                    · refine go_if (fun c1_18 => ?_) (fun c1_18 => ?_)
                                      · refine go_s 1 rfl ?_
                                        exact go_ret rfl rfl (am_qi q (by exact ((if_neg c1_0).trans ((if_neg c1_1).trans ((if_neg c1_2).trans ((if_neg c1_3).trans ((if_neg c1_4).trans ((if_neg c1_5).trans ((if_neg c1_6).trans ((if_neg c1_7).trans ((if_neg c1_8).trans ((if_neg c1_9).trans ((if_neg c1_10).trans ((if_neg c1_11).trans ((if_neg c1_12).trans ((if_neg c1_13).trans ((if_neg c1_14).trans ((if_neg c1_15).trans ((if_neg c1_16).trans ((if_neg c1_17).trans (if_pos c1_18))))))))))))))))))).symm) (by rfl))
                                      · refine go_s 1 rfl ?_
                                        exact go_ret rfl rfl (am_qi q (by exact ((if_neg c1_0).trans ((if_neg c1_1).trans ((if_neg c1_2).trans ((if_neg c1_3).trans ((if_neg c1_4).trans ((if_neg c1_5).trans ((if_neg c1_6).trans ((if_neg c1_7).trans ((if_neg c1_8).trans ((if_neg c1_9).trans ((if_neg c1_10).trans ((if_neg c1_11).trans ((if_neg c1_12).trans ((if_neg c1_13).trans ((if_neg c1_14).trans ((if_neg c1_15).trans ((if_neg c1_16).trans ((if_neg c1_17).trans (if_neg c1_18))))))))))))))))))).symm) (by rfl))
def am_rk (n b c : Int32) : Int32 := if n = 0 then b + c else if n = 1 then b - c else if n = 2 then b &&& c else if n = 3 then b ||| c else if n = 4 then b ^^^ c else if n = 5 then b <<< (c &&& 31 &&& 31) else if n = 6 then (b.toUInt32 >>> ((c &&& 31).toUInt32 &&& Int32.toUInt32 31)).toInt32 else if n = 7 then b >>> (c &&& 31 &&& 31) else if n = 8 then zb (b < c) else if n = 9 then zb (b + (-2147483648) < c + (-2147483648)) else if n = 10 then b + c else if n = 11 then b &&& c else if n = 12 then b ||| c else if n = 13 then b ^^^ c else if n = 14 then zb (b < c) else if n = 15 then zb (b + (-2147483648) < c + (-2147483648)) else if n = 16 then b <<< (c &&& 31 &&& 31) else if n = 17 then (b.toUInt32 >>> ((c &&& 31).toUInt32 &&& Int32.toUInt32 31)).toInt32 else if n = 18 then b >>> (c &&& 31 &&& 31) else zb (b + (-2147483648) < c + (-2147483648))
theorem c_X12_reckoned {D : Nat → Nat → Int32} {e : am_E} {kc ks : Nat} {Q : am_Q} {n b c : Int32}  (q : Q (some (.int (am_rk n b c))) (hp D e)) : am_Go (mX12_reckoned, 0, am_ent mX12_reckoned [.int n, .int b, .int c], [], hp D e, kc, ks, Q) := by
  refine go_s 2 rfl ?_
  refine go_if (fun c1_0 => ?_) (fun c1_0 => ?_)
  · refine go_s 3 rfl ?_
    exact go_ret rfl rfl (am_qi q (by exact (if_pos c1_0).symm) (by rfl))
  · refine go_if (fun c1_1 => ?_) (fun c1_1 => ?_)
    · refine go_s 3 rfl ?_
      exact go_ret rfl rfl (am_qi q (by exact ((if_neg c1_0).trans (if_pos c1_1)).symm) (by rfl))
    · refine go_if (fun c1_2 => ?_) (fun c1_2 => ?_)
      · refine go_s 3 rfl ?_
        exact go_ret rfl rfl (am_qi q (by exact ((if_neg c1_0).trans ((if_neg c1_1).trans (if_pos c1_2))).symm) (by rfl))
      · refine go_if (fun c1_3 => ?_) (fun c1_3 => ?_)
        · refine go_s 3 rfl ?_
          exact go_ret rfl rfl (am_qi q (by exact ((if_neg c1_0).trans ((if_neg c1_1).trans ((if_neg c1_2).trans (if_pos c1_3)))).symm) (by rfl))
        · refine go_if (fun c1_4 => ?_) (fun c1_4 => ?_)
          · refine go_s 3 rfl ?_
            exact go_ret rfl rfl (am_qi q (by exact ((if_neg c1_0).trans ((if_neg c1_1).trans ((if_neg c1_2).trans ((if_neg c1_3).trans (if_pos c1_4))))).symm) (by rfl))
          · refine go_if (fun c1_5 => ?_) (fun c1_5 => ?_)
            · refine go_s 5 rfl ?_
              exact go_ret rfl rfl (am_qi q (by exact ((if_neg c1_0).trans ((if_neg c1_1).trans ((if_neg c1_2).trans ((if_neg c1_3).trans ((if_neg c1_4).trans (if_pos c1_5)))))).symm) (by rfl))
            · refine go_if (fun c1_6 => ?_) (fun c1_6 => ?_)
              · refine go_s 5 rfl ?_
                exact go_ret rfl rfl (am_qi q (by exact ((if_neg c1_0).trans ((if_neg c1_1).trans ((if_neg c1_2).trans ((if_neg c1_3).trans ((if_neg c1_4).trans ((if_neg c1_5).trans (if_pos c1_6))))))).symm) (by rfl))
              · refine go_if (fun c1_7 => ?_) (fun c1_7 => ?_)
                · refine go_s 5 rfl ?_
                  exact go_ret rfl rfl (am_qi q (by exact ((if_neg c1_0).trans ((if_neg c1_1).trans ((if_neg c1_2).trans ((if_neg c1_3).trans ((if_neg c1_4).trans ((if_neg c1_5).trans ((if_neg c1_6).trans (if_pos c1_7)))))))).symm) (by rfl))
                · refine go_if (fun c1_8 => ?_) (fun c1_8 => ?_)
                  · refine go_s 3 rfl ?_
                    refine go_if (fun c135 => ?_) (fun c135 => ?_)
                    · refine go_s 2 rfl ?_
                      exact go_ret rfl rfl (am_qi q (by exact ((if_neg c1_0).trans ((if_neg c1_1).trans ((if_neg c1_2).trans ((if_neg c1_3).trans ((if_neg c1_4).trans ((if_neg c1_5).trans ((if_neg c1_6).trans ((if_neg c1_7).trans ((if_pos c1_8).trans (zb_t c135)))))))))).symm) (by rfl))
                    · refine go_s 1 rfl ?_
                      exact go_ret rfl rfl (am_qi q (by exact ((if_neg c1_0).trans ((if_neg c1_1).trans ((if_neg c1_2).trans ((if_neg c1_3).trans ((if_neg c1_4).trans ((if_neg c1_5).trans ((if_neg c1_6).trans ((if_neg c1_7).trans ((if_pos c1_8).trans (zb_f c135)))))))))).symm) (by rfl))
                  · refine go_if (fun c1_9 => ?_) (fun c1_9 => ?_)
                    · refine go_s 2 rfl ?_
                      refine go_st kX12_reckoned_146 okX12_isBelow rfl rfl rfl (Nat.zero_le _) (Nat.zero_le _) ?_
                      refine c_X12_isBelow ?_
                      refine go_s 1 rfl ?_
                      refine go_if (fun c149 => ?_) (fun c149 => ?_)
                      · refine go_s 1 rfl ?_
                        exact go_ret rfl rfl (am_qi q (by exact ((if_neg c1_0).trans ((if_neg c1_1).trans ((if_neg c1_2).trans ((if_neg c1_3).trans ((if_neg c1_4).trans ((if_neg c1_5).trans ((if_neg c1_6).trans ((if_neg c1_7).trans ((if_neg c1_8).trans ((if_pos c1_9).trans (zb_f (zb_0.mp c149)))))))))))).symm) (by rfl))
                      · refine go_s 2 rfl ?_
                        exact go_ret rfl rfl (am_qi q (by exact ((if_neg c1_0).trans ((if_neg c1_1).trans ((if_neg c1_2).trans ((if_neg c1_3).trans ((if_neg c1_4).trans ((if_neg c1_5).trans ((if_neg c1_6).trans ((if_neg c1_7).trans ((if_neg c1_8).trans ((if_pos c1_9).trans (zb_t (zb_ne.mp c149)))))))))))).symm) (by rfl))
                    · refine go_if (fun c1_10 => ?_) (fun c1_10 => ?_)
                      · refine go_s 3 rfl ?_
                        exact go_ret rfl rfl (am_qi q (by exact ((if_neg c1_0).trans ((if_neg c1_1).trans ((if_neg c1_2).trans ((if_neg c1_3).trans ((if_neg c1_4).trans ((if_neg c1_5).trans ((if_neg c1_6).trans ((if_neg c1_7).trans ((if_neg c1_8).trans ((if_neg c1_9).trans (if_pos c1_10))))))))))).symm) (by rfl))
                      · refine go_if (fun c1_11 => ?_) (fun c1_11 => ?_)
                        · refine go_s 3 rfl ?_
                          exact go_ret rfl rfl (am_qi q (by exact ((if_neg c1_0).trans ((if_neg c1_1).trans ((if_neg c1_2).trans ((if_neg c1_3).trans ((if_neg c1_4).trans ((if_neg c1_5).trans ((if_neg c1_6).trans ((if_neg c1_7).trans ((if_neg c1_8).trans ((if_neg c1_9).trans ((if_neg c1_10).trans (if_pos c1_11)))))))))))).symm) (by rfl))
                        · refine go_if (fun c1_12 => ?_) (fun c1_12 => ?_)
                          · refine go_s 3 rfl ?_
                            exact go_ret rfl rfl (am_qi q (by exact ((if_neg c1_0).trans ((if_neg c1_1).trans ((if_neg c1_2).trans ((if_neg c1_3).trans ((if_neg c1_4).trans ((if_neg c1_5).trans ((if_neg c1_6).trans ((if_neg c1_7).trans ((if_neg c1_8).trans ((if_neg c1_9).trans ((if_neg c1_10).trans ((if_neg c1_11).trans (if_pos c1_12))))))))))))).symm) (by rfl))
                          · refine go_if (fun c1_13 => ?_) (fun c1_13 => ?_)
                            · refine go_s 3 rfl ?_
                              exact go_ret rfl rfl (am_qi q (by exact ((if_neg c1_0).trans ((if_neg c1_1).trans ((if_neg c1_2).trans ((if_neg c1_3).trans ((if_neg c1_4).trans ((if_neg c1_5).trans ((if_neg c1_6).trans ((if_neg c1_7).trans ((if_neg c1_8).trans ((if_neg c1_9).trans ((if_neg c1_10).trans ((if_neg c1_11).trans ((if_neg c1_12).trans (if_pos c1_13)))))))))))))).symm) (by rfl))
                            · refine go_if (fun c1_14 => ?_) (fun c1_14 => ?_)
                              · refine go_s 3 rfl ?_
                                refine go_if (fun c135 => ?_) (fun c135 => ?_)
                                · refine go_s 2 rfl ?_
                                  exact go_ret rfl rfl (am_qi q (by exact ((if_neg c1_0).trans ((if_neg c1_1).trans ((if_neg c1_2).trans ((if_neg c1_3).trans ((if_neg c1_4).trans ((if_neg c1_5).trans ((if_neg c1_6).trans ((if_neg c1_7).trans ((if_neg c1_8).trans ((if_neg c1_9).trans ((if_neg c1_10).trans ((if_neg c1_11).trans ((if_neg c1_12).trans ((if_neg c1_13).trans ((if_pos c1_14).trans (zb_t c135)))))))))))))))).symm) (by rfl))
                                · refine go_s 1 rfl ?_
                                  exact go_ret rfl rfl (am_qi q (by exact ((if_neg c1_0).trans ((if_neg c1_1).trans ((if_neg c1_2).trans ((if_neg c1_3).trans ((if_neg c1_4).trans ((if_neg c1_5).trans ((if_neg c1_6).trans ((if_neg c1_7).trans ((if_neg c1_8).trans ((if_neg c1_9).trans ((if_neg c1_10).trans ((if_neg c1_11).trans ((if_neg c1_12).trans ((if_neg c1_13).trans ((if_pos c1_14).trans (zb_f c135)))))))))))))))).symm) (by rfl))
                              · refine go_if (fun c1_15 => ?_) (fun c1_15 => ?_)
                                · refine go_s 2 rfl ?_
                                  refine go_st kX12_reckoned_146 okX12_isBelow rfl rfl rfl (Nat.zero_le _) (Nat.zero_le _) ?_
                                  refine c_X12_isBelow ?_
                                  refine go_s 1 rfl ?_
                                  refine go_if (fun c149 => ?_) (fun c149 => ?_)
                                  · refine go_s 1 rfl ?_
                                    exact go_ret rfl rfl (am_qi q (by exact ((if_neg c1_0).trans ((if_neg c1_1).trans ((if_neg c1_2).trans ((if_neg c1_3).trans ((if_neg c1_4).trans ((if_neg c1_5).trans ((if_neg c1_6).trans ((if_neg c1_7).trans ((if_neg c1_8).trans ((if_neg c1_9).trans ((if_neg c1_10).trans ((if_neg c1_11).trans ((if_neg c1_12).trans ((if_neg c1_13).trans ((if_neg c1_14).trans ((if_pos c1_15).trans (zb_f (zb_0.mp c149)))))))))))))))))).symm) (by rfl))
                                  · refine go_s 2 rfl ?_
                                    exact go_ret rfl rfl (am_qi q (by exact ((if_neg c1_0).trans ((if_neg c1_1).trans ((if_neg c1_2).trans ((if_neg c1_3).trans ((if_neg c1_4).trans ((if_neg c1_5).trans ((if_neg c1_6).trans ((if_neg c1_7).trans ((if_neg c1_8).trans ((if_neg c1_9).trans ((if_neg c1_10).trans ((if_neg c1_11).trans ((if_neg c1_12).trans ((if_neg c1_13).trans ((if_neg c1_14).trans ((if_pos c1_15).trans (zb_t (zb_ne.mp c149)))))))))))))))))).symm) (by rfl))
                                · refine go_if (fun c1_16 => ?_) (fun c1_16 => ?_)
                                  · refine go_s 5 rfl ?_
                                    exact go_ret rfl rfl (am_qi q (by exact ((if_neg c1_0).trans ((if_neg c1_1).trans ((if_neg c1_2).trans ((if_neg c1_3).trans ((if_neg c1_4).trans ((if_neg c1_5).trans ((if_neg c1_6).trans ((if_neg c1_7).trans ((if_neg c1_8).trans ((if_neg c1_9).trans ((if_neg c1_10).trans ((if_neg c1_11).trans ((if_neg c1_12).trans ((if_neg c1_13).trans ((if_neg c1_14).trans ((if_neg c1_15).trans (if_pos c1_16))))))))))))))))).symm) (by rfl))
                                  · refine go_if (fun c1_17 => ?_) (fun c1_17 => ?_)
                                    · refine go_s 5 rfl ?_
                                      exact go_ret rfl rfl (am_qi q (by exact ((if_neg c1_0).trans ((if_neg c1_1).trans ((if_neg c1_2).trans ((if_neg c1_3).trans ((if_neg c1_4).trans ((if_neg c1_5).trans ((if_neg c1_6).trans ((if_neg c1_7).trans ((if_neg c1_8).trans ((if_neg c1_9).trans ((if_neg c1_10).trans ((if_neg c1_11).trans ((if_neg c1_12).trans ((if_neg c1_13).trans ((if_neg c1_14).trans ((if_neg c1_15).trans ((if_neg c1_16).trans (if_pos c1_17)))))))))))))))))).symm) (by rfl))
                                    · refine go_if (fun c1_18 => ?_) (fun c1_18 => ?_)
                                      · refine go_s 5 rfl ?_
                                        exact go_ret rfl rfl (am_qi q (by exact ((if_neg c1_0).trans ((if_neg c1_1).trans ((if_neg c1_2).trans ((if_neg c1_3).trans ((if_neg c1_4).trans ((if_neg c1_5).trans ((if_neg c1_6).trans ((if_neg c1_7).trans ((if_neg c1_8).trans ((if_neg c1_9).trans ((if_neg c1_10).trans ((if_neg c1_11).trans ((if_neg c1_12).trans ((if_neg c1_13).trans ((if_neg c1_14).trans ((if_neg c1_15).trans ((if_neg c1_16).trans ((if_neg c1_17).trans (if_pos c1_18))))))))))))))))))).symm) (by rfl))
                                      · refine go_s 2 rfl ?_
                                        refine go_st kX12_reckoned_146 okX12_isBelow rfl rfl rfl (Nat.zero_le _) (Nat.zero_le _) ?_
                                        refine c_X12_isBelow ?_
                                        refine go_s 1 rfl ?_
                                        refine go_if (fun c149 => ?_) (fun c149 => ?_)
                                        · refine go_s 1 rfl ?_
                                          exact go_ret rfl rfl (am_qi q (by exact ((if_neg c1_0).trans ((if_neg c1_1).trans ((if_neg c1_2).trans ((if_neg c1_3).trans ((if_neg c1_4).trans ((if_neg c1_5).trans ((if_neg c1_6).trans ((if_neg c1_7).trans ((if_neg c1_8).trans ((if_neg c1_9).trans ((if_neg c1_10).trans ((if_neg c1_11).trans ((if_neg c1_12).trans ((if_neg c1_13).trans ((if_neg c1_14).trans ((if_neg c1_15).trans ((if_neg c1_16).trans ((if_neg c1_17).trans ((if_neg c1_18).trans (zb_f (zb_0.mp c149))))))))))))))))))))).symm) (by rfl))
                                        · refine go_s 2 rfl ?_
                                          exact go_ret rfl rfl (am_qi q (by exact ((if_neg c1_0).trans ((if_neg c1_1).trans ((if_neg c1_2).trans ((if_neg c1_3).trans ((if_neg c1_4).trans ((if_neg c1_5).trans ((if_neg c1_6).trans ((if_neg c1_7).trans ((if_neg c1_8).trans ((if_neg c1_9).trans ((if_neg c1_10).trans ((if_neg c1_11).trans ((if_neg c1_12).trans ((if_neg c1_13).trans ((if_neg c1_14).trans ((if_neg c1_15).trans ((if_neg c1_16).trans ((if_neg c1_17).trans ((if_neg c1_18).trans (zb_t (zb_ne.mp c149))))))))))))))))))))).symm) (by rfl))
def am_md (f o a b : Int32) : Int32 := if f = 0 then (if o = 1 then a - b else a + b) else if f = 1 then a <<< (b &&& 31 &&& 31) else if f = 2 then zb (a < b) else if f = 3 then zb (a + (-2147483648) < b + (-2147483648)) else if f = 4 then a ^^^ b else if f = 5 then (if o = 1 then a >>> (b &&& 31 &&& 31) else (a.toUInt32 >>> ((b &&& 31).toUInt32 &&& Int32.toUInt32 31)).toInt32) else if f = 6 then a ||| b else a &&& b
theorem c_X12_made {D : Nat → Nat → Int32} {e : am_E} {kc ks : Nat} {Q : am_Q} {f o a b : Int32}  (q : Q (some (.int (am_md f o a b))) (hp D e)) : am_Go (mX12_made, 0, am_ent mX12_made [.int f, .int o, .int a, .int b], [], hp D e, kc, ks, Q) := by
  refine go_s 2 rfl ?_
  refine go_if (fun c1_0 => ?_) (fun c1_0 => ?_)
  · refine go_s 3 rfl ?_
    refine go_if (fun c46 => ?_) (fun c46 => ?_)
    · refine go_s 4 rfl ?_
      exact go_ret rfl rfl (am_qi q (by simp_all [am_md, zb]) (by rfl))
    · refine go_s 3 rfl ?_
      exact go_ret rfl rfl (am_qi q (by simp_all [am_md, zb]) (by rfl))
  · refine go_if (fun c1_1 => ?_) (fun c1_1 => ?_)
    · refine go_s 5 rfl ?_
      exact go_ret rfl rfl (am_qi q (by simp_all [am_md, zb]) (by rfl))
    · refine go_if (fun c1_2 => ?_) (fun c1_2 => ?_)
      · refine go_s 3 rfl ?_
        refine go_if (fun c68 => ?_) (fun c68 => ?_)
        · refine go_s 2 rfl ?_
          exact go_ret rfl rfl (am_qi q (by simp_all [am_md, zb]) (by rfl))
        · refine go_s 1 rfl ?_
          exact go_ret rfl rfl (am_qi q (by simp_all [am_md, zb]) (by rfl))
      · refine go_if (fun c1_3 => ?_) (fun c1_3 => ?_)
        · refine go_s 2 rfl ?_
          refine go_st kX12_made_79 okX12_isBelow rfl rfl rfl (Nat.zero_le _) (Nat.zero_le _) ?_
          refine c_X12_isBelow ?_
          refine go_s 1 rfl ?_
          refine go_if (fun c82 => ?_) (fun c82 => ?_)
          · refine go_s 1 rfl ?_
            exact go_ret rfl rfl (am_qi q (by simp_all [am_md, zb]) (by rfl))
          · refine go_s 2 rfl ?_
            exact go_ret rfl rfl (am_qi q (by simp_all [am_md, zb]) (by rfl))
        · refine go_if (fun c1_4 => ?_) (fun c1_4 => ?_)
          · refine go_s 3 rfl ?_
            exact go_ret rfl rfl (am_qi q (by simp_all [am_md, zb]) (by rfl))
          · refine go_if (fun c1_5 => ?_) (fun c1_5 => ?_)
            · refine go_s 3 rfl ?_
              refine go_if (fun c97 => ?_) (fun c97 => ?_)
              · refine go_s 6 rfl ?_
                exact go_ret rfl rfl (am_qi q (by simp_all [am_md, zb]) (by rfl))
              · refine go_s 5 rfl ?_
                exact go_ret rfl rfl (am_qi q (by simp_all [am_md, zb]) (by rfl))
            · refine go_if (fun c1_6 => ?_) (fun c1_6 => ?_)
              · refine go_s 3 rfl ?_
                exact go_ret rfl rfl (am_qi q (by simp_all [am_md, zb]) (by rfl))
              · refine go_s 3 rfl ?_
                exact go_ret rfl rfl (am_qi q (by simp_all [am_md, zb]) (by rfl))
def am_hd (f a b : Int32) : Int32 := if f = 0 then zb (a = b) else if f = 1 then zb (¬ a = b) else if f = 2 then zb (¬ a + (-2147483648) < b + (-2147483648)) else if f = 3 then zb (¬ a + (-2147483648) < b + (-2147483648)) else if f = 4 then zb (a < b) else if f = 5 then zb (¬ a < b) else if f = 6 then zb (a + (-2147483648) < b + (-2147483648)) else zb (¬ a + (-2147483648) < b + (-2147483648))
theorem c_X12_holds {D : Nat → Nat → Int32} {e : am_E} {kc ks : Nat} {Q : am_Q} {f a b : Int32}  (q : Q (some (.int (am_hd f a b))) (hp D e)) : am_Go (mX12_holds, 0, am_ent mX12_holds [.int f, .int a, .int b], [], hp D e, kc, ks, Q) := by
  refine go_s 2 rfl ?_
  refine go_if (fun c1_0 => ?_) (fun c1_0 => ?_)
  · refine go_s 3 rfl ?_
    refine go_if (fun c46 => ?_) (fun c46 => ?_)
    · refine go_s 2 rfl ?_
      exact go_retz rfl rfl (by first | exact zb_01 | exact Or.inl rfl | exact Or.inr rfl) (am_qi q (by exact ((if_pos c1_0).trans (zb_t c46)).symm) (by rfl))
    · refine go_s 1 rfl ?_
      exact go_retz rfl rfl (by first | exact zb_01 | exact Or.inl rfl | exact Or.inr rfl) (am_qi q (by exact ((if_pos c1_0).trans (zb_f c46)).symm) (by rfl))
  · refine go_if (fun c1_1 => ?_) (fun c1_1 => ?_)
    · refine go_s 3 rfl ?_
      refine go_if (fun c57 => ?_) (fun c57 => ?_)
      · refine go_s 1 rfl ?_
        exact go_retz rfl rfl (by first | exact zb_01 | exact Or.inl rfl | exact Or.inr rfl) (am_qi q (by exact ((if_neg c1_0).trans ((if_pos c1_1).trans (zb_f (fun z => z c57)))).symm) (by rfl))
      · refine go_s 2 rfl ?_
        exact go_retz rfl rfl (by first | exact zb_01 | exact Or.inl rfl | exact Or.inr rfl) (am_qi q (by exact ((if_neg c1_0).trans ((if_pos c1_1).trans (zb_t c57))).symm) (by rfl))
    · refine go_if (fun c1_2 => ?_) (fun c1_2 => ?_)
      · refine go_s 2 rfl ?_
        refine go_st kX12_holds_96 okX12_isBelow rfl rfl rfl (Nat.zero_le _) (Nat.zero_le _) ?_
        refine c_X12_isBelow ?_
        refine go_s 1 rfl ?_
        refine go_if (fun c99 => ?_) (fun c99 => ?_)
        · refine go_s 2 rfl ?_
          exact go_retz rfl rfl (by first | exact zb_01 | exact Or.inl rfl | exact Or.inr rfl) (am_qi q (by exact ((if_neg c1_0).trans ((if_neg c1_1).trans ((if_pos c1_2).trans (zb_t (zb_0.mp c99))))).symm) (by rfl))
        · refine go_s 1 rfl ?_
          exact go_retz rfl rfl (by first | exact zb_01 | exact Or.inl rfl | exact Or.inr rfl) (am_qi q (by exact ((if_neg c1_0).trans ((if_neg c1_1).trans ((if_pos c1_2).trans (zb_f (fun y => y (zb_ne.mp c99)))))).symm) (by rfl))
      · refine go_if (fun c1_3 => ?_) (fun c1_3 => ?_)
        · refine go_s 2 rfl ?_
          refine go_st kX12_holds_96 okX12_isBelow rfl rfl rfl (Nat.zero_le _) (Nat.zero_le _) ?_
          refine c_X12_isBelow ?_
          refine go_s 1 rfl ?_
          refine go_if (fun c99 => ?_) (fun c99 => ?_)
          · refine go_s 2 rfl ?_
            exact go_retz rfl rfl (by first | exact zb_01 | exact Or.inl rfl | exact Or.inr rfl) (am_qi q (by exact ((if_neg c1_0).trans ((if_neg c1_1).trans ((if_neg c1_2).trans ((if_pos c1_3).trans (zb_t (zb_0.mp c99)))))).symm) (by rfl))
          · refine go_s 1 rfl ?_
            exact go_retz rfl rfl (by first | exact zb_01 | exact Or.inl rfl | exact Or.inr rfl) (am_qi q (by exact ((if_neg c1_0).trans ((if_neg c1_1).trans ((if_neg c1_2).trans ((if_pos c1_3).trans (zb_f (fun y => y (zb_ne.mp c99))))))).symm) (by rfl))
        · refine go_if (fun c1_4 => ?_) (fun c1_4 => ?_)
          · refine go_s 3 rfl ?_
            refine go_if (fun c68 => ?_) (fun c68 => ?_)
            · refine go_s 2 rfl ?_
              exact go_retz rfl rfl (by first | exact zb_01 | exact Or.inl rfl | exact Or.inr rfl) (am_qi q (by exact ((if_neg c1_0).trans ((if_neg c1_1).trans ((if_neg c1_2).trans ((if_neg c1_3).trans ((if_pos c1_4).trans (zb_t c68)))))).symm) (by rfl))
            · refine go_s 1 rfl ?_
              exact go_retz rfl rfl (by first | exact zb_01 | exact Or.inl rfl | exact Or.inr rfl) (am_qi q (by exact ((if_neg c1_0).trans ((if_neg c1_1).trans ((if_neg c1_2).trans ((if_neg c1_3).trans ((if_pos c1_4).trans (zb_f c68)))))).symm) (by rfl))
          · refine go_if (fun c1_5 => ?_) (fun c1_5 => ?_)
            · refine go_s 3 rfl ?_
              refine go_if (fun c79 => ?_) (fun c79 => ?_)
              · refine go_s 1 rfl ?_
                exact go_retz rfl rfl (by first | exact zb_01 | exact Or.inl rfl | exact Or.inr rfl) (am_qi q (by exact ((if_neg c1_0).trans ((if_neg c1_1).trans ((if_neg c1_2).trans ((if_neg c1_3).trans ((if_neg c1_4).trans ((if_pos c1_5).trans (zb_f (fun z => z c79)))))))).symm) (by rfl))
              · refine go_s 2 rfl ?_
                exact go_retz rfl rfl (by first | exact zb_01 | exact Or.inl rfl | exact Or.inr rfl) (am_qi q (by exact ((if_neg c1_0).trans ((if_neg c1_1).trans ((if_neg c1_2).trans ((if_neg c1_3).trans ((if_neg c1_4).trans ((if_pos c1_5).trans (zb_t c79))))))).symm) (by rfl))
            · refine go_if (fun c1_6 => ?_) (fun c1_6 => ?_)
              · refine go_s 2 rfl ?_
                refine go_st kX12_holds_90 okX12_isBelow rfl rfl rfl (Nat.zero_le _) (Nat.zero_le _) ?_
                refine c_X12_isBelow ?_
                exact go_retz rfl rfl (by first | exact zb_01 | exact Or.inl rfl | exact Or.inr rfl) (am_qi q (by exact ((if_neg c1_0).trans ((if_neg c1_1).trans ((if_neg c1_2).trans ((if_neg c1_3).trans ((if_neg c1_4).trans ((if_neg c1_5).trans (if_pos c1_6))))))).symm) (by rfl))
              · refine go_s 2 rfl ?_
                refine go_st kX12_holds_96 okX12_isBelow rfl rfl rfl (Nat.zero_le _) (Nat.zero_le _) ?_
                refine c_X12_isBelow ?_
                refine go_s 1 rfl ?_
                refine go_if (fun c99 => ?_) (fun c99 => ?_)
                · refine go_s 2 rfl ?_
                  exact go_retz rfl rfl (by first | exact zb_01 | exact Or.inl rfl | exact Or.inr rfl) (am_qi q (by exact ((if_neg c1_0).trans ((if_neg c1_1).trans ((if_neg c1_2).trans ((if_neg c1_3).trans ((if_neg c1_4).trans ((if_neg c1_5).trans ((if_neg c1_6).trans (zb_t (zb_0.mp c99))))))))).symm) (by rfl))
                · refine go_s 1 rfl ?_
                  exact go_retz rfl rfl (by first | exact zb_01 | exact Or.inl rfl | exact Or.inr rfl) (am_qi q (by exact ((if_neg c1_0).trans ((if_neg c1_1).trans ((if_neg c1_2).trans ((if_neg c1_3).trans ((if_neg c1_4).trans ((if_neg c1_5).trans ((if_neg c1_6).trans (zb_f (fun y => y (zb_ne.mp c99)))))))))).symm) (by rfl))
theorem c_X12_isCell {D : Nat → Nat → Int32} {e : am_E} {kc ks : Nat} {Q : am_Q} {n : Int32}  (q : Q (some (.int (zb (n - n / 4 * 4 = 0 ∧ ¬ n < 65536 ∧ ¬ 65788 < n)))) (hp D e)) : am_Go (mX12_isCell, 0, am_ent mX12_isCell [.int n], [], hp D e, kc, ks, Q) := by
  refine go_s 2 rfl ?_
  refine go_m rfl rfl (by decide) ?_
  refine go_s 1 rfl ?_
  refine go_if (fun c3 => ?_) (fun c3 => ?_)
  · refine go_s 3 rfl ?_
    refine go_st kX12_isCell_13 okX12_in rfl rfl rfl (Nat.zero_le _) (Nat.zero_le _) ?_
    refine c_X12_in ?_
    refine go_s 1 rfl ?_
    refine go_if (fun c16 => ?_) (fun c16 => ?_)
    · refine go_s 1 rfl ?_
      exact go_retz rfl rfl (by first | exact Or.inl rfl | exact Or.inr rfl | exact zb_01) (am_qi q (by simp_all [zb]) (by rfl))
    · refine go_s 2 rfl ?_
      exact go_retz rfl rfl (by first | exact Or.inl rfl | exact Or.inr rfl | exact zb_01) (am_qi q (by simp_all [zb]) (by rfl))
  · refine go_s 1 rfl ?_
    exact go_retz rfl rfl (by first | exact Or.inl rfl | exact Or.inr rfl | exact zb_01) (am_qi q (by simp_all [zb]) (by rfl))
