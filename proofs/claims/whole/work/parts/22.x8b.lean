def am_calc (s o x y : Int32) : Int32 := if s = 0 then (if o = 0 then x + y else x - y) else if s = 1 then x <<< (y &&& 31 &&& 31) else if s = 2 then zb (x < y) else if s = 3 then zb (x ^^^ (-2147483648) < y ^^^ (-2147483648)) else if s = 4 then x ^^^ y else if s = 5 then (if o = 0 then (x.toUInt32 >>> ((y &&& 31).toUInt32 &&& Int32.toUInt32 31)).toInt32 else x >>> (y &&& 31 &&& 31)) else if s = 6 then x ||| y else x &&& y
def am_brs (s x y : Int32) : Int32 := if s = 0 then zb (x = y) else if s = 1 then zb (¬ x = y) else if s = 4 then zb (x < y) else if s = 5 then zb (¬ x < y) else if s = 6 then zb (x ^^^ (-2147483648) < y ^^^ (-2147483648)) else zb (¬ x ^^^ (-2147483648) < y ^^^ (-2147483648))
def am_num (D : Nat → Nat → Int32) (s : Int32) : Int32 := if 0 ≤ s ∧ s < D 1 6 then D 2 s.toNatClampNeg else -1
def am_fa (D : Nat → Nat → Int32) (s : Int32) : Int32 := if 0 ≤ s ∧ s < D 1 6 then D 3 s.toNatClampNeg else 0
def am_fb (D : Nat → Nat → Int32) (s : Int32) : Int32 := if 0 ≤ s ∧ s < D 1 6 then D 4 s.toNatClampNeg else 0
def am_fc (D : Nat → Nat → Int32) (s : Int32) : Int32 := if 0 ≤ s ∧ s < D 1 6 then D 5 s.toNatClampNeg else 0
def am_sta (D : Nat → Nat → Int32) (f : Int32) : Int32 := if 0 ≤ f ∧ f < D 1 5 then D 6 f.toNatClampNeg else 0
def am_end (D : Nat → Nat → Int32) (f : Int32) : Int32 := if 0 ≤ f ∧ f < D 1 5 then D 6 (f + 1).toNatClampNeg else 0
def am_lof (D : Nat → Nat → Int32) (f : Int32) : Int32 := if 0 ≤ f ∧ f < D 1 5 then D 6 (f + 1).toNatClampNeg - D 6 f.toNatClampNeg else 0
def am_spo (D : Nat → Nat → Int32) (f p : Int32) : Int32 := if ¬ f < 0 ∧ f < D 1 5 ∧ ¬ p < 0 ∧ D 6 f.toNatClampNeg + p < D 6 (f + 1).toNatClampNeg then D 6 f.toNatClampNeg + p else -1
def am_pto (D : Nat → Nat → Int32) (s : Int32) : Int32 := if ¬ am_num D s < 22 ∧ ¬ 27 < am_num D s then am_fc D s else if am_num D s = 28 then am_fa D s else -1
def am_fto (D : Nat → Nat → Int32) (s : Int32) : Int32 := if am_num D s = 29 ∨ am_num D s = 30 then am_fa D s else if am_num D s = 32 then am_fb D s else -1
def am_kA (n : Int32) : Int32 := if 0 ≤ n ∧ n < 35 then am_t0.getD n.toNatClampNeg 0 else 0
def am_kB (n : Int32) : Int32 := if 0 ≤ n ∧ n < 35 then am_t1.getD n.toNatClampNeg 0 else 0
def am_kC (n : Int32) : Int32 := if 0 ≤ n ∧ n < 35 then am_t2.getD n.toNatClampNeg 0 else 0
theorem c_X8_calculate {D : Nat → Nat → Int32} {e : am_E} {kc ks : Nat} {Q : am_Q} {s o x y : Int32}  (q : Q (some (.int (am_calc s o x y))) (hp D e)) : am_Go (mX8_calculate, 0, am_ent mX8_calculate [.int s, .int o, .int x, .int y], [], hp D e, kc, ks, Q) := by
  refine go_s 2 rfl ?_
  refine go_if (fun c1_0 => ?_) (fun c1_0 => ?_)
  · refine go_s 2 rfl ?_
    refine go_if (fun c45 => ?_) (fun c45 => ?_)
    · refine go_s 3 rfl ?_
      exact go_ret rfl rfl (am_qi q (by simp_all [am_calc, zb]) (by rfl))
    · refine go_s 4 rfl ?_
      exact go_ret rfl rfl (am_qi q (by simp_all [am_calc, zb]) (by rfl))
  · refine go_if (fun c1_1 => ?_) (fun c1_1 => ?_)
    · refine go_s 5 rfl ?_
      exact go_ret rfl rfl (am_qi q (by simp_all [am_calc, zb]) (by rfl))
    · refine go_if (fun c1_2 => ?_) (fun c1_2 => ?_)
      · refine go_s 3 rfl ?_
        refine go_if (fun c67 => ?_) (fun c67 => ?_)
        · refine go_s 2 rfl ?_
          exact go_ret rfl rfl (am_qi q (by simp_all [am_calc, zb]) (by rfl))
        · refine go_s 1 rfl ?_
          exact go_ret rfl rfl (am_qi q (by simp_all [am_calc, zb]) (by rfl))
      · refine go_if (fun c1_3 => ?_) (fun c1_3 => ?_)
        · refine go_s 2 rfl ?_
          refine go_st kX8_calculate_78 okX8_isBelow rfl rfl rfl (Nat.zero_le _) (Nat.zero_le _) ?_
          refine c_X8_isBelow ?_
          refine go_s 1 rfl ?_
          refine go_if (fun c81 => ?_) (fun c81 => ?_)
          · refine go_s 1 rfl ?_
            exact go_ret rfl rfl (am_qi q (by simp_all [am_calc, zb]) (by rfl))
          · refine go_s 2 rfl ?_
            exact go_ret rfl rfl (am_qi q (by simp_all [am_calc, zb]) (by rfl))
        · refine go_if (fun c1_4 => ?_) (fun c1_4 => ?_)
          · refine go_s 3 rfl ?_
            exact go_ret rfl rfl (am_qi q (by simp_all [am_calc, zb]) (by rfl))
          · refine go_if (fun c1_5 => ?_) (fun c1_5 => ?_)
            · refine go_s 2 rfl ?_
              refine go_if (fun c95 => ?_) (fun c95 => ?_)
              · refine go_s 5 rfl ?_
                exact go_ret rfl rfl (am_qi q (by simp_all [am_calc, zb]) (by rfl))
              · refine go_s 6 rfl ?_
                exact go_ret rfl rfl (am_qi q (by simp_all [am_calc, zb]) (by rfl))
            · refine go_if (fun c1_6 => ?_) (fun c1_6 => ?_)
              · refine go_s 3 rfl ?_
                exact go_ret rfl rfl (am_qi q (by simp_all [am_calc, zb]) (by rfl))
              · refine go_s 3 rfl ?_
                exact go_ret rfl rfl (am_qi q (by simp_all [am_calc, zb]) (by rfl))
theorem c_X8_branches {D : Nat → Nat → Int32} {e : am_E} {kc ks : Nat} {Q : am_Q} {s x y : Int32}  (q : Q (some (.int (am_brs s x y))) (hp D e)) : am_Go (mX8_branches, 0, am_ent mX8_branches [.int s, .int x, .int y], [], hp D e, kc, ks, Q) := by
  refine go_s 2 rfl ?_
  refine go_if (fun c1_0 => ?_) (fun c1_0 => ?_)
  · refine go_s 3 rfl ?_
    refine go_if (fun c46 => ?_) (fun c46 => ?_)
    · refine go_s 2 rfl ?_
      exact go_retz rfl rfl (by first | exact Or.inl rfl | exact Or.inr rfl | exact zb_01) (am_qi q (by simp_all [am_brs, zb]) (by rfl))
    · refine go_s 1 rfl ?_
      exact go_retz rfl rfl (by first | exact Or.inl rfl | exact Or.inr rfl | exact zb_01) (am_qi q (by simp_all [am_brs, zb]) (by rfl))
  · refine go_if (fun c1_1 => ?_) (fun c1_1 => ?_)
    · refine go_s 3 rfl ?_
      refine go_if (fun c57 => ?_) (fun c57 => ?_)
      · refine go_s 1 rfl ?_
        exact go_retz rfl rfl (by first | exact Or.inl rfl | exact Or.inr rfl | exact zb_01) (am_qi q (by simp_all [am_brs, zb]) (by rfl))
      · refine go_s 2 rfl ?_
        exact go_retz rfl rfl (by first | exact Or.inl rfl | exact Or.inr rfl | exact zb_01) (am_qi q (by simp_all [am_brs, zb]) (by rfl))
    · refine go_if (fun c1_2 => ?_) (fun c1_2 => ?_)
      · refine go_s 2 rfl ?_
        refine go_st kX8_branches_96 okX8_isBelow rfl rfl rfl (Nat.zero_le _) (Nat.zero_le _) ?_
        refine c_X8_isBelow ?_
        refine go_s 1 rfl ?_
        refine go_if (fun c99 => ?_) (fun c99 => ?_)
        · refine go_s 2 rfl ?_
          exact go_retz rfl rfl (by first | exact Or.inl rfl | exact Or.inr rfl | exact zb_01) (am_qi q (by simp_all [am_brs, zb]) (by rfl))
        · refine go_s 1 rfl ?_
          exact go_retz rfl rfl (by first | exact Or.inl rfl | exact Or.inr rfl | exact zb_01) (am_qi q (by simp_all [am_brs, zb]) (by rfl))
      · refine go_if (fun c1_3 => ?_) (fun c1_3 => ?_)
        · refine go_s 2 rfl ?_
          refine go_st kX8_branches_96 okX8_isBelow rfl rfl rfl (Nat.zero_le _) (Nat.zero_le _) ?_
          refine c_X8_isBelow ?_
          refine go_s 1 rfl ?_
          refine go_if (fun c99 => ?_) (fun c99 => ?_)
          · refine go_s 2 rfl ?_
            exact go_retz rfl rfl (by first | exact Or.inl rfl | exact Or.inr rfl | exact zb_01) (am_qi q (by simp_all [am_brs, zb]) (by rfl))
          · refine go_s 1 rfl ?_
            exact go_retz rfl rfl (by first | exact Or.inl rfl | exact Or.inr rfl | exact zb_01) (am_qi q (by simp_all [am_brs, zb]) (by rfl))
        · refine go_if (fun c1_4 => ?_) (fun c1_4 => ?_)
          · refine go_s 3 rfl ?_
            refine go_if (fun c68 => ?_) (fun c68 => ?_)
            · refine go_s 2 rfl ?_
              exact go_retz rfl rfl (by first | exact Or.inl rfl | exact Or.inr rfl | exact zb_01) (am_qi q (by simp_all [am_brs, zb]) (by rfl))
            · refine go_s 1 rfl ?_
              exact go_retz rfl rfl (by first | exact Or.inl rfl | exact Or.inr rfl | exact zb_01) (am_qi q (by simp_all [am_brs, zb]) (by rfl))
          · refine go_if (fun c1_5 => ?_) (fun c1_5 => ?_)
            · refine go_s 3 rfl ?_
              refine go_if (fun c79 => ?_) (fun c79 => ?_)
              · refine go_s 1 rfl ?_
                exact go_retz rfl rfl (by first | exact Or.inl rfl | exact Or.inr rfl | exact zb_01) (am_qi q (by simp_all [am_brs, zb]) (by rfl))
              · refine go_s 2 rfl ?_
                exact go_retz rfl rfl (by first | exact Or.inl rfl | exact Or.inr rfl | exact zb_01) (am_qi q (by simp_all [am_brs, zb]) (by rfl))
            · refine go_if (fun c1_6 => ?_) (fun c1_6 => ?_)
              · refine go_s 2 rfl ?_
                refine go_st kX8_branches_90 okX8_isBelow rfl rfl rfl (Nat.zero_le _) (Nat.zero_le _) ?_
                refine c_X8_isBelow ?_
                exact go_retz rfl rfl (by first | exact Or.inl rfl | exact Or.inr rfl | exact zb_01) (am_qi q (by simp_all [am_brs, zb]) (by rfl))
              · refine go_s 2 rfl ?_
                refine go_st kX8_branches_96 okX8_isBelow rfl rfl rfl (Nat.zero_le _) (Nat.zero_le _) ?_
                refine c_X8_isBelow ?_
                refine go_s 1 rfl ?_
                refine go_if (fun c99 => ?_) (fun c99 => ?_)
                · refine go_s 2 rfl ?_
                  exact go_retz rfl rfl (by first | exact Or.inl rfl | exact Or.inr rfl | exact zb_01) (am_qi q (by simp_all [am_brs, zb]) (by rfl))
                · refine go_s 1 rfl ?_
                  exact go_retz rfl rfl (by first | exact Or.inl rfl | exact Or.inr rfl | exact zb_01) (am_qi q (by simp_all [am_brs, zb]) (by rfl))
theorem c_X8_registersWord {D : Nat → Nat → Int32} {e : am_E} {kc ks : Nat} {Q : am_Q} {n a b c : Int32}  (q : Q (some (.int ((if am_othz n = 0 then 0 else 1073741824) ||| c <<< (20 : Int32) ||| b <<< (15 : Int32) ||| am_sel n <<< (12 : Int32) ||| a <<< (7 : Int32) ||| (51 : Int32)))) (hp D e)) : am_Go (mX8_registersWord, 0, am_ent mX8_registersWord [.int n, .int a, .int b, .int c], [], hp D e, kc, ks, Q) := by
  refine go_s 1 rfl ?_
  refine go_st kX8_registersWord_1 okX8_isOther rfl rfl rfl (Nat.zero_le _) (Nat.zero_le _) ?_
  refine c_X8_isOther ?_
  refine go_s 1 rfl ?_
  refine go_if (fun c4 => ?_) (fun c4 => ?_)
  · refine go_s 12 rfl ?_
    refine go_st kX8_registersWord_28 okX8_selectorOf rfl rfl rfl (Nat.zero_le _) (Nat.zero_le _) ?_
    refine c_X8_selectorOf ?_
    refine go_s 9 rfl ?_
    exact go_ret rfl rfl (am_qi q (by first | (rw [if_neg c4]; rfl) | (rw [if_pos c4]; rfl)) (by rfl))
  · refine go_s 13 rfl ?_
    refine go_st kX8_registersWord_28 okX8_selectorOf rfl rfl rfl (Nat.zero_le _) (Nat.zero_le _) ?_
    refine c_X8_selectorOf ?_
    refine go_s 9 rfl ?_
    exact go_ret rfl rfl (am_qi q (by first | (rw [if_neg c4]; rfl) | (rw [if_pos c4]; rfl)) (by rfl))
theorem c_X8_immediateWord {D : Nat → Nat → Int32} {e : am_E} {kc ks : Nat} {Q : am_Q} {n a b c : Int32}  (q : Q (some (.int ((if am_othz n = 0 then 0 else 1073741824) ||| c <<< (20 : Int32) ||| b <<< (15 : Int32) ||| am_sel n <<< (12 : Int32) ||| a <<< (7 : Int32) ||| (19 : Int32)))) (hp D e)) : am_Go (mX8_immediateWord, 0, am_ent mX8_immediateWord [.int n, .int a, .int b, .int c], [], hp D e, kc, ks, Q) := by
  refine go_s 1 rfl ?_
  refine go_st kX8_immediateWord_1 okX8_isOther rfl rfl rfl (Nat.zero_le _) (Nat.zero_le _) ?_
  refine c_X8_isOther ?_
  refine go_s 1 rfl ?_
  refine go_if (fun c4 => ?_) (fun c4 => ?_)
  · refine go_s 12 rfl ?_
    refine go_st kX8_immediateWord_28 okX8_selectorOf rfl rfl rfl (Nat.zero_le _) (Nat.zero_le _) ?_
    refine c_X8_selectorOf ?_
    refine go_s 9 rfl ?_
    exact go_ret rfl rfl (am_qi q (by first | (rw [if_neg c4]; rfl) | (rw [if_pos c4]; rfl)) (by rfl))
  · refine go_s 13 rfl ?_
    refine go_st kX8_immediateWord_28 okX8_selectorOf rfl rfl rfl (Nat.zero_le _) (Nat.zero_le _) ?_
    refine c_X8_selectorOf ?_
    refine go_s 9 rfl ?_
    exact go_ret rfl rfl (am_qi q (by first | (rw [if_neg c4]; rfl) | (rw [if_pos c4]; rfl)) (by rfl))
theorem c_X8_branchWord {D : Nat → Nat → Int32} {e : am_E} {kc ks : Nat} {Q : am_Q} {n a b o : Int32}  (q : Q (some (.int (((o >>> (12 : Int32) &&& (1 : Int32)) <<< (31 : Int32) ||| (o >>> (5 : Int32) &&& (63 : Int32)) <<< (25 : Int32)) ||| b <<< (20 : Int32) ||| a <<< (15 : Int32) ||| am_sel n <<< (12 : Int32) ||| ((o >>> (1 : Int32) &&& (15 : Int32)) <<< (8 : Int32) ||| (o >>> (11 : Int32) &&& (1 : Int32)) <<< (7 : Int32)) ||| (99 : Int32)))) (hp D e)) : am_Go (mX8_branchWord, 0, am_ent mX8_branchWord [.int n, .int a, .int b, .int o], [], hp D e, kc, ks, Q) := by
  refine go_s 42 rfl ?_
  refine go_st kX8_branchWord_55 okX8_selectorOf rfl rfl rfl (Nat.zero_le _) (Nat.zero_le _) ?_
  refine c_X8_selectorOf ?_
  refine go_s 7 rfl ?_
  exact go_ret rfl rfl (am_qi q (by rfl) (by rfl))
