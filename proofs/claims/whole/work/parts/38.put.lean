def am_su (k v : Int32) : Int32 := if k = 1 then zb (¬ v < 0 ∧ v < 32 ∧ ¬ v = 5) else if k = 2 then zb (¬ v < -2048 ∧ ¬ 2047 < v) else if k = 3 then zb (¬ v < 0 ∧ ¬ 31 < v) else if k = 4 then zb (¬ v < 0 ∧ ¬ 1048575 < v) else if k = 5 then zb (¬ v < 0 ∧ v < 40) else if k = 6 then zb (¬ v < 0 ∧ v < 24) else 1
theorem am_su_01 (k v : Int32) : am_su k v = 0 ∨ am_su k v = 1 := by
  unfold am_su
  repeat' split
  all_goals first | exact zb_01 | exact Or.inr rfl
def am_cp (D : Nat → Nat → Int32) (o a b n : Nat) : Nat → Nat → Int32 := fun i j => if i = o then va_cpy (D o) (D o) a b n j else D i j
def am_mkr (D : Nat → Nat → Int32) (x : Int32) : Nat → Nat → Int32 := am_cp (am_cp (am_cp (am_cp D 2 x.toNatClampNeg (x + 1).toNatClampNeg (D 1 6 - x).toNatClampNeg) 3 x.toNatClampNeg (x + 1).toNatClampNeg (D 1 6 - x).toNatClampNeg) 4 x.toNatClampNeg (x + 1).toNatClampNeg (D 1 6 - x).toNatClampNeg) 5 x.toNatClampNeg (x + 1).toNatClampNeg (D 1 6 - x).toNatClampNeg
theorem c_X9_suits {D : Nat → Nat → Int32} {e : am_E} {kc ks : Nat} {Q : am_Q} {k v : Int32}  (q : Q (some (.int (am_su k v))) (hp D e)) : am_Go (mX9_suits, 0, am_ent mX9_suits [.int k, .int v], [], hp D e, kc, ks, Q) := by
  refine go_s 2 rfl ?_
  refine go_if (fun c1_0 => ?_) (fun c1_0 => ?_)
  · refine go_s 2 rfl ?_
    refine go_if (fun c41 => ?_) (fun c41 => ?_)
    · refine go_s 1 rfl ?_
      exact go_retz rfl rfl (by first | exact Or.inl rfl | exact Or.inr rfl) (am_qi q (by exact ((if_pos c1_0).trans (zb_f (fun z => absurd c41 z.1))).symm) (by rfl))
    · refine go_s 3 rfl ?_
      refine go_if (fun c47 => ?_) (fun c47 => ?_)
      · refine go_s 3 rfl ?_
        refine go_if (fun c52 => ?_) (fun c52 => ?_)
        · refine go_s 1 rfl ?_
          exact go_retz rfl rfl (by first | exact Or.inl rfl | exact Or.inr rfl) (am_qi q (by exact ((if_pos c1_0).trans (zb_f (fun z => absurd c52 z.2.2))).symm) (by rfl))
        · refine go_s 2 rfl ?_
          exact go_retz rfl rfl (by first | exact Or.inl rfl | exact Or.inr rfl) (am_qi q (by exact ((if_pos c1_0).trans (zb_t ⟨c41, c47, c52⟩)).symm) (by rfl))
      · refine go_s 1 rfl ?_
        exact go_retz rfl rfl (by first | exact Or.inl rfl | exact Or.inr rfl) (am_qi q (by exact ((if_pos c1_0).trans (zb_f (fun z => absurd z.2.1 c47))).symm) (by rfl))
  · refine go_if (fun c1_1 => ?_) (fun c1_1 => ?_)
    · refine go_s 3 rfl ?_
      refine go_if (fun c65 => ?_) (fun c65 => ?_)
      · refine go_s 1 rfl ?_
        exact go_retz rfl rfl (by first | exact Or.inl rfl | exact Or.inr rfl) (am_qi q (by exact ((if_neg c1_0).trans ((if_pos c1_1).trans (zb_f (fun z => absurd c65 z.1)))).symm) (by rfl))
      · refine go_s 3 rfl ?_
        refine go_if (fun c72 => ?_) (fun c72 => ?_)
        · refine go_s 1 rfl ?_
          exact go_retz rfl rfl (by first | exact Or.inl rfl | exact Or.inr rfl) (am_qi q (by exact ((if_neg c1_0).trans ((if_pos c1_1).trans (zb_f (fun z => absurd c72 z.2)))).symm) (by rfl))
        · refine go_s 2 rfl ?_
          exact go_retz rfl rfl (by first | exact Or.inl rfl | exact Or.inr rfl) (am_qi q (by exact ((if_neg c1_0).trans ((if_pos c1_1).trans (zb_t ⟨c65, c72⟩))).symm) (by rfl))
    · refine go_if (fun c1_2 => ?_) (fun c1_2 => ?_)
      · refine go_s 2 rfl ?_
        refine go_if (fun c82 => ?_) (fun c82 => ?_)
        · refine go_s 1 rfl ?_
          exact go_retz rfl rfl (by first | exact Or.inl rfl | exact Or.inr rfl) (am_qi q (by exact ((if_neg c1_0).trans ((if_neg c1_1).trans ((if_pos c1_2).trans (zb_f (fun z => absurd c82 z.1))))).symm) (by rfl))
        · refine go_s 3 rfl ?_
          refine go_if (fun c88 => ?_) (fun c88 => ?_)
          · refine go_s 1 rfl ?_
            exact go_retz rfl rfl (by first | exact Or.inl rfl | exact Or.inr rfl) (am_qi q (by exact ((if_neg c1_0).trans ((if_neg c1_1).trans ((if_pos c1_2).trans (zb_f (fun z => absurd c88 z.2))))).symm) (by rfl))
          · refine go_s 2 rfl ?_
            exact go_retz rfl rfl (by first | exact Or.inl rfl | exact Or.inr rfl) (am_qi q (by exact ((if_neg c1_0).trans ((if_neg c1_1).trans ((if_pos c1_2).trans (zb_t ⟨c82, c88⟩)))).symm) (by rfl))
      · refine go_if (fun c1_3 => ?_) (fun c1_3 => ?_)
        · refine go_s 2 rfl ?_
          refine go_if (fun c98 => ?_) (fun c98 => ?_)
          · refine go_s 1 rfl ?_
            exact go_retz rfl rfl (by first | exact Or.inl rfl | exact Or.inr rfl) (am_qi q (by exact ((if_neg c1_0).trans ((if_neg c1_1).trans ((if_neg c1_2).trans ((if_pos c1_3).trans (zb_f (fun z => absurd c98 z.1)))))).symm) (by rfl))
          · refine go_s 3 rfl ?_
            refine go_if (fun c104 => ?_) (fun c104 => ?_)
            · refine go_s 1 rfl ?_
              exact go_retz rfl rfl (by first | exact Or.inl rfl | exact Or.inr rfl) (am_qi q (by exact ((if_neg c1_0).trans ((if_neg c1_1).trans ((if_neg c1_2).trans ((if_pos c1_3).trans (zb_f (fun z => absurd c104 z.2)))))).symm) (by rfl))
            · refine go_s 2 rfl ?_
              exact go_retz rfl rfl (by first | exact Or.inl rfl | exact Or.inr rfl) (am_qi q (by exact ((if_neg c1_0).trans ((if_neg c1_1).trans ((if_neg c1_2).trans ((if_pos c1_3).trans (zb_t ⟨c98, c104⟩))))).symm) (by rfl))
        · refine go_if (fun c1_4 => ?_) (fun c1_4 => ?_)
          · refine go_s 2 rfl ?_
            refine go_if (fun c114 => ?_) (fun c114 => ?_)
            · refine go_s 1 rfl ?_
              exact go_retz rfl rfl (by first | exact Or.inl rfl | exact Or.inr rfl) (am_qi q (by exact ((if_neg c1_0).trans ((if_neg c1_1).trans ((if_neg c1_2).trans ((if_neg c1_3).trans ((if_pos c1_4).trans (zb_f (fun z => absurd c114 z.1))))))).symm) (by rfl))
            · refine go_s 3 rfl ?_
              refine go_if (fun c120 => ?_) (fun c120 => ?_)
              · refine go_s 2 rfl ?_
                exact go_retz rfl rfl (by first | exact Or.inl rfl | exact Or.inr rfl) (am_qi q (by exact ((if_neg c1_0).trans ((if_neg c1_1).trans ((if_neg c1_2).trans ((if_neg c1_3).trans ((if_pos c1_4).trans (zb_t ⟨c114, c120⟩)))))).symm) (by rfl))
              · refine go_s 1 rfl ?_
                exact go_retz rfl rfl (by first | exact Or.inl rfl | exact Or.inr rfl) (am_qi q (by exact ((if_neg c1_0).trans ((if_neg c1_1).trans ((if_neg c1_2).trans ((if_neg c1_3).trans ((if_pos c1_4).trans (zb_f (fun z => absurd z.2 c120))))))).symm) (by rfl))
          · refine go_if (fun c1_5 => ?_) (fun c1_5 => ?_)
            · refine go_s 2 rfl ?_
              refine go_if (fun c130 => ?_) (fun c130 => ?_)
              · refine go_s 1 rfl ?_
                exact go_retz rfl rfl (by first | exact Or.inl rfl | exact Or.inr rfl) (am_qi q (by exact ((if_neg c1_0).trans ((if_neg c1_1).trans ((if_neg c1_2).trans ((if_neg c1_3).trans ((if_neg c1_4).trans ((if_pos c1_5).trans (zb_f (fun z => absurd c130 z.1)))))))).symm) (by rfl))
              · refine go_s 3 rfl ?_
                refine go_if (fun c136 => ?_) (fun c136 => ?_)
                · refine go_s 2 rfl ?_
                  exact go_retz rfl rfl (by first | exact Or.inl rfl | exact Or.inr rfl) (am_qi q (by exact ((if_neg c1_0).trans ((if_neg c1_1).trans ((if_neg c1_2).trans ((if_neg c1_3).trans ((if_neg c1_4).trans ((if_pos c1_5).trans (zb_t ⟨c130, c136⟩))))))).symm) (by rfl))
                · refine go_s 1 rfl ?_
                  exact go_retz rfl rfl (by first | exact Or.inl rfl | exact Or.inr rfl) (am_qi q (by exact ((if_neg c1_0).trans ((if_neg c1_1).trans ((if_neg c1_2).trans ((if_neg c1_3).trans ((if_neg c1_4).trans ((if_pos c1_5).trans (zb_f (fun z => absurd z.2 c136)))))))).symm) (by rfl))
            · refine go_s 1 rfl ?_
              exact go_retz rfl rfl (by first | exact Or.inl rfl | exact Or.inr rfl) (am_qi q (by exact ((if_neg c1_0).trans ((if_neg c1_1).trans ((if_neg c1_2).trans ((if_neg c1_3).trans ((if_neg c1_4).trans (if_neg c1_5)))))).symm) (by rfl))
theorem c_X5_makeRoomAt {D : Nat → Nat → Int32} {e : am_E} {kc ks : Nat} {Q : am_Q} {x : Int32} (h1 : ¬ x < 0) (h2 : ¬ x + 1 < 0) (h4 : x.toNatClampNeg + (D 1 6 - x).toNatClampNeg ≤ 300) (h5 : (x + 1).toNatClampNeg + (D 1 6 - x).toNatClampNeg ≤ 300) (q : Q none (hp (if 0 < D 1 6 - x then am_mkr D x else D) e)) : am_Go (mX5_makeRoomAt, 0, am_ent mX5_makeRoomAt [.ref 1, .int x], [], hp D e, kc, ks, Q) := by
  refine go_s 7 rfl ?_
  refine go_if (fun c8 => ?_) (fun c8 => ?_)
  · refine go_s 9 rfl ?_
    refine go_cpy 475 rfl (by decide +kernel) rfl rfl h1 h2 (Int32.not_lt.mpr (Int32.le_of_lt c8)) h4 h5 rfl ?_
    refine go_s 9 rfl ?_
    refine go_cpy 475 rfl (by decide +kernel) rfl rfl h1 h2 (Int32.not_lt.mpr (Int32.le_of_lt c8)) h4 h5 rfl ?_
    refine go_s 9 rfl ?_
    refine go_cpy 475 rfl (by decide +kernel) rfl rfl h1 h2 (Int32.not_lt.mpr (Int32.le_of_lt c8)) h4 h5 rfl ?_
    refine go_s 9 rfl ?_
    refine go_cpy 475 rfl (by decide +kernel) rfl rfl h1 h2 (Int32.not_lt.mpr (Int32.le_of_lt c8)) h4 h5 rfl ?_
    exact go_retv rfl rfl (am_qv q (by first | exact am_hD (if_pos c8).symm | exact am_hD (if_neg c8).symm))
  · exact go_retv rfl rfl (am_qv q (by first | exact am_hD (if_pos c8).symm | exact am_hD (if_neg c8).symm))
