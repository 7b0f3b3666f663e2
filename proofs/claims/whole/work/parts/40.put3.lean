theorem c_put_end {D : Nat → Nat → Int32} {e : am_E} {kc ks : Nat} {Q : am_Q} {x1 x2 x3 x4 x5 x6 x7 x8 x9 x10 : Int32} (hv : vp_in x1 25) (q : Q (some (.int (x9 - D 6 x1.toNatClampNeg))) (hp (am_u (am_u D 1 6 (D 1 6 + 1)) 1 7 (D 1 7 + 1)) e)) : am_Go (mX5_addInstruction, 157, [.ref 1, .int x1, .int x2, .int x3, .int x4, .int x5, .int x6, .int x7, .int x8, .int x9, .int x10], [], hp D e, kc, ks, Q) := by
  refine go_s 16 rfl ?_
  refine go_m rfl rfl (show vp_in x1 25 from hv) ?_
  refine go_s 1 rfl ?_
  exact go_ret rfl rfl (am_qi q rfl rfl)
def am_kpt (k v : Int32) : Int32 := if k = 0 then 0 else v
def am_pt0 (D : Nat → Nat → Int32) (x : Int32) : Nat → Nat → Int32 := if 0 < D 1 6 - x then am_mkr D x else D
theorem am_pt0_1 (D : Nat → Nat → Int32) (x : Int32) (j : Nat) : am_pt0 D x 1 j = D 1 j := by
  unfold am_pt0
  split <;> rfl
def am_pt1 (D : Nat → Nat → Int32) (x n a b c : Int32) : Nat → Nat → Int32 := am_u (am_u (am_u (am_u (am_pt0 D x) 2 x.toNatClampNeg n) 3 x.toNatClampNeg (am_kpt (am_kA n) a)) 4 x.toNatClampNeg (am_kpt (am_kB n) b)) 5 x.toNatClampNeg (am_kpt (am_kC n) c)
theorem am_pt1_1 (D : Nat → Nat → Int32) (x n a b c : Int32) (j : Nat) : am_pt1 D x n a b c 1 j = D 1 j := by
  unfold am_pt1
  rw [am_u_ne (by decide), am_u_ne (by decide), am_u_ne (by decide), am_u_ne (by decide), am_pt0_1]
def am_pok (D : Nat → Nat → Int32) (f n a b c : Int32) : Prop := (0 ≤ n ∧ n < 35) ∧ ¬ am_su (am_kA n) a = 0 ∧ ¬ am_su (am_kB n) b = 0 ∧ ¬ am_su (am_kC n) c = 0 ∧ ((0 ≤ f ∧ f < D 1 5) ∧ am_lof D f < 40 ∧ D 1 6 < 300)
def am_pt2 (D : Nat → Nat → Int32) (ff F : Nat) (n a b c : Int32) : Nat → Nat → Int32 := am_inc (am_pt1 D (am_end D (nI ff)) n a b c) (ff + 1) (F + 1)
theorem c_X5_addInstruction_no {D : Nat → Nat → Int32} {e : am_E} {kc ks : Nat} {Q : am_Q} {f n a b c : Int32} (hF : (D 1 5).toInt ≤ 24) (hn : ¬ am_pok D f n a b c) (q : Q (some (.int (-1))) (hp D e)) : am_Go (mX5_addInstruction, 0, am_ent mX5_addInstruction [.ref 1, .int f, .int n, .int a, .int b, .int c], [], hp D e, kc, ks, Q) := by
  refine go_s 1 rfl ?_
  refine go_st kX5_addInstruction_1 okX9_kindOfA rfl rfl rfl (Nat.zero_le _) (Nat.zero_le _) ?_
  refine c_X9_kindOfA ?_
  refine go_s 2 rfl ?_
  refine go_st kX5_addInstruction_7 okX9_kindOfB rfl rfl rfl (Nat.zero_le _) (Nat.zero_le _) ?_
  refine c_X9_kindOfB ?_
  refine go_s 2 rfl ?_
  refine go_st kX5_addInstruction_13 okX9_kindOfC rfl rfl rfl (Nat.zero_le _) (Nat.zero_le _) ?_
  refine c_X9_kindOfC ?_
  refine go_s 2 rfl ?_
  refine go_st kX5_addInstruction_19 okX9_isNumber rfl rfl rfl (Nat.zero_le _) (Nat.zero_le _) ?_
  refine c_X9_isNumber ?_
  refine go_s 1 rfl ?_
  refine go_if (fun c22 => ?_) (fun c22 => ?_)
  · refine go_s 1 rfl ?_
    exact go_ret rfl rfl (am_qi q (by rfl) (by rfl))
  · refine go_s 2 rfl ?_
    refine go_st kX5_addInstruction_28 okX9_suits rfl rfl rfl (Nat.zero_le _) (Nat.zero_le _) ?_
    refine c_X9_suits ?_
    refine go_s 1 rfl ?_
    refine go_if (fun c31 => ?_) (fun c31 => ?_)
    · refine go_s 1 rfl ?_
      exact go_ret rfl rfl (am_qi q (by rfl) (by rfl))
    · refine go_s 2 rfl ?_
      refine go_st kX5_addInstruction_38 okX9_suits rfl rfl rfl (Nat.zero_le _) (Nat.zero_le _) ?_
      refine c_X9_suits ?_
      refine go_s 1 rfl ?_
      refine go_if (fun c41 => ?_) (fun c41 => ?_)
      · refine go_s 1 rfl ?_
        exact go_ret rfl rfl (am_qi q (by rfl) (by rfl))
      · refine go_s 2 rfl ?_
        refine go_st kX5_addInstruction_48 okX9_suits rfl rfl rfl (Nat.zero_le _) (Nat.zero_le _) ?_
        refine c_X9_suits ?_
        refine go_s 1 rfl ?_
        refine go_if (fun c51 => ?_) (fun c51 => ?_)
        · refine go_s 1 rfl ?_
          exact go_ret rfl rfl (am_qi q (by rfl) (by rfl))
        · refine go_s 2 rfl ?_
          refine go_v kX5_addInstruction_56 okX5_hasRoomFor rfl rfl rfl rfl (Nat.zero_le _) (Nat.zero_le _) ?_
          refine c_X5_hasRoomFor hF ?_
          refine go_s 1 rfl ?_
          refine go_if (fun c59 => ?_) (fun c59 => ?_)
          · refine go_s 1 rfl ?_
            exact go_ret rfl rfl (am_qi q (by rfl) (by rfl))
          · exact absurd ⟨zb_ne.mp c22, c31, c41, c51, zb_ne.mp c59⟩ hn
theorem c_X5_addInstruction_ok {D : Nat → Nat → Int32} {e : am_E} {kc ks : Nat} {Q : am_Q} {n a b c : Int32} {ff F : Nat} (hF : (D 1 5).toInt ≤ 24) (hF24 : F ≤ 24) (hff : ff < F) (hD : D 1 5 = nI F) (hk : am_pok D (nI ff) n a b c) (m1 : ¬ am_end D (nI ff) < 0) (m2 : ¬ am_end D (nI ff) + 1 < 0) (m4 : (am_end D (nI ff)).toNatClampNeg + (D 1 6 - am_end D (nI ff)).toNatClampNeg ≤ 300) (m5 : (am_end D (nI ff) + 1).toNatClampNeg + (D 1 6 - am_end D (nI ff)).toNatClampNeg ≤ 300) (hv : vp_in (am_end D (nI ff)) 300) (q : Q (some (.int (am_end D (nI ff) - am_pt2 D ff F n a b c 6 (nI ff).toNatClampNeg))) (hp (am_u (am_u (am_pt2 D ff F n a b c) 1 6 (am_pt2 D ff F n a b c 1 6 + 1)) 1 7 (am_pt2 D ff F n a b c 1 7 + 1)) e)) : am_Go (mX5_addInstruction, 0, am_ent mX5_addInstruction [.ref 1, .int (nI ff), .int n, .int a, .int b, .int c], [], hp D e, kc, ks, Q) := by
  refine go_s 1 rfl ?_
  refine go_st kX5_addInstruction_1 okX9_kindOfA rfl rfl rfl (Nat.zero_le _) (Nat.zero_le _) ?_
  refine c_X9_kindOfA ?_
  refine go_s 2 rfl ?_
  refine go_st kX5_addInstruction_7 okX9_kindOfB rfl rfl rfl (Nat.zero_le _) (Nat.zero_le _) ?_
  refine c_X9_kindOfB ?_
  refine go_s 2 rfl ?_
  refine go_st kX5_addInstruction_13 okX9_kindOfC rfl rfl rfl (Nat.zero_le _) (Nat.zero_le _) ?_
  refine c_X9_kindOfC ?_
  refine go_s 2 rfl ?_
  refine go_st kX5_addInstruction_19 okX9_isNumber rfl rfl rfl (Nat.zero_le _) (Nat.zero_le _) ?_
  refine c_X9_isNumber ?_
  refine go_s 1 rfl ?_
  refine go_if (fun c22 => absurd c22 (zb_ne.mpr hk.1)) (fun c22 => ?_)
  refine go_s 2 rfl ?_
  refine go_st kX5_addInstruction_28 okX9_suits rfl rfl rfl (Nat.zero_le _) (Nat.zero_le _) ?_
  refine c_X9_suits ?_
  refine go_s 1 rfl ?_
  refine go_if (fun c31 => absurd c31 hk.2.1) (fun c31 => ?_)
  refine go_s 2 rfl ?_
  refine go_st kX5_addInstruction_38 okX9_suits rfl rfl rfl (Nat.zero_le _) (Nat.zero_le _) ?_
  refine c_X9_suits ?_
  refine go_s 1 rfl ?_
  refine go_if (fun c41 => absurd c41 hk.2.2.1) (fun c41 => ?_)
  refine go_s 2 rfl ?_
  refine go_st kX5_addInstruction_48 okX9_suits rfl rfl rfl (Nat.zero_le _) (Nat.zero_le _) ?_
  refine c_X9_suits ?_
  refine go_s 1 rfl ?_
  refine go_if (fun c51 => absurd c51 hk.2.2.2.1) (fun c51 => ?_)
  refine go_s 2 rfl ?_
  refine go_v kX5_addInstruction_56 okX5_hasRoomFor rfl rfl rfl rfl (Nat.zero_le _) (Nat.zero_le _) ?_
  refine c_X5_hasRoomFor hF ?_
  refine go_s 1 rfl ?_
  refine go_if (fun c59 => absurd c59 (zb_ne.mpr hk.2.2.2.2)) (fun c59 => ?_)
  refine go_s 2 rfl ?_
  refine go_v kX5_addInstruction_66 okX5_endOf rfl rfl rfl rfl (Nat.zero_le _) (Nat.zero_le _) ?_
  refine c_X5_endOf hF ?_
  refine go_s 3 rfl ?_
  refine go_v kX5_addInstruction_74 okX5_makeRoomAt rfl rfl rfl rfl (Nat.zero_le _) (Nat.zero_le _) ?_
  refine c_X5_makeRoomAt m1 m2 m4 m5 ?_
  refine go_s 4 rfl ?_
  refine go_m rfl rfl (show vp_in _ 300 from hv) ?_
  refine go_s 5 rfl ?_
  refine go_st kX5_addInstruction_94 okX9_kept rfl rfl rfl (Nat.zero_le _) (Nat.zero_le _) ?_
  refine c_X9_kept ?_
  refine go_m rfl rfl (show vp_in _ 300 from hv) ?_
  refine go_s 5 rfl ?_
  refine go_st kX5_addInstruction_108 okX9_kept rfl rfl rfl (Nat.zero_le _) (Nat.zero_le _) ?_
  refine c_X9_kept ?_
  refine go_m rfl rfl (show vp_in _ 300 from hv) ?_
  refine go_s 5 rfl ?_
  refine go_st kX5_addInstruction_122 okX9_kept rfl rfl rfl (Nat.zero_le _) (Nat.zero_le _) ?_
  refine c_X9_kept ?_
  refine go_m rfl rfl (show vp_in _ 300 from hv) ?_
  refine go_s 4 (pc' := 131) (ls' := [.ref 1, .int (nI ff), .int n, .int a, .int b, .int c, .int (am_kA n), .int (am_kB n), .int (am_kC n), .int (am_end D (nI ff)), .int (nI (ff + 1))]) (st' := []) (h' := hp (am_pt1 D (am_end D (nI ff)) n a b c) e) (by rw [← nI_1]; rfl) ?_
  have h0 := c_put_loop (e := e) (kc := kc) (ks := ks) (Q := Q) (D := am_pt1 D (am_end D (nI ff)) n a b c) (lo := ff + 1) (x1 := nI ff) (x2 := n) (x3 := a) (x4 := b) (x5 := c) (x6 := am_kA n) (x7 := am_kB n) (x8 := am_kC n) (x9 := am_end D (nI ff)) hF24 (by rw [am_pt1_1]; exact hD) (c_put_end (vp_in_nI (by omega) (by omega)) q) (F - ff) (ff + 1) (Nat.le_refl _) (by omega)
  rw [am_inc_0] at h0
  exact h0
