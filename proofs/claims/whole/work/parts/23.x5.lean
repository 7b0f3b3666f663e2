theorem c_X5_functions {D : Nat → Nat → Int32} {e : am_E} {kc ks : Nat} {Q : am_Q}   (q : Q (some (.int (D 1 5))) (hp D e)) : am_Go (mX5_functions, 0, am_ent mX5_functions [.ref 1], [], hp D e, kc, ks, Q) := by
  refine go_s 2 rfl ?_
  exact go_ret rfl rfl (am_qi q (by rfl) (by rfl))
theorem c_X5_size {D : Nat → Nat → Int32} {e : am_E} {kc ks : Nat} {Q : am_Q}   (q : Q (some (.int (D 1 6))) (hp D e)) : am_Go (mX5_size, 0, am_ent mX5_size [.ref 1], [], hp D e, kc, ks, Q) := by
  refine go_s 2 rfl ?_
  exact go_ret rfl rfl (am_qi q (by rfl) (by rfl))
theorem c_X5_changes {D : Nat → Nat → Int32} {e : am_E} {kc ks : Nat} {Q : am_Q}   (q : Q (some (.int (D 1 7))) (hp D e)) : am_Go (mX5_changes, 0, am_ent mX5_changes [.ref 1], [], hp D e, kc, ks, Q) := by
  refine go_s 2 rfl ?_
  exact go_ret rfl rfl (am_qi q (by rfl) (by rfl))
theorem c_X5_hasFunction {D : Nat → Nat → Int32} {e : am_E} {kc ks : Nat} {Q : am_Q} {f : Int32}  (q : Q (some (.int (zb (0 ≤ f ∧ f < D 1 5)))) (hp D e)) : am_Go (mX5_hasFunction, 0, am_ent mX5_hasFunction [.ref 1, .int f], [], hp D e, kc, ks, Q) := by
  refine go_s 2 rfl ?_
  refine go_if (fun c1 => ?_) (fun c1 => ?_)
  · refine go_s 1 rfl ?_
    exact go_retz rfl rfl (by first | exact Or.inl rfl | exact Or.inr rfl | exact zb_01) (am_qi q (by simp_all [zb, hp, am_fv, am_k, am_kd, ← Int32.not_lt]) (by rfl))
  · refine go_s 4 rfl ?_
    refine go_if (fun c9 => ?_) (fun c9 => ?_)
    · refine go_s 2 rfl ?_
      exact go_retz rfl rfl (by first | exact Or.inl rfl | exact Or.inr rfl | exact zb_01) (am_qi q (by simp_all [zb, hp, am_fv, am_k, am_kd, ← Int32.not_lt]) (by rfl))
    · refine go_s 1 rfl ?_
      exact go_retz rfl rfl (by first | exact Or.inl rfl | exact Or.inr rfl | exact zb_01) (am_qi q (by simp_all [zb, hp, am_fv, am_k, am_kd, ← Int32.not_lt]) (by rfl))
theorem c_X5_hasSpot {D : Nat → Nat → Int32} {e : am_E} {kc ks : Nat} {Q : am_Q} {s : Int32}  (q : Q (some (.int (zb (0 ≤ s ∧ s < D 1 6)))) (hp D e)) : am_Go (mX5_hasSpot, 0, am_ent mX5_hasSpot [.ref 1, .int s], [], hp D e, kc, ks, Q) := by
  refine go_s 2 rfl ?_
  refine go_if (fun c1 => ?_) (fun c1 => ?_)
  · refine go_s 1 rfl ?_
    exact go_retz rfl rfl (by first | exact Or.inl rfl | exact Or.inr rfl | exact zb_01) (am_qi q (by simp_all [zb, hp, am_fv, am_k, am_kd, ← Int32.not_lt]) (by rfl))
  · refine go_s 4 rfl ?_
    refine go_if (fun c9 => ?_) (fun c9 => ?_)
    · refine go_s 2 rfl ?_
      exact go_retz rfl rfl (by first | exact Or.inl rfl | exact Or.inr rfl | exact zb_01) (am_qi q (by simp_all [zb, hp, am_fv, am_k, am_kd, ← Int32.not_lt]) (by rfl))
    · refine go_s 1 rfl ?_
      exact go_retz rfl rfl (by first | exact Or.inl rfl | exact Or.inr rfl | exact zb_01) (am_qi q (by simp_all [zb, hp, am_fv, am_k, am_kd, ← Int32.not_lt]) (by rfl))
theorem c_X5_startOf {D : Nat → Nat → Int32} {e : am_E} {kc ks : Nat} {Q : am_Q} {f : Int32} (hF : (D 1 5).toInt ≤ 24) (q : Q (some (.int (am_sta D f))) (hp D e)) : am_Go (mX5_startOf, 0, am_ent mX5_startOf [.ref 1, .int f], [], hp D e, kc, ks, Q) := by
  refine go_s 2 rfl ?_
  refine go_v kX5_startOf_2 okX5_hasFunction rfl rfl rfl rfl (Nat.zero_le _) (Nat.zero_le _) ?_
  refine c_X5_hasFunction ?_
  refine go_s 1 rfl ?_
  refine go_if (fun c5 => ?_) (fun c5 => ?_)
  · refine go_s 1 rfl ?_
    exact go_ret rfl rfl (am_qi q (by unfold am_sta; first | (rw [if_neg (zb_0.mp c5)]; rfl) | (rw [if_pos (zb_ne.mp c5)]; rfl)) (by rfl))
  · refine go_s 3 rfl ?_
    refine go_m rfl rfl (show vp_in _ 25 from vpl c5 (by omega)) ?_
    refine go_s 1 rfl ?_
    exact go_ret rfl rfl (am_qi q (by unfold am_sta; first | (rw [if_neg (zb_0.mp c5)]; rfl) | (rw [if_pos (zb_ne.mp c5)]; rfl)) (by rfl))
theorem c_X5_endOf {D : Nat → Nat → Int32} {e : am_E} {kc ks : Nat} {Q : am_Q} {f : Int32} (hF : (D 1 5).toInt ≤ 24) (q : Q (some (.int (am_end D f))) (hp D e)) : am_Go (mX5_endOf, 0, am_ent mX5_endOf [.ref 1, .int f], [], hp D e, kc, ks, Q) := by
  refine go_s 2 rfl ?_
  refine go_v kX5_endOf_2 okX5_hasFunction rfl rfl rfl rfl (Nat.zero_le _) (Nat.zero_le _) ?_
  refine c_X5_hasFunction ?_
  refine go_s 1 rfl ?_
  refine go_if (fun c5 => ?_) (fun c5 => ?_)
  · refine go_s 1 rfl ?_
    exact go_ret rfl rfl (am_qi q (by unfold am_end; first | (rw [if_neg (zb_0.mp c5)]; rfl) | (rw [if_pos (zb_ne.mp c5)]; rfl)) (by rfl))
  · refine go_s 5 rfl ?_
    refine go_m rfl rfl (show vp_in _ 25 from vpl1 c5 (by omega)) ?_
    refine go_s 1 rfl ?_
    exact go_ret rfl rfl (am_qi q (by unfold am_end; first | (rw [if_neg (zb_0.mp c5)]; rfl) | (rw [if_pos (zb_ne.mp c5)]; rfl)) (by rfl))
theorem c_X5_lengthOf {D : Nat → Nat → Int32} {e : am_E} {kc ks : Nat} {Q : am_Q} {f : Int32} (hF : (D 1 5).toInt ≤ 24) (q : Q (some (.int (am_lof D f))) (hp D e)) : am_Go (mX5_lengthOf, 0, am_ent mX5_lengthOf [.ref 1, .int f], [], hp D e, kc, ks, Q) := by
  refine go_s 2 rfl ?_
  refine go_v kX5_lengthOf_2 okX5_hasFunction rfl rfl rfl rfl (Nat.zero_le _) (Nat.zero_le _) ?_
  refine c_X5_hasFunction ?_
  refine go_s 1 rfl ?_
  refine go_if (fun c5 => ?_) (fun c5 => ?_)
  · refine go_s 1 rfl ?_
    exact go_ret rfl rfl (am_qi q (by unfold am_lof; first | (rw [if_neg (zb_0.mp c5)]; rfl) | (rw [if_pos (zb_ne.mp c5)]; rfl)) (by rfl))
  · refine go_s 5 rfl ?_
    refine go_m rfl rfl (show vp_in _ 25 from vpl1 c5 (by omega)) ?_
    refine go_s 3 rfl ?_
    refine go_m rfl rfl (show vp_in _ 25 from vpl c5 (by omega)) ?_
    refine go_s 2 rfl ?_
    exact go_ret rfl rfl (am_qi q (by unfold am_lof; first | (rw [if_neg (zb_0.mp c5)]; rfl) | (rw [if_pos (zb_ne.mp c5)]; rfl)) (by rfl))
theorem c_X5_numberAt {D : Nat → Nat → Int32} {e : am_E} {kc ks : Nat} {Q : am_Q} {s : Int32} (hS : (D 1 6).toInt ≤ 300) (q : Q (some (.int (am_num D s))) (hp D e)) : am_Go (mX5_numberAt, 0, am_ent mX5_numberAt [.ref 1, .int s], [], hp D e, kc, ks, Q) := by
  refine go_s 2 rfl ?_
  refine go_v kX5_numberAt_2 okX5_hasSpot rfl rfl rfl rfl (Nat.zero_le _) (Nat.zero_le _) ?_
  refine c_X5_hasSpot ?_
  refine go_s 1 rfl ?_
  refine go_if (fun c5 => ?_) (fun c5 => ?_)
  · refine go_s 1 rfl ?_
    exact go_ret rfl rfl (am_qi q (by unfold am_num; first | (rw [if_neg (zb_0.mp c5)]; rfl) | (rw [if_pos (zb_ne.mp c5)]; rfl)) (by rfl))
  · refine go_s 3 rfl ?_
    refine go_m rfl rfl (show vp_in _ 300 from vpl c5 (by omega)) ?_
    refine go_s 1 rfl ?_
    exact go_ret rfl rfl (am_qi q (by unfold am_num; first | (rw [if_neg (zb_0.mp c5)]; rfl) | (rw [if_pos (zb_ne.mp c5)]; rfl)) (by rfl))
theorem c_X5_aAt {D : Nat → Nat → Int32} {e : am_E} {kc ks : Nat} {Q : am_Q} {s : Int32} (hS : (D 1 6).toInt ≤ 300) (q : Q (some (.int (am_fa D s))) (hp D e)) : am_Go (mX5_aAt, 0, am_ent mX5_aAt [.ref 1, .int s], [], hp D e, kc, ks, Q) := by
  refine go_s 2 rfl ?_
  refine go_v kX5_aAt_2 okX5_hasSpot rfl rfl rfl rfl (Nat.zero_le _) (Nat.zero_le _) ?_
  refine c_X5_hasSpot ?_
  refine go_s 1 rfl ?_
  refine go_if (fun c5 => ?_) (fun c5 => ?_)
  · refine go_s 1 rfl ?_
    exact go_ret rfl rfl (am_qi q (by unfold am_fa; first | (rw [if_neg (zb_0.mp c5)]; rfl) | (rw [if_pos (zb_ne.mp c5)]; rfl)) (by rfl))
  · refine go_s 3 rfl ?_
    refine go_m rfl rfl (show vp_in _ 300 from vpl c5 (by omega)) ?_
    refine go_s 1 rfl ?_
    exact go_ret rfl rfl (am_qi q (by unfold am_fa; first | (rw [if_neg (zb_0.mp c5)]; rfl) | (rw [if_pos (zb_ne.mp c5)]; rfl)) (by rfl))
theorem c_X5_bAt {D : Nat → Nat → Int32} {e : am_E} {kc ks : Nat} {Q : am_Q} {s : Int32} (hS : (D 1 6).toInt ≤ 300) (q : Q (some (.int (am_fb D s))) (hp D e)) : am_Go (mX5_bAt, 0, am_ent mX5_bAt [.ref 1, .int s], [], hp D e, kc, ks, Q) := by
  refine go_s 2 rfl ?_
  refine go_v kX5_bAt_2 okX5_hasSpot rfl rfl rfl rfl (Nat.zero_le _) (Nat.zero_le _) ?_
  refine c_X5_hasSpot ?_
  refine go_s 1 rfl ?_
  refine go_if (fun c5 => ?_) (fun c5 => ?_)
  · refine go_s 1 rfl ?_
    exact go_ret rfl rfl (am_qi q (by unfold am_fb; first | (rw [if_neg (zb_0.mp c5)]; rfl) | (rw [if_pos (zb_ne.mp c5)]; rfl)) (by rfl))
  · refine go_s 3 rfl ?_
    refine go_m rfl rfl (show vp_in _ 300 from vpl c5 (by omega)) ?_
    refine go_s 1 rfl ?_
    exact go_ret rfl rfl (am_qi q (by unfold am_fb; first | (rw [if_neg (zb_0.mp c5)]; rfl) | (rw [if_pos (zb_ne.mp c5)]; rfl)) (by rfl))
theorem c_X5_cAt {D : Nat → Nat → Int32} {e : am_E} {kc ks : Nat} {Q : am_Q} {s : Int32} (hS : (D 1 6).toInt ≤ 300) (q : Q (some (.int (am_fc D s))) (hp D e)) : am_Go (mX5_cAt, 0, am_ent mX5_cAt [.ref 1, .int s], [], hp D e, kc, ks, Q) := by
  refine go_s 2 rfl ?_
  refine go_v kX5_cAt_2 okX5_hasSpot rfl rfl rfl rfl (Nat.zero_le _) (Nat.zero_le _) ?_
  refine c_X5_hasSpot ?_
  refine go_s 1 rfl ?_
  refine go_if (fun c5 => ?_) (fun c5 => ?_)
  · refine go_s 1 rfl ?_
    exact go_ret rfl rfl (am_qi q (by unfold am_fc; first | (rw [if_neg (zb_0.mp c5)]; rfl) | (rw [if_pos (zb_ne.mp c5)]; rfl)) (by rfl))
  · refine go_s 3 rfl ?_
    refine go_m rfl rfl (show vp_in _ 300 from vpl c5 (by omega)) ?_
    refine go_s 1 rfl ?_
    exact go_ret rfl rfl (am_qi q (by unfold am_fc; first | (rw [if_neg (zb_0.mp c5)]; rfl) | (rw [if_pos (zb_ne.mp c5)]; rfl)) (by rfl))
theorem c_X5_spotOf {D : Nat → Nat → Int32} {e : am_E} {kc ks : Nat} {Q : am_Q} {f p : Int32} (hF : (D 1 5).toInt ≤ 24) (q : Q (some (.int (am_spo D f p))) (hp D e)) : am_Go (mX5_spotOf, 0, am_ent mX5_spotOf [.ref 1, .int f, .int p], [], hp D e, kc, ks, Q) := by
  refine go_s 2 rfl ?_
  refine go_if (fun c1 => ?_) (fun c1 => ?_)
  · refine go_s 1 rfl ?_
    exact go_ret rfl rfl (am_qi q (by simp_all [am_spo, hp, am_fv, am_k, am_kd, ← Int32.not_lt]) (by rfl))
  · refine go_s 4 rfl ?_
    refine go_if (fun c9 => ?_) (fun c9 => ?_)
    · refine go_s 2 rfl ?_
      refine go_if (fun c13 => ?_) (fun c13 => ?_)
      · refine go_s 1 rfl ?_
        exact go_ret rfl rfl (am_qi q (by simp_all [am_spo, hp, am_fv, am_k, am_kd, ← Int32.not_lt]) (by rfl))
      · refine go_s 3 rfl ?_
        refine go_m rfl rfl (show vp_in _ 25 from vpn (y := D 1 5) (by assumption) (by assumption) (by omega)) ?_
        refine go_s 9 rfl ?_
        refine go_m rfl rfl (show vp_in _ 25 from vpn1 (y := D 1 5) (by assumption) (by assumption) (by omega)) ?_
        refine go_s 1 rfl ?_
        refine go_if (fun c36 => ?_) (fun c36 => ?_)
        · refine go_s 2 rfl ?_
          exact go_ret rfl rfl (am_qi q (by simp_all [am_spo, hp, am_fv, am_k, am_kd, ← Int32.not_lt]) (by rfl))
        · refine go_s 1 rfl ?_
          exact go_ret rfl rfl (am_qi q (by simp_all [am_spo, hp, am_fv, am_k, am_kd, ← Int32.not_lt]) (by rfl))
    · refine go_s 1 rfl ?_
      exact go_ret rfl rfl (am_qi q (by simp_all [am_spo, hp, am_fv, am_k, am_kd, ← Int32.not_lt]) (by rfl))
theorem c_X5_placeTold {D : Nat → Nat → Int32} {e : am_E} {kc ks : Nat} {Q : am_Q} {s : Int32} (hS : (D 1 6).toInt ≤ 300) (q : Q (some (.int (am_pto D s))) (hp D e)) : am_Go (mX5_placeTold, 0, am_ent mX5_placeTold [.ref 1, .int s], [], hp D e, kc, ks, Q) := by
  refine go_s 2 rfl ?_
  refine go_v kX5_placeTold_2 okX5_numberAt rfl rfl rfl rfl (Nat.zero_le _) (Nat.zero_le _) ?_
  refine c_X5_numberAt hS ?_
  refine go_s 2 rfl ?_
  refine go_st kX5_placeTold_7 okX9_isBranch rfl rfl rfl (Nat.zero_le _) (Nat.zero_le _) ?_
  refine c_X9_isBranch ?_
  refine go_s 1 rfl ?_
  refine go_if (fun c10 => ?_) (fun c10 => ?_)
  · refine go_s 3 rfl ?_
    refine go_if (fun c22 => ?_) (fun c22 => ?_)
    · refine go_s 2 rfl ?_
      refine go_v kX5_placeTold_27 okX5_aAt rfl rfl rfl rfl (Nat.zero_le _) (Nat.zero_le _) ?_
      refine c_X5_aAt hS ?_
      refine go_s 1 rfl ?_
      exact go_ret rfl rfl (am_qi q (by unfold am_pto; first | exact ((if_neg (zb_0.mp c10)).trans (if_pos c22)).symm | exact ((if_neg (zb_0.mp c10)).trans (if_neg c22)).symm | exact (if_pos (zb_ne.mp c10)).symm) (by rfl))
    · refine go_s 1 rfl ?_
      exact go_ret rfl rfl (am_qi q (by unfold am_pto; first | exact ((if_neg (zb_0.mp c10)).trans (if_pos c22)).symm | exact ((if_neg (zb_0.mp c10)).trans (if_neg c22)).symm | exact (if_pos (zb_ne.mp c10)).symm) (by rfl))
  · refine go_s 2 rfl ?_
    refine go_v kX5_placeTold_15 okX5_cAt rfl rfl rfl rfl (Nat.zero_le _) (Nat.zero_le _) ?_
    refine c_X5_cAt hS ?_
    exact go_ret rfl rfl (am_qi q (by unfold am_pto; first | exact ((if_neg (zb_0.mp c10)).trans (if_pos c22)).symm | exact ((if_neg (zb_0.mp c10)).trans (if_neg c22)).symm | exact (if_pos (zb_ne.mp c10)).symm) (by rfl))
theorem c_X5_functionTold {D : Nat → Nat → Int32} {e : am_E} {kc ks : Nat} {Q : am_Q} {s : Int32} (hS : (D 1 6).toInt ≤ 300) (q : Q (some (.int (am_fto D s))) (hp D e)) : am_Go (mX5_functionTold, 0, am_ent mX5_functionTold [.ref 1, .int s], [], hp D e, kc, ks, Q) := by
  refine go_s 2 rfl ?_
  refine go_v kX5_functionTold_2 okX5_numberAt rfl rfl rfl rfl (Nat.zero_le _) (Nat.zero_le _) ?_
  refine c_X5_numberAt hS ?_
  refine go_s 2 rfl ?_
  refine go_st kX5_functionTold_7 okX9_isCallOrTail rfl rfl rfl (Nat.zero_le _) (Nat.zero_le _) ?_
  refine c_X9_isCallOrTail ?_
  refine go_s 1 rfl ?_
  refine go_if (fun c10 => ?_) (fun c10 => ?_)
  · refine go_s 3 rfl ?_
    refine go_if (fun c22 => ?_) (fun c22 => ?_)
    · refine go_s 2 rfl ?_
      refine go_v kX5_functionTold_27 okX5_bAt rfl rfl rfl rfl (Nat.zero_le _) (Nat.zero_le _) ?_
      refine c_X5_bAt hS ?_
      refine go_s 1 rfl ?_
      exact go_ret rfl rfl (am_qi q (by unfold am_fto; first | exact ((if_neg (zb_0.mp c10)).trans (if_pos c22)).symm | exact ((if_neg (zb_0.mp c10)).trans (if_neg c22)).symm | exact (if_pos (zb_ne.mp c10)).symm) (by rfl))
    · refine go_s 1 rfl ?_
      exact go_ret rfl rfl (am_qi q (by unfold am_fto; first | exact ((if_neg (zb_0.mp c10)).trans (if_pos c22)).symm | exact ((if_neg (zb_0.mp c10)).trans (if_neg c22)).symm | exact (if_pos (zb_ne.mp c10)).symm) (by rfl))
  · refine go_s 2 rfl ?_
    refine go_v kX5_functionTold_15 okX5_aAt rfl rfl rfl rfl (Nat.zero_le _) (Nat.zero_le _) ?_
    refine c_X5_aAt hS ?_
    exact go_ret rfl rfl (am_qi q (by unfold am_fto; first | exact ((if_neg (zb_0.mp c10)).trans (if_pos c22)).symm | exact ((if_neg (zb_0.mp c10)).trans (if_neg c22)).symm | exact (if_pos (zb_ne.mp c10)).symm) (by rfl))
theorem c_X5_isSame {D : Nat → Nat → Int32} {e : am_E} {kc ks : Nat} {Q : am_Q} {s t : Int32} (hS : (D 1 6).toInt ≤ 300) (q : Q (some (.int (zb ((0 ≤ s ∧ s < D 1 6) ∧ (0 ≤ t ∧ t < D 1 6) ∧ D 2 s.toNatClampNeg = D 2 t.toNatClampNeg ∧ D 3 s.toNatClampNeg = D 3 t.toNatClampNeg ∧ D 4 s.toNatClampNeg = D 4 t.toNatClampNeg ∧ D 5 s.toNatClampNeg = D 5 t.toNatClampNeg)))) (hp D e)) : am_Go (mX5_isSame, 0, am_ent mX5_isSame [.ref 1, .int s, .int t], [], hp D e, kc, ks, Q) := by
  refine go_s 2 rfl ?_
  refine go_v kX5_isSame_2 okX5_hasSpot rfl rfl rfl rfl (Nat.zero_le _) (Nat.zero_le _) ?_
  refine c_X5_hasSpot ?_
  refine go_s 1 rfl ?_
  refine go_if (fun c5 => ?_) (fun c5 => ?_)
  · refine go_s 1 rfl ?_
    exact go_retz rfl rfl (by first | exact Or.inl rfl | exact Or.inr rfl | exact zb_01) (am_qi q (by first | exact (zb_f (fun z => zb_0.mp c5 z.1)).symm | exact (zb_f (fun z => zb_0.mp c13 z.2.1)).symm | (simp_all [zb, hp]; done)) (by rfl))
  · refine go_s 2 rfl ?_
    refine go_v kX5_isSame_10 okX5_hasSpot rfl rfl rfl rfl (Nat.zero_le _) (Nat.zero_le _) ?_
    refine c_X5_hasSpot ?_
    refine go_s 1 rfl ?_
    refine go_if (fun c13 => ?_) (fun c13 => ?_)
    · refine go_s 1 rfl ?_
      exact go_retz rfl rfl (by first | exact Or.inl rfl | exact Or.inr rfl | exact zb_01) (am_qi q (by first | exact (zb_f (fun z => zb_0.mp c5 z.1)).symm | exact (zb_f (fun z => zb_0.mp c13 z.2.1)).symm | (simp_all [zb, hp]; done)) (by rfl))
    · refine go_s 3 rfl ?_
      refine go_m rfl rfl (show vp_in _ 300 from vpl c5 (by omega)) ?_
      refine go_s 3 rfl ?_
      refine go_m rfl rfl (show vp_in _ 300 from vpl c13 (by omega)) ?_
      refine go_s 1 rfl ?_
      refine go_if (fun c28 => ?_) (fun c28 => ?_)
      · refine go_s 3 rfl ?_
        refine go_m rfl rfl (show vp_in _ 300 from vpl c5 (by omega)) ?_
        refine go_s 3 rfl ?_
        refine go_m rfl rfl (show vp_in _ 300 from vpl c13 (by omega)) ?_
        refine go_s 1 rfl ?_
        refine go_if (fun c43 => ?_) (fun c43 => ?_)
        · refine go_s 3 rfl ?_
          refine go_m rfl rfl (show vp_in _ 300 from vpl c5 (by omega)) ?_
          refine go_s 3 rfl ?_
          refine go_m rfl rfl (show vp_in _ 300 from vpl c13 (by omega)) ?_
          refine go_s 1 rfl ?_
          refine go_if (fun c58 => ?_) (fun c58 => ?_)
          · refine go_s 3 rfl ?_
            refine go_m rfl rfl (show vp_in _ 300 from vpl c5 (by omega)) ?_
            refine go_s 3 rfl ?_
            refine go_m rfl rfl (show vp_in _ 300 from vpl c13 (by omega)) ?_
            refine go_s 1 rfl ?_
            refine go_if (fun c73 => ?_) (fun c73 => ?_)
            · refine go_s 2 rfl ?_
              exact go_retz rfl rfl (by first | exact Or.inl rfl | exact Or.inr rfl | exact zb_01) (am_qi q (by first | exact (zb_f (fun z => zb_0.mp c5 z.1)).symm | exact (zb_f (fun z => zb_0.mp c13 z.2.1)).symm | (simp_all [zb, hp]; done)) (by rfl))
            · refine go_s 1 rfl ?_
              exact go_retz rfl rfl (by first | exact Or.inl rfl | exact Or.inr rfl | exact zb_01) (am_qi q (by first | exact (zb_f (fun z => zb_0.mp c5 z.1)).symm | exact (zb_f (fun z => zb_0.mp c13 z.2.1)).symm | (simp_all [zb, hp]; done)) (by rfl))
          · refine go_s 1 rfl ?_
            exact go_retz rfl rfl (by first | exact Or.inl rfl | exact Or.inr rfl | exact zb_01) (am_qi q (by first | exact (zb_f (fun z => zb_0.mp c5 z.1)).symm | exact (zb_f (fun z => zb_0.mp c13 z.2.1)).symm | (simp_all [zb, hp]; done)) (by rfl))
        · refine go_s 1 rfl ?_
          exact go_retz rfl rfl (by first | exact Or.inl rfl | exact Or.inr rfl | exact zb_01) (am_qi q (by first | exact (zb_f (fun z => zb_0.mp c5 z.1)).symm | exact (zb_f (fun z => zb_0.mp c13 z.2.1)).symm | (simp_all [zb, hp]; done)) (by rfl))
      · refine go_s 1 rfl ?_
        exact go_retz rfl rfl (by first | exact Or.inl rfl | exact Or.inr rfl | exact zb_01) (am_qi q (by first | exact (zb_f (fun z => zb_0.mp c5 z.1)).symm | exact (zb_f (fun z => zb_0.mp c13 z.2.1)).symm | (simp_all [zb, hp]; done)) (by rfl))
theorem c_X5_mixAt {D : Nat → Nat → Int32} {e : am_E} {kc ks : Nat} {Q : am_Q} {s : Int32} (hS : (D 1 6).toInt ≤ 300) (q : Q (some (.int (if 0 ≤ s ∧ s < D 1 6 then (D 2 s.toNatClampNeg * 7 + D 3 s.toNatClampNeg * 13 + D 4 s.toNatClampNeg * 31 + D 5 s.toNatClampNeg * 67) &&& 255 else 0))) (hp D e)) : am_Go (mX5_mixAt, 0, am_ent mX5_mixAt [.ref 1, .int s], [], hp D e, kc, ks, Q) := by
  refine go_s 2 rfl ?_
  refine go_v kX5_mixAt_2 okX5_hasSpot rfl rfl rfl rfl (Nat.zero_le _) (Nat.zero_le _) ?_
  refine c_X5_hasSpot ?_
  refine go_s 1 rfl ?_
  refine go_if (fun c5 => ?_) (fun c5 => ?_)
  · refine go_s 1 rfl ?_
    exact go_ret rfl rfl (am_qi q (by first | exact (if_pos (zb_ne.mp c5)).symm | exact (if_neg (zb_0.mp c5)).symm) (by rfl))
  · refine go_s 3 rfl ?_
    refine go_m rfl rfl (show vp_in _ 300 from vpl c5 (by omega)) ?_
    refine go_s 5 rfl ?_
    refine go_m rfl rfl (show vp_in _ 300 from vpl c5 (by omega)) ?_
    refine go_s 6 rfl ?_
    refine go_m rfl rfl (show vp_in _ 300 from vpl c5 (by omega)) ?_
    refine go_s 6 rfl ?_
    refine go_m rfl rfl (show vp_in _ 300 from vpl c5 (by omega)) ?_
    refine go_s 5 rfl ?_
    exact go_ret rfl rfl (am_qi q (by first | exact (if_pos (zb_ne.mp c5)).symm | exact (if_neg (zb_0.mp c5)).symm) (by rfl))
theorem c_X5_namesReturnRegister {D : Nat → Nat → Int32} {e : am_E} {kc ks : Nat} {Q : am_Q} {s : Int32} (hS : (D 1 6).toInt ≤ 300) (q : Q (some (.int (zb ((am_kA (am_num D s) = 1 ∧ am_fa D s = 1) ∨ (am_kB (am_num D s) = 1 ∧ am_fb D s = 1) ∨ (am_kC (am_num D s) = 1 ∧ am_fc D s = 1))))) (hp D e)) : am_Go (mX5_namesReturnRegister, 0, am_ent mX5_namesReturnRegister [.ref 1, .int s], [], hp D e, kc, ks, Q) := by
  refine go_s 2 rfl ?_
  refine go_v kX5_namesReturnRegister_2 okX5_numberAt rfl rfl rfl rfl (Nat.zero_le _) (Nat.zero_le _) ?_
  refine c_X5_numberAt hS ?_
  refine go_s 2 rfl ?_
  refine go_st kX5_namesReturnRegister_7 okX9_kindOfA rfl rfl rfl (Nat.zero_le _) (Nat.zero_le _) ?_
  refine c_X9_kindOfA ?_
  refine go_s 2 rfl ?_
  refine go_v kX5_namesReturnRegister_12 okX5_aAt rfl rfl rfl rfl (Nat.zero_le _) (Nat.zero_le _) ?_
  refine c_X5_aAt hS ?_
  refine go_st kX5_namesReturnRegister_15 okX9_isReturnRegister rfl rfl rfl (Nat.zero_le _) (Nat.zero_le _) ?_
  refine c_X9_isReturnRegister ?_
  refine go_s 1 rfl ?_
  refine go_if (fun c18 => ?_) (fun c18 => ?_)
  · refine go_s 1 rfl ?_
    refine go_st kX5_namesReturnRegister_22 okX9_kindOfB rfl rfl rfl (Nat.zero_le _) (Nat.zero_le _) ?_
    refine c_X9_kindOfB ?_
    refine go_s 2 rfl ?_
    refine go_v kX5_namesReturnRegister_27 okX5_bAt rfl rfl rfl rfl (Nat.zero_le _) (Nat.zero_le _) ?_
    refine c_X5_bAt hS ?_
    refine go_st kX5_namesReturnRegister_30 okX9_isReturnRegister rfl rfl rfl (Nat.zero_le _) (Nat.zero_le _) ?_
    refine c_X9_isReturnRegister ?_
    refine go_s 1 rfl ?_
    refine go_if (fun c33 => ?_) (fun c33 => ?_)
    · refine go_s 1 rfl ?_
      refine go_st kX5_namesReturnRegister_37 okX9_kindOfC rfl rfl rfl (Nat.zero_le _) (Nat.zero_le _) ?_
      refine c_X9_kindOfC ?_
      refine go_s 2 rfl ?_
      refine go_v kX5_namesReturnRegister_42 okX5_cAt rfl rfl rfl rfl (Nat.zero_le _) (Nat.zero_le _) ?_
      refine c_X5_cAt hS ?_
      refine go_st kX5_namesReturnRegister_45 okX9_isReturnRegister rfl rfl rfl (Nat.zero_le _) (Nat.zero_le _) ?_
      refine c_X9_isReturnRegister ?_
      refine go_s 1 rfl ?_
      refine go_if (fun c48 => ?_) (fun c48 => ?_)
      · refine go_s 1 rfl ?_
        exact go_retz rfl rfl (by first | exact Or.inl rfl | exact Or.inr rfl | exact zb_01) (am_qi q (by simp_all [zb, am_kA, am_kB, am_kC]) (by rfl))
      · refine go_s 2 rfl ?_
        exact go_retz rfl rfl (by first | exact Or.inl rfl | exact Or.inr rfl | exact zb_01) (am_qi q (by simp_all [zb, am_kA, am_kB, am_kC]) (by rfl))
    · refine go_s 2 rfl ?_
      exact go_retz rfl rfl (by first | exact Or.inl rfl | exact Or.inr rfl | exact zb_01) (am_qi q (by simp_all [zb, am_kA, am_kB, am_kC]) (by rfl))
  · refine go_s 2 rfl ?_
    exact go_retz rfl rfl (by first | exact Or.inl rfl | exact Or.inr rfl | exact zb_01) (am_qi q (by simp_all [zb, am_kA, am_kB, am_kC]) (by rfl))
theorem c_X5_hasRoomFor {D : Nat → Nat → Int32} {e : am_E} {kc ks : Nat} {Q : am_Q} {f : Int32} (hF : (D 1 5).toInt ≤ 24) (q : Q (some (.int (zb ((0 ≤ f ∧ f < D 1 5) ∧ am_lof D f < 40 ∧ D 1 6 < 300)))) (hp D e)) : am_Go (mX5_hasRoomFor, 0, am_ent mX5_hasRoomFor [.ref 1, .int f], [], hp D e, kc, ks, Q) := by
  refine go_s 2 rfl ?_
  refine go_v kX5_hasRoomFor_2 okX5_hasFunction rfl rfl rfl rfl (Nat.zero_le _) (Nat.zero_le _) ?_
  refine c_X5_hasFunction ?_
  refine go_s 1 rfl ?_
  refine go_if (fun c5 => ?_) (fun c5 => ?_)
  · refine go_s 1 rfl ?_
    exact go_retz rfl rfl (by first | exact Or.inl rfl | exact Or.inr rfl | exact zb_01) (am_qi q (by simp_all [zb, hp, am_fv, am_k, am_kd, ← Int32.not_lt]) (by rfl))
  · refine go_s 2 rfl ?_
    refine go_v kX5_hasRoomFor_10 okX5_lengthOf rfl rfl rfl rfl (Nat.zero_le _) (Nat.zero_le _) ?_
    refine c_X5_lengthOf hF ?_
    refine go_s 2 rfl ?_
    refine go_if (fun c15 => ?_) (fun c15 => ?_)
    · refine go_s 4 rfl ?_
      refine go_if (fun c25 => ?_) (fun c25 => ?_)
      · refine go_s 2 rfl ?_
        exact go_retz rfl rfl (by first | exact Or.inl rfl | exact Or.inr rfl | exact zb_01) (am_qi q (by simp_all [zb, hp, am_fv, am_k, am_kd, ← Int32.not_lt]) (by rfl))
      · refine go_s 1 rfl ?_
        exact go_retz rfl rfl (by first | exact Or.inl rfl | exact Or.inr rfl | exact zb_01) (am_qi q (by simp_all [zb, hp, am_fv, am_k, am_kd, ← Int32.not_lt]) (by rfl))
    · refine go_s 1 rfl ?_
      exact go_retz rfl rfl (by first | exact Or.inl rfl | exact Or.inr rfl | exact zb_01) (am_qi q (by simp_all [zb, hp, am_fv, am_k, am_kd, ← Int32.not_lt]) (by rfl))
theorem c_X5_drop {D : Nat → Nat → Int32} {e : am_E} {kc ks : Nat} {Q : am_Q}   (q : Q (some (.int (D 1 5))) (hp (am_u (am_u (am_u D 1 5 0) 1 6 0) 1 7 (D 1 7 + 1)) e)) : am_Go (mX5_drop, 0, am_ent mX5_drop [.ref 1], [], hp D e, kc, ks, Q) := by
  refine go_s 16 rfl ?_
  exact go_ret rfl rfl (am_qi q (by rfl) (by exact am_hD (by funext i j; simp [am_u, hp, am_fv, am_k, am_kd])))
