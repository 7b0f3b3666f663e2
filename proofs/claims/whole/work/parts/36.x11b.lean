theorem c_X11_routine {D : Nat → Nat → Int32} {e : am_E} {kc ks : Nat} {Q : am_Q} {k w : Int32} (hR : (D 15 10).toInt ≤ 60) (q : Q (some (.int (if 0 ≤ k ∧ k < D 15 10 then (if w = 0 then (if 0 ≤ k ∧ k < D 15 10 then D 17 k.toNatClampNeg else 0) else if w = 1 then (if 0 ≤ k ∧ k < D 15 10 then D 19 k.toNatClampNeg else 0) else if w = 2 then (if 0 ≤ k ∧ k < D 15 10 then 4 * ((D 19 k.toNatClampNeg - 1) * D 17 k.toNatClampNeg - 1 - D 19 k.toNatClampNeg) else 0) else if w = 3 then (if 0 ≤ k ∧ k < D 15 10 then 4096 + 4 * D 20 k.toNatClampNeg else -1) else -1) else -1))) (hp D e)) : am_Go (mX11_routine, 0, am_ent mX11_routine [.ref 0, .int k, .int w], [], hp D e, kc, ks, Q) := by
  refine go_s 3 rfl ?_
  refine go_v kX11_routine_5 okX7_has rfl rfl rfl rfl (Nat.zero_le _) (Nat.zero_le _) ?_
  refine c_X7_has ?_
  refine go_s 1 rfl ?_
  refine go_if (fun c8 => ?_) (fun c8 => ?_)
  · refine go_s 1 rfl ?_
    exact go_ret rfl rfl (am_qi q (by exact (if_neg (zb_0.mp c8)).symm) (by rfl))
  · refine go_s 2 rfl ?_
    refine go_if (fun c14_0 => ?_) (fun c14_0 => ?_)
    · refine go_s 3 rfl ?_
      refine go_v kX11_routine_49 okX7_lengthOf rfl rfl rfl rfl (Nat.zero_le _) (Nat.zero_le _) ?_
      refine c_X7_lengthOf hR ?_
      exact go_ret rfl rfl (am_qi q (by exact ((if_pos (zb_ne.mp c8)).trans (if_pos c14_0)).symm) (by rfl))
    · refine go_if (fun c14_1 => ?_) (fun c14_1 => ?_)
      · refine go_s 3 rfl ?_
        refine go_v kX11_routine_58 okX7_timesOf rfl rfl rfl rfl (Nat.zero_le _) (Nat.zero_le _) ?_
        refine c_X7_timesOf hR ?_
        exact go_ret rfl rfl (am_qi q (by exact ((if_pos (zb_ne.mp c8)).trans ((if_neg c14_0).trans (if_pos c14_1))).symm) (by rfl))
      · refine go_if (fun c14_2 => ?_) (fun c14_2 => ?_)
        · refine go_s 3 rfl ?_
          refine go_v kX11_routine_67 okX7_savesOf rfl rfl rfl rfl (Nat.zero_le _) (Nat.zero_le _) ?_
          refine c_X7_savesOf hR ?_
          exact go_ret rfl rfl (am_qi q (by exact ((if_pos (zb_ne.mp c8)).trans ((if_neg c14_0).trans ((if_neg c14_1).trans (if_pos c14_2)))).symm) (by rfl))
        · refine go_if (fun c14_3 => ?_) (fun c14_3 => ?_)
          · refine go_s 3 rfl ?_
            refine go_v kX11_routine_76 okX7_addressOf rfl rfl rfl rfl (Nat.zero_le _) (Nat.zero_le _) ?_
            refine c_X7_addressOf hR ?_
            exact go_ret rfl rfl (am_qi q (by exact ((if_pos (zb_ne.mp c8)).trans ((if_neg c14_0).trans ((if_neg c14_1).trans ((if_neg c14_2).trans (if_pos c14_3))))).symm) (by rfl))
          · refine go_s 1 rfl ?_
            exact go_ret rfl rfl (am_qi q (by exact ((if_pos (zb_ne.mp c8)).trans ((if_neg c14_0).trans ((if_neg c14_1).trans ((if_neg c14_2).trans (if_neg c14_3))))).symm) (by rfl))
def am_iof (D : Nat → Nat → Int32) (k i : Int32) : Int32 := if (0 ≤ k ∧ k < D 15 10) ∧ ¬ i < 0 ∧ i < D 19 k.toNatClampNeg then D 18 k.toNatClampNeg + i else -1
theorem c_X11_occurrence {D : Nat → Nat → Int32} {e : am_E} {kc ks : Nat} {Q : am_Q} {k i w : Int32} (hR : (D 15 10).toInt ≤ 60) (hO : (D 15 11).toInt ≤ 150) (q : Q (some (.int (if am_iof D k i = -1 then -1 else if w = 0 then (if 0 ≤ am_iof D k i ∧ am_iof D k i < D 15 11 then D 22 (am_iof D k i).toNatClampNeg else -1) else if w = 1 then (if 0 ≤ am_iof D k i ∧ am_iof D k i < D 15 11 then D 23 (am_iof D k i).toNatClampNeg else -1) else if w = 2 then (if 0 ≤ am_iof D k i ∧ am_iof D k i < D 15 11 then 4096 + 4 * D 24 (am_iof D k i).toNatClampNeg else -1) else -1))) (hp D e)) : am_Go (mX11_occurrence, 0, am_ent mX11_occurrence [.ref 0, .int k, .int i, .int w], [], hp D e, kc, ks, Q) := by
  refine go_s 4 rfl ?_
  refine go_v kX11_occurrence_6 okX7_indexOf rfl rfl rfl rfl (Nat.zero_le _) (Nat.zero_le _) ?_
  refine c_X7_indexOf hR ?_
  refine go_s 4 rfl ?_
  refine go_if (fun c14 => ?_) (fun c14 => ?_)
  · refine go_s 1 rfl ?_
    exact go_ret rfl rfl (am_qi q (by exact (if_pos c14).symm) (by rfl))
  · refine go_s 2 rfl ?_
    refine go_if (fun c20_0 => ?_) (fun c20_0 => ?_)
    · refine go_s 3 rfl ?_
      refine go_v kX11_occurrence_54 okX7_bodyAt rfl rfl rfl rfl (Nat.zero_le _) (Nat.zero_le _) ?_
      refine c_X7_bodyAt hO ?_
      exact go_ret rfl rfl (am_qi q (by exact ((if_neg c14).trans (if_pos c20_0)).symm) (by rfl))
    · refine go_if (fun c20_1 => ?_) (fun c20_1 => ?_)
      · refine go_s 3 rfl ?_
        refine go_v kX11_occurrence_64 okX7_placeAt rfl rfl rfl rfl (Nat.zero_le _) (Nat.zero_le _) ?_
        refine c_X7_placeAt hO ?_
        exact go_ret rfl rfl (am_qi q (by exact ((if_neg c14).trans ((if_neg c20_0).trans (if_pos c20_1))).symm) (by rfl))
      · refine go_if (fun c20_2 => ?_) (fun c20_2 => ?_)
        · refine go_s 3 rfl ?_
          refine go_v kX11_occurrence_74 okX7_wordAddressAt rfl rfl rfl rfl (Nat.zero_le _) (Nat.zero_le _) ?_
          refine c_X7_wordAddressAt hO ?_
          exact go_ret rfl rfl (am_qi q (by exact ((if_neg c14).trans ((if_neg c20_0).trans ((if_neg c20_1).trans (if_pos c20_2)))).symm) (by rfl))
        · refine go_s 1 rfl ?_
          exact go_ret rfl rfl (am_qi q (by exact ((if_neg c14).trans ((if_neg c20_0).trans ((if_neg c20_1).trans (if_neg c20_2)))).symm) (by rfl))
def am_adF (D : Nat → Nat → Int32) : Int32 × (Nat → Nat → Int32) := if D 1 5 < 24 then (D 1 5 + 1 - 1, am_u (am_u (am_u D 6 (D 1 5 + 1).toNatClampNeg (D 6 (D 1 5).toNatClampNeg)) 1 5 (D 1 5 + 1)) 1 7 (D 1 7 + 1)) else (-1, D)
theorem c_X5_addFunction {D : Nat → Nat → Int32} {e : am_E} {kc ks : Nat} {Q : am_Q}  (h0 : ¬ D 1 5 < 0) (q : Q (some (.int ((am_adF D).1))) (hp (am_adF D).2 e)) : am_Go (mX5_addFunction, 0, am_ent mX5_addFunction [.ref 1], [], hp D e, kc, ks, Q) := by
  refine go_s 4 rfl ?_
  refine go_if (fun c6 => ?_) (fun c6 => ?_)
  · refine go_s 10 rfl ?_
    refine go_m rfl rfl (show vp_in _ 25 from vpn (y := 24) h0 c6 (by decide)) ?_
    refine go_m rfl rfl (show vp_in _ 25 from vpn1 (y := 24) h0 c6 (by decide)) ?_
    refine go_s 16 rfl ?_
    exact go_ret rfl rfl (am_qp q (by exact if_pos c6))
  · refine go_s 1 rfl ?_
    exact go_ret rfl rfl (am_qp q (by exact if_neg c6))
theorem c_X11_function {D : Nat → Nat → Int32} {e : am_E} {kc ks : Nat} {Q : am_Q}  (h0 : ¬ D 1 5 < 0) (q : Q (some (.int ((am_adF D).1))) (hp (am_adF D).2 e)) : am_Go (mX11_function, 0, am_ent mX11_function [.ref 0], [], hp D e, kc, ks, Q) := by
  refine go_s 2 rfl ?_
  refine go_v kX11_function_4 okX5_addFunction rfl rfl rfl rfl (Nat.zero_le _) (Nat.zero_le _) ?_
  refine c_X5_addFunction h0 ?_
  exact go_ret rfl rfl (am_qp2 q (by rfl))
def am_cl1 (D : Nat → Nat → Int32) : Nat → Nat → Int32 := am_u (am_u (am_fil (am_u (am_u D 11 3 0) 11 4 0) 25 300 (-1)) 15 10 0) 15 11 0
theorem c_X11_clear {D : Nat → Nat → Int32} {e : am_E} {kc ks : Nat} {Q : am_Q}   (q : Q (some (.int (am_cl1 D 1 5))) (hp (am_u (am_u (am_u (am_cl1 D) 1 5 0) 1 6 0) 1 7 (am_cl1 D 1 7 + 1)) e)) : am_Go (mX11_clear, 0, am_ent mX11_clear [.ref 0], [], hp D e, kc, ks, Q) := by
  refine go_s 2 rfl ?_
  refine go_v kX11_clear_4 okX1_drop rfl rfl rfl rfl (Nat.zero_le _) (Nat.zero_le _) ?_
  refine c_X1_drop ?_
  refine go_s 2 rfl ?_
  refine go_v kX11_clear_11 okX7_drop rfl rfl rfl rfl (Nat.zero_le _) (Nat.zero_le _) ?_
  refine c_X7_drop ?_
  refine go_s 2 rfl ?_
  refine go_v kX11_clear_18 okX5_drop rfl rfl rfl rfl (Nat.zero_le _) (Nat.zero_le _) ?_
  refine c_X5_drop ?_
  exact go_ret rfl rfl (am_qi q (by rfl) (by rfl))
def am_oc_59 (D : Nat → Nat → Int32) (N : Nat) : Int32 := if (am_dv_59 D N).1 = 3 then 1 else (am_dv_59 D N).1
def am_rn_59 (D : Nat → Nat → Int32) (N : Nat) : Int32 × (Nat → Nat → Int32) := if zb (0 ≤ (0 : Int32) ∧ 0 < D 1 5) = 0 then (-1, D) else (am_oc_59 D N, am_u (am_u (am_dv_59 D N).2.2 59 3 (nI (am_dv_59 D N).2.1)) 59 2 (am_oc_59 D N))
theorem c_X11_run_59 {D : Nat → Nat → Int32} {e : am_E} {kc ks : Nat} {Q : am_Q} {N : Nat} (hN1 : 1 ≤ N) (hN2 : N ≤ 20000) (hF : (D 1 5).toInt ≤ 24) (hS : (D 1 6).toInt ≤ 300) (q : Q (some (.int ((am_rn_59 D N).1))) (hp (am_rn_59 D N).2 e)) : am_Go (mX11_run, 0, am_ent mX11_run [.ref 0, .int 0, .int (nI N)], [], hp D e, kc, ks, Q) := by
  refine go_s 2 rfl ?_
  refine go_v kX11_run_2 okX11_machineOf rfl rfl rfl rfl (Nat.zero_le _) (Nat.zero_le _) ?_
  refine c_X11_machineOf_59 ?_
  refine go_s 6 rfl ?_
  refine go_if (fun c12 => absurd c12 (nI_nlt (a := N) (b := 1) hN1 (by omega))) (fun c12 => ?_)
  refine go_s 3 rfl ?_
  refine go_if (fun c19 => absurd c19 (nI_nlt (a := 20000) (b := N) hN2 (by omega))) (fun c19 => ?_)
  refine go_s 1 rfl ?_
  refine go_u kX11_run_23_7 okX10_isReady rfl rfl rfl rfl (Nat.zero_le _) (Nat.zero_le _) ?_
  refine c_X10_isReady ?_
  refine go_s 1 rfl ?_
  refine go_if (fun c26 => ?_) (fun c26 => ?_)
  · refine go_s 1 rfl ?_
    exact go_ret rfl rfl (am_qp q (by exact if_pos c26))
  · refine go_s 2 rfl ?_
    refine go_u kX11_run_33_7 okX4_drive rfl rfl rfl rfl (Nat.zero_le _) (Nat.zero_le _) ?_
    refine c_X4_drive_59 (by omega) hF hS ?_
    exact go_ret rfl rfl (am_qp q (by exact if_neg c26))
theorem c_X11_run_59n {D : Nat → Nat → Int32} {e : am_E} {kc ks : Nat} {Q : am_Q} {f : Int32} (hf : f < 1 ∨ 20000 < f) (q : Q (some (.int (-1))) (hp D e)) : am_Go (mX11_run, 0, am_ent mX11_run [.ref 0, .int 0, .int f], [], hp D e, kc, ks, Q) := by
  refine go_s 2 rfl ?_
  refine go_v kX11_run_2 okX11_machineOf rfl rfl rfl rfl (Nat.zero_le _) (Nat.zero_le _) ?_
  refine c_X11_machineOf_59 ?_
  refine go_s 6 rfl ?_
  refine go_if (fun c12 => ?_) (fun c12 => ?_)
  · refine go_s 1 rfl ?_
    exact go_ret rfl rfl (am_qi q (by rfl) (by rfl))
  · refine go_s 3 rfl ?_
    refine go_if (fun c19 => ?_) (fun c19 => absurd (hf.resolve_left c12) c19)
    refine go_s 1 rfl ?_
    exact go_ret rfl rfl (am_qi q (by rfl) (by rfl))
def am_oc_65 (D : Nat → Nat → Int32) (N : Nat) : Int32 := if (am_dv_65 D N).1 = 3 then 1 else (am_dv_65 D N).1
def am_rn_65 (D : Nat → Nat → Int32) (N : Nat) : Int32 × (Nat → Nat → Int32) := if zb (0 < D 11 3) = 0 then (-1, D) else (am_oc_65 D N, am_u (am_u (am_dv_65 D N).2.2 65 3 (nI (am_dv_65 D N).2.1)) 65 2 (am_oc_65 D N))
theorem c_X11_run_65 {D : Nat → Nat → Int32} {e : am_E} {kc ks : Nat} {Q : am_Q} {N : Nat} (hN1 : 1 ≤ N) (hN2 : N ≤ 20000) (hW : (D 11 3).toInt ≤ 600) (hG : (D 11 4).toInt ≤ 24) (q : Q (some (.int ((am_rn_65 D N).1))) (hp (am_rn_65 D N).2 e)) : am_Go (mX11_run, 0, am_ent mX11_run [.ref 0, .int 1, .int (nI N)], [], hp D e, kc, ks, Q) := by
  refine go_s 2 rfl ?_
  refine go_v kX11_run_2 okX11_machineOf rfl rfl rfl rfl (Nat.zero_le _) (Nat.zero_le _) ?_
  refine c_X11_machineOf_65 ?_
  refine go_s 6 rfl ?_
  refine go_if (fun c12 => absurd c12 (nI_nlt (a := N) (b := 1) hN1 (by omega))) (fun c12 => ?_)
  refine go_s 3 rfl ?_
  refine go_if (fun c19 => absurd c19 (nI_nlt (a := 20000) (b := N) hN2 (by omega))) (fun c19 => ?_)
  refine go_s 1 rfl ?_
  refine go_u kX11_run_23_2 okX2_isReady rfl rfl rfl rfl (Nat.zero_le _) (Nat.zero_le _) ?_
  refine c_X2_isReady ?_
  refine go_s 1 rfl ?_
  refine go_if (fun c26 => ?_) (fun c26 => ?_)
  · refine go_s 1 rfl ?_
    exact go_ret rfl rfl (am_qp q (by exact if_pos c26))
  · refine go_s 2 rfl ?_
    refine go_u kX11_run_33_2 okX4_drive rfl rfl rfl rfl (Nat.zero_le _) (Nat.zero_le _) ?_
    refine c_X4_drive_65 (by omega) hW hG ?_
    exact go_ret rfl rfl (am_qp q (by exact if_neg c26))
theorem c_X11_run_65n {D : Nat → Nat → Int32} {e : am_E} {kc ks : Nat} {Q : am_Q} {f : Int32} (hf : f < 1 ∨ 20000 < f) (q : Q (some (.int (-1))) (hp D e)) : am_Go (mX11_run, 0, am_ent mX11_run [.ref 0, .int 1, .int f], [], hp D e, kc, ks, Q) := by
  refine go_s 2 rfl ?_
  refine go_v kX11_run_2 okX11_machineOf rfl rfl rfl rfl (Nat.zero_le _) (Nat.zero_le _) ?_
  refine c_X11_machineOf_65 ?_
  refine go_s 6 rfl ?_
  refine go_if (fun c12 => ?_) (fun c12 => ?_)
  · refine go_s 1 rfl ?_
    exact go_ret rfl rfl (am_qi q (by rfl) (by rfl))
  · refine go_s 3 rfl ?_
    refine go_if (fun c19 => ?_) (fun c19 => absurd (hf.resolve_left c12) c19)
    refine go_s 1 rfl ?_
    exact go_ret rfl rfl (am_qi q (by rfl) (by rfl))
theorem c_X11_run_x {D : Nat → Nat → Int32} {e : am_E} {kc ks : Nat} {Q : am_Q} {w f : Int32} (w0 : ¬ w = 0) (w1 : ¬ w = 1) (q : Q (some (.int (-1))) (hp D e)) : am_Go (mX11_run, 0, am_ent mX11_run [.ref 0, .int w, .int f], [], hp D e, kc, ks, Q) := by
  refine go_s 2 rfl ?_
  refine go_v kX11_run_2 okX11_machineOf rfl rfl rfl rfl (Nat.zero_le _) (Nat.zero_le _) ?_
  refine c_X11_machineOf_x w0 w1 ?_
  refine go_s 4 rfl ?_
  exact go_ret rfl rfl (am_qi q (by rfl) (by rfl))
