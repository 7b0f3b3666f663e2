def am_tsn (D : Nat → Nat → Int32) (s n : Int32) : Int32 × (Nat → Nat → Int32) := if 18 < n then (if ¬ n < 22 ∧ ¬ 27 < n then am_tbr D s n else if n = 19 then (3, am_go (am_wr D (am_fa D s) 0 (am_fb D s <<< (12 : Int32)))) else if n = 20 then am_tld D s else if n = 21 then am_tst D s else if n = 28 then (3, am_u (am_u D 59 10 (D 59 10)) 59 11 (am_fa D s)) else if n = 29 then (3, am_u (am_u (am_wr D 1 2 (D 59 10 <<< (6 : Int32) ||| (D 59 11 + 1))) 59 10 (am_fa D s)) 59 11 0) else if n = 30 then (3, am_u (am_u D 59 10 (am_fa D s)) 59 11 0) else if n = 31 then am_tgb D else if n = 32 then (3, am_go (am_wr D (am_fa D s) 1 (am_fb D s))) else if n = 33 then (if am_srt D (am_fa D s) = 1 then (3, am_u (am_u (am_wr D 1 2 (D 59 10 <<< (6 : Int32) ||| (D 59 11 + 1))) 59 10 (am_val D (am_fa D s))) 59 11 0) else (2, D)) else if n = 34 then am_tpr D else (2, D)) else am_tca D s n
def am_tsp (D : Nat → Nat → Int32) : Int32 × (Nat → Nat → Int32) := if am_spo D (D 59 10) (D 59 11) = -1 then (2, D) else am_tsn D (am_spo D (D 59 10) (D 59 11)) (am_num D (am_spo D (D 59 10) (D 59 11)))
theorem am_12 : (12 &&& 31 : Int32) = 12 := by decide
theorem c_X10_step {D : Nat → Nat → Int32} {e : am_E} {kc ks : Nat} {Q : am_Q}  (hF : (D 1 5).toInt ≤ 24) (hS : (D 1 6).toInt ≤ 300) (q : Q (some (.int ((am_tsp D).1))) (hp (am_tsp D).2 e)) : am_Go (mX10_step, 0, am_ent mX10_step [.ref 59], [], hp D e, kc, ks, Q) := by
  refine go_s 6 rfl ?_
  refine go_v kX10_step_12 okX5_spotOf rfl rfl rfl rfl (Nat.zero_le _) (Nat.zero_le _) ?_
  refine c_X5_spotOf hF ?_
  refine go_s 4 rfl ?_
  refine go_if (fun c18 => ?_) (fun c18 => ?_)
  · refine go_s 1 rfl ?_
    exact go_ret rfl rfl (am_qp q (by exact if_pos c18))
  · refine go_s 3 rfl ?_
    refine go_v kX10_step_28 okX5_numberAt rfl rfl rfl rfl (Nat.zero_le _) (Nat.zero_le _) ?_
    refine c_X5_numberAt hS ?_
    refine go_s 4 rfl ?_
    refine go_v kX10_step_37 okX5_aAt rfl rfl rfl rfl (Nat.zero_le _) (Nat.zero_le _) ?_
    refine c_X5_aAt hS ?_
    refine go_s 4 rfl ?_
    refine go_if (fun c44 => ?_) (fun c44 => ?_)
    · refine go_s 1 rfl ?_
      refine go_st kX10_step_55 okX9_isBranch rfl rfl rfl (Nat.zero_le _) (Nat.zero_le _) ?_
      refine c_X9_isBranch ?_
      refine go_s 1 rfl ?_
      refine go_if (fun c58 => ?_) (fun c58 => ?_)
      · refine go_s 2 rfl ?_
        refine go_if (fun c69_0 => ?_) (fun c69_0 => ?_)
        · refine go_s 6 rfl ?_
          refine go_v kX10_step_156 okX5_bAt rfl rfl rfl rfl (Nat.zero_le _) (Nat.zero_le _) ?_
          refine c_X5_bAt hS ?_
          refine go_s 2 rfl ?_
          refine go_v kX10_step_162 okX10_writeAndGoOn rfl rfl rfl rfl (Nat.zero_le _) (Nat.zero_le _) ?_
          refine c_X10_writeAndGoOn ?_
          exact go_ret rfl rfl (am_qp q (by exact (if_neg c18).trans ((if_pos c44).trans ((if_neg (zb_0.mp c58)).trans (if_pos c69_0)))))
        · refine go_if (fun c69_1 => ?_) (fun c69_1 => ?_)
          · refine go_s 2 rfl ?_
            refine go_v kX10_step_168 okX10_load rfl rfl rfl rfl (Nat.zero_le _) (Nat.zero_le _) ?_
            refine c_X10_load hS ?_
            exact go_ret rfl rfl (am_qp2 q (by exact (if_neg c18).trans ((if_pos c44).trans ((if_neg (zb_0.mp c58)).trans ((if_neg c69_0).trans (if_pos c69_1))))))
          · refine go_if (fun c69_2 => ?_) (fun c69_2 => ?_)
            · refine go_s 2 rfl ?_
              refine go_v kX10_step_174 okX10_store rfl rfl rfl rfl (Nat.zero_le _) (Nat.zero_le _) ?_
              refine c_X10_store hS ?_
              exact go_ret rfl rfl (am_qp2 q (by exact (if_neg c18).trans ((if_pos c44).trans ((if_neg (zb_0.mp c58)).trans ((if_neg c69_0).trans ((if_neg c69_1).trans (if_pos c69_2)))))))
            · refine go_if (fun c69_3 => ?_) (fun c69_3 => ?_)
              · refine go_s 1 rfl ?_
                exact go_ret rfl rfl (am_qp q (by exact (zb_0.mp c58 (by rw [c69_3]; decide)).elim))
              · refine go_if (fun c69_4 => ?_) (fun c69_4 => ?_)
                · refine go_s 1 rfl ?_
                  exact go_ret rfl rfl (am_qp q (by exact (zb_0.mp c58 (by rw [c69_4]; decide)).elim))
                · refine go_if (fun c69_5 => ?_) (fun c69_5 => ?_)
                  · refine go_s 1 rfl ?_
                    exact go_ret rfl rfl (am_qp q (by exact (zb_0.mp c58 (by rw [c69_5]; decide)).elim))
                  · refine go_if (fun c69_6 => ?_) (fun c69_6 => ?_)
                    · refine go_s 1 rfl ?_
                      exact go_ret rfl rfl (am_qp q (by exact (zb_0.mp c58 (by rw [c69_6]; decide)).elim))
                    · refine go_if (fun c69_7 => ?_) (fun c69_7 => ?_)
                      · refine go_s 1 rfl ?_
                        exact go_ret rfl rfl (am_qp q (by exact (zb_0.mp c58 (by rw [c69_7]; decide)).elim))
                      · refine go_if (fun c69_8 => ?_) (fun c69_8 => ?_)
                        · refine go_s 1 rfl ?_
                          exact go_ret rfl rfl (am_qp q (by exact (zb_0.mp c58 (by rw [c69_8]; decide)).elim))
                        · refine go_if (fun c69_9 => ?_) (fun c69_9 => ?_)
                          · refine go_s 4 rfl ?_
                            refine go_v kX10_step_184 okX10_goTo rfl rfl rfl rfl (Nat.zero_le _) (Nat.zero_le _) ?_
                            refine c_X10_goTo ?_
                            exact go_ret rfl rfl (am_qp q (by exact (if_neg c18).trans ((if_pos c44).trans ((if_neg (zb_0.mp c58)).trans ((if_neg c69_0).trans ((if_neg c69_1).trans ((if_neg c69_2).trans (if_pos c69_9))))))))
                          · refine go_if (fun c69_10 => ?_) (fun c69_10 => ?_)
                            · refine go_s 2 rfl ?_
                              refine go_v kX10_step_190 okX10_callFunction rfl rfl rfl rfl (Nat.zero_le _) (Nat.zero_le _) ?_
                              refine c_X10_callFunction ?_
                              exact go_ret rfl rfl (am_qp q (by exact (if_neg c18).trans ((if_pos c44).trans ((if_neg (zb_0.mp c58)).trans ((if_neg c69_0).trans ((if_neg c69_1).trans ((if_neg c69_2).trans ((if_neg c69_9).trans (if_pos c69_10)))))))))
                            · refine go_if (fun c69_11 => ?_) (fun c69_11 => ?_)
                              · refine go_s 3 rfl ?_
                                refine go_v kX10_step_197 okX10_goTo rfl rfl rfl rfl (Nat.zero_le _) (Nat.zero_le _) ?_
                                refine c_X10_goTo ?_
                                exact go_ret rfl rfl (am_qp q (by exact (if_neg c18).trans ((if_pos c44).trans ((if_neg (zb_0.mp c58)).trans ((if_neg c69_0).trans ((if_neg c69_1).trans ((if_neg c69_2).trans ((if_neg c69_9).trans ((if_neg c69_10).trans (if_pos c69_11))))))))))
                              · refine go_if (fun c69_12 => ?_) (fun c69_12 => ?_)
                                · refine go_s 1 rfl ?_
                                  refine go_v kX10_step_202 okX10_goBack rfl rfl rfl rfl (Nat.zero_le _) (Nat.zero_le _) ?_
                                  refine c_X10_goBack ?_
                                  exact go_ret rfl rfl (am_qp2 q (by exact (if_neg c18).trans ((if_pos c44).trans ((if_neg (zb_0.mp c58)).trans ((if_neg c69_0).trans ((if_neg c69_1).trans ((if_neg c69_2).trans ((if_neg c69_9).trans ((if_neg c69_10).trans ((if_neg c69_11).trans (if_pos c69_12)))))))))))
                                · refine go_if (fun c69_13 => ?_) (fun c69_13 => ?_)
                                  · refine go_s 6 rfl ?_
                                    refine go_v kX10_step_214 okX5_bAt rfl rfl rfl rfl (Nat.zero_le _) (Nat.zero_le _) ?_
                                    refine c_X5_bAt hS ?_
                                    refine go_v kX10_step_217 okX10_writeAndGoOn rfl rfl rfl rfl (Nat.zero_le _) (Nat.zero_le _) ?_
                                    refine c_X10_writeAndGoOn ?_
                                    exact go_ret rfl rfl (am_qp q (by exact (if_neg c18).trans ((if_pos c44).trans ((if_neg (zb_0.mp c58)).trans ((if_neg c69_0).trans ((if_neg c69_1).trans ((if_neg c69_2).trans ((if_neg c69_9).trans ((if_neg c69_10).trans ((if_neg c69_11).trans ((if_neg c69_12).trans (if_pos c69_13))))))))))))
                                  · refine go_if (fun c69_14 => ?_) (fun c69_14 => ?_)
                                    · refine go_s 2 rfl ?_
                                      refine go_v kX10_step_223 okX10_sortIn rfl rfl rfl rfl (Nat.zero_le _) (Nat.zero_le _) ?_
                                      refine c_X10_sortIn ?_
                                      refine go_s 2 rfl ?_
                                      refine go_if (fun c227 => ?_) (fun c227 => ?_)
                                      · refine go_s 3 rfl ?_
                                        refine go_v kX10_step_233 okX10_valueIn rfl rfl rfl rfl (Nat.zero_le _) (Nat.zero_le _) ?_
                                        refine c_X10_valueIn ?_
                                        refine go_v kX10_step_236 okX10_callFunction rfl rfl rfl rfl (Nat.zero_le _) (Nat.zero_le _) ?_
                                        refine c_X10_callFunction ?_
                                        refine go_s 1 rfl ?_
                                        exact go_ret rfl rfl (am_qp q (by exact (if_neg c18).trans ((if_pos c44).trans ((if_neg (zb_0.mp c58)).trans ((if_neg c69_0).trans ((if_neg c69_1).trans ((if_neg c69_2).trans ((if_neg c69_9).trans ((if_neg c69_10).trans ((if_neg c69_11).trans ((if_neg c69_12).trans ((if_neg c69_13).trans ((if_pos c69_14).trans (if_pos c227))))))))))))))
                                      · refine go_s 1 rfl ?_
                                        exact go_ret rfl rfl (am_qp q (by exact (if_neg c18).trans ((if_pos c44).trans ((if_neg (zb_0.mp c58)).trans ((if_neg c69_0).trans ((if_neg c69_1).trans ((if_neg c69_2).trans ((if_neg c69_9).trans ((if_neg c69_10).trans ((if_neg c69_11).trans ((if_neg c69_12).trans ((if_neg c69_13).trans ((if_pos c69_14).trans (if_neg c227))))))))))))))
                                    · refine go_if (fun c69_15 => ?_) (fun c69_15 => ?_)
                                      · refine go_s 1 rfl ?_
                                        refine go_v kX10_step_245 okX10_print rfl rfl rfl rfl (Nat.zero_le _) (Nat.zero_le _) ?_
                                        refine c_X10_print ?_
                                        exact go_ret rfl rfl (am_qp2 q (by exact (if_neg c18).trans ((if_pos c44).trans ((if_neg (zb_0.mp c58)).trans ((if_neg c69_0).trans ((if_neg c69_1).trans ((if_neg c69_2).trans ((if_neg c69_9).trans ((if_neg c69_10).trans ((if_neg c69_11).trans ((if_neg c69_12).trans ((if_neg c69_13).trans ((if_neg c69_14).trans (if_pos c69_15))))))))))))))
                                      · refine go_s 1 rfl ?_
                                        exact go_ret rfl rfl (am_qp q (by exact (if_neg c18).trans ((if_pos c44).trans ((if_neg (zb_0.mp c58)).trans ((if_neg c69_0).trans ((if_neg c69_1).trans ((if_neg c69_2).trans ((if_neg c69_9).trans ((if_neg c69_10).trans ((if_neg c69_11).trans ((if_neg c69_12).trans ((if_neg c69_13).trans ((if_neg c69_14).trans (if_neg c69_15))))))))))))))
      · refine go_s 3 rfl ?_
        refine go_v kX10_step_64 okX10_branch rfl rfl rfl rfl (Nat.zero_le _) (Nat.zero_le _) ?_
        refine c_X10_branch hS ?_
        exact go_ret rfl rfl (am_qp2 q (by exact (if_neg c18).trans ((if_pos c44).trans (if_pos (zb_ne.mp c58)))))
    · refine go_s 3 rfl ?_
      refine go_v kX10_step_50 okX10_calculate rfl rfl rfl rfl (Nat.zero_le _) (Nat.zero_le _) ?_
      refine c_X10_calculate hS ?_
      exact go_ret rfl rfl (am_qp2 q (by exact (if_neg c18).trans (if_neg c44)))
