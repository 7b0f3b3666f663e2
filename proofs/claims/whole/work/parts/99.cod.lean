def am_mj (r b : Int32) : Int32 := (b >>> (20 : Int32) &&& (1 : Int32)) <<< (31 : Int32) ||| (b >>> (1 : Int32) &&& (1023 : Int32)) <<< (21 : Int32) ||| (b >>> (11 : Int32) &&& (1 : Int32)) <<< (20 : Int32) ||| b &&& (1044480 : Int32) ||| r <<< (7 : Int32) ||| (111 : Int32)
def am_mb (f a b o : Int32) : Int32 := (o >>> (12 : Int32) &&& (1 : Int32)) <<< (31 : Int32) ||| (o >>> (5 : Int32) &&& (63 : Int32)) <<< (25 : Int32) ||| b <<< (20 : Int32) ||| a <<< (15 : Int32) ||| f <<< (12 : Int32) ||| (o >>> (1 : Int32) &&& (15 : Int32)) <<< (8 : Int32) ||| (o >>> (11 : Int32) &&& (1 : Int32)) <<< (7 : Int32) ||| (99 : Int32)
def am_cod (n a b c t pc pa fo : Int32) : Int32 := if 9 < n then (if 15 < n then (if 18 < n then (if n = 19 then (b <<< (12 : Int32) ||| a <<< (7 : Int32) ||| (55 : Int32)) else if n = 20 then (c <<< (20 : Int32) ||| b <<< (15 : Int32) ||| (8192 : Int32) ||| a <<< (7 : Int32) ||| (3 : Int32)) else if n = 21 then ((c >>> (5 : Int32) &&& (127 : Int32)) <<< (25 : Int32) ||| a <<< (20 : Int32) ||| b <<< (15 : Int32) ||| (8192 : Int32) ||| (c &&& (31 : Int32)) <<< (7 : Int32) ||| (35 : Int32)) else if n = 22 then (am_mb (n - 22) a b (pc - t)) else if n = 23 then (am_mb (n - 22) a b (pc - t)) else if n = 24 then (am_mb (n - 20) a b (pc - t)) else if n = 25 then (am_mb (n - 20) a b (pc - t)) else if n = 26 then (am_mb (n - 20) a b (pc - t)) else if n = 27 then (am_mb (n - 20) a b (pc - t)) else if n = 28 then (am_mj (0) (pa - t)) else if n = 29 then (am_mj (1) (fo - t)) else if n = 30 then (am_mj (0) (fo - t)) else if n = 31 then ((32871 : Int32)) else if n = 32 then ((115 : Int32)) else if n = 33 then (a <<< (15 : Int32) ||| (128 : Int32) ||| (103 : Int32)) else ((115 : Int32))) else (if n = 18 then ((1073741824 : Int32) ||| c <<< (20 : Int32) ||| b <<< (15 : Int32) ||| am_f3 n <<< (12 : Int32) ||| a <<< (7 : Int32) ||| (19 : Int32)) else ((0 : Int32) ||| c <<< (20 : Int32) ||| b <<< (15 : Int32) ||| am_f3 n <<< (12 : Int32) ||| a <<< (7 : Int32) ||| (19 : Int32)))) else (c <<< (20 : Int32) ||| b <<< (15 : Int32) ||| am_f3 n <<< (12 : Int32) ||| a <<< (7 : Int32) ||| (19 : Int32))) else (if n = 1 then ((1073741824 : Int32) ||| c <<< (20 : Int32) ||| b <<< (15 : Int32) ||| am_f3 n <<< (12 : Int32) ||| a <<< (7 : Int32) ||| (51 : Int32)) else (if n = 7 then ((1073741824 : Int32) ||| c <<< (20 : Int32) ||| b <<< (15 : Int32) ||| am_f3 n <<< (12 : Int32) ||| a <<< (7 : Int32) ||| (51 : Int32)) else ((0 : Int32) ||| c <<< (20 : Int32) ||| b <<< (15 : Int32) ||| am_f3 n <<< (12 : Int32) ||| a <<< (7 : Int32) ||| (51 : Int32))))
theorem am_e22 {n : Int32} (h : n = 22) : ¬ n < 22 ∧ ¬ 27 < n := by subst h; decide
theorem am_e23 {n : Int32} (h : n = 23) : ¬ n < 22 ∧ ¬ 27 < n := by subst h; decide
theorem am_e24 {n : Int32} (h : n = 24) : ¬ n < 22 ∧ ¬ 27 < n := by subst h; decide
theorem am_e25 {n : Int32} (h : n = 25) : ¬ n < 22 ∧ ¬ 27 < n := by subst h; decide
theorem am_e26 {n : Int32} (h : n = 26) : ¬ n < 22 ∧ ¬ 27 < n := by subst h; decide
theorem am_e27 {n : Int32} (h : n = 27) : ¬ n < 22 ∧ ¬ 27 < n := by subst h; decide
set_option maxRecDepth 4000 in
theorem c_X12_coded {D : Nat → Nat → Int32} {e : am_E} {kc ks : Nat} {Q : am_Q} {f x t : Int32} (hx : vp_in x 960) (hbr : ¬ D 71 x.toNatClampNeg < 22 ∧ ¬ 27 < D 71 x.toNatClampNeg → vp_in (40 * f + D 74 x.toNatClampNeg) 960) (h28 : D 71 x.toNatClampNeg = 28 → vp_in (40 * f + D 72 x.toNatClampNeg) 960) (h29 : D 71 x.toNatClampNeg = 29 ∨ D 71 x.toNatClampNeg = 30 → vp_in (D 72 x.toNatClampNeg) 24) (q : Q (some (.int (am_cod (D 71 x.toNatClampNeg) (D 72 x.toNatClampNeg) (D 73 x.toNatClampNeg) (D 74 x.toNatClampNeg) t (D 88 (40 * f + D 74 x.toNatClampNeg).toNatClampNeg) (D 88 (40 * f + D 72 x.toNatClampNeg).toNatClampNeg) (D 78 (D 72 x.toNatClampNeg).toNatClampNeg)))) (hp D e)) : am_Go (mX12_coded, 0, am_ent mX12_coded [.ref 69, .int f, .int x, .int t], [], hp D e, kc, ks, Q) := by
  refine go_s 3 rfl ?_
  refine go_m rfl rfl hx ?_
  refine go_s 4 rfl ?_
  refine go_m rfl rfl hx ?_
  refine go_s 4 rfl ?_
  refine go_m rfl rfl hx ?_
  refine go_s 4 rfl ?_
  refine go_m rfl rfl hx ?_
  refine go_s 4 rfl ?_
  refine go_if (fun c36 => ?_) (fun c36 => ?_)
  · refine go_s 3 rfl ?_
    refine go_if (fun c93 => ?_) (fun c93 => ?_)
    · refine go_s 3 rfl ?_
      refine go_if (fun c130 => ?_) (fun c130 => ?_)
      · refine go_s 2 rfl ?_
        refine go_if (fun c179_0 => ?_) (fun c179_0 => ?_)
        · refine go_s 9 rfl ?_
          exact go_ret rfl rfl (am_qi q (by exact Eq.symm ((if_pos c36).trans ((if_pos c93).trans ((if_pos c130).trans (if_pos c179_0))))) (by rfl))
        · refine go_if (fun c179_1 => ?_) (fun c179_1 => ?_)
          · refine go_s 15 rfl ?_
            exact go_ret rfl rfl (am_qi q (by exact Eq.symm ((if_pos c36).trans ((if_pos c93).trans ((if_pos c130).trans ((if_neg c179_0).trans (if_pos c179_1)))))) (by rfl))
          · refine go_if (fun c179_2 => ?_) (fun c179_2 => ?_)
            · refine go_s 25 rfl ?_
              exact go_ret rfl rfl (am_qi q (by exact Eq.symm ((if_pos c36).trans ((if_pos c93).trans ((if_pos c130).trans ((if_neg c179_0).trans ((if_neg c179_1).trans (if_pos c179_2))))))) (by rfl))
            · refine go_if (fun c179_3 => ?_) (fun c179_3 => ?_)
              · refine go_s 12 rfl ?_
                refine go_m rfl rfl (by first | exact hbr (am_e22 c179_3) | exact hbr (am_e23 c179_4) | exact hbr (am_e24 c179_5) | exact hbr (am_e25 c179_6) | exact hbr (am_e26 c179_7) | exact hbr (am_e27 c179_8)) ?_
                refine go_s 2 rfl ?_
                refine go_st kX12_coded_353 okX12_branch rfl rfl rfl (Nat.zero_le _) (Nat.zero_le _) ?_
                refine c_X12_branch ?_
                exact go_ret rfl rfl (am_qi q (by exact Eq.symm ((if_pos c36).trans ((if_pos c93).trans ((if_pos c130).trans ((if_neg c179_0).trans ((if_neg c179_1).trans ((if_neg c179_2).trans (if_pos c179_3)))))))) (by rfl))
              · refine go_if (fun c179_4 => ?_) (fun c179_4 => ?_)
                · refine go_s 12 rfl ?_
                  refine go_m rfl rfl (by first | exact hbr (am_e22 c179_3) | exact hbr (am_e23 c179_4) | exact hbr (am_e24 c179_5) | exact hbr (am_e25 c179_6) | exact hbr (am_e26 c179_7) | exact hbr (am_e27 c179_8)) ?_
                  refine go_s 2 rfl ?_
                  refine go_st kX12_coded_353 okX12_branch rfl rfl rfl (Nat.zero_le _) (Nat.zero_le _) ?_
                  refine c_X12_branch ?_
                  exact go_ret rfl rfl (am_qi q (by exact Eq.symm ((if_pos c36).trans ((if_pos c93).trans ((if_pos c130).trans ((if_neg c179_0).trans ((if_neg c179_1).trans ((if_neg c179_2).trans ((if_neg c179_3).trans (if_pos c179_4))))))))) (by rfl))
                · refine go_if (fun c179_5 => ?_) (fun c179_5 => ?_)
                  · refine go_s 12 rfl ?_
                    refine go_m rfl rfl (by first | exact hbr (am_e22 c179_3) | exact hbr (am_e23 c179_4) | exact hbr (am_e24 c179_5) | exact hbr (am_e25 c179_6) | exact hbr (am_e26 c179_7) | exact hbr (am_e27 c179_8)) ?_
                    refine go_s 2 rfl ?_
                    refine go_st kX12_coded_380 okX12_branch rfl rfl rfl (Nat.zero_le _) (Nat.zero_le _) ?_
                    refine c_X12_branch ?_
                    exact go_ret rfl rfl (am_qi q (by exact Eq.symm ((if_pos c36).trans ((if_pos c93).trans ((if_pos c130).trans ((if_neg c179_0).trans ((if_neg c179_1).trans ((if_neg c179_2).trans ((if_neg c179_3).trans ((if_neg c179_4).trans (if_pos c179_5)))))))))) (by rfl))
                  · refine go_if (fun c179_6 => ?_) (fun c179_6 => ?_)
                    · refine go_s 12 rfl ?_
                      refine go_m rfl rfl (by first | exact hbr (am_e22 c179_3) | exact hbr (am_e23 c179_4) | exact hbr (am_e24 c179_5) | exact hbr (am_e25 c179_6) | exact hbr (am_e26 c179_7) | exact hbr (am_e27 c179_8)) ?_
                      refine go_s 2 rfl ?_
                      refine go_st kX12_coded_380 okX12_branch rfl rfl rfl (Nat.zero_le _) (Nat.zero_le _) ?_
                      refine c_X12_branch ?_
                      exact go_ret rfl rfl (am_qi q (by exact Eq.symm ((if_pos c36).trans ((if_pos c93).trans ((if_pos c130).trans ((if_neg c179_0).trans ((if_neg c179_1).trans ((if_neg c179_2).trans ((if_neg c179_3).trans ((if_neg c179_4).trans ((if_neg c179_5).trans (if_pos c179_6))))))))))) (by rfl))
                    · refine go_if (fun c179_7 => ?_) (fun c179_7 => ?_)
                      · refine go_s 12 rfl ?_
                        refine go_m rfl rfl (by first | exact hbr (am_e22 c179_3) | exact hbr (am_e23 c179_4) | exact hbr (am_e24 c179_5) | exact hbr (am_e25 c179_6) | exact hbr (am_e26 c179_7) | exact hbr (am_e27 c179_8)) ?_
                        refine go_s 2 rfl ?_
                        refine go_st kX12_coded_380 okX12_branch rfl rfl rfl (Nat.zero_le _) (Nat.zero_le _) ?_
                        refine c_X12_branch ?_
                        exact go_ret rfl rfl (am_qi q (by exact Eq.symm ((if_pos c36).trans ((if_pos c93).trans ((if_pos c130).trans ((if_neg c179_0).trans ((if_neg c179_1).trans ((if_neg c179_2).trans ((if_neg c179_3).trans ((if_neg c179_4).trans ((if_neg c179_5).trans ((if_neg c179_6).trans (if_pos c179_7)))))))))))) (by rfl))
                      · refine go_if (fun c179_8 => ?_) (fun c179_8 => ?_)
                        · refine go_s 12 rfl ?_
                          refine go_m rfl rfl (by first | exact hbr (am_e22 c179_3) | exact hbr (am_e23 c179_4) | exact hbr (am_e24 c179_5) | exact hbr (am_e25 c179_6) | exact hbr (am_e26 c179_7) | exact hbr (am_e27 c179_8)) ?_
                          refine go_s 2 rfl ?_
                          refine go_st kX12_coded_380 okX12_branch rfl rfl rfl (Nat.zero_le _) (Nat.zero_le _) ?_
                          refine c_X12_branch ?_
                          exact go_ret rfl rfl (am_qi q (by exact Eq.symm ((if_pos c36).trans ((if_pos c93).trans ((if_pos c130).trans ((if_neg c179_0).trans ((if_neg c179_1).trans ((if_neg c179_2).trans ((if_neg c179_3).trans ((if_neg c179_4).trans ((if_neg c179_5).trans ((if_neg c179_6).trans ((if_neg c179_7).trans (if_pos c179_8))))))))))))) (by rfl))
                        · refine go_if (fun c179_9 => ?_) (fun c179_9 => ?_)
                          · refine go_s 8 rfl ?_
                            refine go_m rfl rfl (h28 c179_9) ?_
                            refine go_s 2 rfl ?_
                            refine go_st kX12_coded_399 okX12_jal rfl rfl rfl (Nat.zero_le _) (Nat.zero_le _) ?_
                            refine c_X12_jal ?_
                            exact go_ret rfl rfl (am_qi q (by exact Eq.symm ((if_pos c36).trans ((if_pos c93).trans ((if_pos c130).trans ((if_neg c179_0).trans ((if_neg c179_1).trans ((if_neg c179_2).trans ((if_neg c179_3).trans ((if_neg c179_4).trans ((if_neg c179_5).trans ((if_neg c179_6).trans ((if_neg c179_7).trans ((if_neg c179_8).trans (if_pos c179_9)))))))))))))) (by rfl))
                          · refine go_if (fun c179_10 => ?_) (fun c179_10 => ?_)
                            · refine go_s 4 rfl ?_
                              refine go_m rfl rfl (h29 (Or.inl c179_10)) ?_
                              refine go_s 2 rfl ?_
                              refine go_st kX12_coded_413 okX12_jal rfl rfl rfl (Nat.zero_le _) (Nat.zero_le _) ?_
                              refine c_X12_jal ?_
                              exact go_ret rfl rfl (am_qi q (by exact Eq.symm ((if_pos c36).trans ((if_pos c93).trans ((if_pos c130).trans ((if_neg c179_0).trans ((if_neg c179_1).trans ((if_neg c179_2).trans ((if_neg c179_3).trans ((if_neg c179_4).trans ((if_neg c179_5).trans ((if_neg c179_6).trans ((if_neg c179_7).trans ((if_neg c179_8).trans ((if_neg c179_9).trans (if_pos c179_10))))))))))))))) (by rfl))
                            · refine go_if (fun c179_11 => ?_) (fun c179_11 => ?_)
                              · refine go_s 4 rfl ?_
                                refine go_m rfl rfl (h29 (Or.inr c179_11)) ?_
                                refine go_s 2 rfl ?_
                                refine go_st kX12_coded_427 okX12_jal rfl rfl rfl (Nat.zero_le _) (Nat.zero_le _) ?_
                                refine c_X12_jal ?_
                                exact go_ret rfl rfl (am_qi q (by exact Eq.symm ((if_pos c36).trans ((if_pos c93).trans ((if_pos c130).trans ((if_neg c179_0).trans ((if_neg c179_1).trans ((if_neg c179_2).trans ((if_neg c179_3).trans ((if_neg c179_4).trans ((if_neg c179_5).trans ((if_neg c179_6).trans ((if_neg c179_7).trans ((if_neg c179_8).trans ((if_neg c179_9).trans ((if_neg c179_10).trans (if_pos c179_11)))))))))))))))) (by rfl))
                              · refine go_if (fun c179_12 => ?_) (fun c179_12 => ?_)
                                · refine go_s 1 rfl ?_
                                  exact go_ret rfl rfl (am_qi q (by exact Eq.symm ((if_pos c36).trans ((if_pos c93).trans ((if_pos c130).trans ((if_neg c179_0).trans ((if_neg c179_1).trans ((if_neg c179_2).trans ((if_neg c179_3).trans ((if_neg c179_4).trans ((if_neg c179_5).trans ((if_neg c179_6).trans ((if_neg c179_7).trans ((if_neg c179_8).trans ((if_neg c179_9).trans ((if_neg c179_10).trans ((if_neg c179_11).trans (if_pos c179_12))))))))))))))))) (by rfl))
                                · refine go_if (fun c179_13 => ?_) (fun c179_13 => ?_)
                                  · refine go_s 1 rfl ?_
                                    exact go_ret rfl rfl (am_qi q (by exact Eq.symm ((if_pos c36).trans ((if_pos c93).trans ((if_pos c130).trans ((if_neg c179_0).trans ((if_neg c179_1).trans ((if_neg c179_2).trans ((if_neg c179_3).trans ((if_neg c179_4).trans ((if_neg c179_5).trans ((if_neg c179_6).trans ((if_neg c179_7).trans ((if_neg c179_8).trans ((if_neg c179_9).trans ((if_neg c179_10).trans ((if_neg c179_11).trans ((if_neg c179_12).trans (if_pos c179_13)))))))))))))))))) (by rfl))
                                  · refine go_if (fun c179_14 => ?_) (fun c179_14 => ?_)
                                    · refine go_s 7 rfl ?_
                                      exact go_ret rfl rfl (am_qi q (by exact Eq.symm ((if_pos c36).trans ((if_pos c93).trans ((if_pos c130).trans ((if_neg c179_0).trans ((if_neg c179_1).trans ((if_neg c179_2).trans ((if_neg c179_3).trans ((if_neg c179_4).trans ((if_neg c179_5).trans ((if_neg c179_6).trans ((if_neg c179_7).trans ((if_neg c179_8).trans ((if_neg c179_9).trans ((if_neg c179_10).trans ((if_neg c179_11).trans ((if_neg c179_12).trans ((if_neg c179_13).trans (if_pos c179_14))))))))))))))))))) (by rfl))
                                    · refine go_s 1 rfl ?_
                                      exact go_ret rfl rfl (am_qi q (by exact Eq.symm ((if_pos c36).trans ((if_pos c93).trans ((if_pos c130).trans ((if_neg c179_0).trans ((if_neg c179_1).trans ((if_neg c179_2).trans ((if_neg c179_3).trans ((if_neg c179_4).trans ((if_neg c179_5).trans ((if_neg c179_6).trans ((if_neg c179_7).trans ((if_neg c179_8).trans ((if_neg c179_9).trans ((if_neg c179_10).trans ((if_neg c179_11).trans ((if_neg c179_12).trans ((if_neg c179_13).trans (if_neg c179_14))))))))))))))))))) (by rfl))
      · refine go_s 3 rfl ?_
        refine go_if (fun c137 => ?_) (fun c137 => ?_)
        · refine go_s 11 rfl ?_
          refine go_st kX12_coded_160 okX12_f3Of rfl rfl rfl (Nat.zero_le _) (Nat.zero_le _) ?_
          refine c_X12_f3Of ?_
          refine go_s 9 rfl ?_
          exact go_ret rfl rfl (am_qi q (by exact Eq.symm ((if_pos c36).trans ((if_pos c93).trans ((if_neg c130).trans (if_pos c137))))) (by rfl))
        · refine go_s 10 rfl ?_
          refine go_st kX12_coded_160 okX12_f3Of rfl rfl rfl (Nat.zero_le _) (Nat.zero_le _) ?_
          refine c_X12_f3Of ?_
          refine go_s 9 rfl ?_
          exact go_ret rfl rfl (am_qi q (by exact Eq.symm ((if_pos c36).trans ((if_pos c93).trans ((if_neg c130).trans (if_neg c137))))) (by rfl))
    · refine go_s 8 rfl ?_
      refine go_st kX12_coded_109 okX12_f3Of rfl rfl rfl (Nat.zero_le _) (Nat.zero_le _) ?_
      refine c_X12_f3Of ?_
      refine go_s 9 rfl ?_
      exact go_ret rfl rfl (am_qi q (by exact Eq.symm ((if_pos c36).trans (if_neg c93))) (by rfl))
  · refine go_s 3 rfl ?_
    refine go_if (fun c42 => ?_) (fun c42 => ?_)
    · refine go_s 11 rfl ?_
      refine go_st kX12_coded_72 okX12_f3Of rfl rfl rfl (Nat.zero_le _) (Nat.zero_le _) ?_
      refine c_X12_f3Of ?_
      refine go_s 9 rfl ?_
      exact go_ret rfl rfl (am_qi q (by exact Eq.symm ((if_neg c36).trans (if_pos c42))) (by rfl))
    · refine go_s 3 rfl ?_
      refine go_if (fun c49 => ?_) (fun c49 => ?_)
      · refine go_s 11 rfl ?_
        refine go_st kX12_coded_72 okX12_f3Of rfl rfl rfl (Nat.zero_le _) (Nat.zero_le _) ?_
        refine c_X12_f3Of ?_
        refine go_s 9 rfl ?_
        exact go_ret rfl rfl (am_qi q (by exact Eq.symm ((if_neg c36).trans ((if_neg c42).trans (if_pos c49)))) (by rfl))
      · refine go_s 10 rfl ?_
        refine go_st kX12_coded_72 okX12_f3Of rfl rfl rfl (Nat.zero_le _) (Nat.zero_le _) ?_
        refine c_X12_f3Of ?_
        refine go_s 9 rfl ?_
        exact go_ret rfl rfl (am_qi q (by exact Eq.symm ((if_neg c36).trans ((if_neg c42).trans (if_neg c49)))) (by rfl))
theorem c_X12_say {S : Nat → Nat → Int32} {e : am_E} {kc ks n : Nat} {Q : am_Q} {w : Int32} (hn : n < 1000) (q : Q (some (.int (nI (4096 + 4 * (n + 1))))) (hp (am_u S 79 n w) e)) : am_Go (mX12_say, 0, am_ent mX12_say [.ref 69, .int (nI (4096 + 4 * n)), .int w], [], hp S e, kc, ks, Q) := by
  refine go_s 6 rfl ?_
  refine go_m rfl rfl (by decide) ?_
  refine go_s 1 (pc' := 12) (ls' := [.ref 69, .int (nI (4096 + 4 * n)), .int w]) (st' := [.int w, .int (nI n), .ref 79]) (h' := hp S e) (by rw [← am_dvw4 n (by omega)]; rfl) ?_
  refine go_m rfl rfl (show vp_in (nI n) 1000 from vp_in_nI (by omega) (by decide)) ?_
  show am_Go (mX12_say, 13, [.ref 69, .int (nI (4096 + 4 * n)), .int w], [], hp (am_u S 79 (nI n).toNatClampNeg w) e, _, _, Q)
  rw [nI_clamp (by omega)]
  refine go_s 3 rfl ?_
  exact go_ret rfl rfl (am_qi q (nI_add (4096 + 4 * n) 4) rfl)
theorem am_jwe (a b : Int32) : am_jw a b = am_mj a b := by
  unfold am_jw am_mj
  rw [am_jale, ← Int32.or_assoc]
theorem am_bwe (n f a b o : Int32) (h : am_sel n = f) : am_bw n a b o = am_mb f a b o := by
  unfold am_bw am_mb
  rw [h, ← Int32.or_assoc]
theorem am_g127a (x c b s a : Int32) : (x <<< (30 : Int32) ||| c <<< (20 : Int32) ||| b <<< (15 : Int32) ||| s <<< (12 : Int32) ||| a <<< (7 : Int32) ||| (51 : Int32)) &&& (127 : Int32) = 51 &&& (127 : Int32) := by
  apply Int32.toBitVec_inj.mp
  have e7 : (7 : Int32) = nI 7 := rfl
  have e12 : (12 : Int32) = nI 12 := rfl
  have e15 : (15 : Int32) = nI 15 := rfl
  have e20 : (20 : Int32) = nI 20 := rfl
  have e30 : (30 : Int32) = nI 30 := rfl
  have e51 : (51 : Int32) = nI 51 := rfl
  have e127 : (127 : Int32) = nI 127 := rfl
  simp only [Int32.toBitVec_or, Int32.toBitVec_and, Int32.toBitVec_xor, e7, e12, e15, e20, e30, e51, e127]
  simp (discharger := decide) only [am_bsr, am_bsl, am_bnI, Int32.toBitVec_or, Int32.toBitVec_and]
  apply BitVec.eq_of_getLsbD_eq
  intro i hi
  rcases am_32s hi with rfl | rfl | rfl | rfl | rfl | rfl | rfl | rfl | rfl | rfl | rfl | rfl | rfl | rfl | rfl | rfl | rfl | rfl | rfl | rfl | rfl | rfl | rfl | rfl | rfl | rfl | rfl | rfl | rfl | rfl | rfl | rfl <;> simp [BitVec.getLsbD_sshiftRight, BitVec.getElem_sshiftRight, BitVec.getLsbD_shiftLeft, BitVec.msb_eq_getLsbD_last, Nat.testBit]
theorem am_g127b (x c b s a : Int32) : (x <<< (30 : Int32) ||| c <<< (20 : Int32) ||| b <<< (15 : Int32) ||| s <<< (12 : Int32) ||| a <<< (7 : Int32) ||| (19 : Int32)) &&& (127 : Int32) = 19 &&& (127 : Int32) := by
  apply Int32.toBitVec_inj.mp
  have e7 : (7 : Int32) = nI 7 := rfl
  have e12 : (12 : Int32) = nI 12 := rfl
  have e15 : (15 : Int32) = nI 15 := rfl
  have e19 : (19 : Int32) = nI 19 := rfl
  have e20 : (20 : Int32) = nI 20 := rfl
  have e30 : (30 : Int32) = nI 30 := rfl
  have e127 : (127 : Int32) = nI 127 := rfl
  simp only [Int32.toBitVec_or, Int32.toBitVec_and, Int32.toBitVec_xor, e7, e12, e15, e19, e20, e30, e127]
  simp (discharger := decide) only [am_bsr, am_bsl, am_bnI, Int32.toBitVec_or, Int32.toBitVec_and]
  apply BitVec.eq_of_getLsbD_eq
  intro i hi
  rcases am_32s hi with rfl | rfl | rfl | rfl | rfl | rfl | rfl | rfl | rfl | rfl | rfl | rfl | rfl | rfl | rfl | rfl | rfl | rfl | rfl | rfl | rfl | rfl | rfl | rfl | rfl | rfl | rfl | rfl | rfl | rfl | rfl | rfl <;> simp [BitVec.getLsbD_sshiftRight, BitVec.getElem_sshiftRight, BitVec.getLsbD_shiftLeft, BitVec.msb_eq_getLsbD_last, Nat.testBit]
theorem am_g127c (b a : Int32) : (b <<< (12 : Int32) ||| a <<< (7 : Int32) ||| (55 : Int32)) &&& (127 : Int32) = 55 &&& (127 : Int32) := by
  apply Int32.toBitVec_inj.mp
  have e7 : (7 : Int32) = nI 7 := rfl
  have e12 : (12 : Int32) = nI 12 := rfl
  have e55 : (55 : Int32) = nI 55 := rfl
  have e127 : (127 : Int32) = nI 127 := rfl
  simp only [Int32.toBitVec_or, Int32.toBitVec_and, Int32.toBitVec_xor, e7, e12, e55, e127]
  simp (discharger := decide) only [am_bsr, am_bsl, am_bnI, Int32.toBitVec_or, Int32.toBitVec_and]
  apply BitVec.eq_of_getLsbD_eq
  intro i hi
  rcases am_32s hi with rfl | rfl | rfl | rfl | rfl | rfl | rfl | rfl | rfl | rfl | rfl | rfl | rfl | rfl | rfl | rfl | rfl | rfl | rfl | rfl | rfl | rfl | rfl | rfl | rfl | rfl | rfl | rfl | rfl | rfl | rfl | rfl <;> simp [BitVec.getLsbD_sshiftRight, BitVec.getElem_sshiftRight, BitVec.getLsbD_shiftLeft, BitVec.msb_eq_getLsbD_last, Nat.testBit]
theorem am_g127d (c b a : Int32) : (c <<< (20 : Int32) ||| b <<< (15 : Int32) ||| (8192 : Int32) ||| a <<< (7 : Int32) ||| (3 : Int32)) &&& (127 : Int32) = 3 &&& (127 : Int32) := by
  apply Int32.toBitVec_inj.mp
  have e3 : (3 : Int32) = nI 3 := rfl
  have e7 : (7 : Int32) = nI 7 := rfl
  have e15 : (15 : Int32) = nI 15 := rfl
  have e20 : (20 : Int32) = nI 20 := rfl
  have e127 : (127 : Int32) = nI 127 := rfl
  have e8192 : (8192 : Int32) = nI 8192 := rfl
  simp only [Int32.toBitVec_or, Int32.toBitVec_and, Int32.toBitVec_xor, e3, e7, e15, e20, e127, e8192]
  simp (discharger := decide) only [am_bsr, am_bsl, am_bnI, Int32.toBitVec_or, Int32.toBitVec_and]
  apply BitVec.eq_of_getLsbD_eq
  intro i hi
  rcases am_32s hi with rfl | rfl | rfl | rfl | rfl | rfl | rfl | rfl | rfl | rfl | rfl | rfl | rfl | rfl | rfl | rfl | rfl | rfl | rfl | rfl | rfl | rfl | rfl | rfl | rfl | rfl | rfl | rfl | rfl | rfl | rfl | rfl <;> simp [BitVec.getLsbD_sshiftRight, BitVec.getElem_sshiftRight, BitVec.getLsbD_shiftLeft, BitVec.msb_eq_getLsbD_last, Nat.testBit]
theorem am_g127e (c b a : Int32) : (c >>> (5 : Int32) <<< (25 : Int32) ||| a <<< (20 : Int32) ||| b <<< (15 : Int32) ||| (8192 : Int32) ||| (c &&& (31 : Int32)) <<< (7 : Int32) ||| (35 : Int32)) &&& (127 : Int32) = 35 &&& (127 : Int32) := by
  apply Int32.toBitVec_inj.mp
  have e5 : (5 : Int32) = nI 5 := rfl
  have e7 : (7 : Int32) = nI 7 := rfl
  have e15 : (15 : Int32) = nI 15 := rfl
  have e20 : (20 : Int32) = nI 20 := rfl
  have e25 : (25 : Int32) = nI 25 := rfl
  have e31 : (31 : Int32) = nI 31 := rfl
  have e35 : (35 : Int32) = nI 35 := rfl
  have e127 : (127 : Int32) = nI 127 := rfl
  have e8192 : (8192 : Int32) = nI 8192 := rfl
  simp only [Int32.toBitVec_or, Int32.toBitVec_and, Int32.toBitVec_xor, e5, e7, e15, e20, e25, e31, e35, e127, e8192]
  simp (discharger := decide) only [am_bsr, am_bsl, am_bnI, Int32.toBitVec_or, Int32.toBitVec_and]
  apply BitVec.eq_of_getLsbD_eq
  intro i hi
  rcases am_32s hi with rfl | rfl | rfl | rfl | rfl | rfl | rfl | rfl | rfl | rfl | rfl | rfl | rfl | rfl | rfl | rfl | rfl | rfl | rfl | rfl | rfl | rfl | rfl | rfl | rfl | rfl | rfl | rfl | rfl | rfl | rfl | rfl <;> simp [BitVec.getLsbD_sshiftRight, BitVec.getElem_sshiftRight, BitVec.getLsbD_shiftLeft, BitVec.msb_eq_getLsbD_last, Nat.testBit]
theorem am_g127f (b a : Int32) : (b <<< (15 : Int32) ||| a <<< (7 : Int32) ||| (103 : Int32)) &&& (127 : Int32) = 103 &&& (127 : Int32) := by
  apply Int32.toBitVec_inj.mp
  have e7 : (7 : Int32) = nI 7 := rfl
  have e15 : (15 : Int32) = nI 15 := rfl
  have e103 : (103 : Int32) = nI 103 := rfl
  have e127 : (127 : Int32) = nI 127 := rfl
  simp only [Int32.toBitVec_or, Int32.toBitVec_and, Int32.toBitVec_xor, e7, e15, e103, e127]
  simp (discharger := decide) only [am_bsr, am_bsl, am_bnI, Int32.toBitVec_or, Int32.toBitVec_and]
  apply BitVec.eq_of_getLsbD_eq
  intro i hi
  rcases am_32s hi with rfl | rfl | rfl | rfl | rfl | rfl | rfl | rfl | rfl | rfl | rfl | rfl | rfl | rfl | rfl | rfl | rfl | rfl | rfl | rfl | rfl | rfl | rfl | rfl | rfl | rfl | rfl | rfl | rfl | rfl | rfl | rfl <;> simp [BitVec.getLsbD_sshiftRight, BitVec.getElem_sshiftRight, BitVec.getLsbD_shiftLeft, BitVec.msb_eq_getLsbD_last, Nat.testBit]
theorem am_g127g (p q r s a : Int32) : ((p <<< (31 : Int32) ||| q <<< (21 : Int32)) ||| (r <<< (20 : Int32) ||| s <<< (12 : Int32)) ||| a <<< (7 : Int32) ||| (111 : Int32)) &&& (127 : Int32) = 111 &&& (127 : Int32) := by
  apply Int32.toBitVec_inj.mp
  have e7 : (7 : Int32) = nI 7 := rfl
  have e12 : (12 : Int32) = nI 12 := rfl
  have e20 : (20 : Int32) = nI 20 := rfl
  have e21 : (21 : Int32) = nI 21 := rfl
  have e31 : (31 : Int32) = nI 31 := rfl
  have e111 : (111 : Int32) = nI 111 := rfl
  have e127 : (127 : Int32) = nI 127 := rfl
  simp only [Int32.toBitVec_or, Int32.toBitVec_and, Int32.toBitVec_xor, e7, e12, e20, e21, e31, e111, e127]
  simp (discharger := decide) only [am_bsr, am_bsl, am_bnI, Int32.toBitVec_or, Int32.toBitVec_and]
  apply BitVec.eq_of_getLsbD_eq
  intro i hi
  rcases am_32s hi with rfl | rfl | rfl | rfl | rfl | rfl | rfl | rfl | rfl | rfl | rfl | rfl | rfl | rfl | rfl | rfl | rfl | rfl | rfl | rfl | rfl | rfl | rfl | rfl | rfl | rfl | rfl | rfl | rfl | rfl | rfl | rfl <;> simp [BitVec.getLsbD_sshiftRight, BitVec.getElem_sshiftRight, BitVec.getLsbD_shiftLeft, BitVec.msb_eq_getLsbD_last, Nat.testBit]
theorem am_g127h (p q r s a b f : Int32) : ((p <<< (31 : Int32) ||| q <<< (25 : Int32)) ||| b <<< (20 : Int32) ||| a <<< (15 : Int32) ||| f <<< (12 : Int32) ||| (r <<< (8 : Int32) ||| s <<< (7 : Int32)) ||| (99 : Int32)) &&& (127 : Int32) = 99 &&& (127 : Int32) := by
  apply Int32.toBitVec_inj.mp
  have e7 : (7 : Int32) = nI 7 := rfl
  have e8 : (8 : Int32) = nI 8 := rfl
  have e12 : (12 : Int32) = nI 12 := rfl
  have e15 : (15 : Int32) = nI 15 := rfl
  have e20 : (20 : Int32) = nI 20 := rfl
  have e25 : (25 : Int32) = nI 25 := rfl
  have e31 : (31 : Int32) = nI 31 := rfl
  have e99 : (99 : Int32) = nI 99 := rfl
  have e127 : (127 : Int32) = nI 127 := rfl
  simp only [Int32.toBitVec_or, Int32.toBitVec_and, Int32.toBitVec_xor, e7, e8, e12, e15, e20, e25, e31, e99, e127]
  simp (discharger := decide) only [am_bsr, am_bsl, am_bnI, Int32.toBitVec_or, Int32.toBitVec_and]
  apply BitVec.eq_of_getLsbD_eq
  intro i hi
  rcases am_32s hi with rfl | rfl | rfl | rfl | rfl | rfl | rfl | rfl | rfl | rfl | rfl | rfl | rfl | rfl | rfl | rfl | rfl | rfl | rfl | rfl | rfl | rfl | rfl | rfl | rfl | rfl | rfl | rfl | rfl | rfl | rfl | rfl <;> simp [BitVec.getLsbD_sshiftRight, BitVec.getElem_sshiftRight, BitVec.getLsbD_shiftLeft, BitVec.msb_eq_getLsbD_last, Nat.testBit]
theorem am_oth (n : Int32) : ∃ x : Int32, (if am_othz n = 0 then (0 : Int32) else 1073741824) = x <<< (30 : Int32) := by
  split
  · exact ⟨0, by decide⟩
  · exact ⟨1, by decide⟩
theorem am_gop_rw (n a b c : Int32) : am_gop (am_rw n a b c) := by
  unfold am_rw
  obtain ⟨x, e⟩ := am_oth n
  rw [e]
  have := am_g127a x c b (am_sel n) a
  exact Or.inr (Or.inr (Or.inr (Or.inl (this.trans (by decide)))))
theorem am_gop_iw (n a b c : Int32) : am_gop (am_iw n a b c) := by
  unfold am_iw
  obtain ⟨x, e⟩ := am_oth n
  rw [e]
  have := am_g127b x c b (am_sel n) a
  exact Or.inr (Or.inl (this.trans (by decide)))
theorem am_gop_uw (a b : Int32) : am_gop (am_uw a b) := Or.inr (Or.inr (Or.inr (Or.inr (Or.inl ((am_g127c b a).trans (by decide))))))
theorem am_gop_lw (a b c : Int32) : am_gop (am_lw a b c) := Or.inl ((am_g127d c b a).trans (by decide))
theorem am_gop_sw (a b c : Int32) : am_gop (am_sw a b c) := Or.inr (Or.inr (Or.inl ((am_g127e c b a).trans (by decide))))
theorem am_gop_jr (a b : Int32) : am_gop (am_jr a b) := Or.inr (Or.inr (Or.inr (Or.inr (Or.inr (Or.inr (Or.inl ((am_g127f b a).trans (by decide))))))))
theorem am_gop_jw (a b : Int32) : am_gop (am_jw a b) := Or.inr (Or.inr (Or.inr (Or.inr (Or.inr (Or.inr (Or.inr (Or.inl ((am_g127g _ _ _ _ a).trans (by decide)))))))))
theorem am_gop_bw (n a b o : Int32) : am_gop (am_bw n a b o) := Or.inr (Or.inr (Or.inr (Or.inr (Or.inr (Or.inl ((am_g127h _ _ _ _ a b _).trans (by decide)))))))
theorem am_gop_115 : am_gop (115 : Int32) := by decide
theorem am_gop_pw (n a b c : Int32) : am_gop (am_pw n a b c) := by
  unfold am_pw
  split
  · exact am_gop_uw _ _
  split
  · exact am_gop_lw _ _ _
  split
  · exact am_gop_sw _ _ _
  split
  · exact am_gop_115
  split
  · exact am_gop_rw _ _ _ _
  · exact am_gop_iw _ _ _ _
theorem ly_v_gop {C D : Nat → Nat → Int32} {F : Nat} {sz : Nat → Nat} {B : Nat → Prop} {bo : Nat → Nat} {sm : Nat → Nat → Prop} {ln sp : Nat → Nat} {K f t r : Nat} : am_gop (ly_v C D F sz B bo sm ln sp K f t r) := by
  unfold ly_v
  split
  · exact am_gop_jw _ _
  split
  · split
    · exact am_gop_uw _ _
    · exact am_gop_iw _ _ _ _
  unfold ly_cd
  split
  · exact am_gop_jw _ _
  split
  · exact am_gop_jw _ _
  split
  · exact am_gop_jw _ _
  split
  · exact am_gop_jr _ _
  split
  · exact am_gop_jr _ _
  split
  · exact am_gop_pw _ _ _ _
  · exact am_gop_bw _ _ _ _
theorem ly_rv_gop {C : Nat → Nat → Int32} {ln sp : Nat → Nat} {k r : Nat} : am_gop (ly_rv C ln sp k r) := by
  unfold ly_rv
  split
  · exact am_gop_pw _ _ _ _
  · exact am_gop_jr _ _
/-- the two ways to write an address -/
theorem am_adu : ∀ w, w < 601 → (4096 + 4 * nI w + 2048) &&& (-4096) = am_aup (4096 + 4 * nI w) <<< (12 : Int32) := by decide +kernel
theorem am_adl : ∀ w, w < 601 → (4096 + 4 * nI w) <<< (20 : Int32) = am_alo (4096 + 4 * nI w) <<< (20 : Int32) := by decide +kernel
theorem am_adw (w : Nat) : 4096 + 4 * nI w = nI (4096 + 4 * w) := by rw [show (4096 : Int32) = nI 4096 from rfl, show (4 : Int32) = nI 4 from rfl, nI_mul, nI_add]
theorem am_by (a b : Nat) : nI (4096 + 4 * a) - nI (4096 + 4 * b) = 4 * (nI a - nI b) := by
  rw [← am_adw, ← am_adw]
  generalize nI a = x
  generalize nI b = y
  grind
/-- plain words -/
theorem am_cod_pw {n a b c t pc pa fo a' b' c' : Int32} {k : Nat} (hk : k < 35) (hn : n = nI k) (hp : k ≤ 21 ∨ k = 34) (ha : a' = am_kpt (am_kA n) a) (hb : b' = am_kpt (am_kB n) b) (hc : c' = am_kpt (am_kC n) c) : am_cod n a b c t pc pa fo = am_pw n a' b' c' := by
  subst hn
  have T : ∀ k, k < 22 → ¬ am_kA (nI k) = 0 ∧ ¬ am_kB (nI k) = 0 ∧ (¬ k = 19 → ¬ am_kC (nI k) = 0) := by decide +kernel
  have T3 : ∀ k, k < 19 → am_sel (nI k) = am_f3 (nI k) := by decide +kernel
  have T4 : ∀ k, k < 10 → ((if am_othz (nI k) = 0 then (0 : Int32) else 1073741824) = (if nI k = 1 then 1073741824 else if nI k = 7 then 1073741824 else 0)) := by decide +kernel
  have T5 : ∀ k, k < 19 → 10 ≤ k → ((if am_othz (nI k) = 0 then (0 : Int32) else 1073741824) = (if nI k = 18 then 1073741824 else 0)) := by decide +kernel
  have NN : ∀ m, m < 35 → k ≠ m → ¬ nI k = nI m := fun m hm h z => h ((nI_eq (by omega) (by omega)).mp z)
  rcases hp with hp | hp
  · have hA : a' = a := ha.trans (if_neg (T k (by omega)).1)
    have hB : b' = b := hb.trans (if_neg (T k (by omega)).2.1)
    subst hA; subst hB
    unfold am_cod am_pw
    by_cases h9 : k < 10
    · have hC : c' = c := hc.trans (if_neg ((T k (by omega)).2.2 (by omega)))
      subst hC
      rw [if_neg (show ¬ (9 : Int32) < nI k from nI_nlt (a := 9) (b := k) (by omega) (by omega))]
      rw [if_neg (show ¬ nI k = (19 : Int32) from NN 19 (by decide) (by omega)), if_neg (show ¬ nI k = (20 : Int32) from NN 20 (by decide) (by omega)), if_neg (show ¬ nI k = (21 : Int32) from NN 21 (by decide) (by omega)), if_neg (show ¬ nI k = (34 : Int32) from NN 34 (by decide) (by omega)), if_pos (show nI k < (10 : Int32) from nI_lt (a := k) (b := 10) h9 (by decide))]
      unfold am_rw
      rw [T4 k h9, T3 k (by omega)]
      split
      · rfl
      split
      · rfl
      · rfl
    by_cases h19 : k < 19
    · have hC : c' = c := hc.trans (if_neg ((T k (by omega)).2.2 (by omega)))
      subst hC
      have epw : am_pw (nI k) a' b' c' = am_iw (nI k) a' b' c' := by
        unfold am_pw
        rw [if_neg (show ¬ nI k = (19 : Int32) from NN 19 (by decide) (by omega)), if_neg (show ¬ nI k = (20 : Int32) from NN 20 (by decide) (by omega)), if_neg (show ¬ nI k = (21 : Int32) from NN 21 (by decide) (by omega)), if_neg (show ¬ nI k = (34 : Int32) from NN 34 (by decide) (by omega)), if_neg (show ¬ nI k < (10 : Int32) from nI_nlt (a := k) (b := 10) (by omega) (by omega))]
      show am_cod (nI k) a' b' c' t pc pa fo = am_pw (nI k) a' b' c'
      rw [epw]
      unfold am_cod
      rw [if_pos (show (9 : Int32) < nI k from nI_lt (a := 9) (b := k) (by omega) (by omega))]
      unfold am_iw
      rw [T5 k h19 (by omega), T3 k h19]
      by_cases h15 : k < 16
      · rw [if_neg (show ¬ (15 : Int32) < nI k from nI_nlt (a := 15) (b := k) (by omega) (by omega)), if_neg (show ¬ nI k = (18 : Int32) from NN 18 (by decide) (by omega)), Int32.zero_or]
      · rw [if_pos (show (15 : Int32) < nI k from nI_lt (a := 15) (b := k) (by omega) (by omega)), if_neg (show ¬ (18 : Int32) < nI k from nI_nlt (a := 18) (b := k) (by omega) (by omega))]
        split
        · rfl
        · rfl
    rw [if_pos (show (9 : Int32) < nI k from nI_lt (a := 9) (b := k) (by omega) (by omega)), if_pos (show (15 : Int32) < nI k from nI_lt (a := 15) (b := k) (by omega) (by omega)), if_pos (show (18 : Int32) < nI k from nI_lt (a := 18) (b := k) (by omega) (by omega))]
    by_cases e19 : k = 19
    · subst e19
      rw [if_pos (show nI 19 = 19 from rfl), if_pos (show nI 19 = 19 from rfl)]
      rfl
    have hC : c' = c := hc.trans (if_neg ((T k (by omega)).2.2 e19))
    subst hC
    rw [if_neg (show ¬ nI k = (19 : Int32) from NN 19 (by decide) (by omega)), if_neg (show ¬ nI k = (19 : Int32) from NN 19 (by decide) (by omega))]
    by_cases e20 : k = 20
    · subst e20
      rw [if_pos (show nI 20 = 20 from rfl), if_pos (show nI 20 = 20 from rfl)]
      rfl
    have e21 : k = 21 := by omega
    subst e21
    rw [if_neg (show ¬ nI 21 = 20 by decide), if_neg (show ¬ nI 21 = 20 by decide), if_pos (show nI 21 = 21 from rfl), if_pos (show nI 21 = 21 from rfl)]
    unfold am_sw
    rw [am_ste]
  · subst hp
    have e1 : am_cod (nI 34) a b c t pc pa fo = 115 := by
      unfold am_cod
      rw [if_pos (by decide), if_pos (by decide), if_pos (by decide)]
      repeat rw [if_neg (by decide)]
    have e2 : am_pw (nI 34) a' b' c' = 115 := by
      unfold am_pw
      rw [if_neg (by decide), if_neg (by decide), if_neg (by decide), if_pos (by decide)]
    rw [e1, e2]
