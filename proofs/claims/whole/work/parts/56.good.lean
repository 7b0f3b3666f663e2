def am_igd (n a b c : Int32) : Int32 := if zb (¬ n < 0 ∧ ¬ 34 < n) = 0 then (0) else (if 9 < n then (if 18 < n then (if n = 20 then (if zb ((¬ a < 0 ∧ ¬ 31 < a) ∧ ¬ a = 5) = 0 then (0) else (if zb ((¬ b < 0 ∧ ¬ 31 < b) ∧ ¬ b = 5) = 0 then (0) else (if zb (¬ n < 16 ∧ ¬ 18 < n) = 0 then (if zb (¬ c < -2048 ∧ ¬ 2047 < c) = 0 then (0) else (1)) else (if zb (¬ c < 0 ∧ ¬ 31 < c) = 0 then (0) else (1))))) else (if n = 21 then (if zb ((¬ a < 0 ∧ ¬ 31 < a) ∧ ¬ a = 5) = 0 then (0) else (if zb ((¬ b < 0 ∧ ¬ 31 < b) ∧ ¬ b = 5) = 0 then (0) else (if zb (¬ n < 16 ∧ ¬ 18 < n) = 0 then (if zb (¬ c < -2048 ∧ ¬ 2047 < c) = 0 then (0) else (1)) else (if zb (¬ c < 0 ∧ ¬ 31 < c) = 0 then (0) else (1))))) else (if n = 19 then (if zb ((¬ a < 0 ∧ ¬ 31 < a) ∧ ¬ a = 5) = 0 then (0) else (if zb (¬ b < 0 ∧ ¬ 1048575 < b) = 0 then (0) else (1))) else (if 27 < n then (if n = 28 then (zb (¬ a < 0 ∧ ¬ 39 < a)) else (if n = 29 then (zb (¬ a < 0 ∧ ¬ 23 < a)) else (if n = 30 then (zb (¬ a < 0 ∧ ¬ 23 < a)) else (if n = 32 then (if zb ((¬ a < 0 ∧ ¬ 31 < a) ∧ ¬ a = 5) = 0 then (0) else (if zb (¬ b < 0 ∧ ¬ 23 < b) = 0 then (0) else (1))) else (if n = 33 then (if zb ((¬ a < 0 ∧ ¬ 31 < a) ∧ ¬ a = 5) = 0 then (0) else (1)) else (1)))))) else (if zb ((¬ a < 0 ∧ ¬ 31 < a) ∧ ¬ a = 5) = 0 then (0) else (if zb ((¬ b < 0 ∧ ¬ 31 < b) ∧ ¬ b = 5) = 0 then (0) else (if zb (¬ c < 0 ∧ ¬ 39 < c) = 0 then (0) else (1)))))))) else (if zb ((¬ a < 0 ∧ ¬ 31 < a) ∧ ¬ a = 5) = 0 then (0) else (if zb ((¬ b < 0 ∧ ¬ 31 < b) ∧ ¬ b = 5) = 0 then (0) else (if zb (¬ n < 16 ∧ ¬ 18 < n) = 0 then (if zb (¬ c < -2048 ∧ ¬ 2047 < c) = 0 then (0) else (1)) else (if zb (¬ c < 0 ∧ ¬ 31 < c) = 0 then (0) else (1)))))) else (if zb ((¬ a < 0 ∧ ¬ 31 < a) ∧ ¬ a = 5) = 0 then (0) else (if zb ((¬ b < 0 ∧ ¬ 31 < b) ∧ ¬ b = 5) = 0 then (0) else (if zb ((¬ c < 0 ∧ ¬ 31 < c) ∧ ¬ c = 5) = 0 then (0) else (1)))))
theorem c_X12_isGood {D : Nat → Nat → Int32} {e : am_E} {kc ks : Nat} {Q : am_Q} {n a b c : Int32}  (q : Q (some (.int (am_igd n a b c))) (hp D e)) : am_Go (mX12_isGood, 0, am_ent mX12_isGood [.int n, .int a, .int b, .int c], [], hp D e, kc, ks, Q) := by
  refine go_s 3 rfl ?_
  refine go_st kX12_isGood_4 okX12_in rfl rfl rfl (Nat.zero_le _) (Nat.zero_le _) ?_
  refine c_X12_in ?_
  refine go_s 1 rfl ?_
  refine go_if (fun c7 => ?_) (fun c7 => ?_)
  · refine go_s 1 rfl ?_
    exact go_retz rfl rfl (by first | exact Or.inl rfl | exact Or.inr rfl | exact zb_01) (am_qi q (by exact (if_pos c7).symm) (by rfl))
  · refine go_s 3 rfl ?_
    refine go_if (fun c15 => ?_) (fun c15 => ?_)
    · refine go_s 3 rfl ?_
      refine go_if (fun c48 => ?_) (fun c48 => ?_)
      · refine go_s 3 rfl ?_
        refine go_if (fun c54 => ?_) (fun c54 => ?_)
        · refine go_s 1 rfl ?_
          refine go_st kX12_isGood_64 okX12_isRegister rfl rfl rfl (Nat.zero_le _) (Nat.zero_le _) ?_
          refine c_X12_isRegister ?_
          refine go_s 1 rfl ?_
          refine go_if (fun c67 => ?_) (fun c67 => ?_)
          · refine go_s 1 rfl ?_
            exact go_retz rfl rfl (by first | exact Or.inl rfl | exact Or.inr rfl | exact zb_01) (am_qi q (by exact ((if_neg c7).trans ((if_pos c15).trans ((if_pos c48).trans ((if_pos c54).trans (if_pos c67))))).symm) (by rfl))
          · refine go_s 1 rfl ?_
            refine go_st kX12_isGood_71 okX12_isRegister rfl rfl rfl (Nat.zero_le _) (Nat.zero_le _) ?_
            refine c_X12_isRegister ?_
            refine go_s 1 rfl ?_
            refine go_if (fun c74 => ?_) (fun c74 => ?_)
            · refine go_s 1 rfl ?_
              exact go_retz rfl rfl (by first | exact Or.inl rfl | exact Or.inr rfl | exact zb_01) (am_qi q (by exact ((if_neg c7).trans ((if_pos c15).trans ((if_pos c48).trans ((if_pos c54).trans ((if_neg c67).trans (if_pos c74)))))).symm) (by rfl))
            · refine go_s 3 rfl ?_
              refine go_st kX12_isGood_82 okX12_in rfl rfl rfl (Nat.zero_le _) (Nat.zero_le _) ?_
              refine c_X12_in ?_
              refine go_s 1 rfl ?_
              refine go_if (fun c85 => ?_) (fun c85 => ?_)
              · refine go_s 3 rfl ?_
                refine go_st kX12_isGood_108 okX12_in rfl rfl rfl (Nat.zero_le _) (Nat.zero_le _) ?_
                refine c_X12_in ?_
                refine go_s 1 rfl ?_
                refine go_if (fun c111 => ?_) (fun c111 => ?_)
                · refine go_s 1 rfl ?_
                  exact go_retz rfl rfl (by first | exact Or.inl rfl | exact Or.inr rfl | exact zb_01) (am_qi q (by exact ((if_neg c7).trans ((if_pos c15).trans ((if_pos c48).trans ((if_pos c54).trans ((if_neg c67).trans ((if_neg c74).trans ((if_pos c85).trans (if_pos c111)))))))).symm) (by rfl))
                · refine go_s 2 rfl ?_
                  exact go_retz rfl rfl (by first | exact Or.inl rfl | exact Or.inr rfl | exact zb_01) (am_qi q (by exact ((if_neg c7).trans ((if_pos c15).trans ((if_pos c48).trans ((if_pos c54).trans ((if_neg c67).trans ((if_neg c74).trans ((if_pos c85).trans (if_neg c111)))))))).symm) (by rfl))
              · refine go_s 3 rfl ?_
                refine go_st kX12_isGood_92 okX12_in rfl rfl rfl (Nat.zero_le _) (Nat.zero_le _) ?_
                refine c_X12_in ?_
                refine go_s 1 rfl ?_
                refine go_if (fun c95 => ?_) (fun c95 => ?_)
                · refine go_s 1 rfl ?_
                  exact go_retz rfl rfl (by first | exact Or.inl rfl | exact Or.inr rfl | exact zb_01) (am_qi q (by exact ((if_neg c7).trans ((if_pos c15).trans ((if_pos c48).trans ((if_pos c54).trans ((if_neg c67).trans ((if_neg c74).trans ((if_neg c85).trans (if_pos c95)))))))).symm) (by rfl))
                · refine go_s 3 rfl ?_
                  exact go_retz rfl rfl (by first | exact Or.inl rfl | exact Or.inr rfl | exact zb_01) (am_qi q (by exact ((if_neg c7).trans ((if_pos c15).trans ((if_pos c48).trans ((if_pos c54).trans ((if_neg c67).trans ((if_neg c74).trans ((if_neg c85).trans (if_neg c95)))))))).symm) (by rfl))
        · refine go_s 3 rfl ?_
          refine go_if (fun c60 => ?_) (fun c60 => ?_)
          · refine go_s 1 rfl ?_
            refine go_st kX12_isGood_64 okX12_isRegister rfl rfl rfl (Nat.zero_le _) (Nat.zero_le _) ?_
            refine c_X12_isRegister ?_
            refine go_s 1 rfl ?_
            refine go_if (fun c67 => ?_) (fun c67 => ?_)
            · refine go_s 1 rfl ?_
              exact go_retz rfl rfl (by first | exact Or.inl rfl | exact Or.inr rfl | exact zb_01) (am_qi q (by exact ((if_neg c7).trans ((if_pos c15).trans ((if_pos c48).trans ((if_neg c54).trans ((if_pos c60).trans (if_pos c67)))))).symm) (by rfl))
            · refine go_s 1 rfl ?_
              refine go_st kX12_isGood_71 okX12_isRegister rfl rfl rfl (Nat.zero_le _) (Nat.zero_le _) ?_
              refine c_X12_isRegister ?_
              refine go_s 1 rfl ?_
              refine go_if (fun c74 => ?_) (fun c74 => ?_)
              · refine go_s 1 rfl ?_
                exact go_retz rfl rfl (by first | exact Or.inl rfl | exact Or.inr rfl | exact zb_01) (am_qi q (by exact ((if_neg c7).trans ((if_pos c15).trans ((if_pos c48).trans ((if_neg c54).trans ((if_pos c60).trans ((if_neg c67).trans (if_pos c74))))))).symm) (by rfl))
              · refine go_s 3 rfl ?_
                refine go_st kX12_isGood_82 okX12_in rfl rfl rfl (Nat.zero_le _) (Nat.zero_le _) ?_
                refine c_X12_in ?_
                refine go_s 1 rfl ?_
                refine go_if (fun c85 => ?_) (fun c85 => ?_)
                · refine go_s 3 rfl ?_
                  refine go_st kX12_isGood_108 okX12_in rfl rfl rfl (Nat.zero_le _) (Nat.zero_le _) ?_
                  refine c_X12_in ?_
                  refine go_s 1 rfl ?_
                  refine go_if (fun c111 => ?_) (fun c111 => ?_)
                  · refine go_s 1 rfl ?_
                    exact go_retz rfl rfl (by first | exact Or.inl rfl | exact Or.inr rfl | exact zb_01) (am_qi q (by exact ((if_neg c7).trans ((if_pos c15).trans ((if_pos c48).trans ((if_neg c54).trans ((if_pos c60).trans ((if_neg c67).trans ((if_neg c74).trans ((if_pos c85).trans (if_pos c111))))))))).symm) (by rfl))
                  · refine go_s 2 rfl ?_
                    exact go_retz rfl rfl (by first | exact Or.inl rfl | exact Or.inr rfl | exact zb_01) (am_qi q (by exact ((if_neg c7).trans ((if_pos c15).trans ((if_pos c48).trans ((if_neg c54).trans ((if_pos c60).trans ((if_neg c67).trans ((if_neg c74).trans ((if_pos c85).trans (if_neg c111))))))))).symm) (by rfl))
                · refine go_s 3 rfl ?_
                  refine go_st kX12_isGood_92 okX12_in rfl rfl rfl (Nat.zero_le _) (Nat.zero_le _) ?_
                  refine c_X12_in ?_
                  refine go_s 1 rfl ?_
                  refine go_if (fun c95 => ?_) (fun c95 => ?_)
                  · refine go_s 1 rfl ?_
                    exact go_retz rfl rfl (by first | exact Or.inl rfl | exact Or.inr rfl | exact zb_01) (am_qi q (by exact ((if_neg c7).trans ((if_pos c15).trans ((if_pos c48).trans ((if_neg c54).trans ((if_pos c60).trans ((if_neg c67).trans ((if_neg c74).trans ((if_neg c85).trans (if_pos c95))))))))).symm) (by rfl))
                  · refine go_s 3 rfl ?_
                    exact go_retz rfl rfl (by first | exact Or.inl rfl | exact Or.inr rfl | exact zb_01) (am_qi q (by exact ((if_neg c7).trans ((if_pos c15).trans ((if_pos c48).trans ((if_neg c54).trans ((if_pos c60).trans ((if_neg c67).trans ((if_neg c74).trans ((if_neg c85).trans (if_neg c95))))))))).symm) (by rfl))
          · refine go_s 3 rfl ?_
            refine go_if (fun c123 => ?_) (fun c123 => ?_)
            · refine go_s 1 rfl ?_
              refine go_st kX12_isGood_127 okX12_isRegister rfl rfl rfl (Nat.zero_le _) (Nat.zero_le _) ?_
              refine c_X12_isRegister ?_
              refine go_s 1 rfl ?_
              refine go_if (fun c130 => ?_) (fun c130 => ?_)
              · refine go_s 1 rfl ?_
                exact go_retz rfl rfl (by first | exact Or.inl rfl | exact Or.inr rfl | exact zb_01) (am_qi q (by exact ((if_neg c7).trans ((if_pos c15).trans ((if_pos c48).trans ((if_neg c54).trans ((if_neg c60).trans ((if_pos c123).trans (if_pos c130))))))).symm) (by rfl))
              · refine go_s 3 rfl ?_
                refine go_st kX12_isGood_137 okX12_in rfl rfl rfl (Nat.zero_le _) (Nat.zero_le _) ?_
                refine c_X12_in ?_
                refine go_s 1 rfl ?_
                refine go_if (fun c140 => ?_) (fun c140 => ?_)
                · refine go_s 1 rfl ?_
                  exact go_retz rfl rfl (by first | exact Or.inl rfl | exact Or.inr rfl | exact zb_01) (am_qi q (by exact ((if_neg c7).trans ((if_pos c15).trans ((if_pos c48).trans ((if_neg c54).trans ((if_neg c60).trans ((if_pos c123).trans ((if_neg c130).trans (if_pos c140)))))))).symm) (by rfl))
                · refine go_s 2 rfl ?_
                  exact go_retz rfl rfl (by first | exact Or.inl rfl | exact Or.inr rfl | exact zb_01) (am_qi q (by exact ((if_neg c7).trans ((if_pos c15).trans ((if_pos c48).trans ((if_neg c54).trans ((if_neg c60).trans ((if_pos c123).trans ((if_neg c130).trans (if_neg c140)))))))).symm) (by rfl))
            · refine go_s 3 rfl ?_
              refine go_if (fun c152 => ?_) (fun c152 => ?_)
              · refine go_s 3 rfl ?_
                refine go_if (fun c188 => ?_) (fun c188 => ?_)
                · refine go_s 3 rfl ?_
                  refine go_st kX12_isGood_195 okX12_in rfl rfl rfl (Nat.zero_le _) (Nat.zero_le _) ?_
                  refine c_X12_in ?_
                  exact go_retz rfl rfl (by first | exact Or.inl rfl | exact Or.inr rfl | exact zb_01) (am_qi q (by exact ((if_neg c7).trans ((if_pos c15).trans ((if_pos c48).trans ((if_neg c54).trans ((if_neg c60).trans ((if_neg c123).trans ((if_pos c152).trans (if_pos c188)))))))).symm) (by rfl))
                · refine go_s 3 rfl ?_
                  refine go_if (fun c202 => ?_) (fun c202 => ?_)
                  · refine go_s 3 rfl ?_
                    refine go_st kX12_isGood_215 okX12_in rfl rfl rfl (Nat.zero_le _) (Nat.zero_le _) ?_
                    refine c_X12_in ?_
                    exact go_retz rfl rfl (by first | exact Or.inl rfl | exact Or.inr rfl | exact zb_01) (am_qi q (by exact ((if_neg c7).trans ((if_pos c15).trans ((if_pos c48).trans ((if_neg c54).trans ((if_neg c60).trans ((if_neg c123).trans ((if_pos c152).trans ((if_neg c188).trans (if_pos c202))))))))).symm) (by rfl))
                  · refine go_s 3 rfl ?_
                    refine go_if (fun c208 => ?_) (fun c208 => ?_)
                    · refine go_s 3 rfl ?_
                      refine go_st kX12_isGood_215 okX12_in rfl rfl rfl (Nat.zero_le _) (Nat.zero_le _) ?_
                      refine c_X12_in ?_
                      exact go_retz rfl rfl (by first | exact Or.inl rfl | exact Or.inr rfl | exact zb_01) (am_qi q (by exact ((if_neg c7).trans ((if_pos c15).trans ((if_pos c48).trans ((if_neg c54).trans ((if_neg c60).trans ((if_neg c123).trans ((if_pos c152).trans ((if_neg c188).trans ((if_neg c202).trans (if_pos c208)))))))))).symm) (by rfl))
                    · refine go_s 3 rfl ?_
                      refine go_if (fun c222 => ?_) (fun c222 => ?_)
                      · refine go_s 1 rfl ?_
                        refine go_st kX12_isGood_226 okX12_isRegister rfl rfl rfl (Nat.zero_le _) (Nat.zero_le _) ?_
                        refine c_X12_isRegister ?_
                        refine go_s 1 rfl ?_
                        refine go_if (fun c229 => ?_) (fun c229 => ?_)
                        · refine go_s 1 rfl ?_
                          exact go_retz rfl rfl (by first | exact Or.inl rfl | exact Or.inr rfl | exact zb_01) (am_qi q (by exact ((if_neg c7).trans ((if_pos c15).trans ((if_pos c48).trans ((if_neg c54).trans ((if_neg c60).trans ((if_neg c123).trans ((if_pos c152).trans ((if_neg c188).trans ((if_neg c202).trans ((if_neg c208).trans ((if_pos c222).trans (if_pos c229)))))))))))).symm) (by rfl))
                        · refine go_s 3 rfl ?_
                          refine go_st kX12_isGood_236 okX12_in rfl rfl rfl (Nat.zero_le _) (Nat.zero_le _) ?_
                          refine c_X12_in ?_
                          refine go_s 1 rfl ?_
                          refine go_if (fun c239 => ?_) (fun c239 => ?_)
                          · refine go_s 1 rfl ?_
                            exact go_retz rfl rfl (by first | exact Or.inl rfl | exact Or.inr rfl | exact zb_01) (am_qi q (by exact ((if_neg c7).trans ((if_pos c15).trans ((if_pos c48).trans ((if_neg c54).trans ((if_neg c60).trans ((if_neg c123).trans ((if_pos c152).trans ((if_neg c188).trans ((if_neg c202).trans ((if_neg c208).trans ((if_pos c222).trans ((if_neg c229).trans (if_pos c239))))))))))))).symm) (by rfl))
                          · refine go_s 2 rfl ?_
                            exact go_retz rfl rfl (by first | exact Or.inl rfl | exact Or.inr rfl | exact zb_01) (am_qi q (by exact ((if_neg c7).trans ((if_pos c15).trans ((if_pos c48).trans ((if_neg c54).trans ((if_neg c60).trans ((if_neg c123).trans ((if_pos c152).trans ((if_neg c188).trans ((if_neg c202).trans ((if_neg c208).trans ((if_pos c222).trans ((if_neg c229).trans (if_neg c239))))))))))))).symm) (by rfl))
                      · refine go_s 3 rfl ?_
                        refine go_if (fun c251 => ?_) (fun c251 => ?_)
                        · refine go_s 1 rfl ?_
                          refine go_st kX12_isGood_255 okX12_isRegister rfl rfl rfl (Nat.zero_le _) (Nat.zero_le _) ?_
                          refine c_X12_isRegister ?_
                          refine go_s 1 rfl ?_
                          refine go_if (fun c258 => ?_) (fun c258 => ?_)
                          · refine go_s 1 rfl ?_
                            exact go_retz rfl rfl (by first | exact Or.inl rfl | exact Or.inr rfl | exact zb_01) (am_qi q (by exact ((if_neg c7).trans ((if_pos c15).trans ((if_pos c48).trans ((if_neg c54).trans ((if_neg c60).trans ((if_neg c123).trans ((if_pos c152).trans ((if_neg c188).trans ((if_neg c202).trans ((if_neg c208).trans ((if_neg c222).trans ((if_pos c251).trans (if_pos c258))))))))))))).symm) (by rfl))
                          · refine go_s 2 rfl ?_
                            exact go_retz rfl rfl (by first | exact Or.inl rfl | exact Or.inr rfl | exact zb_01) (am_qi q (by exact ((if_neg c7).trans ((if_pos c15).trans ((if_pos c48).trans ((if_neg c54).trans ((if_neg c60).trans ((if_neg c123).trans ((if_pos c152).trans ((if_neg c188).trans ((if_neg c202).trans ((if_neg c208).trans ((if_neg c222).trans ((if_pos c251).trans (if_neg c258))))))))))))).symm) (by rfl))
                        · refine go_s 2 rfl ?_
                          exact go_retz rfl rfl (by first | exact Or.inl rfl | exact Or.inr rfl | exact zb_01) (am_qi q (by exact ((if_neg c7).trans ((if_pos c15).trans ((if_pos c48).trans ((if_neg c54).trans ((if_neg c60).trans ((if_neg c123).trans ((if_pos c152).trans ((if_neg c188).trans ((if_neg c202).trans ((if_neg c208).trans ((if_neg c222).trans (if_neg c251)))))))))))).symm) (by rfl))
              · refine go_s 1 rfl ?_
                refine go_st kX12_isGood_156 okX12_isRegister rfl rfl rfl (Nat.zero_le _) (Nat.zero_le _) ?_
                refine c_X12_isRegister ?_
                refine go_s 1 rfl ?_
                refine go_if (fun c159 => ?_) (fun c159 => ?_)
                · refine go_s 1 rfl ?_
                  exact go_retz rfl rfl (by first | exact Or.inl rfl | exact Or.inr rfl | exact zb_01) (am_qi q (by exact ((if_neg c7).trans ((if_pos c15).trans ((if_pos c48).trans ((if_neg c54).trans ((if_neg c60).trans ((if_neg c123).trans ((if_neg c152).trans (if_pos c159)))))))).symm) (by rfl))
                · refine go_s 1 rfl ?_
                  refine go_st kX12_isGood_163 okX12_isRegister rfl rfl rfl (Nat.zero_le _) (Nat.zero_le _) ?_
                  refine c_X12_isRegister ?_
                  refine go_s 1 rfl ?_
                  refine go_if (fun c166 => ?_) (fun c166 => ?_)
                  · refine go_s 1 rfl ?_
                    exact go_retz rfl rfl (by first | exact Or.inl rfl | exact Or.inr rfl | exact zb_01) (am_qi q (by exact ((if_neg c7).trans ((if_pos c15).trans ((if_pos c48).trans ((if_neg c54).trans ((if_neg c60).trans ((if_neg c123).trans ((if_neg c152).trans ((if_neg c159).trans (if_pos c166))))))))).symm) (by rfl))
                  · refine go_s 3 rfl ?_
                    refine go_st kX12_isGood_173 okX12_in rfl rfl rfl (Nat.zero_le _) (Nat.zero_le _) ?_
                    refine c_X12_in ?_
                    refine go_s 1 rfl ?_
                    refine go_if (fun c176 => ?_) (fun c176 => ?_)
                    · refine go_s 1 rfl ?_
                      exact go_retz rfl rfl (by first | exact Or.inl rfl | exact Or.inr rfl | exact zb_01) (am_qi q (by exact ((if_neg c7).trans ((if_pos c15).trans ((if_pos c48).trans ((if_neg c54).trans ((if_neg c60).trans ((if_neg c123).trans ((if_neg c152).trans ((if_neg c159).trans ((if_neg c166).trans (if_pos c176)))))))))).symm) (by rfl))
                    · refine go_s 2 rfl ?_
                      exact go_retz rfl rfl (by first | exact Or.inl rfl | exact Or.inr rfl | exact zb_01) (am_qi q (by exact ((if_neg c7).trans ((if_pos c15).trans ((if_pos c48).trans ((if_neg c54).trans ((if_neg c60).trans ((if_neg c123).trans ((if_neg c152).trans ((if_neg c159).trans ((if_neg c166).trans (if_neg c176)))))))))).symm) (by rfl))
      · refine go_s 1 rfl ?_
        refine go_st kX12_isGood_64 okX12_isRegister rfl rfl rfl (Nat.zero_le _) (Nat.zero_le _) ?_
        refine c_X12_isRegister ?_
        refine go_s 1 rfl ?_
        refine go_if (fun c67 => ?_) (fun c67 => ?_)
        · refine go_s 1 rfl ?_
          exact go_retz rfl rfl (by first | exact Or.inl rfl | exact Or.inr rfl | exact zb_01) (am_qi q (by exact ((if_neg c7).trans ((if_pos c15).trans ((if_neg c48).trans (if_pos c67)))).symm) (by rfl))
        · refine go_s 1 rfl ?_
          refine go_st kX12_isGood_71 okX12_isRegister rfl rfl rfl (Nat.zero_le _) (Nat.zero_le _) ?_
          refine c_X12_isRegister ?_
          refine go_s 1 rfl ?_
          refine go_if (fun c74 => ?_) (fun c74 => ?_)
          · refine go_s 1 rfl ?_
            exact go_retz rfl rfl (by first | exact Or.inl rfl | exact Or.inr rfl | exact zb_01) (am_qi q (by exact ((if_neg c7).trans ((if_pos c15).trans ((if_neg c48).trans ((if_neg c67).trans (if_pos c74))))).symm) (by rfl))
          · refine go_s 3 rfl ?_
            refine go_st kX12_isGood_82 okX12_in rfl rfl rfl (Nat.zero_le _) (Nat.zero_le _) ?_
            refine c_X12_in ?_
            refine go_s 1 rfl ?_
            refine go_if (fun c85 => ?_) (fun c85 => ?_)
            · refine go_s 3 rfl ?_
              refine go_st kX12_isGood_108 okX12_in rfl rfl rfl (Nat.zero_le _) (Nat.zero_le _) ?_
              refine c_X12_in ?_
              refine go_s 1 rfl ?_
              refine go_if (fun c111 => ?_) (fun c111 => ?_)
              · refine go_s 1 rfl ?_
                exact go_retz rfl rfl (by first | exact Or.inl rfl | exact Or.inr rfl | exact zb_01) (am_qi q (by exact ((if_neg c7).trans ((if_pos c15).trans ((if_neg c48).trans ((if_neg c67).trans ((if_neg c74).trans ((if_pos c85).trans (if_pos c111))))))).symm) (by rfl))
              · refine go_s 2 rfl ?_
                exact go_retz rfl rfl (by first | exact Or.inl rfl | exact Or.inr rfl | exact zb_01) (am_qi q (by exact ((if_neg c7).trans ((if_pos c15).trans ((if_neg c48).trans ((if_neg c67).trans ((if_neg c74).trans ((if_pos c85).trans (if_neg c111))))))).symm) (by rfl))
            · refine go_s 3 rfl ?_
              refine go_st kX12_isGood_92 okX12_in rfl rfl rfl (Nat.zero_le _) (Nat.zero_le _) ?_
              refine c_X12_in ?_
              refine go_s 1 rfl ?_
              refine go_if (fun c95 => ?_) (fun c95 => ?_)
              · refine go_s 1 rfl ?_
                exact go_retz rfl rfl (by first | exact Or.inl rfl | exact Or.inr rfl | exact zb_01) (am_qi q (by exact ((if_neg c7).trans ((if_pos c15).trans ((if_neg c48).trans ((if_neg c67).trans ((if_neg c74).trans ((if_neg c85).trans (if_pos c95))))))).symm) (by rfl))
              · refine go_s 3 rfl ?_
                exact go_retz rfl rfl (by first | exact Or.inl rfl | exact Or.inr rfl | exact zb_01) (am_qi q (by exact ((if_neg c7).trans ((if_pos c15).trans ((if_neg c48).trans ((if_neg c67).trans ((if_neg c74).trans ((if_neg c85).trans (if_neg c95))))))).symm) (by rfl))
    · refine go_s 1 rfl ?_
      refine go_st kX12_isGood_19 okX12_isRegister rfl rfl rfl (Nat.zero_le _) (Nat.zero_le _) ?_
      refine c_X12_isRegister ?_
      refine go_s 1 rfl ?_
      refine go_if (fun c22 => ?_) (fun c22 => ?_)
      · refine go_s 1 rfl ?_
        exact go_retz rfl rfl (by first | exact Or.inl rfl | exact Or.inr rfl | exact zb_01) (am_qi q (by exact ((if_neg c7).trans ((if_neg c15).trans (if_pos c22))).symm) (by rfl))
      · refine go_s 1 rfl ?_
        refine go_st kX12_isGood_26 okX12_isRegister rfl rfl rfl (Nat.zero_le _) (Nat.zero_le _) ?_
        refine c_X12_isRegister ?_
        refine go_s 1 rfl ?_
        refine go_if (fun c29 => ?_) (fun c29 => ?_)
        · refine go_s 1 rfl ?_
          exact go_retz rfl rfl (by first | exact Or.inl rfl | exact Or.inr rfl | exact zb_01) (am_qi q (by exact ((if_neg c7).trans ((if_neg c15).trans ((if_neg c22).trans (if_pos c29)))).symm) (by rfl))
        · refine go_s 1 rfl ?_
          refine go_st kX12_isGood_33 okX12_isRegister rfl rfl rfl (Nat.zero_le _) (Nat.zero_le _) ?_
          refine c_X12_isRegister ?_
          refine go_s 1 rfl ?_
          refine go_if (fun c36 => ?_) (fun c36 => ?_)
          · refine go_s 1 rfl ?_
            exact go_retz rfl rfl (by first | exact Or.inl rfl | exact Or.inr rfl | exact zb_01) (am_qi q (by exact ((if_neg c7).trans ((if_neg c15).trans ((if_neg c22).trans ((if_neg c29).trans (if_pos c36))))).symm) (by rfl))
          · refine go_s 2 rfl ?_
            exact go_retz rfl rfl (by first | exact Or.inl rfl | exact Or.inr rfl | exact zb_01) (am_qi q (by exact ((if_neg c7).trans ((if_neg c15).trans ((if_neg c22).trans ((if_neg c29).trans (if_neg c36))))).symm) (by rfl))
theorem am_l32 {v : Int32} {m : Nat} (hm : m < 1000) : v < nI (m + 1) ↔ ¬ nI m < v := by
  rw [Int32.not_lt, Int32.lt_iff_toInt_lt, Int32.le_iff_toInt_le, nI_toInt (by omega), nI_toInt (by omega)]
  omega
theorem am_S1 {v : Int32} : ¬ am_su 1 v = 0 ↔ ((¬ v < 0 ∧ ¬ 31 < v) ∧ ¬ v = 5) := by
  show ¬ zb (¬ v < 0 ∧ v < 32 ∧ ¬ v = 5) = 0 ↔ _
  rw [zb_ne, and_assoc, show (v < 32 ↔ ¬ 31 < v) from am_l32 (m := 31) (by decide)]
theorem am_S2 {v : Int32} : ¬ am_su 2 v = 0 ↔ (¬ v < -2048 ∧ ¬ 2047 < v) := by
  show ¬ zb (¬ v < -2048 ∧ ¬ 2047 < v) = 0 ↔ _
  rw [zb_ne]
theorem am_S3 {v : Int32} : ¬ am_su 3 v = 0 ↔ (¬ v < 0 ∧ ¬ 31 < v) := by
  show ¬ zb (¬ v < 0 ∧ ¬ 31 < v) = 0 ↔ _
  rw [zb_ne]
theorem am_S4 {v : Int32} : ¬ am_su 4 v = 0 ↔ (¬ v < 0 ∧ ¬ 1048575 < v) := by
  show ¬ zb (¬ v < 0 ∧ ¬ 1048575 < v) = 0 ↔ _
  rw [zb_ne]
theorem am_S5 {v : Int32} : ¬ am_su 5 v = 0 ↔ (¬ v < 0 ∧ ¬ 39 < v) := by
  show ¬ zb (¬ v < 0 ∧ v < 40) = 0 ↔ _
  rw [zb_ne, show (v < 40 ↔ ¬ 39 < v) from am_l32 (m := 39) (by decide)]
theorem am_S6 {v : Int32} : ¬ am_su 6 v = 0 ↔ (¬ v < 0 ∧ ¬ 23 < v) := by
  show ¬ zb (¬ v < 0 ∧ v < 24) = 0 ↔ _
  rw [zb_ne, show (v < 24 ↔ ¬ 23 < v) from am_l32 (m := 23) (by decide)]
theorem am_S0 {v : Int32} : ¬ am_su 0 v = 0 ↔ True := by
  show ¬ (1 : Int32) = 0 ↔ True
  simp
def am_bz (v : Int32) (p : Prop) : Prop := (v = 0 ∧ ¬ p) ∨ (v = 1 ∧ p)
theorem am_bz_if {p r : Prop} [Decidable p] {v : Int32} (h0 : ¬ p → am_bz v r) : am_bz (if zb p = 0 then 0 else v) (p ∧ r) ∨ True := Or.inr trivial
theorem am_bz_a {p r : Prop} [Decidable p] {v : Int32} (h : p → am_bz v r) : am_bz (if zb p = 0 then 0 else v) (p ∧ r) := by
  by_cases hp : p
  · rw [if_neg (zb_ne.mpr hp)]
    rcases h hp with h | h
    · exact Or.inl ⟨h.1, fun z => h.2 z.2⟩
    · exact Or.inr ⟨h.1, hp, h.2⟩
  · rw [if_pos (zb_0.mpr hp)]
    exact Or.inl ⟨rfl, fun z => hp z.1⟩
theorem am_bz_z {p : Prop} [Decidable p] : am_bz (zb p) p := by
  by_cases hp : p
  · exact Or.inr ⟨zb_t hp, hp⟩
  · exact Or.inl ⟨zb_f hp, hp⟩
theorem am_bz_iff {p r : Prop} {v : Int32} (h : am_bz v p) (e : p ↔ r) : am_bz v r := by
  rcases h with h | h
  · exact Or.inl ⟨h.1, fun z => h.2 (e.mpr z)⟩
  · exact Or.inr ⟨h.1, e.mp h.2⟩
theorem am_bz_1 : am_bz 1 True := Or.inr ⟨rfl, trivial⟩
theorem am_gdk {k : Nat} (hk : k < 35) {a b c : Int32} {A B C : Int32} (hA : am_kA (nI k) = A) (hB : am_kB (nI k) = B) (hC : am_kC (nI k) = C) : am_gd (nI k) a b c ↔ (¬ am_su A a = 0 ∧ ¬ am_su B b = 0 ∧ ¬ am_su C c = 0) := by
  unfold am_gd
  rw [hA, hB, hC]
  exact ⟨fun h => h.2, fun h => ⟨⟨nI_pos' (by omega), nI_lt (a := k) (b := 35) hk (by decide)⟩, h⟩⟩
theorem am_ig0 (a b c : Int32) : am_bz (am_igd (nI 0) a b c) (am_gd (nI 0) a b c) := by
  have e : am_igd (nI 0) a b c = (if zb ((¬ a < 0 ∧ ¬ 31 < a) ∧ ¬ a = 5) = 0 then 0 else if zb ((¬ b < 0 ∧ ¬ 31 < b) ∧ ¬ b = 5) = 0 then 0 else if zb ((¬ c < 0 ∧ ¬ 31 < c) ∧ ¬ c = 5) = 0 then 0 else 1) := by
    unfold am_igd
    rw [if_neg (show ¬ (zb (¬ nI 0 < 0 ∧ ¬ 34 < nI 0) = 0) by decide), if_neg (show ¬ (9 < nI 0) by decide)]
  rw [e]
  refine am_bz_iff (p := (((¬ a < 0 ∧ ¬ 31 < a) ∧ ¬ a = 5) ∧ (((¬ b < 0 ∧ ¬ 31 < b) ∧ ¬ b = 5) ∧ (((¬ c < 0 ∧ ¬ 31 < c) ∧ ¬ c = 5) ∧ True)))) (am_bz_a (fun _ => am_bz_a (fun _ => am_bz_a (fun _ => am_bz_1)))) ?_
  rw [am_gdk (k := 0) (by decide) (A := 1) (B := 1) (C := 1) (by decide +kernel) (by decide +kernel) (by decide +kernel), am_S1, am_S1, am_S1]
  try simp only [and_true, true_and]
theorem am_ig1 (a b c : Int32) : am_bz (am_igd (nI 1) a b c) (am_gd (nI 1) a b c) := by
  have e : am_igd (nI 1) a b c = (if zb ((¬ a < 0 ∧ ¬ 31 < a) ∧ ¬ a = 5) = 0 then 0 else if zb ((¬ b < 0 ∧ ¬ 31 < b) ∧ ¬ b = 5) = 0 then 0 else if zb ((¬ c < 0 ∧ ¬ 31 < c) ∧ ¬ c = 5) = 0 then 0 else 1) := by
    unfold am_igd
    rw [if_neg (show ¬ (zb (¬ nI 1 < 0 ∧ ¬ 34 < nI 1) = 0) by decide), if_neg (show ¬ (9 < nI 1) by decide)]
  rw [e]
  refine am_bz_iff (p := (((¬ a < 0 ∧ ¬ 31 < a) ∧ ¬ a = 5) ∧ (((¬ b < 0 ∧ ¬ 31 < b) ∧ ¬ b = 5) ∧ (((¬ c < 0 ∧ ¬ 31 < c) ∧ ¬ c = 5) ∧ True)))) (am_bz_a (fun _ => am_bz_a (fun _ => am_bz_a (fun _ => am_bz_1)))) ?_
  rw [am_gdk (k := 1) (by decide) (A := 1) (B := 1) (C := 1) (by decide +kernel) (by decide +kernel) (by decide +kernel), am_S1, am_S1, am_S1]
  try simp only [and_true, true_and]
theorem am_ig2 (a b c : Int32) : am_bz (am_igd (nI 2) a b c) (am_gd (nI 2) a b c) := by
  have e : am_igd (nI 2) a b c = (if zb ((¬ a < 0 ∧ ¬ 31 < a) ∧ ¬ a = 5) = 0 then 0 else if zb ((¬ b < 0 ∧ ¬ 31 < b) ∧ ¬ b = 5) = 0 then 0 else if zb ((¬ c < 0 ∧ ¬ 31 < c) ∧ ¬ c = 5) = 0 then 0 else 1) := by
    unfold am_igd
    rw [if_neg (show ¬ (zb (¬ nI 2 < 0 ∧ ¬ 34 < nI 2) = 0) by decide), if_neg (show ¬ (9 < nI 2) by decide)]
  rw [e]
  refine am_bz_iff (p := (((¬ a < 0 ∧ ¬ 31 < a) ∧ ¬ a = 5) ∧ (((¬ b < 0 ∧ ¬ 31 < b) ∧ ¬ b = 5) ∧ (((¬ c < 0 ∧ ¬ 31 < c) ∧ ¬ c = 5) ∧ True)))) (am_bz_a (fun _ => am_bz_a (fun _ => am_bz_a (fun _ => am_bz_1)))) ?_
  rw [am_gdk (k := 2) (by decide) (A := 1) (B := 1) (C := 1) (by decide +kernel) (by decide +kernel) (by decide +kernel), am_S1, am_S1, am_S1]
  try simp only [and_true, true_and]
theorem am_ig3 (a b c : Int32) : am_bz (am_igd (nI 3) a b c) (am_gd (nI 3) a b c) := by
  have e : am_igd (nI 3) a b c = (if zb ((¬ a < 0 ∧ ¬ 31 < a) ∧ ¬ a = 5) = 0 then 0 else if zb ((¬ b < 0 ∧ ¬ 31 < b) ∧ ¬ b = 5) = 0 then 0 else if zb ((¬ c < 0 ∧ ¬ 31 < c) ∧ ¬ c = 5) = 0 then 0 else 1) := by
    unfold am_igd
    rw [if_neg (show ¬ (zb (¬ nI 3 < 0 ∧ ¬ 34 < nI 3) = 0) by decide), if_neg (show ¬ (9 < nI 3) by decide)]
  rw [e]
  refine am_bz_iff (p := (((¬ a < 0 ∧ ¬ 31 < a) ∧ ¬ a = 5) ∧ (((¬ b < 0 ∧ ¬ 31 < b) ∧ ¬ b = 5) ∧ (((¬ c < 0 ∧ ¬ 31 < c) ∧ ¬ c = 5) ∧ True)))) (am_bz_a (fun _ => am_bz_a (fun _ => am_bz_a (fun _ => am_bz_1)))) ?_
  rw [am_gdk (k := 3) (by decide) (A := 1) (B := 1) (C := 1) (by decide +kernel) (by decide +kernel) (by decide +kernel), am_S1, am_S1, am_S1]
  try simp only [and_true, true_and]
theorem am_ig4 (a b c : Int32) : am_bz (am_igd (nI 4) a b c) (am_gd (nI 4) a b c) := by
  have e : am_igd (nI 4) a b c = (if zb ((¬ a < 0 ∧ ¬ 31 < a) ∧ ¬ a = 5) = 0 then 0 else if zb ((¬ b < 0 ∧ ¬ 31 < b) ∧ ¬ b = 5) = 0 then 0 else if zb ((¬ c < 0 ∧ ¬ 31 < c) ∧ ¬ c = 5) = 0 then 0 else 1) := by
    unfold am_igd
    rw [if_neg (show ¬ (zb (¬ nI 4 < 0 ∧ ¬ 34 < nI 4) = 0) by decide), if_neg (show ¬ (9 < nI 4) by decide)]
  rw [e]
  refine am_bz_iff (p := (((¬ a < 0 ∧ ¬ 31 < a) ∧ ¬ a = 5) ∧ (((¬ b < 0 ∧ ¬ 31 < b) ∧ ¬ b = 5) ∧ (((¬ c < 0 ∧ ¬ 31 < c) ∧ ¬ c = 5) ∧ True)))) (am_bz_a (fun _ => am_bz_a (fun _ => am_bz_a (fun _ => am_bz_1)))) ?_
  rw [am_gdk (k := 4) (by decide) (A := 1) (B := 1) (C := 1) (by decide +kernel) (by decide +kernel) (by decide +kernel), am_S1, am_S1, am_S1]
  try simp only [and_true, true_and]
theorem am_ig5 (a b c : Int32) : am_bz (am_igd (nI 5) a b c) (am_gd (nI 5) a b c) := by
  have e : am_igd (nI 5) a b c = (if zb ((¬ a < 0 ∧ ¬ 31 < a) ∧ ¬ a = 5) = 0 then 0 else if zb ((¬ b < 0 ∧ ¬ 31 < b) ∧ ¬ b = 5) = 0 then 0 else if zb ((¬ c < 0 ∧ ¬ 31 < c) ∧ ¬ c = 5) = 0 then 0 else 1) := by
    unfold am_igd
    rw [if_neg (show ¬ (zb (¬ nI 5 < 0 ∧ ¬ 34 < nI 5) = 0) by decide), if_neg (show ¬ (9 < nI 5) by decide)]
  rw [e]
  refine am_bz_iff (p := (((¬ a < 0 ∧ ¬ 31 < a) ∧ ¬ a = 5) ∧ (((¬ b < 0 ∧ ¬ 31 < b) ∧ ¬ b = 5) ∧ (((¬ c < 0 ∧ ¬ 31 < c) ∧ ¬ c = 5) ∧ True)))) (am_bz_a (fun _ => am_bz_a (fun _ => am_bz_a (fun _ => am_bz_1)))) ?_
  rw [am_gdk (k := 5) (by decide) (A := 1) (B := 1) (C := 1) (by decide +kernel) (by decide +kernel) (by decide +kernel), am_S1, am_S1, am_S1]
  try simp only [and_true, true_and]
theorem am_ig6 (a b c : Int32) : am_bz (am_igd (nI 6) a b c) (am_gd (nI 6) a b c) := by
  have e : am_igd (nI 6) a b c = (if zb ((¬ a < 0 ∧ ¬ 31 < a) ∧ ¬ a = 5) = 0 then 0 else if zb ((¬ b < 0 ∧ ¬ 31 < b) ∧ ¬ b = 5) = 0 then 0 else if zb ((¬ c < 0 ∧ ¬ 31 < c) ∧ ¬ c = 5) = 0 then 0 else 1) := by
    unfold am_igd
    rw [if_neg (show ¬ (zb (¬ nI 6 < 0 ∧ ¬ 34 < nI 6) = 0) by decide), if_neg (show ¬ (9 < nI 6) by decide)]
  rw [e]
  refine am_bz_iff (p := (((¬ a < 0 ∧ ¬ 31 < a) ∧ ¬ a = 5) ∧ (((¬ b < 0 ∧ ¬ 31 < b) ∧ ¬ b = 5) ∧ (((¬ c < 0 ∧ ¬ 31 < c) ∧ ¬ c = 5) ∧ True)))) (am_bz_a (fun _ => am_bz_a (fun _ => am_bz_a (fun _ => am_bz_1)))) ?_
  rw [am_gdk (k := 6) (by decide) (A := 1) (B := 1) (C := 1) (by decide +kernel) (by decide +kernel) (by decide +kernel), am_S1, am_S1, am_S1]
  try simp only [and_true, true_and]
theorem am_ig7 (a b c : Int32) : am_bz (am_igd (nI 7) a b c) (am_gd (nI 7) a b c) := by
  have e : am_igd (nI 7) a b c = (if zb ((¬ a < 0 ∧ ¬ 31 < a) ∧ ¬ a = 5) = 0 then 0 else if zb ((¬ b < 0 ∧ ¬ 31 < b) ∧ ¬ b = 5) = 0 then 0 else if zb ((¬ c < 0 ∧ ¬ 31 < c) ∧ ¬ c = 5) = 0 then 0 else 1) := by
    unfold am_igd
    rw [if_neg (show ¬ (zb (¬ nI 7 < 0 ∧ ¬ 34 < nI 7) = 0) by decide), if_neg (show ¬ (9 < nI 7) by decide)]
  rw [e]
  refine am_bz_iff (p := (((¬ a < 0 ∧ ¬ 31 < a) ∧ ¬ a = 5) ∧ (((¬ b < 0 ∧ ¬ 31 < b) ∧ ¬ b = 5) ∧ (((¬ c < 0 ∧ ¬ 31 < c) ∧ ¬ c = 5) ∧ True)))) (am_bz_a (fun _ => am_bz_a (fun _ => am_bz_a (fun _ => am_bz_1)))) ?_
  rw [am_gdk (k := 7) (by decide) (A := 1) (B := 1) (C := 1) (by decide +kernel) (by decide +kernel) (by decide +kernel), am_S1, am_S1, am_S1]
  try simp only [and_true, true_and]
theorem am_ig8 (a b c : Int32) : am_bz (am_igd (nI 8) a b c) (am_gd (nI 8) a b c) := by
  have e : am_igd (nI 8) a b c = (if zb ((¬ a < 0 ∧ ¬ 31 < a) ∧ ¬ a = 5) = 0 then 0 else if zb ((¬ b < 0 ∧ ¬ 31 < b) ∧ ¬ b = 5) = 0 then 0 else if zb ((¬ c < 0 ∧ ¬ 31 < c) ∧ ¬ c = 5) = 0 then 0 else 1) := by
    unfold am_igd
    rw [if_neg (show ¬ (zb (¬ nI 8 < 0 ∧ ¬ 34 < nI 8) = 0) by decide), if_neg (show ¬ (9 < nI 8) by decide)]
  rw [e]
  refine am_bz_iff (p := (((¬ a < 0 ∧ ¬ 31 < a) ∧ ¬ a = 5) ∧ (((¬ b < 0 ∧ ¬ 31 < b) ∧ ¬ b = 5) ∧ (((¬ c < 0 ∧ ¬ 31 < c) ∧ ¬ c = 5) ∧ True)))) (am_bz_a (fun _ => am_bz_a (fun _ => am_bz_a (fun _ => am_bz_1)))) ?_
  rw [am_gdk (k := 8) (by decide) (A := 1) (B := 1) (C := 1) (by decide +kernel) (by decide +kernel) (by decide +kernel), am_S1, am_S1, am_S1]
  try simp only [and_true, true_and]
theorem am_ig9 (a b c : Int32) : am_bz (am_igd (nI 9) a b c) (am_gd (nI 9) a b c) := by
  have e : am_igd (nI 9) a b c = (if zb ((¬ a < 0 ∧ ¬ 31 < a) ∧ ¬ a = 5) = 0 then 0 else if zb ((¬ b < 0 ∧ ¬ 31 < b) ∧ ¬ b = 5) = 0 then 0 else if zb ((¬ c < 0 ∧ ¬ 31 < c) ∧ ¬ c = 5) = 0 then 0 else 1) := by
    unfold am_igd
    rw [if_neg (show ¬ (zb (¬ nI 9 < 0 ∧ ¬ 34 < nI 9) = 0) by decide), if_neg (show ¬ (9 < nI 9) by decide)]
  rw [e]
  refine am_bz_iff (p := (((¬ a < 0 ∧ ¬ 31 < a) ∧ ¬ a = 5) ∧ (((¬ b < 0 ∧ ¬ 31 < b) ∧ ¬ b = 5) ∧ (((¬ c < 0 ∧ ¬ 31 < c) ∧ ¬ c = 5) ∧ True)))) (am_bz_a (fun _ => am_bz_a (fun _ => am_bz_a (fun _ => am_bz_1)))) ?_
  rw [am_gdk (k := 9) (by decide) (A := 1) (B := 1) (C := 1) (by decide +kernel) (by decide +kernel) (by decide +kernel), am_S1, am_S1, am_S1]
  try simp only [and_true, true_and]
theorem am_ig10 (a b c : Int32) : am_bz (am_igd (nI 10) a b c) (am_gd (nI 10) a b c) := by
  have e : am_igd (nI 10) a b c = (if zb ((¬ a < 0 ∧ ¬ 31 < a) ∧ ¬ a = 5) = 0 then 0 else if zb ((¬ b < 0 ∧ ¬ 31 < b) ∧ ¬ b = 5) = 0 then 0 else if zb (¬ c < -2048 ∧ ¬ 2047 < c) = 0 then 0 else 1) := by
    unfold am_igd
    rw [if_neg (show ¬ (zb (¬ nI 10 < 0 ∧ ¬ 34 < nI 10) = 0) by decide), if_pos (show 9 < nI 10 by decide), if_neg (show ¬ (18 < nI 10) by decide), if_pos (show zb (¬ nI 10 < 16 ∧ ¬ 18 < nI 10) = 0 by decide)]
  rw [e]
  refine am_bz_iff (p := (((¬ a < 0 ∧ ¬ 31 < a) ∧ ¬ a = 5) ∧ (((¬ b < 0 ∧ ¬ 31 < b) ∧ ¬ b = 5) ∧ ((¬ c < -2048 ∧ ¬ 2047 < c) ∧ True)))) (am_bz_a (fun _ => am_bz_a (fun _ => am_bz_a (fun _ => am_bz_1)))) ?_
  rw [am_gdk (k := 10) (by decide) (A := 1) (B := 1) (C := 2) (by decide +kernel) (by decide +kernel) (by decide +kernel), am_S1, am_S1, am_S2]
  try simp only [and_true, true_and]
theorem am_ig11 (a b c : Int32) : am_bz (am_igd (nI 11) a b c) (am_gd (nI 11) a b c) := by
  have e : am_igd (nI 11) a b c = (if zb ((¬ a < 0 ∧ ¬ 31 < a) ∧ ¬ a = 5) = 0 then 0 else if zb ((¬ b < 0 ∧ ¬ 31 < b) ∧ ¬ b = 5) = 0 then 0 else if zb (¬ c < -2048 ∧ ¬ 2047 < c) = 0 then 0 else 1) := by
    unfold am_igd
    rw [if_neg (show ¬ (zb (¬ nI 11 < 0 ∧ ¬ 34 < nI 11) = 0) by decide), if_pos (show 9 < nI 11 by decide), if_neg (show ¬ (18 < nI 11) by decide), if_pos (show zb (¬ nI 11 < 16 ∧ ¬ 18 < nI 11) = 0 by decide)]
  rw [e]
  refine am_bz_iff (p := (((¬ a < 0 ∧ ¬ 31 < a) ∧ ¬ a = 5) ∧ (((¬ b < 0 ∧ ¬ 31 < b) ∧ ¬ b = 5) ∧ ((¬ c < -2048 ∧ ¬ 2047 < c) ∧ True)))) (am_bz_a (fun _ => am_bz_a (fun _ => am_bz_a (fun _ => am_bz_1)))) ?_
  rw [am_gdk (k := 11) (by decide) (A := 1) (B := 1) (C := 2) (by decide +kernel) (by decide +kernel) (by decide +kernel), am_S1, am_S1, am_S2]
  try simp only [and_true, true_and]
theorem am_ig12 (a b c : Int32) : am_bz (am_igd (nI 12) a b c) (am_gd (nI 12) a b c) := by
  have e : am_igd (nI 12) a b c = (if zb ((¬ a < 0 ∧ ¬ 31 < a) ∧ ¬ a = 5) = 0 then 0 else if zb ((¬ b < 0 ∧ ¬ 31 < b) ∧ ¬ b = 5) = 0 then 0 else if zb (¬ c < -2048 ∧ ¬ 2047 < c) = 0 then 0 else 1) := by
    unfold am_igd
    rw [if_neg (show ¬ (zb (¬ nI 12 < 0 ∧ ¬ 34 < nI 12) = 0) by decide), if_pos (show 9 < nI 12 by decide), if_neg (show ¬ (18 < nI 12) by decide), if_pos (show zb (¬ nI 12 < 16 ∧ ¬ 18 < nI 12) = 0 by decide)]
  rw [e]
  refine am_bz_iff (p := (((¬ a < 0 ∧ ¬ 31 < a) ∧ ¬ a = 5) ∧ (((¬ b < 0 ∧ ¬ 31 < b) ∧ ¬ b = 5) ∧ ((¬ c < -2048 ∧ ¬ 2047 < c) ∧ True)))) (am_bz_a (fun _ => am_bz_a (fun _ => am_bz_a (fun _ => am_bz_1)))) ?_
  rw [am_gdk (k := 12) (by decide) (A := 1) (B := 1) (C := 2) (by decide +kernel) (by decide +kernel) (by decide +kernel), am_S1, am_S1, am_S2]
  try simp only [and_true, true_and]
theorem am_ig13 (a b c : Int32) : am_bz (am_igd (nI 13) a b c) (am_gd (nI 13) a b c) := by
  have e : am_igd (nI 13) a b c = (if zb ((¬ a < 0 ∧ ¬ 31 < a) ∧ ¬ a = 5) = 0 then 0 else if zb ((¬ b < 0 ∧ ¬ 31 < b) ∧ ¬ b = 5) = 0 then 0 else if zb (¬ c < -2048 ∧ ¬ 2047 < c) = 0 then 0 else 1) := by
    unfold am_igd
    rw [if_neg (show ¬ (zb (¬ nI 13 < 0 ∧ ¬ 34 < nI 13) = 0) by decide), if_pos (show 9 < nI 13 by decide), if_neg (show ¬ (18 < nI 13) by decide), if_pos (show zb (¬ nI 13 < 16 ∧ ¬ 18 < nI 13) = 0 by decide)]
  rw [e]
  refine am_bz_iff (p := (((¬ a < 0 ∧ ¬ 31 < a) ∧ ¬ a = 5) ∧ (((¬ b < 0 ∧ ¬ 31 < b) ∧ ¬ b = 5) ∧ ((¬ c < -2048 ∧ ¬ 2047 < c) ∧ True)))) (am_bz_a (fun _ => am_bz_a (fun _ => am_bz_a (fun _ => am_bz_1)))) ?_
  rw [am_gdk (k := 13) (by decide) (A := 1) (B := 1) (C := 2) (by decide +kernel) (by decide +kernel) (by decide +kernel), am_S1, am_S1, am_S2]
  try simp only [and_true, true_and]
theorem am_ig14 (a b c : Int32) : am_bz (am_igd (nI 14) a b c) (am_gd (nI 14) a b c) := by
  have e : am_igd (nI 14) a b c = (if zb ((¬ a < 0 ∧ ¬ 31 < a) ∧ ¬ a = 5) = 0 then 0 else if zb ((¬ b < 0 ∧ ¬ 31 < b) ∧ ¬ b = 5) = 0 then 0 else if zb (¬ c < -2048 ∧ ¬ 2047 < c) = 0 then 0 else 1) := by
    unfold am_igd
    rw [if_neg (show ¬ (zb (¬ nI 14 < 0 ∧ ¬ 34 < nI 14) = 0) by decide), if_pos (show 9 < nI 14 by decide), if_neg (show ¬ (18 < nI 14) by decide), if_pos (show zb (¬ nI 14 < 16 ∧ ¬ 18 < nI 14) = 0 by decide)]
  rw [e]
  refine am_bz_iff (p := (((¬ a < 0 ∧ ¬ 31 < a) ∧ ¬ a = 5) ∧ (((¬ b < 0 ∧ ¬ 31 < b) ∧ ¬ b = 5) ∧ ((¬ c < -2048 ∧ ¬ 2047 < c) ∧ True)))) (am_bz_a (fun _ => am_bz_a (fun _ => am_bz_a (fun _ => am_bz_1)))) ?_
  rw [am_gdk (k := 14) (by decide) (A := 1) (B := 1) (C := 2) (by decide +kernel) (by decide +kernel) (by decide +kernel), am_S1, am_S1, am_S2]
  try simp only [and_true, true_and]
theorem am_ig15 (a b c : Int32) : am_bz (am_igd (nI 15) a b c) (am_gd (nI 15) a b c) := by
  have e : am_igd (nI 15) a b c = (if zb ((¬ a < 0 ∧ ¬ 31 < a) ∧ ¬ a = 5) = 0 then 0 else if zb ((¬ b < 0 ∧ ¬ 31 < b) ∧ ¬ b = 5) = 0 then 0 else if zb (¬ c < -2048 ∧ ¬ 2047 < c) = 0 then 0 else 1) := by
    unfold am_igd
    rw [if_neg (show ¬ (zb (¬ nI 15 < 0 ∧ ¬ 34 < nI 15) = 0) by decide), if_pos (show 9 < nI 15 by decide), if_neg (show ¬ (18 < nI 15) by decide), if_pos (show zb (¬ nI 15 < 16 ∧ ¬ 18 < nI 15) = 0 by decide)]
  rw [e]
  refine am_bz_iff (p := (((¬ a < 0 ∧ ¬ 31 < a) ∧ ¬ a = 5) ∧ (((¬ b < 0 ∧ ¬ 31 < b) ∧ ¬ b = 5) ∧ ((¬ c < -2048 ∧ ¬ 2047 < c) ∧ True)))) (am_bz_a (fun _ => am_bz_a (fun _ => am_bz_a (fun _ => am_bz_1)))) ?_
  rw [am_gdk (k := 15) (by decide) (A := 1) (B := 1) (C := 2) (by decide +kernel) (by decide +kernel) (by decide +kernel), am_S1, am_S1, am_S2]
  try simp only [and_true, true_and]
theorem am_ig16 (a b c : Int32) : am_bz (am_igd (nI 16) a b c) (am_gd (nI 16) a b c) := by
  have e : am_igd (nI 16) a b c = (if zb ((¬ a < 0 ∧ ¬ 31 < a) ∧ ¬ a = 5) = 0 then 0 else if zb ((¬ b < 0 ∧ ¬ 31 < b) ∧ ¬ b = 5) = 0 then 0 else if zb (¬ c < 0 ∧ ¬ 31 < c) = 0 then 0 else 1) := by
    unfold am_igd
    rw [if_neg (show ¬ (zb (¬ nI 16 < 0 ∧ ¬ 34 < nI 16) = 0) by decide), if_pos (show 9 < nI 16 by decide), if_neg (show ¬ (18 < nI 16) by decide), if_neg (show ¬ (zb (¬ nI 16 < 16 ∧ ¬ 18 < nI 16) = 0) by decide)]
  rw [e]
  refine am_bz_iff (p := (((¬ a < 0 ∧ ¬ 31 < a) ∧ ¬ a = 5) ∧ (((¬ b < 0 ∧ ¬ 31 < b) ∧ ¬ b = 5) ∧ ((¬ c < 0 ∧ ¬ 31 < c) ∧ True)))) (am_bz_a (fun _ => am_bz_a (fun _ => am_bz_a (fun _ => am_bz_1)))) ?_
  rw [am_gdk (k := 16) (by decide) (A := 1) (B := 1) (C := 3) (by decide +kernel) (by decide +kernel) (by decide +kernel), am_S1, am_S1, am_S3]
  try simp only [and_true, true_and]
theorem am_ig17 (a b c : Int32) : am_bz (am_igd (nI 17) a b c) (am_gd (nI 17) a b c) := by
  have e : am_igd (nI 17) a b c = (if zb ((¬ a < 0 ∧ ¬ 31 < a) ∧ ¬ a = 5) = 0 then 0 else if zb ((¬ b < 0 ∧ ¬ 31 < b) ∧ ¬ b = 5) = 0 then 0 else if zb (¬ c < 0 ∧ ¬ 31 < c) = 0 then 0 else 1) := by
    unfold am_igd
    rw [if_neg (show ¬ (zb (¬ nI 17 < 0 ∧ ¬ 34 < nI 17) = 0) by decide), if_pos (show 9 < nI 17 by decide), if_neg (show ¬ (18 < nI 17) by decide), if_neg (show ¬ (zb (¬ nI 17 < 16 ∧ ¬ 18 < nI 17) = 0) by decide)]
  rw [e]
  refine am_bz_iff (p := (((¬ a < 0 ∧ ¬ 31 < a) ∧ ¬ a = 5) ∧ (((¬ b < 0 ∧ ¬ 31 < b) ∧ ¬ b = 5) ∧ ((¬ c < 0 ∧ ¬ 31 < c) ∧ True)))) (am_bz_a (fun _ => am_bz_a (fun _ => am_bz_a (fun _ => am_bz_1)))) ?_
  rw [am_gdk (k := 17) (by decide) (A := 1) (B := 1) (C := 3) (by decide +kernel) (by decide +kernel) (by decide +kernel), am_S1, am_S1, am_S3]
  try simp only [and_true, true_and]
theorem am_ig18 (a b c : Int32) : am_bz (am_igd (nI 18) a b c) (am_gd (nI 18) a b c) := by
  have e : am_igd (nI 18) a b c = (if zb ((¬ a < 0 ∧ ¬ 31 < a) ∧ ¬ a = 5) = 0 then 0 else if zb ((¬ b < 0 ∧ ¬ 31 < b) ∧ ¬ b = 5) = 0 then 0 else if zb (¬ c < 0 ∧ ¬ 31 < c) = 0 then 0 else 1) := by
    unfold am_igd
    rw [if_neg (show ¬ (zb (¬ nI 18 < 0 ∧ ¬ 34 < nI 18) = 0) by decide), if_pos (show 9 < nI 18 by decide), if_neg (show ¬ (18 < nI 18) by decide), if_neg (show ¬ (zb (¬ nI 18 < 16 ∧ ¬ 18 < nI 18) = 0) by decide)]
  rw [e]
  refine am_bz_iff (p := (((¬ a < 0 ∧ ¬ 31 < a) ∧ ¬ a = 5) ∧ (((¬ b < 0 ∧ ¬ 31 < b) ∧ ¬ b = 5) ∧ ((¬ c < 0 ∧ ¬ 31 < c) ∧ True)))) (am_bz_a (fun _ => am_bz_a (fun _ => am_bz_a (fun _ => am_bz_1)))) ?_
  rw [am_gdk (k := 18) (by decide) (A := 1) (B := 1) (C := 3) (by decide +kernel) (by decide +kernel) (by decide +kernel), am_S1, am_S1, am_S3]
  try simp only [and_true, true_and]
theorem am_ig19 (a b c : Int32) : am_bz (am_igd (nI 19) a b c) (am_gd (nI 19) a b c) := by
  have e : am_igd (nI 19) a b c = (if zb ((¬ a < 0 ∧ ¬ 31 < a) ∧ ¬ a = 5) = 0 then 0 else if zb (¬ b < 0 ∧ ¬ 1048575 < b) = 0 then 0 else 1) := by
    unfold am_igd
    rw [if_neg (show ¬ (zb (¬ nI 19 < 0 ∧ ¬ 34 < nI 19) = 0) by decide), if_pos (show 9 < nI 19 by decide), if_pos (show 18 < nI 19 by decide), if_neg (show ¬ (nI 19 = 20) by decide), if_neg (show ¬ (nI 19 = 21) by decide), if_pos (show nI 19 = 19 by decide)]
  rw [e]
  refine am_bz_iff (p := (((¬ a < 0 ∧ ¬ 31 < a) ∧ ¬ a = 5) ∧ ((¬ b < 0 ∧ ¬ 1048575 < b) ∧ True))) (am_bz_a (fun _ => am_bz_a (fun _ => am_bz_1))) ?_
  rw [am_gdk (k := 19) (by decide) (A := 1) (B := 4) (C := 0) (by decide +kernel) (by decide +kernel) (by decide +kernel), am_S1, am_S4, am_S0]
  try simp only [and_true, true_and]
theorem am_ig20 (a b c : Int32) : am_bz (am_igd (nI 20) a b c) (am_gd (nI 20) a b c) := by
  have e : am_igd (nI 20) a b c = (if zb ((¬ a < 0 ∧ ¬ 31 < a) ∧ ¬ a = 5) = 0 then 0 else if zb ((¬ b < 0 ∧ ¬ 31 < b) ∧ ¬ b = 5) = 0 then 0 else if zb (¬ c < -2048 ∧ ¬ 2047 < c) = 0 then 0 else 1) := by
    unfold am_igd
    rw [if_neg (show ¬ (zb (¬ nI 20 < 0 ∧ ¬ 34 < nI 20) = 0) by decide), if_pos (show 9 < nI 20 by decide), if_pos (show 18 < nI 20 by decide), if_pos (show nI 20 = 20 by decide), if_pos (show zb (¬ nI 20 < 16 ∧ ¬ 18 < nI 20) = 0 by decide)]
  rw [e]
  refine am_bz_iff (p := (((¬ a < 0 ∧ ¬ 31 < a) ∧ ¬ a = 5) ∧ (((¬ b < 0 ∧ ¬ 31 < b) ∧ ¬ b = 5) ∧ ((¬ c < -2048 ∧ ¬ 2047 < c) ∧ True)))) (am_bz_a (fun _ => am_bz_a (fun _ => am_bz_a (fun _ => am_bz_1)))) ?_
  rw [am_gdk (k := 20) (by decide) (A := 1) (B := 1) (C := 2) (by decide +kernel) (by decide +kernel) (by decide +kernel), am_S1, am_S1, am_S2]
  try simp only [and_true, true_and]
theorem am_ig21 (a b c : Int32) : am_bz (am_igd (nI 21) a b c) (am_gd (nI 21) a b c) := by
  have e : am_igd (nI 21) a b c = (if zb ((¬ a < 0 ∧ ¬ 31 < a) ∧ ¬ a = 5) = 0 then 0 else if zb ((¬ b < 0 ∧ ¬ 31 < b) ∧ ¬ b = 5) = 0 then 0 else if zb (¬ c < -2048 ∧ ¬ 2047 < c) = 0 then 0 else 1) := by
    unfold am_igd
    rw [if_neg (show ¬ (zb (¬ nI 21 < 0 ∧ ¬ 34 < nI 21) = 0) by decide), if_pos (show 9 < nI 21 by decide), if_pos (show 18 < nI 21 by decide), if_neg (show ¬ (nI 21 = 20) by decide), if_pos (show nI 21 = 21 by decide), if_pos (show zb (¬ nI 21 < 16 ∧ ¬ 18 < nI 21) = 0 by decide)]
  rw [e]
  refine am_bz_iff (p := (((¬ a < 0 ∧ ¬ 31 < a) ∧ ¬ a = 5) ∧ (((¬ b < 0 ∧ ¬ 31 < b) ∧ ¬ b = 5) ∧ ((¬ c < -2048 ∧ ¬ 2047 < c) ∧ True)))) (am_bz_a (fun _ => am_bz_a (fun _ => am_bz_a (fun _ => am_bz_1)))) ?_
  rw [am_gdk (k := 21) (by decide) (A := 1) (B := 1) (C := 2) (by decide +kernel) (by decide +kernel) (by decide +kernel), am_S1, am_S1, am_S2]
  try simp only [and_true, true_and]
theorem am_ig22 (a b c : Int32) : am_bz (am_igd (nI 22) a b c) (am_gd (nI 22) a b c) := by
  have e : am_igd (nI 22) a b c = (if zb ((¬ a < 0 ∧ ¬ 31 < a) ∧ ¬ a = 5) = 0 then 0 else if zb ((¬ b < 0 ∧ ¬ 31 < b) ∧ ¬ b = 5) = 0 then 0 else if zb (¬ c < 0 ∧ ¬ 39 < c) = 0 then 0 else 1) := by
    unfold am_igd
    rw [if_neg (show ¬ (zb (¬ nI 22 < 0 ∧ ¬ 34 < nI 22) = 0) by decide), if_pos (show 9 < nI 22 by decide), if_pos (show 18 < nI 22 by decide), if_neg (show ¬ (nI 22 = 20) by decide), if_neg (show ¬ (nI 22 = 21) by decide), if_neg (show ¬ (nI 22 = 19) by decide), if_neg (show ¬ (27 < nI 22) by decide)]
  rw [e]
  refine am_bz_iff (p := (((¬ a < 0 ∧ ¬ 31 < a) ∧ ¬ a = 5) ∧ (((¬ b < 0 ∧ ¬ 31 < b) ∧ ¬ b = 5) ∧ ((¬ c < 0 ∧ ¬ 39 < c) ∧ True)))) (am_bz_a (fun _ => am_bz_a (fun _ => am_bz_a (fun _ => am_bz_1)))) ?_
  rw [am_gdk (k := 22) (by decide) (A := 1) (B := 1) (C := 5) (by decide +kernel) (by decide +kernel) (by decide +kernel), am_S1, am_S1, am_S5]
  try simp only [and_true, true_and]
theorem am_ig23 (a b c : Int32) : am_bz (am_igd (nI 23) a b c) (am_gd (nI 23) a b c) := by
  have e : am_igd (nI 23) a b c = (if zb ((¬ a < 0 ∧ ¬ 31 < a) ∧ ¬ a = 5) = 0 then 0 else if zb ((¬ b < 0 ∧ ¬ 31 < b) ∧ ¬ b = 5) = 0 then 0 else if zb (¬ c < 0 ∧ ¬ 39 < c) = 0 then 0 else 1) := by
    unfold am_igd
    rw [if_neg (show ¬ (zb (¬ nI 23 < 0 ∧ ¬ 34 < nI 23) = 0) by decide), if_pos (show 9 < nI 23 by decide), if_pos (show 18 < nI 23 by decide), if_neg (show ¬ (nI 23 = 20) by decide), if_neg (show ¬ (nI 23 = 21) by decide), if_neg (show ¬ (nI 23 = 19) by decide), if_neg (show ¬ (27 < nI 23) by decide)]
  rw [e]
  refine am_bz_iff (p := (((¬ a < 0 ∧ ¬ 31 < a) ∧ ¬ a = 5) ∧ (((¬ b < 0 ∧ ¬ 31 < b) ∧ ¬ b = 5) ∧ ((¬ c < 0 ∧ ¬ 39 < c) ∧ True)))) (am_bz_a (fun _ => am_bz_a (fun _ => am_bz_a (fun _ => am_bz_1)))) ?_
  rw [am_gdk (k := 23) (by decide) (A := 1) (B := 1) (C := 5) (by decide +kernel) (by decide +kernel) (by decide +kernel), am_S1, am_S1, am_S5]
  try simp only [and_true, true_and]
theorem am_ig24 (a b c : Int32) : am_bz (am_igd (nI 24) a b c) (am_gd (nI 24) a b c) := by
  have e : am_igd (nI 24) a b c = (if zb ((¬ a < 0 ∧ ¬ 31 < a) ∧ ¬ a = 5) = 0 then 0 else if zb ((¬ b < 0 ∧ ¬ 31 < b) ∧ ¬ b = 5) = 0 then 0 else if zb (¬ c < 0 ∧ ¬ 39 < c) = 0 then 0 else 1) := by
    unfold am_igd
    rw [if_neg (show ¬ (zb (¬ nI 24 < 0 ∧ ¬ 34 < nI 24) = 0) by decide), if_pos (show 9 < nI 24 by decide), if_pos (show 18 < nI 24 by decide), if_neg (show ¬ (nI 24 = 20) by decide), if_neg (show ¬ (nI 24 = 21) by decide), if_neg (show ¬ (nI 24 = 19) by decide), if_neg (show ¬ (27 < nI 24) by decide)]
  rw [e]
  refine am_bz_iff (p := (((¬ a < 0 ∧ ¬ 31 < a) ∧ ¬ a = 5) ∧ (((¬ b < 0 ∧ ¬ 31 < b) ∧ ¬ b = 5) ∧ ((¬ c < 0 ∧ ¬ 39 < c) ∧ True)))) (am_bz_a (fun _ => am_bz_a (fun _ => am_bz_a (fun _ => am_bz_1)))) ?_
  rw [am_gdk (k := 24) (by decide) (A := 1) (B := 1) (C := 5) (by decide +kernel) (by decide +kernel) (by decide +kernel), am_S1, am_S1, am_S5]
  try simp only [and_true, true_and]
theorem am_ig25 (a b c : Int32) : am_bz (am_igd (nI 25) a b c) (am_gd (nI 25) a b c) := by
  have e : am_igd (nI 25) a b c = (if zb ((¬ a < 0 ∧ ¬ 31 < a) ∧ ¬ a = 5) = 0 then 0 else if zb ((¬ b < 0 ∧ ¬ 31 < b) ∧ ¬ b = 5) = 0 then 0 else if zb (¬ c < 0 ∧ ¬ 39 < c) = 0 then 0 else 1) := by
    unfold am_igd
    rw [if_neg (show ¬ (zb (¬ nI 25 < 0 ∧ ¬ 34 < nI 25) = 0) by decide), if_pos (show 9 < nI 25 by decide), if_pos (show 18 < nI 25 by decide), if_neg (show ¬ (nI 25 = 20) by decide), if_neg (show ¬ (nI 25 = 21) by decide), if_neg (show ¬ (nI 25 = 19) by decide), if_neg (show ¬ (27 < nI 25) by decide)]
  rw [e]
  refine am_bz_iff (p := (((¬ a < 0 ∧ ¬ 31 < a) ∧ ¬ a = 5) ∧ (((¬ b < 0 ∧ ¬ 31 < b) ∧ ¬ b = 5) ∧ ((¬ c < 0 ∧ ¬ 39 < c) ∧ True)))) (am_bz_a (fun _ => am_bz_a (fun _ => am_bz_a (fun _ => am_bz_1)))) ?_
  rw [am_gdk (k := 25) (by decide) (A := 1) (B := 1) (C := 5) (by decide +kernel) (by decide +kernel) (by decide +kernel), am_S1, am_S1, am_S5]
  try simp only [and_true, true_and]
theorem am_ig26 (a b c : Int32) : am_bz (am_igd (nI 26) a b c) (am_gd (nI 26) a b c) := by
  have e : am_igd (nI 26) a b c = (if zb ((¬ a < 0 ∧ ¬ 31 < a) ∧ ¬ a = 5) = 0 then 0 else if zb ((¬ b < 0 ∧ ¬ 31 < b) ∧ ¬ b = 5) = 0 then 0 else if zb (¬ c < 0 ∧ ¬ 39 < c) = 0 then 0 else 1) := by
    unfold am_igd
    rw [if_neg (show ¬ (zb (¬ nI 26 < 0 ∧ ¬ 34 < nI 26) = 0) by decide), if_pos (show 9 < nI 26 by decide), if_pos (show 18 < nI 26 by decide), if_neg (show ¬ (nI 26 = 20) by decide), if_neg (show ¬ (nI 26 = 21) by decide), if_neg (show ¬ (nI 26 = 19) by decide), if_neg (show ¬ (27 < nI 26) by decide)]
  rw [e]
  refine am_bz_iff (p := (((¬ a < 0 ∧ ¬ 31 < a) ∧ ¬ a = 5) ∧ (((¬ b < 0 ∧ ¬ 31 < b) ∧ ¬ b = 5) ∧ ((¬ c < 0 ∧ ¬ 39 < c) ∧ True)))) (am_bz_a (fun _ => am_bz_a (fun _ => am_bz_a (fun _ => am_bz_1)))) ?_
  rw [am_gdk (k := 26) (by decide) (A := 1) (B := 1) (C := 5) (by decide +kernel) (by decide +kernel) (by decide +kernel), am_S1, am_S1, am_S5]
  try simp only [and_true, true_and]
theorem am_ig27 (a b c : Int32) : am_bz (am_igd (nI 27) a b c) (am_gd (nI 27) a b c) := by
  have e : am_igd (nI 27) a b c = (if zb ((¬ a < 0 ∧ ¬ 31 < a) ∧ ¬ a = 5) = 0 then 0 else if zb ((¬ b < 0 ∧ ¬ 31 < b) ∧ ¬ b = 5) = 0 then 0 else if zb (¬ c < 0 ∧ ¬ 39 < c) = 0 then 0 else 1) := by
    unfold am_igd
    rw [if_neg (show ¬ (zb (¬ nI 27 < 0 ∧ ¬ 34 < nI 27) = 0) by decide), if_pos (show 9 < nI 27 by decide), if_pos (show 18 < nI 27 by decide), if_neg (show ¬ (nI 27 = 20) by decide), if_neg (show ¬ (nI 27 = 21) by decide), if_neg (show ¬ (nI 27 = 19) by decide), if_neg (show ¬ (27 < nI 27) by decide)]
  rw [e]
  refine am_bz_iff (p := (((¬ a < 0 ∧ ¬ 31 < a) ∧ ¬ a = 5) ∧ (((¬ b < 0 ∧ ¬ 31 < b) ∧ ¬ b = 5) ∧ ((¬ c < 0 ∧ ¬ 39 < c) ∧ True)))) (am_bz_a (fun _ => am_bz_a (fun _ => am_bz_a (fun _ => am_bz_1)))) ?_
  rw [am_gdk (k := 27) (by decide) (A := 1) (B := 1) (C := 5) (by decide +kernel) (by decide +kernel) (by decide +kernel), am_S1, am_S1, am_S5]
  try simp only [and_true, true_and]
theorem am_ig28 (a b c : Int32) : am_bz (am_igd (nI 28) a b c) (am_gd (nI 28) a b c) := by
  have e : am_igd (nI 28) a b c = (zb (¬ a < 0 ∧ ¬ 39 < a)) := by
    unfold am_igd
    rw [if_neg (show ¬ (zb (¬ nI 28 < 0 ∧ ¬ 34 < nI 28) = 0) by decide), if_pos (show 9 < nI 28 by decide), if_pos (show 18 < nI 28 by decide), if_neg (show ¬ (nI 28 = 20) by decide), if_neg (show ¬ (nI 28 = 21) by decide), if_neg (show ¬ (nI 28 = 19) by decide), if_pos (show 27 < nI 28 by decide), if_pos (show nI 28 = 28 by decide)]
  rw [e]
  refine am_bz_iff (p := (¬ a < 0 ∧ ¬ 39 < a)) (am_bz_z) ?_
  rw [am_gdk (k := 28) (by decide) (A := 5) (B := 0) (C := 0) (by decide +kernel) (by decide +kernel) (by decide +kernel), am_S5, am_S0, am_S0]
  try simp only [and_true, true_and]
theorem am_ig29 (a b c : Int32) : am_bz (am_igd (nI 29) a b c) (am_gd (nI 29) a b c) := by
  have e : am_igd (nI 29) a b c = (zb (¬ a < 0 ∧ ¬ 23 < a)) := by
    unfold am_igd
    rw [if_neg (show ¬ (zb (¬ nI 29 < 0 ∧ ¬ 34 < nI 29) = 0) by decide), if_pos (show 9 < nI 29 by decide), if_pos (show 18 < nI 29 by decide), if_neg (show ¬ (nI 29 = 20) by decide), if_neg (show ¬ (nI 29 = 21) by decide), if_neg (show ¬ (nI 29 = 19) by decide), if_pos (show 27 < nI 29 by decide), if_neg (show ¬ (nI 29 = 28) by decide), if_pos (show nI 29 = 29 by decide)]
  rw [e]
  refine am_bz_iff (p := (¬ a < 0 ∧ ¬ 23 < a)) (am_bz_z) ?_
  rw [am_gdk (k := 29) (by decide) (A := 6) (B := 0) (C := 0) (by decide +kernel) (by decide +kernel) (by decide +kernel), am_S6, am_S0, am_S0]
  try simp only [and_true, true_and]
theorem am_ig30 (a b c : Int32) : am_bz (am_igd (nI 30) a b c) (am_gd (nI 30) a b c) := by
  have e : am_igd (nI 30) a b c = (zb (¬ a < 0 ∧ ¬ 23 < a)) := by
    unfold am_igd
    rw [if_neg (show ¬ (zb (¬ nI 30 < 0 ∧ ¬ 34 < nI 30) = 0) by decide), if_pos (show 9 < nI 30 by decide), if_pos (show 18 < nI 30 by decide), if_neg (show ¬ (nI 30 = 20) by decide), if_neg (show ¬ (nI 30 = 21) by decide), if_neg (show ¬ (nI 30 = 19) by decide), if_pos (show 27 < nI 30 by decide), if_neg (show ¬ (nI 30 = 28) by decide), if_neg (show ¬ (nI 30 = 29) by decide), if_pos (show nI 30 = 30 by decide)]
  rw [e]
  refine am_bz_iff (p := (¬ a < 0 ∧ ¬ 23 < a)) (am_bz_z) ?_
  rw [am_gdk (k := 30) (by decide) (A := 6) (B := 0) (C := 0) (by decide +kernel) (by decide +kernel) (by decide +kernel), am_S6, am_S0, am_S0]
  try simp only [and_true, true_and]
theorem am_ig31 (a b c : Int32) : am_bz (am_igd (nI 31) a b c) (am_gd (nI 31) a b c) := by
  have e : am_igd (nI 31) a b c = (1) := by
    unfold am_igd
    rw [if_neg (show ¬ (zb (¬ nI 31 < 0 ∧ ¬ 34 < nI 31) = 0) by decide), if_pos (show 9 < nI 31 by decide), if_pos (show 18 < nI 31 by decide), if_neg (show ¬ (nI 31 = 20) by decide), if_neg (show ¬ (nI 31 = 21) by decide), if_neg (show ¬ (nI 31 = 19) by decide), if_pos (show 27 < nI 31 by decide), if_neg (show ¬ (nI 31 = 28) by decide), if_neg (show ¬ (nI 31 = 29) by decide), if_neg (show ¬ (nI 31 = 30) by decide), if_neg (show ¬ (nI 31 = 32) by decide), if_neg (show ¬ (nI 31 = 33) by decide)]
  rw [e]
  refine am_bz_iff (p := True) (am_bz_1) ?_
  rw [am_gdk (k := 31) (by decide) (A := 0) (B := 0) (C := 0) (by decide +kernel) (by decide +kernel) (by decide +kernel), am_S0, am_S0, am_S0]
  try simp only [and_true, true_and]
theorem am_ig32 (a b c : Int32) : am_bz (am_igd (nI 32) a b c) (am_gd (nI 32) a b c) := by
  have e : am_igd (nI 32) a b c = (if zb ((¬ a < 0 ∧ ¬ 31 < a) ∧ ¬ a = 5) = 0 then 0 else if zb (¬ b < 0 ∧ ¬ 23 < b) = 0 then 0 else 1) := by
    unfold am_igd
    rw [if_neg (show ¬ (zb (¬ nI 32 < 0 ∧ ¬ 34 < nI 32) = 0) by decide), if_pos (show 9 < nI 32 by decide), if_pos (show 18 < nI 32 by decide), if_neg (show ¬ (nI 32 = 20) by decide), if_neg (show ¬ (nI 32 = 21) by decide), if_neg (show ¬ (nI 32 = 19) by decide), if_pos (show 27 < nI 32 by decide), if_neg (show ¬ (nI 32 = 28) by decide), if_neg (show ¬ (nI 32 = 29) by decide), if_neg (show ¬ (nI 32 = 30) by decide), if_pos (show nI 32 = 32 by decide)]
  rw [e]
  refine am_bz_iff (p := (((¬ a < 0 ∧ ¬ 31 < a) ∧ ¬ a = 5) ∧ ((¬ b < 0 ∧ ¬ 23 < b) ∧ True))) (am_bz_a (fun _ => am_bz_a (fun _ => am_bz_1))) ?_
  rw [am_gdk (k := 32) (by decide) (A := 1) (B := 6) (C := 0) (by decide +kernel) (by decide +kernel) (by decide +kernel), am_S1, am_S6, am_S0]
  try simp only [and_true, true_and]
theorem am_ig33 (a b c : Int32) : am_bz (am_igd (nI 33) a b c) (am_gd (nI 33) a b c) := by
  have e : am_igd (nI 33) a b c = (if zb ((¬ a < 0 ∧ ¬ 31 < a) ∧ ¬ a = 5) = 0 then 0 else 1) := by
    unfold am_igd
    rw [if_neg (show ¬ (zb (¬ nI 33 < 0 ∧ ¬ 34 < nI 33) = 0) by decide), if_pos (show 9 < nI 33 by decide), if_pos (show 18 < nI 33 by decide), if_neg (show ¬ (nI 33 = 20) by decide), if_neg (show ¬ (nI 33 = 21) by decide), if_neg (show ¬ (nI 33 = 19) by decide), if_pos (show 27 < nI 33 by decide), if_neg (show ¬ (nI 33 = 28) by decide), if_neg (show ¬ (nI 33 = 29) by decide), if_neg (show ¬ (nI 33 = 30) by decide), if_neg (show ¬ (nI 33 = 32) by decide), if_pos (show nI 33 = 33 by decide)]
  rw [e]
  refine am_bz_iff (p := (((¬ a < 0 ∧ ¬ 31 < a) ∧ ¬ a = 5) ∧ True)) (am_bz_a (fun _ => am_bz_1)) ?_
  rw [am_gdk (k := 33) (by decide) (A := 1) (B := 0) (C := 0) (by decide +kernel) (by decide +kernel) (by decide +kernel), am_S1, am_S0, am_S0]
  try simp only [and_true, true_and]
theorem am_ig34 (a b c : Int32) : am_bz (am_igd (nI 34) a b c) (am_gd (nI 34) a b c) := by
  have e : am_igd (nI 34) a b c = (1) := by
    unfold am_igd
    rw [if_neg (show ¬ (zb (¬ nI 34 < 0 ∧ ¬ 34 < nI 34) = 0) by decide), if_pos (show 9 < nI 34 by decide), if_pos (show 18 < nI 34 by decide), if_neg (show ¬ (nI 34 = 20) by decide), if_neg (show ¬ (nI 34 = 21) by decide), if_neg (show ¬ (nI 34 = 19) by decide), if_pos (show 27 < nI 34 by decide), if_neg (show ¬ (nI 34 = 28) by decide), if_neg (show ¬ (nI 34 = 29) by decide), if_neg (show ¬ (nI 34 = 30) by decide), if_neg (show ¬ (nI 34 = 32) by decide), if_neg (show ¬ (nI 34 = 33) by decide)]
  rw [e]
  refine am_bz_iff (p := True) (am_bz_1) ?_
  rw [am_gdk (k := 34) (by decide) (A := 0) (B := 0) (C := 0) (by decide +kernel) (by decide +kernel) (by decide +kernel), am_S0, am_S0, am_S0]
  try simp only [and_true, true_and]
theorem am_igP (n a b c : Int32) : am_bz (am_igd n a b c) (am_gd n a b c) := by
  by_cases hn : ¬ n < 0 ∧ ¬ 34 < n
  · obtain ⟨k, hk, rfl⟩ := nI_of hn.1
    have h35 : k < 35 := by
      have := mt (nI_lt (a := 34) (b := k) · hk) hn.2
      omega
    rcases k with _ | _ | _ | _ | _ | _ | _ | _ | _ | _ | _ | _ | _ | _ | _ | _ | _ | _ | _ | _ | _ | _ | _ | _ | _ | _ | _ | _ | _ | _ | _ | _ | _ | _ | _ | k
    · exact am_ig0 a b c
    · exact am_ig1 a b c
    · exact am_ig2 a b c
    · exact am_ig3 a b c
    · exact am_ig4 a b c
    · exact am_ig5 a b c
    · exact am_ig6 a b c
    · exact am_ig7 a b c
    · exact am_ig8 a b c
    · exact am_ig9 a b c
    · exact am_ig10 a b c
    · exact am_ig11 a b c
    · exact am_ig12 a b c
    · exact am_ig13 a b c
    · exact am_ig14 a b c
    · exact am_ig15 a b c
    · exact am_ig16 a b c
    · exact am_ig17 a b c
    · exact am_ig18 a b c
    · exact am_ig19 a b c
    · exact am_ig20 a b c
    · exact am_ig21 a b c
    · exact am_ig22 a b c
    · exact am_ig23 a b c
    · exact am_ig24 a b c
    · exact am_ig25 a b c
    · exact am_ig26 a b c
    · exact am_ig27 a b c
    · exact am_ig28 a b c
    · exact am_ig29 a b c
    · exact am_ig30 a b c
    · exact am_ig31 a b c
    · exact am_ig32 a b c
    · exact am_ig33 a b c
    · exact am_ig34 a b c
    omega
  · refine Or.inl ⟨?_, fun h => hn ⟨Int32.not_lt.mpr h.1.1, (am_l32 (m := 34) (by decide)).mp h.1.2⟩⟩
    unfold am_igd
    rw [if_pos (zb_0.mpr hn)]
