theorem am_hd_01 (f a b : Int32) : am_hd f a b = 0 ∨ am_hd f a b = 1 := by
  unfold am_hd
  repeat' split
  all_goals exact zb_01
theorem am_i28 {n : Int32} {m : Int32} (h : ¬ m < n) (hm : m.toInt < 28) : n < 28 := by
  have h := Int32.le_iff_toInt_le.mp (Int32.not_lt.mp h)
  rw [Int32.lt_iff_toInt_lt, show (28 : Int32).toInt = 28 by decide]
  omega
theorem am_ibr28 {n : Int32} (h : ¬ zb (¬ n < 22 ∧ ¬ 27 < n) = 0) : n < 28 := am_i28 (zb_ne.mp h).2 (by decide)
theorem am_ibr19 {n : Int32} (h : ¬ zb (¬ n < 22 ∧ ¬ 27 < n) = 0) : ¬ n = 19 := fun z => (zb_ne.mp h).1 (by rw [z]; decide)
theorem am_gd_n {n a b c : Int32} (h : am_gd n a b c) : ∃ k, k < 35 ∧ n = nI k := by
  obtain ⟨k, hk, e⟩ := nI_of (x := n) (Int32.not_lt.mpr h.1.1)
  refine ⟨k, ?_, e⟩
  have := h.1.2
  rw [e, show (35 : Int32) = nI 35 from rfl] at this
  exact (nI_ltI hk (by decide)).mp this
theorem am_su1 {a : Int32} (h : ¬ am_su 1 a = 0) : vp_in a 32 := by
  have h : ¬ zb (¬ a < 0 ∧ a < 32 ∧ ¬ a = 5) = 0 := h
  have h := zb_ne.mp h
  exact vpn h.1 h.2.1 (by decide)
theorem am_gA {n a b c : Int32} (h : am_gd n a b c) (hh : n < 28 ∨ n = 32 ∨ n = 33) : vp_in a 32 := by
  obtain ⟨k, hk, e⟩ := am_gd_n h
  subst e
  have T : ∀ k, k < 35 → (nI k < 28 ∨ nI k = 32 ∨ nI k = 33) → am_kA (nI k) = 1 := by decide +kernel
  have h2 := h.2.1
  rw [T k hk hh] at h2
  exact am_su1 h2
theorem am_gB {n a b c : Int32} (h : am_gd n a b c) (hh : n < 28) (h19 : ¬ n = 19) : vp_in b 32 := by
  obtain ⟨k, hk, e⟩ := am_gd_n h
  subst e
  have T : ∀ k, k < 35 → nI k < 28 → ¬ nI k = 19 → am_kB (nI k) = 1 := by decide +kernel
  have h2 := h.2.2.1
  rw [T k hk hh h19] at h2
  exact am_su1 h2
theorem am_gC {n a b c : Int32} (h : am_gd n a b c) (hh : ¬ 9 < n) : vp_in c 32 := by
  obtain ⟨k, hk, e⟩ := am_gd_n h
  subst e
  have T : ∀ k, k < 35 → ¬ 9 < nI k → am_kC (nI k) = 1 := by decide +kernel
  have h2 := h.2.2.2
  rw [T k hk hh] at h2
  exact am_su1 h2
theorem am_n19 {n : Int32} {m : Int32} (h : ¬ m < n) (hm : m.toInt < 19) : ¬ n = 19 := fun z => h (by
  rw [z, Int32.lt_iff_toInt_lt, show (19 : Int32).toInt = 19 by decide]
  exact hm)
def am_mdo (D : Nat → Nat → Int32) (x : Nat) : Int32 × (Nat → Nat → Int32) := if 9 < D 71 x then (if 18 < D 71 x then (if D 71 x = 19 then ((1, am_mst D (D 72 x) (0) (D 73 x <<< (12 : Int32)))) else (if 21 < D 71 x then (if zb (¬ D 71 x < 22 ∧ ¬ 27 < D 71 x) = 0 then (if D 71 x = 31 then (if D 107 1 = 2 then ((1, D)) else ((0, D))) else if D 71 x = 32 then ((1, am_mst D (D 72 x) (1) (D 73 x))) else if D 71 x = 33 then (if D 107 (D 72 x).toNatClampNeg = 1 then ((1, D)) else ((0, D))) else if D 71 x = 34 then (if zb (D 107 10 = 0) = 0 then ((0, D)) else ((1, am_mpn D 0 99 (D 102 10)))) else ((1, D))) else (if D 71 x < 24 then (if D 107 (D 72 x).toNatClampNeg = 1 then (if D 107 (D 73 x).toNatClampNeg = 1 then (if D 71 x < 24 then ((1, am_u D 69 40 (am_hd (D 71 x - 22) (D 102 (D 72 x).toNatClampNeg) (D 102 (D 73 x).toNatClampNeg)))) else ((1, am_u D 69 40 (am_hd (D 71 x - 20) (D 102 (D 72 x).toNatClampNeg) (D 102 (D 73 x).toNatClampNeg))))) else (if zb (D 107 (D 72 x).toNatClampNeg = 0) = 0 then ((0, D)) else (if zb (D 107 (D 73 x).toNatClampNeg = 0) = 0 then ((0, D)) else (if D 71 x < 24 then ((1, am_u D 69 40 (am_hd (D 71 x - 22) (D 102 (D 72 x).toNatClampNeg) (D 102 (D 73 x).toNatClampNeg)))) else ((1, am_u D 69 40 (am_hd (D 71 x - 20) (D 102 (D 72 x).toNatClampNeg) (D 102 (D 73 x).toNatClampNeg)))))))) else (if zb (D 107 (D 72 x).toNatClampNeg = 0) = 0 then ((0, D)) else (if zb (D 107 (D 73 x).toNatClampNeg = 0) = 0 then ((0, D)) else (if D 71 x < 24 then ((1, am_u D 69 40 (am_hd (D 71 x - 22) (D 102 (D 72 x).toNatClampNeg) (D 102 (D 73 x).toNatClampNeg)))) else ((1, am_u D 69 40 (am_hd (D 71 x - 20) (D 102 (D 72 x).toNatClampNeg) (D 102 (D 73 x).toNatClampNeg)))))))) else (if zb (D 107 (D 72 x).toNatClampNeg = 0) = 0 then ((0, D)) else (if zb (D 107 (D 73 x).toNatClampNeg = 0) = 0 then ((0, D)) else (if D 71 x < 24 then ((1, am_u D 69 40 (am_hd (D 71 x - 22) (D 102 (D 72 x).toNatClampNeg) (D 102 (D 73 x).toNatClampNeg)))) else ((1, am_u D 69 40 (am_hd (D 71 x - 20) (D 102 (D 72 x).toNatClampNeg) (D 102 (D 73 x).toNatClampNeg))))))))) else (if zb (D 107 (D 73 x).toNatClampNeg = 0) = 0 then ((0, D)) else (if zb ((D 102 (D 73 x).toNatClampNeg + D 74 x) - (D 102 (D 73 x).toNatClampNeg + D 74 x) / 4 * 4 = 0 ∧ ¬ (D 102 (D 73 x).toNatClampNeg + D 74 x) < 65536 ∧ ¬ 65788 < (D 102 (D 73 x).toNatClampNeg + D 74 x)) = 0 then ((0, D)) else (if D 71 x = 20 then ((1, am_mst D (D 72 x) (D 108 (((D 102 (D 73 x).toNatClampNeg + D 74 x) - 65536) / 4).toNatClampNeg) (D 105 (((D 102 (D 73 x).toNatClampNeg + D 74 x) - 65536) / 4).toNatClampNeg))) else ((1, am_u (am_u D 105 (((D 102 (D 73 x).toNatClampNeg + D 74 x) - 65536) / 4).toNatClampNeg (D 102 (D 72 x).toNatClampNeg)) 108 (((D 102 (D 73 x).toNatClampNeg + D 74 x) - 65536) / 4).toNatClampNeg ((am_u D 105 (((D 102 (D 73 x).toNatClampNeg + D 74 x) - 65536) / 4).toNatClampNeg (D 102 (D 72 x).toNatClampNeg)) 107 (D 72 x).toNatClampNeg)))))))) else (if D 71 x = 10 then (if D 74 x = 0 then ((1, am_mst D (D 72 x) (D 107 (D 73 x).toNatClampNeg) (D 102 (D 73 x).toNatClampNeg))) else (if zb (D 107 (D 73 x).toNatClampNeg = 0) = 0 then ((0, D)) else ((1, am_mst D (D 72 x) (0) (am_rk (D 71 x) (D 102 (D 73 x).toNatClampNeg) (D 74 x)))))) else (if zb (D 107 (D 73 x).toNatClampNeg = 0) = 0 then ((0, D)) else ((1, am_mst D (D 72 x) (0) (am_rk (D 71 x) (D 102 (D 73 x).toNatClampNeg) (D 74 x))))))) else (if zb (D 107 (D 73 x).toNatClampNeg = 0) = 0 then ((0, D)) else (if zb (D 107 (D 74 x).toNatClampNeg = 0) = 0 then ((0, D)) else ((1, am_mst D (D 72 x) (0) (am_rk (D 71 x) (D 102 (D 73 x).toNatClampNeg) (D 102 (D 74 x).toNatClampNeg))))))
set_option maxRecDepth 4000 in
theorem c_X12_does {D : Nat → Nat → Int32} {e : am_E} {kc ks : Nat} {Q : am_Q} {x : Int32} (hx : vp_in x 960) (hg : am_gd (D 71 x.toNatClampNeg) (D 72 x.toNatClampNeg) (D 73 x.toNatClampNeg) (D 74 x.toNatClampNeg)) (hpr : ¬ D 95 0 < 0) (q : Q (some (.int ((am_mdo D x.toNatClampNeg).1))) (hp (am_mdo D x.toNatClampNeg).2 e)) : am_Go (mX12_does, 0, am_ent mX12_does [.ref 69, .int x], [], hp D e, kc, ks, Q) := by
  refine go_s 3 rfl ?_
  refine go_m rfl rfl hx ?_
  refine go_s 4 rfl ?_
  refine go_m rfl rfl hx ?_
  refine go_s 4 rfl ?_
  refine go_m rfl rfl hx ?_
  refine go_s 4 rfl ?_
  refine go_m rfl rfl hx ?_
  refine go_s 4 rfl ?_
  refine go_m rfl rfl (by first | decide | (unfold vp_in; decide)) ?_
  refine go_s 4 rfl ?_
  refine go_if (fun c41 => ?_) (fun c41 => ?_)
  · refine go_s 3 rfl ?_
    refine go_if (fun c89 => ?_) (fun c89 => ?_)
    · refine go_s 3 rfl ?_
      refine go_if (fun c155 => ?_) (fun c155 => ?_)
      · refine go_s 6 rfl ?_
        refine go_v kX12_does_166 okX12_set rfl rfl rfl rfl (Nat.zero_le _) (Nat.zero_le _) ?_
        refine c_X12_set (am_gA hg (Or.inl (by rw [show D 71 x.toNatClampNeg = 19 from c155]; decide))) ?_
        refine go_s 1 rfl ?_
        exact go_retz rfl rfl (by first | exact Or.inl rfl | exact Or.inr rfl) (am_qp q (by exact (if_pos c41).trans ((if_pos c89).trans (if_pos c155))))
      · refine go_s 3 rfl ?_
        refine go_if (fun c174 => ?_) (fun c174 => ?_)
        · refine go_s 1 rfl ?_
          refine go_st kX12_does_277 okX12_isBranch rfl rfl rfl (Nat.zero_le _) (Nat.zero_le _) ?_
          refine c_X12_isBranch ?_
          refine go_s 1 rfl ?_
          refine go_if (fun c280 => ?_) (fun c280 => ?_)
          · refine go_s 2 rfl ?_
            refine go_if (fun c377_0 => ?_) (fun c377_0 => ?_)
            · refine go_s 3 rfl ?_
              refine go_m rfl rfl (by first | decide | (unfold vp_in; decide)) ?_
              refine go_s 2 rfl ?_
              refine go_if (fun c415 => ?_) (fun c415 => ?_)
              · refine go_s 2 rfl ?_
                exact go_retz rfl rfl (by first | exact Or.inl rfl | exact Or.inr rfl) (am_qp q (by exact (if_pos c41).trans ((if_pos c89).trans ((if_neg c155).trans ((if_pos c174).trans ((if_pos c280).trans ((if_pos c377_0).trans (if_pos c415))))))))
              · refine go_s 1 rfl ?_
                exact go_retz rfl rfl (by first | exact Or.inl rfl | exact Or.inr rfl) (am_qp q (by exact (if_pos c41).trans ((if_pos c89).trans ((if_neg c155).trans ((if_pos c174).trans ((if_pos c280).trans ((if_pos c377_0).trans (if_neg c415))))))))
            · refine go_if (fun c377_1 => ?_) (fun c377_1 => ?_)
              · refine go_s 4 rfl ?_
                refine go_v kX12_does_429 okX12_set rfl rfl rfl rfl (Nat.zero_le _) (Nat.zero_le _) ?_
                refine c_X12_set (am_gA hg (Or.inr (Or.inl c377_1))) ?_
                refine go_s 1 rfl ?_
                exact go_retz rfl rfl (by first | exact Or.inl rfl | exact Or.inr rfl) (am_qp q (by exact (if_pos c41).trans ((if_pos c89).trans ((if_neg c155).trans ((if_pos c174).trans ((if_pos c280).trans ((if_neg c377_0).trans (if_pos c377_1))))))))
              · refine go_if (fun c377_2 => ?_) (fun c377_2 => ?_)
                · refine go_s 3 rfl ?_
                  refine go_m rfl rfl (am_gA hg (Or.inr (Or.inr c377_2))) ?_
                  refine go_s 2 rfl ?_
                  refine go_if (fun c441 => ?_) (fun c441 => ?_)
                  · refine go_s 2 rfl ?_
                    exact go_retz rfl rfl (by first | exact Or.inl rfl | exact Or.inr rfl) (am_qp q (by exact (if_pos c41).trans ((if_pos c89).trans ((if_neg c155).trans ((if_pos c174).trans ((if_pos c280).trans ((if_neg c377_0).trans ((if_neg c377_1).trans ((if_pos c377_2).trans (if_pos c441))))))))))
                  · refine go_s 1 rfl ?_
                    exact go_retz rfl rfl (by first | exact Or.inl rfl | exact Or.inr rfl) (am_qp q (by exact (if_pos c41).trans ((if_pos c89).trans ((if_neg c155).trans ((if_pos c174).trans ((if_pos c280).trans ((if_neg c377_0).trans ((if_neg c377_1).trans ((if_pos c377_2).trans (if_neg c441))))))))))
                · refine go_if (fun c377_3 => ?_) (fun c377_3 => ?_)
                  · refine go_s 2 rfl ?_
                    refine go_v kX12_does_453 okX12_isNumber rfl rfl rfl rfl (Nat.zero_le _) (Nat.zero_le _) ?_
                    refine c_X12_isNumber (by first | decide | (unfold vp_in; decide)) ?_
                    refine go_s 1 rfl ?_
                    refine go_if (fun c456 => ?_) (fun c456 => ?_)
                    · refine go_s 1 rfl ?_
                      exact go_retz rfl rfl (by first | exact Or.inl rfl | exact Or.inr rfl) (am_qp q (by exact (if_pos c41).trans ((if_pos c89).trans ((if_neg c155).trans ((if_pos c174).trans ((if_pos c280).trans ((if_neg c377_0).trans ((if_neg c377_1).trans ((if_neg c377_2).trans ((if_pos c377_3).trans (if_pos c456)))))))))))
                    · refine go_s 4 rfl ?_
                      refine go_m rfl rfl (by first | decide | (unfold vp_in; decide)) ?_
                      refine go_v kX12_does_468 okX12_print rfl rfl rfl rfl (Nat.zero_le _) (Nat.zero_le _) ?_
                      refine c_X12_print_0 hpr ?_
                      refine go_s 1 rfl ?_
                      exact go_retz rfl rfl (by first | exact Or.inl rfl | exact Or.inr rfl) (am_qp q (by exact (if_pos c41).trans ((if_pos c89).trans ((if_neg c155).trans ((if_pos c174).trans ((if_pos c280).trans ((if_neg c377_0).trans ((if_neg c377_1).trans ((if_neg c377_2).trans ((if_pos c377_3).trans (if_neg c456)))))))))))
                  · refine go_s 1 rfl ?_
                    exact go_retz rfl rfl (by first | exact Or.inl rfl | exact Or.inr rfl) (am_qp q (by exact (if_pos c41).trans ((if_pos c89).trans ((if_neg c155).trans ((if_pos c174).trans ((if_pos c280).trans ((if_neg c377_0).trans ((if_neg c377_1).trans ((if_neg c377_2).trans (if_neg c377_3))))))))))
          · refine go_s 3 rfl ?_
            refine go_if (fun c286 => ?_) (fun c286 => ?_)
            · refine go_s 3 rfl ?_
              refine go_m rfl rfl (am_gA hg (Or.inl (am_ibr28 c280))) ?_
              refine go_s 2 rfl ?_
              refine go_if (fun c296 => ?_) (fun c296 => ?_)
              · refine go_s 3 rfl ?_
                refine go_m rfl rfl (am_gB hg (am_ibr28 c280) (am_ibr19 c280)) ?_
                refine go_s 2 rfl ?_
                refine go_if (fun c307 => ?_) (fun c307 => ?_)
                · refine go_s 5 rfl ?_
                  refine go_if (fun c319 => absurd c319 (by decide)) (fun c319 => ?_)
                  refine go_s 4 rfl ?_
                  refine go_if (fun c345 => ?_) (fun c345 => ?_)
                  · refine go_s 6 rfl ?_
                    refine go_m rfl rfl (am_gA hg (Or.inl (am_ibr28 c280))) ?_
                    refine go_s 2 rfl ?_
                    refine go_m rfl rfl (am_gB hg (am_ibr28 c280) (am_ibr19 c280)) ?_
                    refine go_st kX12_does_368 okX12_holds rfl rfl rfl (Nat.zero_le _) (Nat.zero_le _) ?_
                    refine c_X12_holds ?_
                    refine go_m rfl rfl (am_hd_01 _ _ _) ?_
                    refine go_s 1 rfl ?_
                    exact go_retz rfl rfl (by first | exact Or.inl rfl | exact Or.inr rfl) (am_qp q (by exact (if_pos c41).trans ((if_pos c89).trans ((if_neg c155).trans ((if_pos c174).trans ((if_neg c280).trans ((if_pos c286).trans ((if_pos c296).trans ((if_pos c307).trans (if_pos c345))))))))))
                  · refine go_s 5 rfl ?_
                    refine go_m rfl rfl (am_gA hg (Or.inl (am_ibr28 c280))) ?_
                    refine go_s 2 rfl ?_
                    refine go_m rfl rfl (am_gB hg (am_ibr28 c280) (am_ibr19 c280)) ?_
                    refine go_st kX12_does_368 okX12_holds rfl rfl rfl (Nat.zero_le _) (Nat.zero_le _) ?_
                    refine c_X12_holds ?_
                    refine go_m rfl rfl (am_hd_01 _ _ _) ?_
                    refine go_s 1 rfl ?_
                    exact go_retz rfl rfl (by first | exact Or.inl rfl | exact Or.inr rfl) (am_qp q (by exact (if_pos c41).trans ((if_pos c89).trans ((if_neg c155).trans ((if_pos c174).trans ((if_neg c280).trans ((if_pos c286).trans ((if_pos c296).trans ((if_pos c307).trans (if_neg c345))))))))))
                · refine go_s 4 rfl ?_
                  refine go_if (fun c319 => ?_) (fun c319 => absurd (by decide) c319)
                  refine go_s 2 rfl ?_
                  refine go_v kX12_does_324 okX12_isNumber rfl rfl rfl rfl (Nat.zero_le _) (Nat.zero_le _) ?_
                  refine c_X12_isNumber (am_gA hg (Or.inl (am_ibr28 c280))) ?_
                  refine go_s 1 rfl ?_
                  refine go_if (fun c327 => ?_) (fun c327 => ?_)
                  · refine go_s 1 rfl ?_
                    exact go_retz rfl rfl (by first | exact Or.inl rfl | exact Or.inr rfl) (am_qp q (by exact (if_pos c41).trans ((if_pos c89).trans ((if_neg c155).trans ((if_pos c174).trans ((if_neg c280).trans ((if_pos c286).trans ((if_pos c296).trans ((if_neg c307).trans (if_pos c327))))))))))
                  · refine go_s 2 rfl ?_
                    refine go_v kX12_does_333 okX12_isNumber rfl rfl rfl rfl (Nat.zero_le _) (Nat.zero_le _) ?_
                    refine c_X12_isNumber (am_gB hg (am_ibr28 c280) (am_ibr19 c280)) ?_
                    refine go_s 1 rfl ?_
                    refine go_if (fun c336 => ?_) (fun c336 => ?_)
                    · refine go_s 1 rfl ?_
                      exact go_retz rfl rfl (by first | exact Or.inl rfl | exact Or.inr rfl) (am_qp q (by exact (if_pos c41).trans ((if_pos c89).trans ((if_neg c155).trans ((if_pos c174).trans ((if_neg c280).trans ((if_pos c286).trans ((if_pos c296).trans ((if_neg c307).trans ((if_neg c327).trans (if_pos c336)))))))))))
                    · refine go_s 4 rfl ?_
                      refine go_if (fun c345 => ?_) (fun c345 => ?_)
                      · refine go_s 6 rfl ?_
                        refine go_m rfl rfl (am_gA hg (Or.inl (am_ibr28 c280))) ?_
                        refine go_s 2 rfl ?_
                        refine go_m rfl rfl (am_gB hg (am_ibr28 c280) (am_ibr19 c280)) ?_
                        refine go_st kX12_does_368 okX12_holds rfl rfl rfl (Nat.zero_le _) (Nat.zero_le _) ?_
                        refine c_X12_holds ?_
                        refine go_m rfl rfl (am_hd_01 _ _ _) ?_
                        refine go_s 1 rfl ?_
                        exact go_retz rfl rfl (by first | exact Or.inl rfl | exact Or.inr rfl) (am_qp q (by exact (if_pos c41).trans ((if_pos c89).trans ((if_neg c155).trans ((if_pos c174).trans ((if_neg c280).trans ((if_pos c286).trans ((if_pos c296).trans ((if_neg c307).trans ((if_neg c327).trans ((if_neg c336).trans (if_pos c345))))))))))))
                      · refine go_s 5 rfl ?_
                        refine go_m rfl rfl (am_gA hg (Or.inl (am_ibr28 c280))) ?_
                        refine go_s 2 rfl ?_
                        refine go_m rfl rfl (am_gB hg (am_ibr28 c280) (am_ibr19 c280)) ?_
                        refine go_st kX12_does_368 okX12_holds rfl rfl rfl (Nat.zero_le _) (Nat.zero_le _) ?_
                        refine c_X12_holds ?_
                        refine go_m rfl rfl (am_hd_01 _ _ _) ?_
                        refine go_s 1 rfl ?_
                        exact go_retz rfl rfl (by first | exact Or.inl rfl | exact Or.inr rfl) (am_qp q (by exact (if_pos c41).trans ((if_pos c89).trans ((if_neg c155).trans ((if_pos c174).trans ((if_neg c280).trans ((if_pos c286).trans ((if_pos c296).trans ((if_neg c307).trans ((if_neg c327).trans ((if_neg c336).trans (if_neg c345))))))))))))
              · refine go_s 4 rfl ?_
                refine go_if (fun c319 => ?_) (fun c319 => absurd (by decide) c319)
                refine go_s 2 rfl ?_
                refine go_v kX12_does_324 okX12_isNumber rfl rfl rfl rfl (Nat.zero_le _) (Nat.zero_le _) ?_
                refine c_X12_isNumber (am_gA hg (Or.inl (am_ibr28 c280))) ?_
                refine go_s 1 rfl ?_
                refine go_if (fun c327 => ?_) (fun c327 => ?_)
                · refine go_s 1 rfl ?_
                  exact go_retz rfl rfl (by first | exact Or.inl rfl | exact Or.inr rfl) (am_qp q (by exact (if_pos c41).trans ((if_pos c89).trans ((if_neg c155).trans ((if_pos c174).trans ((if_neg c280).trans ((if_pos c286).trans ((if_neg c296).trans (if_pos c327)))))))))
                · refine go_s 2 rfl ?_
                  refine go_v kX12_does_333 okX12_isNumber rfl rfl rfl rfl (Nat.zero_le _) (Nat.zero_le _) ?_
                  refine c_X12_isNumber (am_gB hg (am_ibr28 c280) (am_ibr19 c280)) ?_
                  refine go_s 1 rfl ?_
                  refine go_if (fun c336 => ?_) (fun c336 => ?_)
                  · refine go_s 1 rfl ?_
                    exact go_retz rfl rfl (by first | exact Or.inl rfl | exact Or.inr rfl) (am_qp q (by exact (if_pos c41).trans ((if_pos c89).trans ((if_neg c155).trans ((if_pos c174).trans ((if_neg c280).trans ((if_pos c286).trans ((if_neg c296).trans ((if_neg c327).trans (if_pos c336))))))))))
                  · refine go_s 4 rfl ?_
                    refine go_if (fun c345 => ?_) (fun c345 => ?_)
                    · refine go_s 6 rfl ?_
                      refine go_m rfl rfl (am_gA hg (Or.inl (am_ibr28 c280))) ?_
                      refine go_s 2 rfl ?_
                      refine go_m rfl rfl (am_gB hg (am_ibr28 c280) (am_ibr19 c280)) ?_
                      refine go_st kX12_does_368 okX12_holds rfl rfl rfl (Nat.zero_le _) (Nat.zero_le _) ?_
                      refine c_X12_holds ?_
                      refine go_m rfl rfl (am_hd_01 _ _ _) ?_
                      refine go_s 1 rfl ?_
                      exact go_retz rfl rfl (by first | exact Or.inl rfl | exact Or.inr rfl) (am_qp q (by exact (if_pos c41).trans ((if_pos c89).trans ((if_neg c155).trans ((if_pos c174).trans ((if_neg c280).trans ((if_pos c286).trans ((if_neg c296).trans ((if_neg c327).trans ((if_neg c336).trans (if_pos c345)))))))))))
                    · refine go_s 5 rfl ?_
                      refine go_m rfl rfl (am_gA hg (Or.inl (am_ibr28 c280))) ?_
                      refine go_s 2 rfl ?_
                      refine go_m rfl rfl (am_gB hg (am_ibr28 c280) (am_ibr19 c280)) ?_
                      refine go_st kX12_does_368 okX12_holds rfl rfl rfl (Nat.zero_le _) (Nat.zero_le _) ?_
                      refine c_X12_holds ?_
                      refine go_m rfl rfl (am_hd_01 _ _ _) ?_
                      refine go_s 1 rfl ?_
                      exact go_retz rfl rfl (by first | exact Or.inl rfl | exact Or.inr rfl) (am_qp q (by exact (if_pos c41).trans ((if_pos c89).trans ((if_neg c155).trans ((if_pos c174).trans ((if_neg c280).trans ((if_pos c286).trans ((if_neg c296).trans ((if_neg c327).trans ((if_neg c336).trans (if_neg c345)))))))))))
            · refine go_s 4 rfl ?_
              refine go_if (fun c319 => ?_) (fun c319 => absurd (by decide) c319)
              refine go_s 2 rfl ?_
              refine go_v kX12_does_324 okX12_isNumber rfl rfl rfl rfl (Nat.zero_le _) (Nat.zero_le _) ?_
              refine c_X12_isNumber (am_gA hg (Or.inl (am_ibr28 c280))) ?_
              refine go_s 1 rfl ?_
              refine go_if (fun c327 => ?_) (fun c327 => ?_)
              · refine go_s 1 rfl ?_
                exact go_retz rfl rfl (by first | exact Or.inl rfl | exact Or.inr rfl) (am_qp q (by exact (if_pos c41).trans ((if_pos c89).trans ((if_neg c155).trans ((if_pos c174).trans ((if_neg c280).trans ((if_neg c286).trans (if_pos c327))))))))
              · refine go_s 2 rfl ?_
                refine go_v kX12_does_333 okX12_isNumber rfl rfl rfl rfl (Nat.zero_le _) (Nat.zero_le _) ?_
                refine c_X12_isNumber (am_gB hg (am_ibr28 c280) (am_ibr19 c280)) ?_
                refine go_s 1 rfl ?_
                refine go_if (fun c336 => ?_) (fun c336 => ?_)
                · refine go_s 1 rfl ?_
                  exact go_retz rfl rfl (by first | exact Or.inl rfl | exact Or.inr rfl) (am_qp q (by exact (if_pos c41).trans ((if_pos c89).trans ((if_neg c155).trans ((if_pos c174).trans ((if_neg c280).trans ((if_neg c286).trans ((if_neg c327).trans (if_pos c336)))))))))
                · refine go_s 4 rfl ?_
                  refine go_if (fun c345 => ?_) (fun c345 => ?_)
                  · refine go_s 6 rfl ?_
                    refine go_m rfl rfl (am_gA hg (Or.inl (am_ibr28 c280))) ?_
                    refine go_s 2 rfl ?_
                    refine go_m rfl rfl (am_gB hg (am_ibr28 c280) (am_ibr19 c280)) ?_
                    refine go_st kX12_does_368 okX12_holds rfl rfl rfl (Nat.zero_le _) (Nat.zero_le _) ?_
                    refine c_X12_holds ?_
                    refine go_m rfl rfl (am_hd_01 _ _ _) ?_
                    refine go_s 1 rfl ?_
                    exact go_retz rfl rfl (by first | exact Or.inl rfl | exact Or.inr rfl) (am_qp q (by exact (if_pos c41).trans ((if_pos c89).trans ((if_neg c155).trans ((if_pos c174).trans ((if_neg c280).trans ((if_neg c286).trans ((if_neg c327).trans ((if_neg c336).trans (if_pos c345))))))))))
                  · refine go_s 5 rfl ?_
                    refine go_m rfl rfl (am_gA hg (Or.inl (am_ibr28 c280))) ?_
                    refine go_s 2 rfl ?_
                    refine go_m rfl rfl (am_gB hg (am_ibr28 c280) (am_ibr19 c280)) ?_
                    refine go_st kX12_does_368 okX12_holds rfl rfl rfl (Nat.zero_le _) (Nat.zero_le _) ?_
                    refine c_X12_holds ?_
                    refine go_m rfl rfl (am_hd_01 _ _ _) ?_
                    refine go_s 1 rfl ?_
                    exact go_retz rfl rfl (by first | exact Or.inl rfl | exact Or.inr rfl) (am_qp q (by exact (if_pos c41).trans ((if_pos c89).trans ((if_neg c155).trans ((if_pos c174).trans ((if_neg c280).trans ((if_neg c286).trans ((if_neg c327).trans ((if_neg c336).trans (if_neg c345))))))))))
        · refine go_s 2 rfl ?_
          refine go_v kX12_does_180 okX12_isNumber rfl rfl rfl rfl (Nat.zero_le _) (Nat.zero_le _) ?_
          refine c_X12_isNumber (am_gB hg (am_i28 c174 (by decide)) c155) ?_
          refine go_s 1 rfl ?_
          refine go_if (fun c183 => ?_) (fun c183 => ?_)
          · refine go_s 1 rfl ?_
            exact go_retz rfl rfl (by first | exact Or.inl rfl | exact Or.inr rfl) (am_qp q (by exact (if_pos c41).trans ((if_pos c89).trans ((if_neg c155).trans ((if_neg c174).trans (if_pos c183))))))
          · refine go_s 2 rfl ?_
            refine go_m rfl rfl (am_gB hg (am_i28 c174 (by decide)) c155) ?_
            refine go_s 2 rfl ?_
            refine go_st kX12_does_194 okX12_isCell rfl rfl rfl (Nat.zero_le _) (Nat.zero_le _) ?_
            refine c_X12_isCell ?_
            refine go_s 1 rfl ?_
            refine go_if (fun c197 => ?_) (fun c197 => ?_)
            · refine go_s 1 rfl ?_
              exact go_retz rfl rfl (by first | exact Or.inl rfl | exact Or.inr rfl) (am_qp q (by exact (if_pos c41).trans ((if_pos c89).trans ((if_neg c155).trans ((if_neg c174).trans ((if_neg c183).trans (if_pos c197)))))))
            · refine go_s 2 rfl ?_
              refine go_m rfl rfl (am_gB hg (am_i28 c174 (by decide)) c155) ?_
              refine go_s 5 rfl ?_
              refine go_m rfl rfl (by first | decide | (unfold vp_in; decide)) ?_
              refine go_s 4 rfl ?_
              refine go_if (fun c221 => ?_) (fun c221 => ?_)
              · refine go_s 5 rfl ?_
                refine go_m rfl rfl (am_ce4 c197) ?_
                refine go_s 3 rfl ?_
                refine go_m rfl rfl (by first | decide | (unfold vp_in; decide)) ?_
                refine go_s 1 rfl ?_
                refine go_m rfl rfl (am_ce4 c197) ?_
                refine go_v kX12_does_242 okX12_set rfl rfl rfl rfl (Nat.zero_le _) (Nat.zero_le _) ?_
                refine c_X12_set (am_gA hg (Or.inl (am_i28 c174 (by decide)))) ?_
                refine go_s 2 rfl ?_
                exact go_retz rfl rfl (by first | exact Or.inl rfl | exact Or.inr rfl) (am_qp q (by exact (if_pos c41).trans ((if_pos c89).trans ((if_neg c155).trans ((if_neg c174).trans ((if_neg c183).trans ((if_neg c197).trans (if_pos c221))))))))
              · refine go_s 3 rfl ?_
                refine go_m rfl rfl (by first | decide | (unfold vp_in; decide)) ?_
                refine go_s 3 rfl ?_
                refine go_m rfl rfl (am_gA hg (Or.inl (am_i28 c174 (by decide)))) ?_
                refine go_m rfl rfl (am_ce4 c197) ?_
                refine go_s 6 rfl ?_
                refine go_m rfl rfl (am_gA hg (Or.inl (am_i28 c174 (by decide)))) ?_
                refine go_m rfl rfl (am_ce4 c197) ?_
                refine go_s 1 rfl ?_
                exact go_retz rfl rfl (by first | exact Or.inl rfl | exact Or.inr rfl) (am_qp q (by exact (if_pos c41).trans ((if_pos c89).trans ((if_neg c155).trans ((if_neg c174).trans ((if_neg c183).trans ((if_neg c197).trans (if_neg c221))))))))
    · refine go_s 3 rfl ?_
      refine go_if (fun c95 => ?_) (fun c95 => ?_)
      · refine go_s 2 rfl ?_
        refine go_if (fun c100 => ?_) (fun c100 => ?_)
        · refine go_s 5 rfl ?_
          refine go_m rfl rfl (am_gB hg (am_i28 c89 (by decide)) (am_n19 c89 (by decide))) ?_
          refine go_s 2 rfl ?_
          refine go_m rfl rfl (am_gB hg (am_i28 c89 (by decide)) (am_n19 c89 (by decide))) ?_
          refine go_v kX12_does_117 okX12_set rfl rfl rfl rfl (Nat.zero_le _) (Nat.zero_le _) ?_
          refine c_X12_set (am_gA hg (Or.inl (am_i28 c89 (by decide)))) ?_
          refine go_s 1 rfl ?_
          exact go_retz rfl rfl (by first | exact Or.inl rfl | exact Or.inr rfl) (am_qp q (by exact (if_pos c41).trans ((if_neg c89).trans ((if_pos c95).trans (if_pos c100)))))
        · refine go_s 2 rfl ?_
          refine go_v kX12_does_125 okX12_isNumber rfl rfl rfl rfl (Nat.zero_le _) (Nat.zero_le _) ?_
          refine c_X12_isNumber (am_gB hg (am_i28 c89 (by decide)) (am_n19 c89 (by decide))) ?_
          refine go_s 1 rfl ?_
          refine go_if (fun c128 => ?_) (fun c128 => ?_)
          · refine go_s 1 rfl ?_
            exact go_retz rfl rfl (by first | exact Or.inl rfl | exact Or.inr rfl) (am_qp q (by exact (if_pos c41).trans ((if_neg c89).trans ((if_pos c95).trans ((if_neg c100).trans (if_pos c128))))))
          · refine go_s 6 rfl ?_
            refine go_m rfl rfl (am_gB hg (am_i28 c89 (by decide)) (am_n19 c89 (by decide))) ?_
            refine go_s 1 rfl ?_
            refine go_st kX12_does_144 okX12_reckoned rfl rfl rfl (Nat.zero_le _) (Nat.zero_le _) ?_
            refine c_X12_reckoned ?_
            refine go_v kX12_does_147 okX12_set rfl rfl rfl rfl (Nat.zero_le _) (Nat.zero_le _) ?_
            refine c_X12_set (am_gA hg (Or.inl (am_i28 c89 (by decide)))) ?_
            refine go_s 1 rfl ?_
            exact go_retz rfl rfl (by first | exact Or.inl rfl | exact Or.inr rfl) (am_qp q (by exact (if_pos c41).trans ((if_neg c89).trans ((if_pos c95).trans ((if_neg c100).trans (if_neg c128))))))
      · refine go_s 2 rfl ?_
        refine go_v kX12_does_125 okX12_isNumber rfl rfl rfl rfl (Nat.zero_le _) (Nat.zero_le _) ?_
        refine c_X12_isNumber (am_gB hg (am_i28 c89 (by decide)) (am_n19 c89 (by decide))) ?_
        refine go_s 1 rfl ?_
        refine go_if (fun c128 => ?_) (fun c128 => ?_)
        · refine go_s 1 rfl ?_
          exact go_retz rfl rfl (by first | exact Or.inl rfl | exact Or.inr rfl) (am_qp q (by exact (if_pos c41).trans ((if_neg c89).trans ((if_neg c95).trans (if_pos c128)))))
        · refine go_s 6 rfl ?_
          refine go_m rfl rfl (am_gB hg (am_i28 c89 (by decide)) (am_n19 c89 (by decide))) ?_
          refine go_s 1 rfl ?_
          refine go_st kX12_does_144 okX12_reckoned rfl rfl rfl (Nat.zero_le _) (Nat.zero_le _) ?_
          refine c_X12_reckoned ?_
          refine go_v kX12_does_147 okX12_set rfl rfl rfl rfl (Nat.zero_le _) (Nat.zero_le _) ?_
          refine c_X12_set (am_gA hg (Or.inl (am_i28 c89 (by decide)))) ?_
          refine go_s 1 rfl ?_
          exact go_retz rfl rfl (by first | exact Or.inl rfl | exact Or.inr rfl) (am_qp q (by exact (if_pos c41).trans ((if_neg c89).trans ((if_neg c95).trans (if_neg c128)))))
  · refine go_s 2 rfl ?_
    refine go_v kX12_does_47 okX12_isNumber rfl rfl rfl rfl (Nat.zero_le _) (Nat.zero_le _) ?_
    refine c_X12_isNumber (am_gB hg (am_i28 c41 (by decide)) (am_n19 c41 (by decide))) ?_
    refine go_s 1 rfl ?_
    refine go_if (fun c50 => ?_) (fun c50 => ?_)
    · refine go_s 1 rfl ?_
      exact go_retz rfl rfl (by first | exact Or.inl rfl | exact Or.inr rfl) (am_qp q (by exact (if_neg c41).trans (if_pos c50)))
    · refine go_s 2 rfl ?_
      refine go_v kX12_does_56 okX12_isNumber rfl rfl rfl rfl (Nat.zero_le _) (Nat.zero_le _) ?_
      refine c_X12_isNumber (am_gC hg c41) ?_
      refine go_s 1 rfl ?_
      refine go_if (fun c59 => ?_) (fun c59 => ?_)
      · refine go_s 1 rfl ?_
        exact go_retz rfl rfl (by first | exact Or.inl rfl | exact Or.inr rfl) (am_qp q (by exact (if_neg c41).trans ((if_neg c50).trans (if_pos c59))))
      · refine go_s 6 rfl ?_
        refine go_m rfl rfl (am_gB hg (am_i28 c41 (by decide)) (am_n19 c41 (by decide))) ?_
        refine go_s 2 rfl ?_
        refine go_m rfl rfl (am_gC hg c41) ?_
        refine go_st kX12_does_78 okX12_reckoned rfl rfl rfl (Nat.zero_le _) (Nat.zero_le _) ?_
        refine c_X12_reckoned ?_
        refine go_v kX12_does_81 okX12_set rfl rfl rfl rfl (Nat.zero_le _) (Nat.zero_le _) ?_
        refine c_X12_set (am_gA hg (Or.inl (am_i28 c41 (by decide)))) ?_
        refine go_s 1 rfl ?_
        exact go_retz rfl rfl (by first | exact Or.inl rfl | exact Or.inr rfl) (am_qp q (by exact (if_neg c41).trans ((if_neg c50).trans (if_neg c59))))
