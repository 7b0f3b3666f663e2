theorem c_X12_isNumber {D : Nat → Nat → Int32} {e : am_E} {kc ks : Nat} {Q : am_Q} {r : Int32} (h : vp_in r 32) (q : Q (some (.int (zb (D 107 r.toNatClampNeg = 0)))) (hp D e)) : am_Go (mX12_isNumber, 0, am_ent mX12_isNumber [.ref 69, .int r], [], hp D e, kc, ks, Q) := by
  refine go_s 3 rfl ?_
  refine go_m rfl rfl h ?_
  refine go_s 1 rfl ?_
  refine go_if (fun c6 => ?_) (fun c6 => ?_)
  · refine go_s 2 rfl ?_
    exact go_retz rfl rfl (by first | exact Or.inl rfl | exact Or.inr rfl | exact zb_01) (am_qi q (by simp_all [zb, hp]) (by rfl))
  · refine go_s 1 rfl ?_
    exact go_retz rfl rfl (by first | exact Or.inl rfl | exact Or.inr rfl | exact zb_01) (am_qi q (by simp_all [zb, hp]) (by rfl))
theorem c_X12_hasRoutine {D : Nat → Nat → Int32} {e : am_E} {kc ks : Nat} {Q : am_Q} {k : Int32}  (q : Q (some (.int (zb (¬ D 69 10 = 0 ∧ (¬ k < 0 ∧ ¬ D 69 13 - 1 < k))))) (hp D e)) : am_Go (mX12_hasRoutine, 0, am_ent mX12_hasRoutine [.ref 69, .int k], [], hp D e, kc, ks, Q) := by
  refine go_s 3 rfl ?_
  refine go_if (fun c4 => ?_) (fun c4 => ?_)
  · refine go_s 1 rfl ?_
    exact go_retz rfl rfl (by first | exact Or.inl rfl | exact Or.inr rfl | exact zb_01) (am_qi q (by simp_all [zb, hp, am_fv, am_k, am_kd]) (by rfl))
  · refine go_s 6 rfl ?_
    refine go_st kX12_hasRoutine_15 okX12_in rfl rfl rfl (Nat.zero_le _) (Nat.zero_le _) ?_
    refine c_X12_in ?_
    refine go_s 1 rfl ?_
    refine go_if (fun c18 => ?_) (fun c18 => ?_)
    · refine go_s 1 rfl ?_
      exact go_retz rfl rfl (by first | exact Or.inl rfl | exact Or.inr rfl | exact zb_01) (am_qi q (by simp_all [zb, hp, am_fv, am_k, am_kd]) (by rfl))
    · refine go_s 2 rfl ?_
      exact go_retz rfl rfl (by first | exact Or.inl rfl | exact Or.inr rfl | exact zb_01) (am_qi q (by simp_all [zb, hp, am_fv, am_k, am_kd]) (by rfl))
theorem c_X12_word {D : Nat → Nat → Int32} {e : am_E} {kc ks : Nat} {Q : am_Q} {i : Int32} (h : ¬ i < 0 ∧ ¬ D 69 12 - 1 < i → vp_in i 1000) (q : Q (some (.int (if ¬ D 69 10 = 0 ∧ (¬ i < 0 ∧ ¬ D 69 12 - 1 < i) then D 79 i.toNatClampNeg else 0))) (hp D e)) : am_Go (mX12_word, 0, am_ent mX12_word [.ref 69, .int i], [], hp D e, kc, ks, Q) := by
  refine go_s 3 rfl ?_
  refine go_if (fun c4 => ?_) (fun c4 => ?_)
  · refine go_s 1 rfl ?_
    exact go_ret rfl rfl (am_qi q (by first | exact (if_pos ⟨by assumption, zb_ne.mp c18⟩).symm | exact (if_neg (fun z => zb_0.mp c18 z.2)).symm | exact (if_neg (fun z => z.1 (by assumption))).symm) (by rfl))
  · refine go_s 6 rfl ?_
    refine go_st kX12_word_15 okX12_in rfl rfl rfl (Nat.zero_le _) (Nat.zero_le _) ?_
    refine c_X12_in ?_
    refine go_s 1 rfl ?_
    refine go_if (fun c18 => ?_) (fun c18 => ?_)
    · refine go_s 1 rfl ?_
      exact go_ret rfl rfl (am_qi q (by first | exact (if_pos ⟨by assumption, zb_ne.mp c18⟩).symm | exact (if_neg (fun z => zb_0.mp c18 z.2)).symm | exact (if_neg (fun z => z.1 (by assumption))).symm) (by rfl))
    · refine go_s 3 rfl ?_
      refine go_m rfl rfl (h (zb_ne.mp (by assumption))) ?_
      refine go_s 1 rfl ?_
      exact go_ret rfl rfl (am_qi q (by first | exact (if_pos ⟨by assumption, zb_ne.mp c18⟩).symm | exact (if_neg (fun z => zb_0.mp c18 z.2)).symm | exact (if_neg (fun z => z.1 (by assumption))).symm) (by rfl))
theorem c_X12_clear {D : Nat → Nat → Int32} {e : am_E} {kc ks : Nat} {Q : am_Q}   (q : Q (some (.int (D 69 1))) (hp (am_u (am_u (am_u D 69 1 0) 69 2 0) 69 10 0) e)) : am_Go (mX12_clear, 0, am_ent mX12_clear [.ref 69], [], hp D e, kc, ks, Q) := by
  refine go_s 11 rfl ?_
  refine go_m rfl rfl (by simp [zb_01]) ?_
  refine go_s 1 rfl ?_
  exact go_ret rfl rfl (am_qi q (by rfl) (by rfl))
