theorem c_X4_isRegister {D : Nat → Nat → Int32} {e : am_E} {kc ks : Nat} {Q : am_Q} {n : Int32}  (q : Q (some (.int (zb (0 ≤ n ∧ n < 32)))) (hp D e)) : am_Go (mX4_isRegister, 0, am_ent mX4_isRegister [.int n], [], hp D e, kc, ks, Q) := by
  refine go_s 2 rfl ?_
  refine go_if (fun c1 => ?_) (fun c1 => ?_)
  · refine go_s 1 rfl ?_
    exact go_retz rfl rfl (by first | exact Or.inl rfl | exact Or.inr rfl | exact zb_01) (am_qi q (by simp_all [zb, hp, am_fv, am_k, am_kd, ← Int32.not_lt]) (by rfl))
  · refine go_s 3 rfl ?_
    refine go_if (fun c7 => ?_) (fun c7 => ?_)
    · refine go_s 2 rfl ?_
      exact go_retz rfl rfl (by first | exact Or.inl rfl | exact Or.inr rfl | exact zb_01) (am_qi q (by simp_all [zb, hp, am_fv, am_k, am_kd, ← Int32.not_lt]) (by rfl))
    · refine go_s 1 rfl ?_
      exact go_retz rfl rfl (by first | exact Or.inl rfl | exact Or.inr rfl | exact zb_01) (am_qi q (by simp_all [zb, hp, am_fv, am_k, am_kd, ← Int32.not_lt]) (by rfl))
theorem c_X4_isMemoryWord {D : Nat → Nat → Int32} {e : am_E} {kc ks : Nat} {Q : am_Q} {n : Int32}  (q : Q (some (.int (zb (0 ≤ n ∧ n < 64)))) (hp D e)) : am_Go (mX4_isMemoryWord, 0, am_ent mX4_isMemoryWord [.int n], [], hp D e, kc, ks, Q) := by
  refine go_s 2 rfl ?_
  refine go_if (fun c1 => ?_) (fun c1 => ?_)
  · refine go_s 1 rfl ?_
    exact go_retz rfl rfl (by first | exact Or.inl rfl | exact Or.inr rfl | exact zb_01) (am_qi q (by simp_all [zb, hp, am_fv, am_k, am_kd, ← Int32.not_lt]) (by rfl))
  · refine go_s 3 rfl ?_
    refine go_if (fun c7 => ?_) (fun c7 => ?_)
    · refine go_s 2 rfl ?_
      exact go_retz rfl rfl (by first | exact Or.inl rfl | exact Or.inr rfl | exact zb_01) (am_qi q (by simp_all [zb, hp, am_fv, am_k, am_kd, ← Int32.not_lt]) (by rfl))
    · refine go_s 1 rfl ?_
      exact go_retz rfl rfl (by first | exact Or.inl rfl | exact Or.inr rfl | exact zb_01) (am_qi q (by simp_all [zb, hp, am_fv, am_k, am_kd, ← Int32.not_lt]) (by rfl))
theorem c_X4_hasRun_59 {D : Nat → Nat → Int32} {e : am_E} {kc ks : Nat} {Q : am_Q}  (h1 : D 59 1 = 0 ∨ D 59 1 = 1) (q : Q (some (.int (D 59 1))) (hp D e)) : am_Go (mX4_hasRun, 0, am_ent mX4_hasRun [.ref 59], [], hp D e, kc, ks, Q) := by
  refine go_s 2 rfl ?_
  exact go_retz rfl rfl (by exact h1) (am_qi q (by rfl) (by rfl))
theorem c_X4_hasRun_65 {D : Nat → Nat → Int32} {e : am_E} {kc ks : Nat} {Q : am_Q}  (h1 : D 65 1 = 0 ∨ D 65 1 = 1) (q : Q (some (.int (D 65 1))) (hp D e)) : am_Go (mX4_hasRun, 0, am_ent mX4_hasRun [.ref 65], [], hp D e, kc, ks, Q) := by
  refine go_s 2 rfl ?_
  exact go_retz rfl rfl (by exact h1) (am_qi q (by rfl) (by rfl))
theorem c_X4_outcome_59 {D : Nat → Nat → Int32} {e : am_E} {kc ks : Nat} {Q : am_Q}   (q : Q (some (.int (D 59 2))) (hp D e)) : am_Go (mX4_outcome, 0, am_ent mX4_outcome [.ref 59], [], hp D e, kc, ks, Q) := by
  refine go_s 2 rfl ?_
  exact go_ret rfl rfl (am_qi q (by rfl) (by rfl))
theorem c_X4_outcome_65 {D : Nat → Nat → Int32} {e : am_E} {kc ks : Nat} {Q : am_Q}   (q : Q (some (.int (D 65 2))) (hp D e)) : am_Go (mX4_outcome, 0, am_ent mX4_outcome [.ref 65], [], hp D e, kc, ks, Q) := by
  refine go_s 2 rfl ?_
  exact go_ret rfl rfl (am_qi q (by rfl) (by rfl))
theorem c_X4_steps_59 {D : Nat → Nat → Int32} {e : am_E} {kc ks : Nat} {Q : am_Q}   (q : Q (some (.int (D 59 3))) (hp D e)) : am_Go (mX4_steps, 0, am_ent mX4_steps [.ref 59], [], hp D e, kc, ks, Q) := by
  refine go_s 2 rfl ?_
  exact go_ret rfl rfl (am_qi q (by rfl) (by rfl))
theorem c_X4_steps_65 {D : Nat → Nat → Int32} {e : am_E} {kc ks : Nat} {Q : am_Q}   (q : Q (some (.int (D 65 3))) (hp D e)) : am_Go (mX4_steps, 0, am_ent mX4_steps [.ref 65], [], hp D e, kc, ks, Q) := by
  refine go_s 2 rfl ?_
  exact go_ret rfl rfl (am_qi q (by rfl) (by rfl))
theorem c_X4_prints_59 {D : Nat → Nat → Int32} {e : am_E} {kc ks : Nat} {Q : am_Q}   (q : Q (some (.int (D 59 4))) (hp D e)) : am_Go (mX4_prints, 0, am_ent mX4_prints [.ref 59], [], hp D e, kc, ks, Q) := by
  refine go_s 2 rfl ?_
  exact go_ret rfl rfl (am_qi q (by rfl) (by rfl))
theorem c_X4_prints_65 {D : Nat → Nat → Int32} {e : am_E} {kc ks : Nat} {Q : am_Q}   (q : Q (some (.int (D 65 4))) (hp D e)) : am_Go (mX4_prints, 0, am_ent mX4_prints [.ref 65], [], hp D e, kc, ks, Q) := by
  refine go_s 2 rfl ?_
  exact go_ret rfl rfl (am_qi q (by rfl) (by rfl))
theorem c_X4_printAt_59 {D : Nat → Nat → Int32} {e : am_E} {kc ks : Nat} {Q : am_Q} {i : Int32}  (q : Q (some (.int (if ¬ i < 0 ∧ i < D 59 4 ∧ i < 200 then D 60 i.toNatClampNeg else 0))) (hp D e)) : am_Go (mX4_printAt, 0, am_ent mX4_printAt [.ref 59, .int i], [], hp D e, kc, ks, Q) := by
  refine go_s 2 rfl ?_
  refine go_if (fun c1 => ?_) (fun c1 => ?_)
  · refine go_s 1 rfl ?_
    exact go_ret rfl rfl (am_qi q (by first | exact (if_pos ⟨by assumption, by assumption, by assumption⟩).symm | exact (if_neg (fun z => absurd (by assumption) z.1)).symm | exact (if_neg (fun z => absurd z.2.1 (by assumption))).symm | exact (if_neg (fun z => absurd z.2.2 (by assumption))).symm) (by rfl))
  · refine go_s 4 rfl ?_
    refine go_if (fun c9 => ?_) (fun c9 => ?_)
    · refine go_s 3 rfl ?_
      refine go_if (fun c16 => ?_) (fun c16 => ?_)
      · refine go_s 3 rfl ?_
        refine go_m rfl rfl (show vp_in _ 200 from vpn (y := 200) (by assumption) (by assumption) (by decide)) ?_
        refine go_s 1 rfl ?_
        exact go_ret rfl rfl (am_qi q (by first | exact (if_pos ⟨by assumption, by assumption, by assumption⟩).symm | exact (if_neg (fun z => absurd (by assumption) z.1)).symm | exact (if_neg (fun z => absurd z.2.1 (by assumption))).symm | exact (if_neg (fun z => absurd z.2.2 (by assumption))).symm) (by rfl))
      · refine go_s 1 rfl ?_
        exact go_ret rfl rfl (am_qi q (by first | exact (if_pos ⟨by assumption, by assumption, by assumption⟩).symm | exact (if_neg (fun z => absurd (by assumption) z.1)).symm | exact (if_neg (fun z => absurd z.2.1 (by assumption))).symm | exact (if_neg (fun z => absurd z.2.2 (by assumption))).symm) (by rfl))
    · refine go_s 1 rfl ?_
      exact go_ret rfl rfl (am_qi q (by first | exact (if_pos ⟨by assumption, by assumption, by assumption⟩).symm | exact (if_neg (fun z => absurd (by assumption) z.1)).symm | exact (if_neg (fun z => absurd z.2.1 (by assumption))).symm | exact (if_neg (fun z => absurd z.2.2 (by assumption))).symm) (by rfl))
theorem c_X4_printAt_65 {D : Nat → Nat → Int32} {e : am_E} {kc ks : Nat} {Q : am_Q} {i : Int32}  (q : Q (some (.int (if ¬ i < 0 ∧ i < D 65 4 ∧ i < 200 then D 66 i.toNatClampNeg else 0))) (hp D e)) : am_Go (mX4_printAt, 0, am_ent mX4_printAt [.ref 65, .int i], [], hp D e, kc, ks, Q) := by
  refine go_s 2 rfl ?_
  refine go_if (fun c1 => ?_) (fun c1 => ?_)
  · refine go_s 1 rfl ?_
    exact go_ret rfl rfl (am_qi q (by first | exact (if_pos ⟨by assumption, by assumption, by assumption⟩).symm | exact (if_neg (fun z => absurd (by assumption) z.1)).symm | exact (if_neg (fun z => absurd z.2.1 (by assumption))).symm | exact (if_neg (fun z => absurd z.2.2 (by assumption))).symm) (by rfl))
  · refine go_s 4 rfl ?_
    refine go_if (fun c9 => ?_) (fun c9 => ?_)
    · refine go_s 3 rfl ?_
      refine go_if (fun c16 => ?_) (fun c16 => ?_)
      · refine go_s 3 rfl ?_
        refine go_m rfl rfl (show vp_in _ 200 from vpn (y := 200) (by assumption) (by assumption) (by decide)) ?_
        refine go_s 1 rfl ?_
        exact go_ret rfl rfl (am_qi q (by first | exact (if_pos ⟨by assumption, by assumption, by assumption⟩).symm | exact (if_neg (fun z => absurd (by assumption) z.1)).symm | exact (if_neg (fun z => absurd z.2.1 (by assumption))).symm | exact (if_neg (fun z => absurd z.2.2 (by assumption))).symm) (by rfl))
      · refine go_s 1 rfl ?_
        exact go_ret rfl rfl (am_qi q (by first | exact (if_pos ⟨by assumption, by assumption, by assumption⟩).symm | exact (if_neg (fun z => absurd (by assumption) z.1)).symm | exact (if_neg (fun z => absurd z.2.1 (by assumption))).symm | exact (if_neg (fun z => absurd z.2.2 (by assumption))).symm) (by rfl))
    · refine go_s 1 rfl ?_
      exact go_ret rfl rfl (am_qi q (by first | exact (if_pos ⟨by assumption, by assumption, by assumption⟩).symm | exact (if_neg (fun z => absurd (by assumption) z.1)).symm | exact (if_neg (fun z => absurd z.2.1 (by assumption))).symm | exact (if_neg (fun z => absurd z.2.2 (by assumption))).symm) (by rfl))
theorem c_X4_keepPrint_59 {D : Nat → Nat → Int32} {e : am_E} {kc ks : Nat} {Q : am_Q} {v : Int32}  (q : Q none (hp (am_u (if ¬ D 59 4 < 0 ∧ D 59 4 < 200 then am_u D 60 (D 59 4).toNatClampNeg v else D) 59 4 (D 59 4 + 1)) e)) : am_Go (mX4_keepPrint, 0, am_ent mX4_keepPrint [.ref 59, .int v], [], hp D e, kc, ks, Q) := by
  refine go_s 3 rfl ?_
  refine go_if (fun c4 => ?_) (fun c4 => ?_)
  · refine go_s 6 rfl ?_
    exact go_retv rfl rfl (am_qv q (by first | (rw [if_pos ⟨by assumption, by assumption⟩]; rfl) | (rw [if_neg (fun z => absurd (by assumption) z.1)]; rfl) | (rw [if_neg (fun z => absurd z.2 (by assumption))]; rfl)))
  · refine go_s 4 rfl ?_
    refine go_if (fun c14 => ?_) (fun c14 => ?_)
    · refine go_s 5 rfl ?_
      refine go_m rfl rfl (show vp_in _ 200 from vpn (y := 200) (by assumption) (by assumption) (by decide)) ?_
      refine go_s 6 rfl ?_
      exact go_retv rfl rfl (am_qv q (by first | (rw [if_pos ⟨by assumption, by assumption⟩]; rfl) | (rw [if_neg (fun z => absurd (by assumption) z.1)]; rfl) | (rw [if_neg (fun z => absurd z.2 (by assumption))]; rfl)))
    · refine go_s 6 rfl ?_
      exact go_retv rfl rfl (am_qv q (by first | (rw [if_pos ⟨by assumption, by assumption⟩]; rfl) | (rw [if_neg (fun z => absurd (by assumption) z.1)]; rfl) | (rw [if_neg (fun z => absurd z.2 (by assumption))]; rfl)))
theorem c_X4_keepPrint_65 {D : Nat → Nat → Int32} {e : am_E} {kc ks : Nat} {Q : am_Q} {v : Int32}  (q : Q none (hp (am_u (if ¬ D 65 4 < 0 ∧ D 65 4 < 200 then am_u D 66 (D 65 4).toNatClampNeg v else D) 65 4 (D 65 4 + 1)) e)) : am_Go (mX4_keepPrint, 0, am_ent mX4_keepPrint [.ref 65, .int v], [], hp D e, kc, ks, Q) := by
  refine go_s 3 rfl ?_
  refine go_if (fun c4 => ?_) (fun c4 => ?_)
  · refine go_s 6 rfl ?_
    exact go_retv rfl rfl (am_qv q (by first | (rw [if_pos ⟨by assumption, by assumption⟩]; rfl) | (rw [if_neg (fun z => absurd (by assumption) z.1)]; rfl) | (rw [if_neg (fun z => absurd z.2 (by assumption))]; rfl)))
  · refine go_s 4 rfl ?_
    refine go_if (fun c14 => ?_) (fun c14 => ?_)
    · refine go_s 5 rfl ?_
      refine go_m rfl rfl (show vp_in _ 200 from vpn (y := 200) (by assumption) (by assumption) (by decide)) ?_
      refine go_s 6 rfl ?_
      exact go_retv rfl rfl (am_qv q (by first | (rw [if_pos ⟨by assumption, by assumption⟩]; rfl) | (rw [if_neg (fun z => absurd (by assumption) z.1)]; rfl) | (rw [if_neg (fun z => absurd z.2 (by assumption))]; rfl)))
    · refine go_s 6 rfl ?_
      exact go_retv rfl rfl (am_qv q (by first | (rw [if_pos ⟨by assumption, by assumption⟩]; rfl) | (rw [if_neg (fun z => absurd (by assumption) z.1)]; rfl) | (rw [if_neg (fun z => absurd z.2 (by assumption))]; rfl)))
theorem c_X4_memoryIndex {D : Nat → Nat → Int32} {e : am_E} {kc ks : Nat} {Q : am_Q} {n : Int32}  (q : Q (some (.int (if n &&& (3 : Int32) = 0 ∧ (0 ≤ (n - 65536) >>> (2 : Int32) ∧ (n - 65536) >>> (2 : Int32) < 64) then (n - 65536) >>> (2 : Int32) else -1))) (hp D e)) : am_Go (mX4_memoryIndex, 0, am_ent mX4_memoryIndex [.int n], [], hp D e, kc, ks, Q) := by
  refine go_s 10 rfl ?_
  refine go_if (fun c10 => ?_) (fun c10 => ?_)
  · refine go_s 1 rfl ?_
    refine go_st kX4_memoryIndex_14 okX4_isMemoryWord rfl rfl rfl (Nat.zero_le _) (Nat.zero_le _) ?_
    refine c_X4_isMemoryWord ?_
    refine go_s 1 rfl ?_
    refine go_if (fun c17 => ?_) (fun c17 => ?_)
    · refine go_s 1 rfl ?_
      exact go_ret rfl rfl (am_qi q (by first | exact (if_pos ⟨c10, zb_ne.mp c17⟩).symm | exact (if_neg (fun z => zb_0.mp c17 z.2)).symm | exact (if_neg (fun z => c10 z.1)).symm) (by rfl))
    · refine go_s 2 rfl ?_
      exact go_ret rfl rfl (am_qi q (by first | exact (if_pos ⟨c10, zb_ne.mp c17⟩).symm | exact (if_neg (fun z => zb_0.mp c17 z.2)).symm | exact (if_neg (fun z => c10 z.1)).symm) (by rfl))
  · refine go_s 1 rfl ?_
    exact go_ret rfl rfl (am_qi q (by first | exact (if_pos ⟨c10, zb_ne.mp c17⟩).symm | exact (if_neg (fun z => zb_0.mp c17 z.2)).symm | exact (if_neg (fun z => c10 z.1)).symm) (by rfl))
