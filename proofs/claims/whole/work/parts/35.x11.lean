theorem c_X11_machineOf_59 {D : Nat → Nat → Int32} {e : am_E} {kc ks : Nat} {Q : am_Q}   (q : Q (some (.ref 59)) (hp D e)) : am_Go (mX11_machineOf, 0, am_ent mX11_machineOf [.ref 0, .int 0], [], hp D e, kc, ks, Q) := by
  refine go_s 2 rfl ?_
  refine go_if (fun c1_0 => ?_) (fun c => absurd rfl c)
  refine go_s 2 rfl ?_
  exact go_reta rfl rfl (by first | exact Or.inl rfl | exact Or.inr ⟨_, rfl⟩) q
theorem c_X11_machineOf_65 {D : Nat → Nat → Int32} {e : am_E} {kc ks : Nat} {Q : am_Q}   (q : Q (some (.ref 65)) (hp D e)) : am_Go (mX11_machineOf, 0, am_ent mX11_machineOf [.ref 0, .int 1], [], hp D e, kc, ks, Q) := by
  refine go_s 2 rfl ?_
  refine go_if (fun c => absurd c (by decide)) (fun c1_0 => ?_)
  refine go_if (fun c1_1 => ?_) (fun c => absurd rfl c)
  refine go_s 2 rfl ?_
  exact go_reta rfl rfl (by first | exact Or.inl rfl | exact Or.inr ⟨_, rfl⟩) q
theorem c_X11_machineOf_x {D : Nat → Nat → Int32} {e : am_E} {kc ks : Nat} {Q : am_Q} {w : Int32} (w0 : ¬ w = 0) (w1 : ¬ w = 1) (q : Q (some (.null)) (hp D e)) : am_Go (mX11_machineOf, 0, am_ent mX11_machineOf [.ref 0, .int w], [], hp D e, kc, ks, Q) := by
  refine go_s 2 rfl ?_
  refine go_if (fun c => absurd c w0) (fun c1_0 => ?_)
  refine go_if (fun c => absurd c w1) (fun c1_1 => ?_)
  refine go_s 1 rfl ?_
  exact go_reta rfl rfl (by first | exact Or.inl rfl | exact Or.inr ⟨_, rfl⟩) q
theorem c_X11_printed_59 {D : Nat → Nat → Int32} {e : am_E} {kc ks : Nat} {Q : am_Q} {i : Int32}  (q : Q (some (.int (if ¬ i < 0 ∧ i < D 59 4 ∧ i < 200 then D 60 i.toNatClampNeg else 0))) (hp D e)) : am_Go (mX11_printed, 0, am_ent mX11_printed [.ref 0, .int 0, .int i], [], hp D e, kc, ks, Q) := by
  refine go_s 2 rfl ?_
  refine go_v kX11_printed_2 okX11_machineOf rfl rfl rfl rfl (Nat.zero_le _) (Nat.zero_le _) ?_
  refine c_X11_machineOf_59 ?_
  refine go_s 5 rfl ?_
  refine go_u kX11_printed_16_7 okX4_printAt rfl rfl rfl rfl (Nat.zero_le _) (Nat.zero_le _) ?_
  refine c_X4_printAt_59 ?_
  exact go_ret rfl rfl (am_qi q (by rfl) (by rfl))
theorem c_X11_printed_65 {D : Nat → Nat → Int32} {e : am_E} {kc ks : Nat} {Q : am_Q} {i : Int32}  (q : Q (some (.int (if ¬ i < 0 ∧ i < D 65 4 ∧ i < 200 then D 66 i.toNatClampNeg else 0))) (hp D e)) : am_Go (mX11_printed, 0, am_ent mX11_printed [.ref 0, .int 1, .int i], [], hp D e, kc, ks, Q) := by
  refine go_s 2 rfl ?_
  refine go_v kX11_printed_2 okX11_machineOf rfl rfl rfl rfl (Nat.zero_le _) (Nat.zero_le _) ?_
  refine c_X11_machineOf_65 ?_
  refine go_s 5 rfl ?_
  refine go_u kX11_printed_16_2 okX4_printAt rfl rfl rfl rfl (Nat.zero_le _) (Nat.zero_le _) ?_
  refine c_X4_printAt_65 ?_
  exact go_ret rfl rfl (am_qi q (by rfl) (by rfl))
theorem c_X11_printed_x {D : Nat → Nat → Int32} {e : am_E} {kc ks : Nat} {Q : am_Q} {w : Int32} {i : Int32} (w0 : ¬ w = 0) (w1 : ¬ w = 1) (q : Q (some (.int (0))) (hp D e)) : am_Go (mX11_printed, 0, am_ent mX11_printed [.ref 0, .int w, .int i], [], hp D e, kc, ks, Q) := by
  refine go_s 2 rfl ?_
  refine go_v kX11_printed_2 okX11_machineOf rfl rfl rfl rfl (Nat.zero_le _) (Nat.zero_le _) ?_
  refine c_X11_machineOf_x w0 w1 ?_
  refine go_s 5 rfl ?_
  exact go_ret rfl rfl (am_qi q (by rfl) (by rfl))
theorem c_X11_register_59 {D : Nat → Nat → Int32} {e : am_E} {kc ks : Nat} {Q : am_Q} {k : Int32}  (q : Q (some (.int (if am_srt D k = 0 then am_val D k else 0))) (hp D e)) : am_Go (mX11_register, 0, am_ent mX11_register [.ref 0, .int 0, .int k], [], hp D e, kc, ks, Q) := by
  refine go_s 2 rfl ?_
  refine go_v kX11_register_2 okX11_machineOf rfl rfl rfl rfl (Nat.zero_le _) (Nat.zero_le _) ?_
  refine c_X11_machineOf_59 ?_
  refine go_s 5 rfl ?_
  refine go_u kX11_register_16_7 okX10_registerAt rfl rfl rfl rfl (Nat.zero_le _) (Nat.zero_le _) ?_
  refine c_X10_registerAt ?_
  exact go_ret rfl rfl (am_qi q (by rfl) (by rfl))
theorem c_X11_register_65 {D : Nat → Nat → Int32} {e : am_E} {kc ks : Nat} {Q : am_Q} {k : Int32}  (q : Q (some (.int (if 0 ≤ k ∧ k < 32 then D 67 k.toNatClampNeg else 0))) (hp D e)) : am_Go (mX11_register, 0, am_ent mX11_register [.ref 0, .int 1, .int k], [], hp D e, kc, ks, Q) := by
  refine go_s 2 rfl ?_
  refine go_v kX11_register_2 okX11_machineOf rfl rfl rfl rfl (Nat.zero_le _) (Nat.zero_le _) ?_
  refine c_X11_machineOf_65 ?_
  refine go_s 5 rfl ?_
  refine go_u kX11_register_16_2 okX2_registerAt rfl rfl rfl rfl (Nat.zero_le _) (Nat.zero_le _) ?_
  refine c_X2_registerAt ?_
  exact go_ret rfl rfl (am_qi q (by rfl) (by rfl))
theorem c_X11_register_x {D : Nat → Nat → Int32} {e : am_E} {kc ks : Nat} {Q : am_Q} {w : Int32} {k : Int32} (w0 : ¬ w = 0) (w1 : ¬ w = 1) (q : Q (some (.int (0))) (hp D e)) : am_Go (mX11_register, 0, am_ent mX11_register [.ref 0, .int w, .int k], [], hp D e, kc, ks, Q) := by
  refine go_s 2 rfl ?_
  refine go_v kX11_register_2 okX11_machineOf rfl rfl rfl rfl (Nat.zero_le _) (Nat.zero_le _) ?_
  refine c_X11_machineOf_x w0 w1 ?_
  refine go_s 5 rfl ?_
  exact go_ret rfl rfl (am_qi q (by rfl) (by rfl))
theorem c_X11_memory_59 {D : Nat → Nat → Int32} {e : am_E} {kc ks : Nat} {Q : am_Q} {k : Int32}  (q : Q (some (.int (if (0 ≤ k ∧ k < 64) ∧ D 63 k.toNatClampNeg = 0 then D 64 k.toNatClampNeg else 0))) (hp D e)) : am_Go (mX11_memory, 0, am_ent mX11_memory [.ref 0, .int 0, .int k], [], hp D e, kc, ks, Q) := by
  refine go_s 2 rfl ?_
  refine go_v kX11_memory_2 okX11_machineOf rfl rfl rfl rfl (Nat.zero_le _) (Nat.zero_le _) ?_
  refine c_X11_machineOf_59 ?_
  refine go_s 5 rfl ?_
  refine go_u kX11_memory_16_7 okX10_memoryAt rfl rfl rfl rfl (Nat.zero_le _) (Nat.zero_le _) ?_
  refine c_X10_memoryAt ?_
  exact go_ret rfl rfl (am_qi q (by rfl) (by rfl))
theorem c_X11_memory_65 {D : Nat → Nat → Int32} {e : am_E} {kc ks : Nat} {Q : am_Q} {k : Int32}  (q : Q (some (.int (if 0 ≤ k ∧ k < 64 then D 68 k.toNatClampNeg else 0))) (hp D e)) : am_Go (mX11_memory, 0, am_ent mX11_memory [.ref 0, .int 1, .int k], [], hp D e, kc, ks, Q) := by
  refine go_s 2 rfl ?_
  refine go_v kX11_memory_2 okX11_machineOf rfl rfl rfl rfl (Nat.zero_le _) (Nat.zero_le _) ?_
  refine c_X11_machineOf_65 ?_
  refine go_s 5 rfl ?_
  refine go_u kX11_memory_16_2 okX2_memoryAt rfl rfl rfl rfl (Nat.zero_le _) (Nat.zero_le _) ?_
  refine c_X2_memoryAt ?_
  exact go_ret rfl rfl (am_qi q (by rfl) (by rfl))
theorem c_X11_memory_x {D : Nat → Nat → Int32} {e : am_E} {kc ks : Nat} {Q : am_Q} {w : Int32} {k : Int32} (w0 : ¬ w = 0) (w1 : ¬ w = 1) (q : Q (some (.int (0))) (hp D e)) : am_Go (mX11_memory, 0, am_ent mX11_memory [.ref 0, .int w, .int k], [], hp D e, kc, ks, Q) := by
  refine go_s 2 rfl ?_
  refine go_v kX11_memory_2 okX11_machineOf rfl rfl rfl rfl (Nat.zero_le _) (Nat.zero_le _) ?_
  refine c_X11_machineOf_x w0 w1 ?_
  refine go_s 5 rfl ?_
  exact go_ret rfl rfl (am_qi q (by rfl) (by rfl))
theorem c_X11_ran_59 {D : Nat → Nat → Int32} {e : am_E} {kc ks : Nat} {Q : am_Q} {w : Int32} (h1 : D 59 1 = 0 ∨ D 59 1 = 1) (q : Q (some (.int (if D 59 1 = 0 then -1 else if w = 0 then D 59 2 else if w = 1 then D 59 3 else if w = 2 then D 59 4 else if w = 3 then (if D 59 2 = 0 then -1 else D 59 10) else if w = 4 then (if D 59 2 = 0 then -1 else D 59 11) else -1))) (hp D e)) : am_Go (mX11_ran, 0, am_ent mX11_ran [.ref 0, .int 0, .int w], [], hp D e, kc, ks, Q) := by
  refine go_s 2 rfl ?_
  refine go_v kX11_ran_2 okX11_machineOf rfl rfl rfl rfl (Nat.zero_le _) (Nat.zero_le _) ?_
  refine c_X11_machineOf_59 ?_
  refine go_s 4 rfl ?_
  refine go_u kX11_ran_11_7 okX4_hasRun rfl rfl rfl rfl (Nat.zero_le _) (Nat.zero_le _) ?_
  refine c_X4_hasRun_59 h1 ?_
  refine go_s 1 rfl ?_
  refine go_if (fun c14 => ?_) (fun c14 => ?_)
  · refine go_s 1 rfl ?_
    exact go_ret rfl rfl (am_qi q (by exact (if_pos c14).symm) (by rfl))
  · refine go_s 2 rfl ?_
    refine go_if (fun c20_0 => ?_) (fun c20_0 => ?_)
    · refine go_s 1 rfl ?_
      refine go_u kX11_ran_57_7 okX4_outcome rfl rfl rfl rfl (Nat.zero_le _) (Nat.zero_le _) ?_
      refine c_X4_outcome_59 ?_
      exact go_ret rfl rfl (am_qi q (by exact ((if_neg c14).trans (if_pos c20_0)).symm) (by rfl))
    · refine go_if (fun c20_1 => ?_) (fun c20_1 => ?_)
      · refine go_s 1 rfl ?_
        refine go_u kX11_ran_62_7 okX4_steps rfl rfl rfl rfl (Nat.zero_le _) (Nat.zero_le _) ?_
        refine c_X4_steps_59 ?_
        exact go_ret rfl rfl (am_qi q (by exact ((if_neg c14).trans ((if_neg c20_0).trans (if_pos c20_1))).symm) (by rfl))
      · refine go_if (fun c20_2 => ?_) (fun c20_2 => ?_)
        · refine go_s 1 rfl ?_
          refine go_u kX11_ran_67_7 okX4_prints rfl rfl rfl rfl (Nat.zero_le _) (Nat.zero_le _) ?_
          refine c_X4_prints_59 ?_
          exact go_ret rfl rfl (am_qi q (by exact ((if_neg c14).trans ((if_neg c20_0).trans ((if_neg c20_1).trans (if_pos c20_2)))).symm) (by rfl))
        · refine go_if (fun c20_3 => ?_) (fun c20_3 => ?_)
          · refine go_s 1 rfl ?_
            refine go_u kX11_ran_72_7 okX10_where rfl rfl rfl rfl (Nat.zero_le _) (Nat.zero_le _) ?_
            refine c_X10_where ?_
            exact go_ret rfl rfl (am_qi q (by exact ((if_neg c14).trans ((if_neg c20_0).trans ((if_neg c20_1).trans ((if_neg c20_2).trans (if_pos c20_3))))).symm) (by rfl))
          · refine go_if (fun c20_4 => ?_) (fun c20_4 => ?_)
            · refine go_s 1 rfl ?_
              refine go_u kX11_ran_77_7 okX10_whichPlace rfl rfl rfl rfl (Nat.zero_le _) (Nat.zero_le _) ?_
              refine c_X10_whichPlace ?_
              exact go_ret rfl rfl (am_qi q (by exact ((if_neg c14).trans ((if_neg c20_0).trans ((if_neg c20_1).trans ((if_neg c20_2).trans ((if_neg c20_3).trans (if_pos c20_4)))))).symm) (by rfl))
            · refine go_s 1 rfl ?_
              exact go_ret rfl rfl (am_qi q (by exact ((if_neg c14).trans ((if_neg c20_0).trans ((if_neg c20_1).trans ((if_neg c20_2).trans ((if_neg c20_3).trans (if_neg c20_4)))))).symm) (by rfl))
theorem c_X11_ran_65 {D : Nat → Nat → Int32} {e : am_E} {kc ks : Nat} {Q : am_Q} {w : Int32} (h1 : D 65 1 = 0 ∨ D 65 1 = 1) (q : Q (some (.int (if D 65 1 = 0 then -1 else if w = 0 then D 65 2 else if w = 1 then D 65 3 else if w = 2 then D 65 4 else if w = 3 then (D 65 8) else if w = 4 then (-1) else -1))) (hp D e)) : am_Go (mX11_ran, 0, am_ent mX11_ran [.ref 0, .int 1, .int w], [], hp D e, kc, ks, Q) := by
  refine go_s 2 rfl ?_
  refine go_v kX11_ran_2 okX11_machineOf rfl rfl rfl rfl (Nat.zero_le _) (Nat.zero_le _) ?_
  refine c_X11_machineOf_65 ?_
  refine go_s 4 rfl ?_
  refine go_u kX11_ran_11_2 okX4_hasRun rfl rfl rfl rfl (Nat.zero_le _) (Nat.zero_le _) ?_
  refine c_X4_hasRun_65 h1 ?_
  refine go_s 1 rfl ?_
  refine go_if (fun c14 => ?_) (fun c14 => ?_)
  · refine go_s 1 rfl ?_
    exact go_ret rfl rfl (am_qi q (by exact (if_pos c14).symm) (by rfl))
  · refine go_s 2 rfl ?_
    refine go_if (fun c20_0 => ?_) (fun c20_0 => ?_)
    · refine go_s 1 rfl ?_
      refine go_u kX11_ran_57_2 okX4_outcome rfl rfl rfl rfl (Nat.zero_le _) (Nat.zero_le _) ?_
      refine c_X4_outcome_65 ?_
      exact go_ret rfl rfl (am_qi q (by exact ((if_neg c14).trans (if_pos c20_0)).symm) (by rfl))
    · refine go_if (fun c20_1 => ?_) (fun c20_1 => ?_)
      · refine go_s 1 rfl ?_
        refine go_u kX11_ran_62_2 okX4_steps rfl rfl rfl rfl (Nat.zero_le _) (Nat.zero_le _) ?_
        refine c_X4_steps_65 ?_
        exact go_ret rfl rfl (am_qi q (by exact ((if_neg c14).trans ((if_neg c20_0).trans (if_pos c20_1))).symm) (by rfl))
      · refine go_if (fun c20_2 => ?_) (fun c20_2 => ?_)
        · refine go_s 1 rfl ?_
          refine go_u kX11_ran_67_2 okX4_prints rfl rfl rfl rfl (Nat.zero_le _) (Nat.zero_le _) ?_
          refine c_X4_prints_65 ?_
          exact go_ret rfl rfl (am_qi q (by exact ((if_neg c14).trans ((if_neg c20_0).trans ((if_neg c20_1).trans (if_pos c20_2)))).symm) (by rfl))
        · refine go_if (fun c20_3 => ?_) (fun c20_3 => ?_)
          · refine go_s 1 rfl ?_
            refine go_u kX11_ran_72_2 okX2_where rfl rfl rfl rfl (Nat.zero_le _) (Nat.zero_le _) ?_
            refine c_X2_where ?_
            exact go_ret rfl rfl (am_qi q (by exact ((if_neg c14).trans ((if_neg c20_0).trans ((if_neg c20_1).trans ((if_neg c20_2).trans (if_pos c20_3))))).symm) (by rfl))
          · refine go_if (fun c20_4 => ?_) (fun c20_4 => ?_)
            · refine go_s 1 rfl ?_
              refine go_u kX11_ran_77_2 okX2_whichPlace rfl rfl rfl rfl (Nat.zero_le _) (Nat.zero_le _) ?_
              refine c_X2_whichPlace ?_
              exact go_ret rfl rfl (am_qi q (by exact ((if_neg c14).trans ((if_neg c20_0).trans ((if_neg c20_1).trans ((if_neg c20_2).trans ((if_neg c20_3).trans (if_pos c20_4)))))).symm) (by rfl))
            · refine go_s 1 rfl ?_
              exact go_ret rfl rfl (am_qi q (by exact ((if_neg c14).trans ((if_neg c20_0).trans ((if_neg c20_1).trans ((if_neg c20_2).trans ((if_neg c20_3).trans (if_neg c20_4)))))).symm) (by rfl))
theorem c_X11_ran_x {D : Nat → Nat → Int32} {e : am_E} {kc ks : Nat} {Q : am_Q} {w v : Int32} (w0 : ¬ w = 0) (w1 : ¬ w = 1) (q : Q (some (.int (-1))) (hp D e)) : am_Go (mX11_ran, 0, am_ent mX11_ran [.ref 0, .int w, .int v], [], hp D e, kc, ks, Q) := by
  refine go_s 2 rfl ?_
  refine go_v kX11_ran_2 okX11_machineOf rfl rfl rfl rfl (Nat.zero_le _) (Nat.zero_le _) ?_
  refine c_X11_machineOf_x w0 w1 ?_
  refine go_s 4 rfl ?_
  exact go_ret rfl rfl (am_qi q (by rfl) (by rfl))
theorem c_X11_word {D : Nat → Nat → Int32} {e : am_E} {kc ks : Nat} {Q : am_Q} {i : Int32} (hW : (D 11 3).toInt ≤ 600) (q : Q (some (.int (am_wda D i))) (hp D e)) : am_Go (mX11_word, 0, am_ent mX11_word [.ref 0, .int i], [], hp D e, kc, ks, Q) := by
  refine go_s 3 rfl ?_
  refine go_v kX11_word_5 okX1_wordAt rfl rfl rfl rfl (Nat.zero_le _) (Nat.zero_le _) ?_
  refine c_X1_wordAt hW ?_
  exact go_ret rfl rfl (am_qi q (by rfl) (by rfl))
theorem c_X11_body {D : Nat → Nat → Int32} {e : am_E} {kc ks : Nat} {Q : am_Q} {f w : Int32} (hI : (D 11 4).toInt ≤ 24) (q : Q (some (.int (if w = 0 then am_bdy D f else if w = 1 then am_adr D (am_bdy D f) else -1))) (hp D e)) : am_Go (mX11_body, 0, am_ent mX11_body [.ref 0, .int f, .int w], [], hp D e, kc, ks, Q) := by
  refine go_s 3 rfl ?_
  refine go_v kX11_body_5 okX1_bodyOf rfl rfl rfl rfl (Nat.zero_le _) (Nat.zero_le _) ?_
  refine c_X1_bodyOf hI ?_
  refine go_s 3 rfl ?_
  refine go_if (fun c10_0 => ?_) (fun c10_0 => ?_)
  · refine go_s 1 rfl ?_
    exact go_ret rfl rfl (am_qi q (by exact (if_pos c10_0).symm) (by rfl))
  · refine go_if (fun c10_1 => ?_) (fun c10_1 => ?_)
    · refine go_s 3 rfl ?_
      refine go_v kX11_body_43 okX1_addressOf rfl rfl rfl rfl (Nat.zero_le _) (Nat.zero_le _) ?_
      refine c_X1_addressOf hI ?_
      exact go_ret rfl rfl (am_qi q (by exact ((if_neg c10_0).trans (if_pos c10_1)).symm) (by rfl))
    · refine go_s 1 rfl ?_
      exact go_ret rfl rfl (am_qi q (by exact ((if_neg c10_0).trans (if_neg c10_1)).symm) (by rfl))
