def am_mby (D : Nat → Nat → Int32) (f w : Int32) : Int32 := if D 69 10 = 0 then (-1) else (if zb (¬ f < 0 ∧ ¬ D 69 11 - 1 < f) = 0 then (-1) else (if w = 0 then (D 77 f.toNatClampNeg) else (if w = 1 then (D 78 f.toNatClampNeg) else (-1))))
theorem c_X12_body {D : Nat → Nat → Int32} {e : am_E} {kc ks : Nat} {Q : am_Q} {f w : Int32} (h : ¬ D 69 10 = 0 → ¬ f < 0 ∧ ¬ D 69 11 - 1 < f → vp_in f 24) (q : Q (some (.int (am_mby D f w))) (hp D e)) : am_Go (mX12_body, 0, am_ent mX12_body [.ref 69, .int f, .int w], [], hp D e, kc, ks, Q) := by
  refine go_s 3 rfl ?_
  refine go_if (fun c4 => ?_) (fun c4 => ?_)
  · refine go_s 1 rfl ?_
    exact go_ret rfl rfl (am_qi q (by exact Eq.symm (if_pos c4)) (by rfl))
  · refine go_s 6 rfl ?_
    refine go_st kX12_body_15 okX12_in rfl rfl rfl (Nat.zero_le _) (Nat.zero_le _) ?_
    refine c_X12_in ?_
    refine go_s 1 rfl ?_
    refine go_if (fun c18 => ?_) (fun c18 => ?_)
    · refine go_s 1 rfl ?_
      exact go_ret rfl rfl (am_qi q (by exact Eq.symm ((if_neg c4).trans (if_pos c18))) (by rfl))
    · refine go_s 2 rfl ?_
      refine go_if (fun c24 => ?_) (fun c24 => ?_)
      · refine go_s 3 rfl ?_
        refine go_m rfl rfl (h c4 (zb_ne.mp c18)) ?_
        refine go_s 1 rfl ?_
        exact go_ret rfl rfl (am_qi q (by exact Eq.symm ((if_neg c4).trans ((if_neg c18).trans (if_pos c24)))) (by rfl))
      · refine go_s 3 rfl ?_
        refine go_if (fun c38 => ?_) (fun c38 => ?_)
        · refine go_s 3 rfl ?_
          refine go_m rfl rfl (h c4 (zb_ne.mp c18)) ?_
          refine go_s 1 rfl ?_
          exact go_ret rfl rfl (am_qi q (by exact Eq.symm ((if_neg c4).trans ((if_neg c18).trans ((if_neg c24).trans (if_pos c38))))) (by rfl))
        · refine go_s 1 rfl ?_
          exact go_ret rfl rfl (am_qi q (by exact Eq.symm ((if_neg c4).trans ((if_neg c18).trans ((if_neg c24).trans (if_neg c38))))) (by rfl))
def am_mro (D : Nat → Nat → Int32) (k w : Int32) : Int32 := if zb (¬ D 69 10 = 0 ∧ (¬ k < 0 ∧ ¬ D 69 13 - 1 < k)) = 0 then (-1) else (if w = 0 then (D 80 k.toNatClampNeg) else if w = 1 then (D 81 k.toNatClampNeg) else if w = 2 then (D 82 k.toNatClampNeg) else if w = 3 then (D 83 k.toNatClampNeg) else (-1))
theorem c_X12_routine {D : Nat → Nat → Int32} {e : am_E} {kc ks : Nat} {Q : am_Q} {k w : Int32} (h : ¬ D 69 10 = 0 ∧ (¬ k < 0 ∧ ¬ D 69 13 - 1 < k) → vp_in k 60) (q : Q (some (.int (am_mro D k w))) (hp D e)) : am_Go (mX12_routine, 0, am_ent mX12_routine [.ref 69, .int k, .int w], [], hp D e, kc, ks, Q) := by
  refine go_s 2 rfl ?_
  refine go_v kX12_routine_2 okX12_hasRoutine rfl rfl rfl rfl (Nat.zero_le _) (Nat.zero_le _) ?_
  refine c_X12_hasRoutine ?_
  refine go_s 1 rfl ?_
  refine go_if (fun c5 => ?_) (fun c5 => ?_)
  · refine go_s 1 rfl ?_
    exact go_ret rfl rfl (am_qi q (by exact Eq.symm (if_pos c5)) (by rfl))
  · refine go_s 2 rfl ?_
    refine go_if (fun c11_0 => ?_) (fun c11_0 => ?_)
    · refine go_s 3 rfl ?_
      refine go_m rfl rfl (h (zb_ne.mp c5)) ?_
      exact go_ret rfl rfl (am_qi q (by exact Eq.symm ((if_neg c5).trans (if_pos c11_0))) (by rfl))
    · refine go_if (fun c11_1 => ?_) (fun c11_1 => ?_)
      · refine go_s 3 rfl ?_
        refine go_m rfl rfl (h (zb_ne.mp c5)) ?_
        exact go_ret rfl rfl (am_qi q (by exact Eq.symm ((if_neg c5).trans ((if_neg c11_0).trans (if_pos c11_1)))) (by rfl))
      · refine go_if (fun c11_2 => ?_) (fun c11_2 => ?_)
        · refine go_s 3 rfl ?_
          refine go_m rfl rfl (h (zb_ne.mp c5)) ?_
          exact go_ret rfl rfl (am_qi q (by exact Eq.symm ((if_neg c5).trans ((if_neg c11_0).trans ((if_neg c11_1).trans (if_pos c11_2))))) (by rfl))
        · refine go_if (fun c11_3 => ?_) (fun c11_3 => ?_)
          · refine go_s 3 rfl ?_
            refine go_m rfl rfl (h (zb_ne.mp c5)) ?_
            exact go_ret rfl rfl (am_qi q (by exact Eq.symm ((if_neg c5).trans ((if_neg c11_0).trans ((if_neg c11_1).trans ((if_neg c11_2).trans (if_pos c11_3)))))) (by rfl))
          · refine go_s 1 rfl ?_
            exact go_ret rfl rfl (am_qi q (by exact Eq.symm ((if_neg c5).trans ((if_neg c11_0).trans ((if_neg c11_1).trans ((if_neg c11_2).trans (if_neg c11_3)))))) (by rfl))
def am_moc (D : Nat → Nat → Int32) (k i w : Int32) : Int32 := if zb (¬ D 69 10 = 0 ∧ (¬ k < 0 ∧ ¬ D 69 13 - 1 < k)) = 0 then (-1) else (if zb (¬ i < 0 ∧ ¬ D 81 k.toNatClampNeg - 1 < i) = 0 then (-1) else (if w = 0 then (D 85 (150 * k + i).toNatClampNeg / 40) else (if w = 1 then (D 85 (150 * k + i).toNatClampNeg - D 85 (150 * k + i).toNatClampNeg / 40 * 40) else (if w = 2 then (D 86 (150 * k + i).toNatClampNeg) else (-1)))))
theorem c_X12_occurrence {D : Nat → Nat → Int32} {e : am_E} {kc ks : Nat} {Q : am_Q} {k i w : Int32} (h : ¬ D 69 10 = 0 ∧ (¬ k < 0 ∧ ¬ D 69 13 - 1 < k) → vp_in k 60) (h2 : ¬ D 69 10 = 0 ∧ (¬ k < 0 ∧ ¬ D 69 13 - 1 < k) → ¬ i < 0 ∧ ¬ D 81 k.toNatClampNeg - 1 < i → vp_in (150 * k + i) 9000) (q : Q (some (.int (am_moc D k i w))) (hp D e)) : am_Go (mX12_occurrence, 0, am_ent mX12_occurrence [.ref 69, .int k, .int i, .int w], [], hp D e, kc, ks, Q) := by
  refine go_s 2 rfl ?_
  refine go_v kX12_occurrence_2 okX12_hasRoutine rfl rfl rfl rfl (Nat.zero_le _) (Nat.zero_le _) ?_
  refine c_X12_hasRoutine ?_
  refine go_s 1 rfl ?_
  refine go_if (fun c5 => ?_) (fun c5 => ?_)
  · refine go_s 1 rfl ?_
    exact go_ret rfl rfl (am_qi q (by exact Eq.symm (if_pos c5)) (by rfl))
  · refine go_s 5 rfl ?_
    refine go_m rfl rfl (h (zb_ne.mp c5)) ?_
    refine go_s 2 rfl ?_
    refine go_st kX12_occurrence_18 okX12_in rfl rfl rfl (Nat.zero_le _) (Nat.zero_le _) ?_
    refine c_X12_in ?_
    refine go_s 1 rfl ?_
    refine go_if (fun c21 => ?_) (fun c21 => ?_)
    · refine go_s 1 rfl ?_
      exact go_ret rfl rfl (am_qi q (by exact Eq.symm ((if_neg c5).trans (if_pos c21))) (by rfl))
    · refine go_s 7 rfl ?_
      refine go_m rfl rfl (h2 (zb_ne.mp c5) (zb_ne.mp c21)) ?_
      refine go_s 3 rfl ?_
      refine go_if (fun c41 => ?_) (fun c41 => ?_)
      · refine go_s 2 rfl ?_
        refine go_m rfl rfl (by decide) ?_
        refine go_s 1 rfl ?_
        exact go_ret rfl rfl (am_qi q (by exact Eq.symm ((if_neg c5).trans ((if_neg c21).trans (if_pos c41)))) (by rfl))
      · refine go_s 3 rfl ?_
        refine go_if (fun c54 => ?_) (fun c54 => ?_)
        · refine go_s 2 rfl ?_
          refine go_m rfl rfl (by decide) ?_
          refine go_s 1 rfl ?_
          exact go_ret rfl rfl (am_qi q (by exact Eq.symm ((if_neg c5).trans ((if_neg c21).trans ((if_neg c41).trans (if_pos c54))))) (by rfl))
        · refine go_s 3 rfl ?_
          refine go_if (fun c67 => ?_) (fun c67 => ?_)
          · refine go_s 7 rfl ?_
            refine go_m rfl rfl (h2 (zb_ne.mp c5) (zb_ne.mp c21)) ?_
            refine go_s 1 rfl ?_
            exact go_ret rfl rfl (am_qi q (by exact Eq.symm ((if_neg c5).trans ((if_neg c21).trans ((if_neg c41).trans ((if_neg c54).trans (if_pos c67)))))) (by rfl))
          · refine go_s 1 rfl ?_
            exact go_ret rfl rfl (am_qi q (by exact Eq.symm ((if_neg c5).trans ((if_neg c21).trans ((if_neg c41).trans ((if_neg c54).trans (if_neg c67)))))) (by rfl))
