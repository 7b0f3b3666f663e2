theorem c_X1_begin {D : Nat → Nat → Int32} {e : am_E} {kc ks : Nat} {Q : am_Q} {n : Int32}  (q : Q none (hp (am_u (am_u D 11 3 0) 11 4 (if 24 < n then 24 else n)) e)) : am_Go (mX1_begin, 0, am_ent mX1_begin [.ref 11, .int n], [], hp D e, kc, ks, Q) := by
  refine go_s 6 rfl ?_
  refine go_min 620 rfl (by decide +kernel) rfl ?_
  refine go_s 1 rfl ?_
  exact go_retv rfl rfl (am_qv q (by rfl))
def am_app (D : Nat → Nat → Int32) (w : Int32) : Nat → Nat → Int32 := if D 11 3 < 600 then am_u (am_u D 12 (D 11 3).toNatClampNeg w) 11 3 (D 11 3 + 1) else D
def am_aro (D : Nat → Nat → Int32) (s l : Int32) : Nat → Nat → Int32 := if D 15 10 < 60 then am_u (am_u (am_u (am_u (am_u (am_u D 16 (D 15 10).toNatClampNeg s) 17 (D 15 10).toNatClampNeg l) 18 (D 15 10).toNatClampNeg (D 15 11)) 19 (D 15 10).toNatClampNeg 0) 20 (D 15 10).toNatClampNeg 0) 15 10 (D 15 10 + 1) else D
def am_aoc1 (D : Nat → Nat → Int32) (s b p : Int32) : Nat → Nat → Int32 := am_u (am_u (am_u (am_u (am_u (am_u D 21 (D 15 11).toNatClampNeg (D 15 10 - 1)) 22 (D 15 11).toNatClampNeg b) 23 (D 15 11).toNatClampNeg p) 24 (D 15 11).toNatClampNeg 0) 25 s.toNatClampNeg (D 15 11)) 15 11 (D 15 11 + 1)
def am_aoc (D : Nat → Nat → Int32) (s b p : Int32) : Nat → Nat → Int32 := if ¬ D 15 10 - 1 < 0 ∧ D 15 11 < 150 ∧ ¬ s < 0 ∧ s < 300 then am_u (am_aoc1 D s b p) 19 (D 15 10 - 1).toNatClampNeg (D 19 (D 15 10 - 1).toNatClampNeg + 1) else D
theorem c_X1_append {D : Nat → Nat → Int32} {e : am_E} {kc ks : Nat} {Q : am_Q} {w : Int32} (h0 : ¬ D 11 3 < 0) (q : Q none (hp (am_app D w) e)) : am_Go (mX1_append, 0, am_ent mX1_append [.ref 11, .int w], [], hp D e, kc, ks, Q) := by
  refine go_s 4 rfl ?_
  refine go_if (fun c7 => ?_) (fun c7 => ?_)
  · refine go_s 5 rfl ?_
    refine go_m rfl rfl (show vp_in _ 600 from vpn (y := 600) h0 c7 (by decide)) ?_
    refine go_s 6 rfl ?_
    exact go_retv rfl rfl (am_qv q (by first | exact am_hD (if_pos c7).symm | exact am_hD (if_neg c7).symm))
  · exact go_retv rfl rfl (am_qv q (by first | exact am_hD (if_pos c7).symm | exact am_hD (if_neg c7).symm))
theorem c_X7_addRoutine {D : Nat → Nat → Int32} {e : am_E} {kc ks : Nat} {Q : am_Q} {s l : Int32} (h0 : ¬ D 15 10 < 0) (q : Q none (hp (am_aro D s l) e)) : am_Go (mX7_addRoutine, 0, am_ent mX7_addRoutine [.ref 15, .int s, .int l], [], hp D e, kc, ks, Q) := by
  refine go_s 4 rfl ?_
  refine go_if (fun c6 => ?_) (fun c6 => ?_)
  · refine go_s 5 rfl ?_
    refine go_m rfl rfl (show vp_in _ 60 from vpn (y := 60) h0 c6 (by decide)) ?_
    refine go_s 5 rfl ?_
    refine go_m rfl rfl (show vp_in _ 60 from vpn (y := 60) h0 c6 (by decide)) ?_
    refine go_s 6 rfl ?_
    refine go_m rfl rfl (show vp_in _ 60 from vpn (y := 60) h0 c6 (by decide)) ?_
    refine go_s 5 rfl ?_
    refine go_m rfl rfl (show vp_in _ 60 from vpn (y := 60) h0 c6 (by decide)) ?_
    refine go_s 5 rfl ?_
    refine go_m rfl rfl (show vp_in _ 60 from vpn (y := 60) h0 c6 (by decide)) ?_
    refine go_s 6 rfl ?_
    exact go_retv rfl rfl (am_qv q (by first | exact am_hD (if_pos c6).symm | exact am_hD (if_neg c6).symm))
  · exact go_retv rfl rfl (am_qv q (by first | exact am_hD (if_pos c6).symm | exact am_hD (if_neg c6).symm))
theorem c_X7_addOccurrence {D : Nat → Nat → Int32} {e : am_E} {kc ks : Nat} {Q : am_Q} {s b p : Int32} (h1 : ¬ D 15 11 < 0) (h2 : vp_in (D 15 10 - 1) 60) (q : Q none (hp (am_aoc D s b p) e)) : am_Go (mX7_addOccurrence, 0, am_ent mX7_addOccurrence [.ref 15, .int s, .int b, .int p], [], hp D e, kc, ks, Q) := by
  refine go_s 7 rfl ?_
  refine go_if (fun c10 => ?_) (fun c10 => ?_)
  · exact go_retv rfl rfl (am_qv q (by first | exact am_hD (if_pos ⟨by assumption, by assumption, by assumption, by assumption⟩).symm | exact am_hD (if_neg (fun z => absurd (by assumption) z.1)).symm | exact am_hD (if_neg (fun z => absurd z.2.1 (by assumption))).symm | exact am_hD (if_neg (fun z => absurd (by assumption) z.2.2.1)).symm | exact am_hD (if_neg (fun z => absurd z.2.2.2 (by assumption))).symm))
  · refine go_s 4 rfl ?_
    refine go_if (fun c20 => ?_) (fun c20 => ?_)
    · refine go_s 2 rfl ?_
      refine go_if (fun c24 => ?_) (fun c24 => ?_)
      · exact go_retv rfl rfl (am_qv q (by first | exact am_hD (if_pos ⟨by assumption, by assumption, by assumption, by assumption⟩).symm | exact am_hD (if_neg (fun z => absurd (by assumption) z.1)).symm | exact am_hD (if_neg (fun z => absurd z.2.1 (by assumption))).symm | exact am_hD (if_neg (fun z => absurd (by assumption) z.2.2.1)).symm | exact am_hD (if_neg (fun z => absurd z.2.2.2 (by assumption))).symm))
      · refine go_s 3 rfl ?_
        refine go_if (fun c31 => ?_) (fun c31 => ?_)
        · refine go_s 5 rfl ?_
          refine go_m rfl rfl (show vp_in _ 150 from vpn (y := 150) h1 c20 (by decide)) ?_
          refine go_s 5 rfl ?_
          refine go_m rfl rfl (show vp_in _ 150 from vpn (y := 150) h1 c20 (by decide)) ?_
          refine go_s 5 rfl ?_
          refine go_m rfl rfl (show vp_in _ 150 from vpn (y := 150) h1 c20 (by decide)) ?_
          refine go_s 5 rfl ?_
          refine go_m rfl rfl (show vp_in _ 150 from vpn (y := 150) h1 c20 (by decide)) ?_
          refine go_s 5 rfl ?_
          refine go_m rfl rfl (show vp_in _ 300 from vpn (y := 300) c24 c31 (by decide)) ?_
          refine go_s 10 rfl ?_
          refine go_m rfl rfl h2 ?_
          refine go_s 2 rfl ?_
          refine go_m rfl rfl h2 ?_
          exact go_retv rfl rfl (am_qv q (by first | exact am_hD (if_pos ⟨by assumption, by assumption, by assumption, by assumption⟩).symm | exact am_hD (if_neg (fun z => absurd (by assumption) z.1)).symm | exact am_hD (if_neg (fun z => absurd z.2.1 (by assumption))).symm | exact am_hD (if_neg (fun z => absurd (by assumption) z.2.2.1)).symm | exact am_hD (if_neg (fun z => absurd z.2.2.2 (by assumption))).symm))
        · exact go_retv rfl rfl (am_qv q (by first | exact am_hD (if_pos ⟨by assumption, by assumption, by assumption, by assumption⟩).symm | exact am_hD (if_neg (fun z => absurd (by assumption) z.1)).symm | exact am_hD (if_neg (fun z => absurd z.2.1 (by assumption))).symm | exact am_hD (if_neg (fun z => absurd (by assumption) z.2.2.1)).symm | exact am_hD (if_neg (fun z => absurd z.2.2.2 (by assumption))).symm))
    · exact go_retv rfl rfl (am_qv q (by first | exact am_hD (if_pos ⟨by assumption, by assumption, by assumption, by assumption⟩).symm | exact am_hD (if_neg (fun z => absurd (by assumption) z.1)).symm | exact am_hD (if_neg (fun z => absurd z.2.1 (by assumption))).symm | exact am_hD (if_neg (fun z => absurd (by assumption) z.2.2.1)).symm | exact am_hD (if_neg (fun z => absurd z.2.2.2 (by assumption))).symm))
