def am_mgv (D : Nat → Nat → Int32) (r v : Int32) : Nat → Nat → Int32 := if r = 0 then D else am_u D 103 r.toNatClampNeg v
def am_mst (D : Nat → Nat → Int32) (r s v : Int32) : Nat → Nat → Int32 := if r = 0 then D else am_u (am_u D 102 r.toNatClampNeg v) 107 r.toNatClampNeg s
def am_mpn (D : Nat → Nat → Int32) (w o : Nat) (v : Int32) : Nat → Nat → Int32 := am_u (if D 95 w < 200 then am_u D o (D 95 w).toNatClampNeg v else D) 95 w ((if D 95 w < 200 then am_u D o (D 95 w).toNatClampNeg v else D) 95 w + 1)
theorem c_X12_give {D : Nat → Nat → Int32} {e : am_E} {kc ks : Nat} {Q : am_Q} {r v : Int32} (h : vp_in r 32) (q : Q none (hp (am_mgv D r v) e)) : am_Go (mX12_give, 0, am_ent mX12_give [.ref 69, .int r, .int v], [], hp D e, kc, ks, Q) := by
  refine go_s 2 rfl ?_
  refine go_if (fun c1 => ?_) (fun c1 => ?_)
  · exact go_retv rfl rfl (am_qv q (by first | exact am_hD (if_pos c1).symm | exact am_hD (if_neg c1).symm))
  · refine go_s 3 rfl ?_
    refine go_m rfl rfl (show vp_in _ 2 from vp_in_nI (n := 1) (by decide) (by decide)) ?_
    refine go_s 2 rfl ?_
    refine go_m rfl rfl (show vp_in _ 32 from h) ?_
    exact go_retv rfl rfl (am_qv q (by first | exact am_hD (if_pos c1).symm | exact am_hD (if_neg c1).symm))
theorem c_X12_set {D : Nat → Nat → Int32} {e : am_E} {kc ks : Nat} {Q : am_Q} {r s v : Int32} (h : vp_in r 32) (q : Q none (hp (am_mst D r s v) e)) : am_Go (mX12_set, 0, am_ent mX12_set [.ref 69, .int r, .int s, .int v], [], hp D e, kc, ks, Q) := by
  refine go_s 2 rfl ?_
  refine go_if (fun c1 => ?_) (fun c1 => ?_)
  · exact go_retv rfl rfl (am_qv q (by first | exact am_hD (if_pos c1).symm | exact am_hD (if_neg c1).symm))
  · refine go_s 3 rfl ?_
    refine go_m rfl rfl (show vp_in _ 2 from vp_in_nI (n := 0) (by decide) (by decide)) ?_
    refine go_s 2 rfl ?_
    refine go_m rfl rfl (show vp_in _ 32 from h) ?_
    refine go_s 4 rfl ?_
    refine go_m rfl rfl (show vp_in _ 32 from h) ?_
    exact go_retv rfl rfl (am_qv q (by first | exact am_hD (if_pos c1).symm | exact am_hD (if_neg c1).symm))
theorem c_X12_print_0 {D : Nat → Nat → Int32} {e : am_E} {kc ks : Nat} {Q : am_Q} {v : Int32} (h : ¬ D 95 0 < 0) (q : Q none (hp (am_mpn D 0 99 v) e)) : am_Go (mX12_print, 0, am_ent mX12_print [.ref 69, .int 0, .int v], [], hp D e, kc, ks, Q) := by
  refine go_s 3 rfl ?_
  refine go_m rfl rfl (show vp_in _ 2 from vp_in_nI (n := 0) (by decide) (by decide)) ?_
  refine go_s 2 rfl ?_
  refine go_if (fun c9 => ?_) (fun c9 => ?_)
  · refine go_s 3 rfl ?_
    refine go_m rfl rfl (show vp_in _ 2 from vp_in_nI (n := 0) (by decide) (by decide)) ?_
    refine go_s 3 rfl ?_
    refine go_m rfl rfl (show vp_in _ 2 from vp_in_nI (n := 0) (by decide) (by decide)) ?_
    refine go_s 1 rfl ?_
    refine go_m rfl rfl (show vp_in _ 200 from vpn (y := 200) h c9 (by decide)) ?_
    refine go_s 4 rfl ?_
    refine go_m rfl rfl (show vp_in _ 2 from vp_in_nI (n := 0) (by decide) (by decide)) ?_
    refine go_s 2 rfl ?_
    refine go_m rfl rfl (show vp_in _ 2 from vp_in_nI (n := 0) (by decide) (by decide)) ?_
    exact go_retv rfl rfl (am_qv q (by first | (have c9 : D 95 0 < 200 := c9; unfold am_mpn; rw [if_pos c9]; rfl) | (have c9 : ¬ D 95 0 < 200 := c9; unfold am_mpn; rw [if_neg c9]; rfl)))
  · refine go_s 4 rfl ?_
    refine go_m rfl rfl (show vp_in _ 2 from vp_in_nI (n := 0) (by decide) (by decide)) ?_
    refine go_s 2 rfl ?_
    refine go_m rfl rfl (show vp_in _ 2 from vp_in_nI (n := 0) (by decide) (by decide)) ?_
    exact go_retv rfl rfl (am_qv q (by first | (have c9 : D 95 0 < 200 := c9; unfold am_mpn; rw [if_pos c9]; rfl) | (have c9 : ¬ D 95 0 < 200 := c9; unfold am_mpn; rw [if_neg c9]; rfl)))
theorem c_X12_print_1 {D : Nat → Nat → Int32} {e : am_E} {kc ks : Nat} {Q : am_Q} {v : Int32} (h : ¬ D 95 1 < 0) (q : Q none (hp (am_mpn D 1 100 v) e)) : am_Go (mX12_print, 0, am_ent mX12_print [.ref 69, .int 1, .int v], [], hp D e, kc, ks, Q) := by
  refine go_s 3 rfl ?_
  refine go_m rfl rfl (show vp_in _ 2 from vp_in_nI (n := 1) (by decide) (by decide)) ?_
  refine go_s 2 rfl ?_
  refine go_if (fun c9 => ?_) (fun c9 => ?_)
  · refine go_s 3 rfl ?_
    refine go_m rfl rfl (show vp_in _ 2 from vp_in_nI (n := 1) (by decide) (by decide)) ?_
    refine go_s 3 rfl ?_
    refine go_m rfl rfl (show vp_in _ 2 from vp_in_nI (n := 1) (by decide) (by decide)) ?_
    refine go_s 1 rfl ?_
    refine go_m rfl rfl (show vp_in _ 200 from vpn (y := 200) h c9 (by decide)) ?_
    refine go_s 4 rfl ?_
    refine go_m rfl rfl (show vp_in _ 2 from vp_in_nI (n := 1) (by decide) (by decide)) ?_
    refine go_s 2 rfl ?_
    refine go_m rfl rfl (show vp_in _ 2 from vp_in_nI (n := 1) (by decide) (by decide)) ?_
    exact go_retv rfl rfl (am_qv q (by first | (have c9 : D 95 1 < 200 := c9; unfold am_mpn; rw [if_pos c9]; rfl) | (have c9 : ¬ D 95 1 < 200 := c9; unfold am_mpn; rw [if_neg c9]; rfl)))
  · refine go_s 4 rfl ?_
    refine go_m rfl rfl (show vp_in _ 2 from vp_in_nI (n := 1) (by decide) (by decide)) ?_
    refine go_s 2 rfl ?_
    refine go_m rfl rfl (show vp_in _ 2 from vp_in_nI (n := 1) (by decide) (by decide)) ?_
    exact go_retv rfl rfl (am_qv q (by first | (have c9 : D 95 1 < 200 := c9; unfold am_mpn; rw [if_pos c9]; rfl) | (have c9 : ¬ D 95 1 < 200 := c9; unfold am_mpn; rw [if_neg c9]; rfl)))
