theorem am_shr2 (x : Int32) : (x >>> (2 : Int32)).toInt = x.toInt / 4 := by
  have h : (x >>> (2 : Int32)) = Int32.ofBitVec (x.toBitVec.sshiftRight' ((2 : Int32).toBitVec.smod 32)) := rfl
  rw [h, ← Int32.toInt_toBitVec]
  have h2 : ((2 : Int32).toBitVec.smod 32).toNat = 2 := by decide +kernel
  simp only [Int32.toBitVec_ofBitVec, BitVec.sshiftRight', h2, BitVec.toInt_sshiftRight, Int32.toInt_toBitVec, Int.shiftRight_eq_div_pow]
  rfl
theorem am_ce1 : ∀ k, k < 256 → ((nI (65536 + k) - nI (65536 + k) / 4 * 4 = 0) ↔ k % 4 = 0) ∧ (nI (65536 + k) &&& (3 : Int32) = 0 ↔ k % 4 = 0) ∧ (nI (65536 + k) - 65536) >>> (2 : Int32) = nI (k / 4) ∧ (nI (65536 + k) - 65536) / 4 = nI (k / 4) := by decide +kernel
abbrev am_ce (n : Int32) : Prop := n - n / 4 * 4 = 0 ∧ ¬ n < 65536 ∧ ¬ 65788 < n
theorem am_ce2 {n : Int32} (h : am_ce n) : ∃ k, k < 64 ∧ am_mix n = nI k ∧ (n - 65536) / 4 = nI k := by
  obtain ⟨h1, h2, h3⟩ := h
  have h2 := Int32.le_iff_toInt_le.mp (Int32.not_lt.mp h2)
  have h3 := Int32.le_iff_toInt_le.mp (Int32.not_lt.mp h3)
  have e1 : (65536 : Int32).toInt = 65536 := by decide
  have e2 : (65788 : Int32).toInt = 65788 := by decide
  rw [e1] at h2
  rw [e2] at h3
  obtain ⟨j, hj, e⟩ := nI_of (x := n) (by rw [Int32.not_lt, Int32.le_iff_toInt_le]; simp; omega)
  subst e
  rw [nI_toInt hj] at h2 h3
  obtain ⟨k, rfl⟩ := Nat.exists_eq_add_of_le (show 65536 ≤ j by omega)
  obtain ⟨a1, a2, a3, a4⟩ := am_ce1 k (by omega)
  have a0 := a1.mp h1
  refine ⟨k / 4, by omega, ?_, a4⟩
  unfold am_mix
  rw [if_pos, a3]
  rw [a3]
  exact ⟨a2.mpr a0, nI_pos' (by omega), nI_lt (a := k / 4) (b := 64) (by omega) (by omega)⟩
theorem am_ce3 {n : Int32} (h : ¬ am_ce n) : am_mix n = -1 := by
  unfold am_mix
  rw [if_neg]
  rintro ⟨h1, h2, h3⟩
  have h2 := Int32.le_iff_toInt_le.mp h2
  have h3 := Int32.lt_iff_toInt_lt.mp h3
  rw [am_shr2] at h2 h3
  have e0 : (0 : Int32).toInt = 0 := by decide
  have e1 : (64 : Int32).toInt = 64 := by decide
  rw [e0] at h2
  rw [e1] at h3
  obtain ⟨j, hj, e⟩ := nI_of (x := n - 65536) (by rw [Int32.not_lt, Int32.le_iff_toInt_le, e0]; omega)
  rw [e, nI_toInt hj] at h3
  have e' : n = nI (65536 + j) := by
    have : n = n - 65536 + 65536 := by simp
    rw [this, e, Nat.add_comm, ← nI_add]
    rfl
  subst e'
  obtain ⟨a1, a2, a3, a4⟩ := am_ce1 j (by omega)
  have a0 := a2.mp h1
  apply h
  refine ⟨a1.mpr a0, ?_, ?_⟩
  · exact nI_nlt (a := 65536 + j) (b := 65536) (by omega) (by omega)
  · exact nI_nlt (a := 65788) (b := 65536 + j) (by omega) (by omega)
theorem am_ce4 {n : Int32} (h : ¬ zb (n - n / 4 * 4 = 0 ∧ ¬ n < 65536 ∧ ¬ 65788 < n) = 0) : vp_in ((n - 65536) / 4) 64 := by
  obtain ⟨k, h1, _, h2⟩ := am_ce2 (zb_ne.mp h)
  rw [h2]
  exact vp_in_nI h1 (by decide)
theorem am_a31 (x : Int32) : vp_in (x &&& (31 : Int32)) 32 := by
  rw [vp_in_iff]
  have h : (x &&& (31 : Int32)).toInt = ((x.toBitVec.toNat % 32 : Nat) : Int) := by
    rw [← Int32.toInt_toBitVec]
    have h1 : (x &&& (31 : Int32)).toBitVec.toNat = x.toBitVec.toNat % 32 := by
      have : (x &&& (31 : Int32)).toBitVec = x.toBitVec &&& (BitVec.ofNat 32 31) := rfl
      rw [this, BitVec.toNat_and]
      exact Nat.and_two_pow_sub_one_eq_mod _ 5
    rw [BitVec.toInt_eq_toNat_of_lt (by rw [h1]; omega), h1]
  rw [h]
  omega
def am_mor (w : Int32) : Int32 := (w.toUInt32 >>> (30 : UInt32)).toInt32 &&& (1 : Int32)
def am_mir (D : Nat → Nat → Int32) (k : Int32) : Int32 := D 103 (k &&& (31 : Int32)).toNatClampNeg
def am_mld (D : Nat → Nat → Int32) (pc w : Int32) : Int32 × (Nat → Nat → Int32) := if am_ce (am_mir D (w >>> (15 : Int32)) + w >>> (20 : Int32)) then (pc + 4, am_mgv D (w >>> (7 : Int32) &&& (31 : Int32)) (D 106 ((am_mir D (w >>> (15 : Int32)) + w >>> (20 : Int32) - 65536) / 4).toNatClampNeg)) else (-1, D)
def am_msr (D : Nat → Nat → Int32) (pc w : Int32) : Int32 × (Nat → Nat → Int32) := if am_ce (am_mir D (w >>> (15 : Int32)) + (w >>> (25 : Int32) <<< (5 : Int32) ||| w >>> (7 : Int32) &&& (31 : Int32))) then (pc + 4, am_u D 106 ((am_mir D (w >>> (15 : Int32)) + (w >>> (25 : Int32) <<< (5 : Int32) ||| w >>> (7 : Int32) &&& (31 : Int32)) - 65536) / 4).toNatClampNeg (am_mir D (w >>> (20 : Int32)))) else (-1, D)
def am_mbr (D : Nat → Nat → Int32) (pc w : Int32) : Int32 × (Nat → Nat → Int32) := if am_hd (w >>> (12 : Int32) &&& (7 : Int32)) (am_mir D (w >>> (15 : Int32))) (am_mir D (w >>> (20 : Int32))) = 0 then (pc + 4, D) else (pc + (w >>> (31 : Int32) <<< (12 : Int32) ||| w <<< (4 : Int32) &&& (2048 : Int32) ||| w >>> (20 : Int32) &&& (2016 : Int32) ||| w >>> (7 : Int32) &&& (30 : Int32)), D)
def am_mis (D : Nat → Nat → Int32) (pc w : Int32) : Int32 × (Nat → Nat → Int32) := if w &&& (127 : Int32) = 3 then am_mld D pc w else if w &&& (127 : Int32) = 19 then (pc + 4, am_mgv D (w >>> (7 : Int32) &&& (31 : Int32)) (am_md (w >>> (12 : Int32) &&& (7 : Int32)) (if w >>> (12 : Int32) &&& (7 : Int32) = 5 then am_mor w else 0) (am_mir D (w >>> (15 : Int32))) (w >>> (20 : Int32)))) else if w &&& (127 : Int32) = 35 then am_msr D pc w else if w &&& (127 : Int32) = 51 then (pc + 4, am_mgv D (w >>> (7 : Int32) &&& (31 : Int32)) (am_md (w >>> (12 : Int32) &&& (7 : Int32)) (am_mor w) (am_mir D (w >>> (15 : Int32))) (am_mir D (w >>> (20 : Int32))))) else if w &&& (127 : Int32) = 55 then (pc + 4, am_mgv D (w >>> (7 : Int32) &&& (31 : Int32)) (w &&& (-4096 : Int32))) else if w &&& (127 : Int32) = 99 then am_mbr D pc w else if w &&& (127 : Int32) = 103 then ((am_mir D (w >>> (15 : Int32)) + w >>> (20 : Int32)) &&& (-2 : Int32), am_mgv D (w >>> (7 : Int32) &&& (31 : Int32)) (pc + 4)) else if w &&& (127 : Int32) = 111 then (pc + (w >>> (31 : Int32) <<< (20 : Int32) ||| w &&& (1044480 : Int32) ||| w >>> (9 : Int32) &&& (2048 : Int32) ||| w >>> (20 : Int32) &&& (2046 : Int32)), am_mgv D (w >>> (7 : Int32) &&& (31 : Int32)) (pc + 4)) else (pc + 4, am_mpn D 1 100 (D 103 10))
theorem c_X12_does_ {D : Nat → Nat → Int32} {e : am_E} {kc ks : Nat} {Q : am_Q} {pc w : Int32} (h95 : ¬ D 95 1 < 0) (q : Q (some (.int ((am_mis D pc w).1))) (hp (am_mis D pc w).2 e)) : am_Go (mX12_does_, 0, am_ent mX12_does_ [.ref 69, .int pc, .int w], [], hp D e, kc, ks, Q) := by
  refine go_s 3 rfl ?_
  refine go_m rfl rfl (show vp_in _ 2 from vp_in_nI (n := 1) (by decide) (by decide)) ?_
  refine go_s 13 rfl ?_
  refine go_m rfl rfl (show vp_in _ 32 from am_a31 _) ?_
  refine go_s 7 rfl ?_
  refine go_m rfl rfl (show vp_in _ 32 from am_a31 _) ?_
  refine go_s 15 rfl ?_
  refine go_if (fun c56_0 => ?_) (fun c56_0 => ?_)
  · refine go_s 7 rfl ?_
    refine go_st kX12_does__217 okX12_isCell rfl rfl rfl (Nat.zero_le _) (Nat.zero_le _) ?_
    refine c_X12_isCell ?_
    refine go_s 1 rfl ?_
    refine go_if (fun c220 => ?_) (fun c220 => ?_)
    · refine go_s 1 rfl ?_
      exact go_ret rfl rfl (am_qp q (by exact (if_pos c56_0).trans (if_neg (zb_0.mp c220))))
    · refine go_s 5 rfl ?_
      refine go_m rfl rfl (show vp_in _ 2 from vp_in_nI (n := 1) (by decide) (by decide)) ?_
      refine go_s 4 rfl ?_
      refine go_m rfl rfl (by decide) ?_
      refine go_m rfl rfl (show vp_in _ 64 from am_ce4 c220) ?_
      refine go_v kX12_does__243 okX12_give rfl rfl rfl rfl (Nat.zero_le _) (Nat.zero_le _) ?_
      refine c_X12_give (am_a31 _) ?_
      refine go_s 1 rfl ?_
      exact go_ret rfl rfl (am_qp q (by exact (if_pos c56_0).trans (if_pos (zb_ne.mp c220))))
  · refine go_if (fun c56_1 => ?_) (fun c56_1 => ?_)
    · refine go_s 6 rfl ?_
      refine go_if (fun c164 => ?_) (fun c164 => ?_)
      · refine go_s 10 rfl ?_
        refine go_st kX12_does__183 okX12_made rfl rfl rfl (Nat.zero_le _) (Nat.zero_le _) ?_
        refine c_X12_made ?_
        refine go_v kX12_does__186 okX12_give rfl rfl rfl rfl (Nat.zero_le _) (Nat.zero_le _) ?_
        refine c_X12_give (am_a31 _) ?_
        refine go_s 1 rfl ?_
        exact go_ret rfl rfl (am_qp q (by exact ((if_neg c56_0).trans (if_pos c56_1)).trans (congrArg (fun z => (pc + 4, am_mgv D _ (am_md _ z _ _))) (if_pos c164))))
      · refine go_s 5 rfl ?_
        refine go_st kX12_does__183 okX12_made rfl rfl rfl (Nat.zero_le _) (Nat.zero_le _) ?_
        refine c_X12_made ?_
        refine go_v kX12_does__186 okX12_give rfl rfl rfl rfl (Nat.zero_le _) (Nat.zero_le _) ?_
        refine c_X12_give (am_a31 _) ?_
        refine go_s 1 rfl ?_
        exact go_ret rfl rfl (am_qp q (by exact ((if_neg c56_0).trans (if_pos c56_1)).trans (congrArg (fun z => (pc + 4, am_mgv D _ (am_md _ z _ _))) (if_neg c164))))
    · refine go_if (fun c56_2 => ?_) (fun c56_2 => ?_)
      · refine go_s 11 rfl ?_
        refine go_st kX12_does__265 okX12_isCell rfl rfl rfl (Nat.zero_le _) (Nat.zero_le _) ?_
        refine c_X12_isCell ?_
        refine go_s 1 rfl ?_
        refine go_if (fun c268 => ?_) (fun c268 => ?_)
        · refine go_s 1 rfl ?_
          exact go_ret rfl rfl (am_qp q (by exact (if_neg c56_0).trans ((if_neg c56_1).trans ((if_pos c56_2).trans (if_neg (zb_0.mp c268))))))
        · refine go_s 3 rfl ?_
          refine go_m rfl rfl (show vp_in _ 2 from vp_in_nI (n := 1) (by decide) (by decide)) ?_
          refine go_s 4 rfl ?_
          refine go_m rfl rfl (by decide) ?_
          refine go_s 1 rfl ?_
          refine go_m rfl rfl (show vp_in _ 64 from am_ce4 c268) ?_
          refine go_s 1 rfl ?_
          exact go_ret rfl rfl (am_qp q (by exact (if_neg c56_0).trans ((if_neg c56_1).trans ((if_pos c56_2).trans (if_pos (zb_ne.mp c268))))))
      · refine go_if (fun c56_3 => ?_) (fun c56_3 => ?_)
        · refine go_s 10 rfl ?_
          refine go_st kX12_does__147 okX12_made rfl rfl rfl (Nat.zero_le _) (Nat.zero_le _) ?_
          refine c_X12_made ?_
          refine go_v kX12_does__150 okX12_give rfl rfl rfl rfl (Nat.zero_le _) (Nat.zero_le _) ?_
          refine c_X12_give (am_a31 _) ?_
          refine go_s 1 rfl ?_
          exact go_ret rfl rfl (am_qp q (by exact (if_neg c56_0).trans ((if_neg c56_1).trans ((if_neg c56_2).trans (if_pos c56_3)))))
        · refine go_if (fun c56_4 => ?_) (fun c56_4 => ?_)
          · refine go_s 5 rfl ?_
            refine go_v kX12_does__200 okX12_give rfl rfl rfl rfl (Nat.zero_le _) (Nat.zero_le _) ?_
            refine c_X12_give (am_a31 _) ?_
            refine go_s 1 rfl ?_
            exact go_ret rfl rfl (am_qp q (by exact (if_neg c56_0).trans ((if_neg c56_1).trans ((if_neg c56_2).trans ((if_neg c56_3).trans (if_pos c56_4))))))
          · refine go_if (fun c56_5 => ?_) (fun c56_5 => ?_)
            · refine go_s 3 rfl ?_
              refine go_st kX12_does__299 okX12_holds rfl rfl rfl (Nat.zero_le _) (Nat.zero_le _) ?_
              refine c_X12_holds ?_
              refine go_s 1 rfl ?_
              refine go_if (fun c302 => ?_) (fun c302 => ?_)
              · refine go_s 1 rfl ?_
                exact go_ret rfl rfl (am_qp q (by exact (if_neg c56_0).trans ((if_neg c56_1).trans ((if_neg c56_2).trans ((if_neg c56_3).trans ((if_neg c56_4).trans ((if_pos c56_5).trans (if_pos c302))))))))
              · refine go_s 26 rfl ?_
                exact go_ret rfl rfl (am_qp q (by exact (if_neg c56_0).trans ((if_neg c56_1).trans ((if_neg c56_2).trans ((if_neg c56_3).trans ((if_neg c56_4).trans ((if_pos c56_5).trans (if_neg c302))))))))
            · refine go_if (fun c56_6 => ?_) (fun c56_6 => ?_)
              · refine go_s 11 rfl ?_
                refine go_v kX12_does__403 okX12_give rfl rfl rfl rfl (Nat.zero_le _) (Nat.zero_le _) ?_
                refine c_X12_give (am_a31 _) ?_
                refine go_s 1 rfl ?_
                exact go_ret rfl rfl (am_qp q (by exact (if_neg c56_0).trans ((if_neg c56_1).trans ((if_neg c56_2).trans ((if_neg c56_3).trans ((if_neg c56_4).trans ((if_neg c56_5).trans (if_pos c56_6))))))))
              · refine go_if (fun c56_7 => ?_) (fun c56_7 => ?_)
                · refine go_s 3 rfl ?_
                  refine go_v kX12_does__350 okX12_give rfl rfl rfl rfl (Nat.zero_le _) (Nat.zero_le _) ?_
                  refine c_X12_give (am_a31 _) ?_
                  refine go_s 23 rfl ?_
                  exact go_ret rfl rfl (am_qp q (by exact (if_neg c56_0).trans ((if_neg c56_1).trans ((if_neg c56_2).trans ((if_neg c56_3).trans ((if_neg c56_4).trans ((if_neg c56_5).trans ((if_neg c56_6).trans (if_pos c56_7)))))))))
                · refine go_s 4 rfl ?_
                  refine go_m rfl rfl (show vp_in _ 32 from vp_in_nI (n := 10) (by decide) (by decide)) ?_
                  refine go_v kX12_does__415 okX12_print rfl rfl rfl rfl (Nat.zero_le _) (Nat.zero_le _) ?_
                  refine c_X12_print_1 h95 ?_
                  refine go_s 1 rfl ?_
                  exact go_ret rfl rfl (am_qp q (by exact (if_neg c56_0).trans ((if_neg c56_1).trans ((if_neg c56_2).trans ((if_neg c56_3).trans ((if_neg c56_4).trans ((if_neg c56_5).trans ((if_neg c56_6).trans (if_neg c56_7)))))))))
