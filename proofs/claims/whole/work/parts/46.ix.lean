theorem am_td4 (a : Int) : (0 ≤ a ∧ a.tdiv 4 = a / 4) ∨ (a < 0 ∧ a.tdiv 4 = -((-a) / 4)) := by
  by_cases h : 0 ≤ a
  · exact Or.inl ⟨h, Int.tdiv_eq_ediv_of_nonneg h⟩
  · refine Or.inr ⟨by omega, ?_⟩
    have e := Int.neg_tdiv (-a) 4
    rw [Int.neg_neg, Int.tdiv_eq_ediv_of_nonneg (a := -a) (by omega)] at e
    exact e
theorem am_div4 (n : Int32) : (n / 4).toInt = n.toInt.tdiv 4 := by
  rw [Int32.toInt_div]
  have h1 := Int32.le_toInt n
  have h2 := Int32.toInt_lt n
  have e : (4 : Int32).toInt = 4 := by decide
  rw [e]
  have h3 := am_td4 n.toInt
  apply Int.bmod_eq_of_le
  · omega
  · omega
theorem am_rem4 (n : Int32) : n - n / 4 * 4 = 0 ↔ n.toInt % 4 = 0 := by
  have h1 := Int32.le_toInt n
  have h2 := Int32.toInt_lt n
  have e : (4 : Int32).toInt = 4 := by decide
  have e0 : (0 : Int32).toInt = 0 := by decide
  have h3 := am_td4 n.toInt
  rw [← Int32.toInt_inj, Int32.toInt_sub, Int32.toInt_mul, am_div4, e, e0]
  rw [Int.bmod_eq_of_le (n := n.toInt.tdiv 4 * 4) (by omega) (by omega), Int.bmod_eq_of_le (by omega) (by omega)]
  omega
theorem am_and3 (n : Int32) : n &&& (3 : Int32) = 0 ↔ n.toInt % 4 = 0 := by
  have h1 : (n &&& (3 : Int32)).toBitVec.toNat = n.toBitVec.toNat % 4 := by
    have : (n &&& (3 : Int32)).toBitVec = n.toBitVec &&& (BitVec.ofNat 32 3) := rfl
    rw [this, BitVec.toNat_and]
    exact Nat.and_two_pow_sub_one_eq_mod _ 2
  have h2 : n.toInt % 4 = ((n.toBitVec.toNat % 4 : Nat) : Int) := by
    rw [← Int32.toInt_toBitVec, BitVec.toInt_eq_toNat_cond]
    split <;> omega
  rw [← Int32.toBitVec_inj, ← BitVec.toNat_inj, h1, h2]
  have : (0 : Int32).toBitVec.toNat = 0 := rfl
  rw [this]
  omega
theorem am_and1 {n : Int32} (h : n.toInt % 4 = 0) : n &&& (1 : Int32) = 0 := by
  have h1 : (n &&& (1 : Int32)).toBitVec.toNat = n.toBitVec.toNat % 2 := by
    have : (n &&& (1 : Int32)).toBitVec = n.toBitVec &&& (BitVec.ofNat 32 1) := rfl
    rw [this, BitVec.toNat_and]
    exact Nat.and_two_pow_sub_one_eq_mod _ 1
  rw [← Int32.toInt_toBitVec, BitVec.toInt_eq_toNat_cond] at h
  rw [← Int32.toBitVec_inj, ← BitVec.toNat_inj, h1]
  have : (0 : Int32).toBitVec.toNat = 0 := rfl
  rw [this]
  split at h <;> omega
theorem am_sub4 {n : Int32} {j : Nat} (hj : j < 2 ^ 31) (e : n = nI j) (h : 4096 ≤ j) : n - 4096 = nI (j - 4096) := by
  obtain ⟨k, rfl⟩ := Nat.exists_eq_add_of_le h
  subst e
  rw [Nat.add_sub_cancel_left, ← nI_add]
  show nI 4096 + nI k - nI 4096 = nI k
  rw [Int32.add_comm, Int32.add_sub_cancel]
theorem am_ix {C : Nat → Nat → Int32} {W : Nat} (hW : W ≤ 600) (hC : C 11 3 = nI W) (pc : Int32) : (pc - pc / 4 * 4 = 0 ∧ ¬ pc < 4096 ∧ (pc - 4096) / 4 < nI W ∧ pc &&& (1 : Int32) = 0 ∧ ∃ i, i < W ∧ (pc - 4096) / 4 = nI i ∧ am_ixa C pc = nI i) ∨ (¬ (pc - pc / 4 * 4 = 0 ∧ ¬ pc < 4096 ∧ (pc - 4096) / 4 < nI W) ∧ am_ixa C pc = -1) := by
  have e0 : (0 : Int32).toInt = 0 := by decide
  have e4 : (4096 : Int32).toInt = 4096 := by decide
  by_cases h : pc - pc / 4 * 4 = 0 ∧ ¬ pc < 4096 ∧ (pc - 4096) / 4 < nI W
  · left
    obtain ⟨h1, h2, h3⟩ := h
    refine ⟨h1, h2, h3, am_and1 ((am_rem4 pc).mp h1), ?_⟩
    have h2' := Int32.le_iff_toInt_le.mp (Int32.not_lt.mp h2)
    rw [e4] at h2'
    obtain ⟨j, hj, e⟩ := nI_of (x := pc) (by rw [Int32.not_lt, Int32.le_iff_toInt_le, e0]; omega)
    rw [e, nI_toInt hj] at h2'
    have es := am_sub4 hj e (by omega)
    have h3' := Int32.lt_iff_toInt_lt.mp h3
    have h5 := am_td4 ((j - 4096 : Nat) : Int)
    rw [am_div4, es, nI_toInt (by omega), nI_toInt (by omega)] at h3'
    have hd : (pc - 4096) / 4 = nI ((j - 4096) / 4) := by
      rw [← Int32.toInt_inj, am_div4, es, nI_toInt (by omega), nI_toInt (by omega)]
      omega
    have hs : (pc - 4096) >>> (2 : Int32) = nI ((j - 4096) / 4) := by
      rw [← Int32.toInt_inj, am_shr2, es, nI_toInt (by omega), nI_toInt (by omega)]
      omega
    refine ⟨(j - 4096) / 4, by omega, hd, ?_⟩
    unfold am_ixa
    rw [if_pos, hs]
    rw [hs, hC]
    exact ⟨(am_and3 pc).mpr ((am_rem4 pc).mp h1), nI_pos (by omega), nI_lt (by omega) (by omega)⟩
  · right
    refine ⟨h, ?_⟩
    unfold am_ixa
    rw [if_neg]
    rintro ⟨h1, h2, h3⟩
    apply h
    rw [hC] at h3
    have h2 := Int32.le_iff_toInt_le.mp (Int32.not_lt.mp h2)
    have h3 := Int32.lt_iff_toInt_lt.mp h3
    rw [am_shr2, e0] at h2
    rw [am_shr2, nI_toInt (by omega)] at h3
    obtain ⟨j, hj, e⟩ := nI_of (x := pc - 4096) (by rw [Int32.not_lt, Int32.le_iff_toInt_le, e0]; omega)
    rw [e, nI_toInt hj] at h2 h3
    have e' : pc = nI (4096 + j) := by
      have : pc = pc - 4096 + 4096 := by simp
      rw [this, e, Nat.add_comm, ← nI_add]
      rfl
    refine ⟨(am_rem4 pc).mpr ((am_and3 pc).mp h1), ?_, ?_⟩
    · rw [e']
      exact nI_nlt (a := 4096 + j) (b := 4096) (by omega) (by omega)
    · have h5 := am_td4 (j : Int)
      rw [Int32.lt_iff_toInt_lt, am_div4, e, nI_toInt (by omega), nI_toInt (by omega)]
      omega
theorem am_isw_fr {C : Nat → Nat → Int32} {w : Int32} {c j : Nat} (h1 : c ≠ 66) (h2 : c ≠ 67) (h3 : c ≠ 68) (h : c = 65 → j ≠ 4 ∧ j ≠ 8) : (am_isw C w).2 c j = C c j := by
  have hg : ∀ (D : Nat → Nat → Int32) (g : Int32), (am_gi D g).2 c j = D c j := fun D g => by
    unfold am_gi
    by_cases e : c = 65
    · subst e; exact am_u_nj (h rfl).2
    · exact am_u_ne e
  have hw : ∀ a b : Int32, am_wi C a b c j = C c j := fun a b => am_wi_ne h2
  have hk : ∀ v : Int32, am_kpi C v c j = C c j := fun v => by
    by_cases e : c = 65
    · subst e; exact am_kpi_8 (h rfl).1
    · exact am_kpi_ne e h1
  have hs : ∀ (k : Nat) (v : Int32), am_u C 68 k v c j = C c j := fun k v => am_u_ne h3
  unfold am_isw am_ild am_wgi am_isr am_ibr am_ijp
  repeat' split
  all_goals first | (simp only [hg, hw, hk, hs]; done) | rfl
theorem am_mis_fr {D : Nat → Nat → Int32} {pc w : Int32} {c j : Nat} (h1 : c ≠ 100) (h2 : c ≠ 103) (h3 : c ≠ 106) (h : c = 95 → j ≠ 1) : (am_mis D pc w).2 c j = D c j := by
  have hw : ∀ a b : Int32, am_mgv D a b c j = D c j := fun a b => am_mgv_ne h2
  have hk : ∀ v : Int32, am_mpn D 1 100 v c j = D c j := fun v => by
    by_cases e : c = 95
    · subst e; exact am_mpn_95 (by decide) (h rfl)
    · exact am_mpn_ne e h1
  have hs : ∀ (k : Nat) (v : Int32), am_u D 106 k v c j = D c j := fun k v => am_u_ne h3
  unfold am_mis am_mld am_msr am_mbr
  repeat' split
  all_goals first | (simp only [hw, hk, hs]; done) | rfl
