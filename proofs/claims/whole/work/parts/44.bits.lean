theorem am_sm32 : ∀ n, n < 32 → ((nI n).toBitVec.smod 32).toNat = n := by decide +kernel
theorem am_bsr (x : Int32) {n : Nat} (h : n < 32) : (x >>> nI n).toBitVec = x.toBitVec.sshiftRight n := by
  have e : (x >>> nI n).toBitVec = x.toBitVec.sshiftRight' ((nI n).toBitVec.smod 32) := rfl
  rw [e, BitVec.sshiftRight', am_sm32 n h]
theorem am_bsl (x : Int32) {n : Nat} (h : n < 32) : (x <<< nI n).toBitVec = x.toBitVec <<< n := by
  have e : (x <<< nI n).toBitVec = x.toBitVec <<< ((nI n).toBitVec.smod 32) := rfl
  rw [e, BitVec.shiftLeft_eq', am_sm32 n h]
theorem am_bnI (n : Nat) : (nI n).toBitVec = BitVec.ofNat 32 n := rfl
theorem am_32s {i : Nat} (h : i < 32) : i = 0 ∨ i = 1 ∨ i = 2 ∨ i = 3 ∨ i = 4 ∨ i = 5 ∨ i = 6 ∨ i = 7 ∨ i = 8 ∨ i = 9 ∨ i = 10 ∨ i = 11 ∨ i = 12 ∨ i = 13 ∨ i = 14 ∨ i = 15 ∨ i = 16 ∨ i = 17 ∨ i = 18 ∨ i = 19 ∨ i = 20 ∨ i = 21 ∨ i = 22 ∨ i = 23 ∨ i = 24 ∨ i = 25 ∨ i = 26 ∨ i = 27 ∨ i = 28 ∨ i = 29 ∨ i = 30 ∨ i = 31 := by omega
theorem am_bofe0 (n : Int32) : n >>> (31 : Int32) <<< (12 : Int32) ||| (n >>> (7 : Int32) &&& (1 : Int32)) <<< (11 : Int32) ||| (n >>> (25 : Int32) &&& (63 : Int32)) <<< (5 : Int32) ||| (n >>> (8 : Int32) &&& (15 : Int32)) <<< (1 : Int32) = n >>> (31 : Int32) <<< (12 : Int32) ||| n <<< (4 : Int32) &&& (2048 : Int32) ||| n >>> (20 : Int32) &&& (2016 : Int32) ||| n >>> (7 : Int32) &&& (30 : Int32) := by
  apply Int32.toBitVec_inj.mp
  have e1 : (1 : Int32) = nI 1 := rfl
  have e4 : (4 : Int32) = nI 4 := rfl
  have e5 : (5 : Int32) = nI 5 := rfl
  have e7 : (7 : Int32) = nI 7 := rfl
  have e8 : (8 : Int32) = nI 8 := rfl
  have e11 : (11 : Int32) = nI 11 := rfl
  have e12 : (12 : Int32) = nI 12 := rfl
  have e15 : (15 : Int32) = nI 15 := rfl
  have e20 : (20 : Int32) = nI 20 := rfl
  have e25 : (25 : Int32) = nI 25 := rfl
  have e30 : (30 : Int32) = nI 30 := rfl
  have e31 : (31 : Int32) = nI 31 := rfl
  have e63 : (63 : Int32) = nI 63 := rfl
  have e2016 : (2016 : Int32) = nI 2016 := rfl
  have e2048 : (2048 : Int32) = nI 2048 := rfl
  simp only [Int32.toBitVec_or, Int32.toBitVec_and, Int32.toBitVec_xor, e1, e4, e5, e7, e8, e11, e12, e15, e20, e25, e30, e31, e63, e2016, e2048]
  simp (discharger := decide) only [am_bsr, am_bsl, am_bnI, Int32.toBitVec_or, Int32.toBitVec_and]
  apply BitVec.eq_of_getLsbD_eq
  intro i hi
  rcases am_32s hi with rfl | rfl | rfl | rfl | rfl | rfl | rfl | rfl | rfl | rfl | rfl | rfl | rfl | rfl | rfl | rfl | rfl | rfl | rfl | rfl | rfl | rfl | rfl | rfl | rfl | rfl | rfl | rfl | rfl | rfl | rfl | rfl <;> simp [BitVec.getLsbD_sshiftRight, BitVec.getElem_sshiftRight, BitVec.getLsbD_shiftLeft, BitVec.msb_eq_getLsbD_last, Nat.testBit]
theorem am_jofe0 (n : Int32) : n >>> (31 : Int32) <<< (20 : Int32) ||| n &&& (1044480 : Int32) ||| (n >>> (20 : Int32) &&& (1 : Int32)) <<< (11 : Int32) ||| (n >>> (21 : Int32) &&& (1023 : Int32)) <<< (1 : Int32) = n >>> (31 : Int32) <<< (20 : Int32) ||| n &&& (1044480 : Int32) ||| n >>> (9 : Int32) &&& (2048 : Int32) ||| n >>> (20 : Int32) &&& (2046 : Int32) := by
  apply Int32.toBitVec_inj.mp
  have e1 : (1 : Int32) = nI 1 := rfl
  have e9 : (9 : Int32) = nI 9 := rfl
  have e11 : (11 : Int32) = nI 11 := rfl
  have e20 : (20 : Int32) = nI 20 := rfl
  have e21 : (21 : Int32) = nI 21 := rfl
  have e31 : (31 : Int32) = nI 31 := rfl
  have e1023 : (1023 : Int32) = nI 1023 := rfl
  have e2046 : (2046 : Int32) = nI 2046 := rfl
  have e2048 : (2048 : Int32) = nI 2048 := rfl
  have e1044480 : (1044480 : Int32) = nI 1044480 := rfl
  simp only [Int32.toBitVec_or, Int32.toBitVec_and, Int32.toBitVec_xor, e1, e9, e11, e20, e21, e31, e1023, e2046, e2048, e1044480]
  simp (discharger := decide) only [am_bsr, am_bsl, am_bnI, Int32.toBitVec_or, Int32.toBitVec_and]
  apply BitVec.eq_of_getLsbD_eq
  intro i hi
  rcases am_32s hi with rfl | rfl | rfl | rfl | rfl | rfl | rfl | rfl | rfl | rfl | rfl | rfl | rfl | rfl | rfl | rfl | rfl | rfl | rfl | rfl | rfl | rfl | rfl | rfl | rfl | rfl | rfl | rfl | rfl | rfl | rfl | rfl <;> simp [BitVec.getLsbD_sshiftRight, BitVec.getElem_sshiftRight, BitVec.getLsbD_shiftLeft, BitVec.msb_eq_getLsbD_last, Nat.testBit]
theorem am_jale (b : Int32) : (b >>> (12 : Int32) &&& (255 : Int32)) <<< (12 : Int32) = b &&& (1044480 : Int32) := by
  apply Int32.toBitVec_inj.mp
  have e12 : (12 : Int32) = nI 12 := rfl
  have e255 : (255 : Int32) = nI 255 := rfl
  have e1044480 : (1044480 : Int32) = nI 1044480 := rfl
  simp only [Int32.toBitVec_or, Int32.toBitVec_and, Int32.toBitVec_xor, e12, e255, e1044480]
  simp (discharger := decide) only [am_bsr, am_bsl, am_bnI, Int32.toBitVec_or, Int32.toBitVec_and]
  apply BitVec.eq_of_getLsbD_eq
  intro i hi
  rcases am_32s hi with rfl | rfl | rfl | rfl | rfl | rfl | rfl | rfl | rfl | rfl | rfl | rfl | rfl | rfl | rfl | rfl | rfl | rfl | rfl | rfl | rfl | rfl | rfl | rfl | rfl | rfl | rfl | rfl | rfl | rfl | rfl | rfl <;> simp [BitVec.getLsbD_sshiftRight, BitVec.getElem_sshiftRight, BitVec.getLsbD_shiftLeft, BitVec.msb_eq_getLsbD_last, Nat.testBit]
theorem am_ste (c : Int32) : (c >>> (5 : Int32) &&& (127 : Int32)) <<< (25 : Int32) = c >>> (5 : Int32) <<< (25 : Int32) := by
  apply Int32.toBitVec_inj.mp
  have e5 : (5 : Int32) = nI 5 := rfl
  have e25 : (25 : Int32) = nI 25 := rfl
  have e127 : (127 : Int32) = nI 127 := rfl
  simp only [Int32.toBitVec_or, Int32.toBitVec_and, Int32.toBitVec_xor, e5, e25, e127]
  simp (discharger := decide) only [am_bsr, am_bsl, am_bnI, Int32.toBitVec_or, Int32.toBitVec_and]
  apply BitVec.eq_of_getLsbD_eq
  intro i hi
  rcases am_32s hi with rfl | rfl | rfl | rfl | rfl | rfl | rfl | rfl | rfl | rfl | rfl | rfl | rfl | rfl | rfl | rfl | rfl | rfl | rfl | rfl | rfl | rfl | rfl | rfl | rfl | rfl | rfl | rfl | rfl | rfl | rfl | rfl <;> simp [BitVec.getLsbD_sshiftRight, BitVec.getElem_sshiftRight, BitVec.getLsbD_shiftLeft, BitVec.msb_eq_getLsbD_last, Nat.testBit]
theorem am_bofv (n : Int32) : (n >>> (31 : Int32) <<< (12 : Int32) ||| n <<< (4 : Int32) &&& (2048 : Int32) ||| n >>> (20 : Int32) &&& (2016 : Int32) ||| n >>> (7 : Int32) &&& (30 : Int32)) &&& (1 : Int32) = 0 &&& (1 : Int32) := by
  apply Int32.toBitVec_inj.mp
  have e1 : (1 : Int32) = nI 1 := rfl
  have e4 : (4 : Int32) = nI 4 := rfl
  have e7 : (7 : Int32) = nI 7 := rfl
  have e12 : (12 : Int32) = nI 12 := rfl
  have e20 : (20 : Int32) = nI 20 := rfl
  have e30 : (30 : Int32) = nI 30 := rfl
  have e31 : (31 : Int32) = nI 31 := rfl
  have e2016 : (2016 : Int32) = nI 2016 := rfl
  have e2048 : (2048 : Int32) = nI 2048 := rfl
  simp only [Int32.toBitVec_or, Int32.toBitVec_and, Int32.toBitVec_xor, e1, e4, e7, e12, e20, e30, e31, e2016, e2048]
  simp (discharger := decide) only [am_bsr, am_bsl, am_bnI, Int32.toBitVec_or, Int32.toBitVec_and]
  apply BitVec.eq_of_getLsbD_eq
  intro i hi
  rcases am_32s hi with rfl | rfl | rfl | rfl | rfl | rfl | rfl | rfl | rfl | rfl | rfl | rfl | rfl | rfl | rfl | rfl | rfl | rfl | rfl | rfl | rfl | rfl | rfl | rfl | rfl | rfl | rfl | rfl | rfl | rfl | rfl | rfl <;> simp [BitVec.getLsbD_sshiftRight, BitVec.getElem_sshiftRight, BitVec.getLsbD_shiftLeft, BitVec.msb_eq_getLsbD_last, Nat.testBit]
theorem am_jofv (n : Int32) : (n >>> (31 : Int32) <<< (20 : Int32) ||| n &&& (1044480 : Int32) ||| n >>> (9 : Int32) &&& (2048 : Int32) ||| n >>> (20 : Int32) &&& (2046 : Int32)) &&& (1 : Int32) = 0 &&& (1 : Int32) := by
  apply Int32.toBitVec_inj.mp
  have e1 : (1 : Int32) = nI 1 := rfl
  have e9 : (9 : Int32) = nI 9 := rfl
  have e20 : (20 : Int32) = nI 20 := rfl
  have e31 : (31 : Int32) = nI 31 := rfl
  have e2046 : (2046 : Int32) = nI 2046 := rfl
  have e2048 : (2048 : Int32) = nI 2048 := rfl
  have e1044480 : (1044480 : Int32) = nI 1044480 := rfl
  simp only [Int32.toBitVec_or, Int32.toBitVec_and, Int32.toBitVec_xor, e1, e9, e20, e31, e2046, e2048, e1044480]
  simp (discharger := decide) only [am_bsr, am_bsl, am_bnI, Int32.toBitVec_or, Int32.toBitVec_and]
  apply BitVec.eq_of_getLsbD_eq
  intro i hi
  rcases am_32s hi with rfl | rfl | rfl | rfl | rfl | rfl | rfl | rfl | rfl | rfl | rfl | rfl | rfl | rfl | rfl | rfl | rfl | rfl | rfl | rfl | rfl | rfl | rfl | rfl | rfl | rfl | rfl | rfl | rfl | rfl | rfl | rfl <;> simp [BitVec.getLsbD_sshiftRight, BitVec.getElem_sshiftRight, BitVec.getLsbD_shiftLeft, BitVec.msb_eq_getLsbD_last, Nat.testBit]
theorem am_m2v (n : Int32) : (n &&& (-2 : Int32)) &&& (1 : Int32) = 0 &&& (1 : Int32) := by
  apply Int32.toBitVec_inj.mp
  have e1 : (1 : Int32) = nI 1 := rfl
  have f2 : (-2 : Int32) = nI 4294967294 := by decide +kernel
  simp only [Int32.toBitVec_or, Int32.toBitVec_and, Int32.toBitVec_xor, e1, f2]
  simp (discharger := decide) only [am_bsr, am_bsl, am_bnI, Int32.toBitVec_or, Int32.toBitVec_and]
  apply BitVec.eq_of_getLsbD_eq
  intro i hi
  rcases am_32s hi with rfl | rfl | rfl | rfl | rfl | rfl | rfl | rfl | rfl | rfl | rfl | rfl | rfl | rfl | rfl | rfl | rfl | rfl | rfl | rfl | rfl | rfl | rfl | rfl | rfl | rfl | rfl | rfl | rfl | rfl | rfl | rfl <;> simp [BitVec.getLsbD_sshiftRight, BitVec.getElem_sshiftRight, BitVec.getLsbD_shiftLeft, BitVec.msb_eq_getLsbD_last, Nat.testBit]
theorem am_nxa (n x : Nat) (hx : x < 2 ^ (n + 1)) : x ^^^ 2 ^ n = (x + 2 ^ n) % 2 ^ (n + 1) := by
  apply Nat.eq_of_testBit_eq
  intro i
  rw [Nat.testBit_xor, Nat.testBit_mod_two_pow, Nat.testBit_two_pow, Nat.add_comm x (2 ^ n)]
  by_cases h : i = n
  · subst h
    rw [Nat.testBit_two_pow_add_eq]
    simp
  · by_cases h2 : i < n
    · rw [Nat.testBit_two_pow_add_gt h2]
      have : ¬ n = i := fun z => h z.symm
      simp [this]
      omega
    · have h3 : x.testBit i = false := Nat.testBit_lt_two_pow (Nat.lt_of_lt_of_le hx (Nat.pow_le_pow_right (by decide) (by omega)))
      have : ¬ n = i := fun z => h z.symm
      have h4 : ¬ i < n + 1 := by omega
      simp [h3, this, h4]
theorem am_xad (x : Int32) : x ^^^ (-2147483648) = x + (-2147483648) := by
  apply Int32.toBitVec_inj.mp
  have e : (-2147483648 : Int32).toBitVec.toNat = 2 ^ 31 := by decide +kernel
  rw [Int32.toBitVec_xor, Int32.toBitVec_add]
  apply BitVec.eq_of_toNat_eq
  rw [BitVec.toNat_xor, BitVec.toNat_add, e]
  exact am_nxa 31 _ x.toBitVec.isLt
theorem am_morv (w : Int32) : (w &&& (1073741824 : Int32) = 0 ∧ am_mor w = 0) ∨ (¬ w &&& (1073741824 : Int32) = 0 ∧ am_mor w = 1) := by
  have e1 : (w &&& (1073741824 : Int32)).toBitVec = w.toBitVec &&& BitVec.ofNat 32 1073741824 := rfl
  have e2 : (am_mor w).toBitVec = (w.toBitVec >>> 30) &&& BitVec.ofNat 32 1 := rfl
  have e3 : (0 : Int32).toBitVec = BitVec.ofNat 32 0 := rfl
  have e4 : (1 : Int32).toBitVec = BitVec.ofNat 32 1 := rfl
  cases hb : w.toBitVec.getLsbD 30
  · left
    constructor
    · apply Int32.toBitVec_inj.mp
      rw [e1, e3]
      apply BitVec.eq_of_getLsbD_eq
      intro i hi
      rcases am_32s hi with rfl | rfl | rfl | rfl | rfl | rfl | rfl | rfl | rfl | rfl | rfl | rfl | rfl | rfl | rfl | rfl | rfl | rfl | rfl | rfl | rfl | rfl | rfl | rfl | rfl | rfl | rfl | rfl | rfl | rfl | rfl | rfl <;> simp_all [Nat.testBit]
    · apply Int32.toBitVec_inj.mp
      rw [e2, e3]
      apply BitVec.eq_of_getLsbD_eq
      intro i hi
      rcases am_32s hi with rfl | rfl | rfl | rfl | rfl | rfl | rfl | rfl | rfl | rfl | rfl | rfl | rfl | rfl | rfl | rfl | rfl | rfl | rfl | rfl | rfl | rfl | rfl | rfl | rfl | rfl | rfl | rfl | rfl | rfl | rfl | rfl <;> simp_all [Nat.testBit]
  · right
    constructor
    · intro h
      have h := congrArg (fun z => z.toBitVec.getLsbD 30) h
      simp only [e1, e3] at h
      simp [Nat.testBit] at h
      simp [h] at hb
    · apply Int32.toBitVec_inj.mp
      rw [e2, e4]
      apply BitVec.eq_of_getLsbD_eq
      intro i hi
      rcases am_32s hi with rfl | rfl | rfl | rfl | rfl | rfl | rfl | rfl | rfl | rfl | rfl | rfl | rfl | rfl | rfl | rfl | rfl | rfl | rfl | rfl | rfl | rfl | rfl | rfl | rfl | rfl | rfl | rfl | rfl | rfl | rfl | rfl <;> simp_all [Nat.testBit]
theorem am_calcm (s o x y : Int32) (o' : Int32) (ho : (o = 0 ∧ o' = 0) ∨ (o = 1 ∧ o' = 1)) : am_calc s o x y = am_md s o' x y := by
  unfold am_calc am_md
  rcases ho with ⟨rfl, rfl⟩ | ⟨rfl, rfl⟩ <;> simp [am_xad]
theorem am_brsm {s x y : Int32} (h : ¬ s = 2 ∧ ¬ s = 3 ∨ True) : am_brs s x y = am_hd s x y := by
  unfold am_brs am_hd
  simp only [am_xad]
  by_cases h2 : s = 2
  · subst h2; simp
  by_cases h3 : s = 3
  · subst h3; simp
  simp [h2, h3]
