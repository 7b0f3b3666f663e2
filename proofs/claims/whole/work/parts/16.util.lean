theorem vpl {x y : Int32} {N : Nat} (h : ¬ zb (0 ≤ x ∧ x < y) = 0) (hy : y.toInt ≤ N) : vp_in x N := by
  have h := Classical.not_not.mp (fun z => h (zb_0.mpr z))
  rw [vp_in_iff]
  have h1 := Int32.le_iff_toInt_le.mp h.1
  have h2 := Int32.lt_iff_toInt_lt.mp h.2
  simp at h1
  omega
theorem am_toInt1 {x : Int32} (h : x.toInt < 2147483647) : (x + 1).toInt = x.toInt + 1 := by
  have h0 := Int32.le_toInt x
  rw [Int32.toInt_add]
  simp only [Int32.toInt_one]
  exact Int.bmod_eq_of_le (by omega) (by omega)
theorem vpl1 {x y : Int32} {N : Nat} (h : ¬ zb (0 ≤ x ∧ x < y) = 0) (hy : y.toInt + 1 ≤ N) : vp_in (x + 1) N := by
  have h := Classical.not_not.mp (fun z => h (zb_0.mpr z))
  rw [vp_in_iff]
  have h1 := Int32.le_iff_toInt_le.mp h.1
  have h2 := Int32.lt_iff_toInt_lt.mp h.2
  have h3 := Int32.toInt_lt y
  simp at h1
  rw [am_toInt1 (by omega)]
  omega
theorem vpn {x y : Int32} {N : Nat} (h0 : ¬ x < 0) (h1 : x < y) (hy : y.toInt ≤ N) : vp_in x N := by
  rw [vp_in_iff]
  have h1 := Int32.lt_iff_toInt_lt.mp h1
  have h0 := Int32.le_iff_toInt_le.mp (Int32.not_lt.mp h0)
  simp at h0
  omega
theorem vpn1 {x y : Int32} {N : Nat} (h0 : ¬ x < 0) (h1 : x < y) (hy : y.toInt + 1 ≤ N) : vp_in (x + 1) N := by
  rw [vp_in_iff]
  have h1 := Int32.lt_iff_toInt_lt.mp h1
  have h0 := Int32.le_iff_toInt_le.mp (Int32.not_lt.mp h0)
  have h3 := Int32.toInt_lt y
  simp at h0
  rw [am_toInt1 (by omega)]
  omega
theorem zb_ne {p : Prop} [Decidable p] : ¬ zb p = 0 ↔ p := by
  rw [zb_0]; exact Classical.not_not
