def am_fl2 (S : Nat → Nat → Int32) (o a n : Nat) (v : Int32) : Nat → Nat → Int32 := fun c y => if c = o ∧ a ≤ y ∧ y < a + n then v else S c y
theorem am_fl2_0 (S : Nat → Nat → Int32) (o a : Nat) (v : Int32) : am_fl2 S o a 0 v = S := by
  funext c y
  unfold am_fl2
  rw [if_neg (by omega)]
theorem am_fl2_s (S : Nat → Nat → Int32) (o a n : Nat) (v : Int32) : am_u (am_fl2 S o a n v) o (a + n) v = am_fl2 S o a (n + 1) v := by
  funext c y
  unfold am_u am_fl2
  by_cases h : c = o ∧ y = a + n
  · rw [if_pos h, if_pos ⟨h.1, by omega⟩]
  · rw [if_neg h]
    by_cases g : c = o ∧ a ≤ y ∧ y < a + n
    · rw [if_pos g, if_pos ⟨g.1, by omega⟩]
    · rw [if_neg g, if_neg (by omega)]
theorem am_fl2_ne {S : Nat → Nat → Int32} {o a n c y : Nat} {v : Int32} (h : c ≠ o) : am_fl2 S o a n v c y = S c y := by
  unfold am_fl2
  rw [if_neg (fun z => h z.1)]
def am_MR2 (S : Nat → Nat → Int32) (F : Nat) (sz : Nat → Nat) (op en : Nat → Prop) (sm : Nat → Nat → Prop) (ln sp : Nat → Nat) (k : Nat) : Prop := (S 80 k = nI (ln k)) ∧ (S 81 k = nI (sq_gk (am_st sz F) op en sm ln sp k (am_st sz F)).1) ∧ ((S 82 k).toInt = sq_sv (sq_gk (am_st sz F) op en sm ln sp k (am_st sz F)).1 (ln k)) ∧ (∃ g r, g < F ∧ r < sz g ∧ sp k = am_st sz g + r ∧ S 84 k = nI (40 * g + r)) ∧ (∀ j, sq_ok (am_st sz F) op en sm ln sp k j → ∃ g r, g < F ∧ r < sz g ∧ j = am_st sz g + r ∧ S 85 (150 * k + (sq_gk (am_st sz F) op en sm ln sp k j).1) = nI (40 * g + r))
theorem am_MR2.s80 {S : Nat → Nat → Int32} {F : Nat} {sz : Nat → Nat} {op en : Nat → Prop} {sm : Nat → Nat → Prop} {ln sp : Nat → Nat} {k : Nat} (h : am_MR2 S F sz op en sm ln sp k) : S 80 k = nI (ln k) := h.1
theorem am_MR2.s81 {S : Nat → Nat → Int32} {F : Nat} {sz : Nat → Nat} {op en : Nat → Prop} {sm : Nat → Nat → Prop} {ln sp : Nat → Nat} {k : Nat} (h : am_MR2 S F sz op en sm ln sp k) : S 81 k = nI (sq_gk (am_st sz F) op en sm ln sp k (am_st sz F)).1 := h.2.1
theorem am_MR2.s82 {S : Nat → Nat → Int32} {F : Nat} {sz : Nat → Nat} {op en : Nat → Prop} {sm : Nat → Nat → Prop} {ln sp : Nat → Nat} {k : Nat} (h : am_MR2 S F sz op en sm ln sp k) : (S 82 k).toInt = sq_sv (sq_gk (am_st sz F) op en sm ln sp k (am_st sz F)).1 (ln k) := h.2.2.1
theorem am_MR2.s84 {S : Nat → Nat → Int32} {F : Nat} {sz : Nat → Nat} {op en : Nat → Prop} {sm : Nat → Nat → Prop} {ln sp : Nat → Nat} {k : Nat} (h : am_MR2 S F sz op en sm ln sp k) : ∃ g r, g < F ∧ r < sz g ∧ sp k = am_st sz g + r ∧ S 84 k = nI (40 * g + r) := h.2.2.2.1
theorem am_MR2.s85 {S : Nat → Nat → Int32} {F : Nat} {sz : Nat → Nat} {op en : Nat → Prop} {sm : Nat → Nat → Prop} {ln sp : Nat → Nat} {k : Nat} (h : am_MR2 S F sz op en sm ln sp k) : ∀ j, sq_ok (am_st sz F) op en sm ln sp k j → ∃ g r, g < F ∧ r < sz g ∧ j = am_st sz g + r ∧ S 85 (150 * k + (sq_gk (am_st sz F) op en sm ln sp k j).1) = nI (40 * g + r) := h.2.2.2.2
def am_MRS (S : Nat → Nat → Int32) (F : Nat) (sz : Nat → Nat) (op en : Nat → Prop) (sm : Nat → Nat → Prop) (ln sp : Nat → Nat) (K : Nat) : Prop := (∀ k, k < K → am_MR2 S F sz op en sm ln sp k) ∧ (∀ f p, f < F → p < sz f → (∃ k, k < K ∧ S 87 (40 * f + p) = nI k ∧ ∃ j, sq_ok (am_st sz F) op en sm ln sp k j ∧ j ≤ am_st sz f + p ∧ am_st sz f + p < j + ln k) ∨ (S 87 (40 * f + p) = -1 ∧ ¬ sq_U (am_st sz F) op en sm ln sp K (am_st sz f + p))) ∧ (∀ f p, f < F → p < sz f → am_bz (S 89 (40 * f + p)) (∃ k, k < K ∧ sq_ok (am_st sz F) op en sm ln sp k (am_st sz f + p)))
theorem am_MRS.ro {S : Nat → Nat → Int32} {F : Nat} {sz : Nat → Nat} {op en : Nat → Prop} {sm : Nat → Nat → Prop} {ln sp : Nat → Nat} {K : Nat} (h : am_MRS S F sz op en sm ln sp K) : ∀ k, k < K → am_MR2 S F sz op en sm ln sp k := h.1
theorem am_MRS.ir {S : Nat → Nat → Int32} {F : Nat} {sz : Nat → Nat} {op en : Nat → Prop} {sm : Nat → Nat → Prop} {ln sp : Nat → Nat} {K : Nat} (h : am_MRS S F sz op en sm ln sp K) : ∀ f p, f < F → p < sz f → (∃ k, k < K ∧ S 87 (40 * f + p) = nI k ∧ ∃ j, sq_ok (am_st sz F) op en sm ln sp k j ∧ j ≤ am_st sz f + p ∧ am_st sz f + p < j + ln k) ∨ (S 87 (40 * f + p) = -1 ∧ ¬ sq_U (am_st sz F) op en sm ln sp K (am_st sz f + p)) := h.2.1
theorem am_MRS.bg {S : Nat → Nat → Int32} {F : Nat} {sz : Nat → Nat} {op en : Nat → Prop} {sm : Nat → Nat → Prop} {ln sp : Nat → Nat} {K : Nat} (h : am_MRS S F sz op en sm ln sp K) : ∀ f p, f < F → p < sz f → am_bz (S 89 (40 * f + p)) (∃ k, k < K ∧ sq_ok (am_st sz F) op en sm ln sp k (am_st sz f + p)) := h.2.2
theorem c_rc1 {S : Nat → Nat → Int32} {e : am_E} {Q : am_Q} {kc ks L K i x0 : Nat} {b row x4 x7 x8 : Value} (hL : L ≤ 20) (hK : K < 60) (hi : i < 150) (hx : x0 + L ≤ 960) (h92 : S 92 i = nI x0) (h13 : S 69 13 = nI K) (KK : ∀ x6, am_Go (mX12_findRoutine, 401, [.ref 69, b, row, .int (nI L), x4, .int (nI i), x6, x7, x8], [], hp (am_fl2 S 87 x0 L (nI K)) e, kc, ks, Q)) : ∀ (n j : Nat), n + j = L → am_Go (mX12_findRoutine, 370, [.ref 69, b, row, .int (nI L), x4, .int (nI i), .int (nI j), x7, x8], [], hp (am_fl2 S 87 x0 j (nI K)) e, kc, ks, Q)
  | 0, j, h => by
    have ej : j = L := by omega
    subst ej
    refine go_s 3 rfl ?_
    refine go_if (fun c => absurd c (nI_nlt (Nat.le_refl _) (by omega))) (fun c => KK _)
  | n + 1, j, h => by
    refine go_s 3 rfl ?_
    refine go_if (fun c => ?_) (fun c => absurd (nI_lt (show j < L by omega) (by omega)) c)
    have f92 : am_fl2 S 87 x0 j (nI K) 92 (nI i).toNatClampNeg = nI x0 := by rw [am_fl2_ne (by decide), nI_clamp (by omega)]; exact h92
    have f13 : am_fl2 S 87 x0 j (nI K) 69 13 = nI K := by rw [am_fl2_ne (by decide)]; exact h13
    refine go_s 5 rfl ?_
    refine go_m rfl rfl (show vp_in (nI i) 150 from vp_in_nI hi (by decide)) ?_
    refine go_s 4 (pc' := 394) (ls' := [.ref 69, b, row, .int (nI L), x4, .int (nI i), .int (nI j), x7, x8]) (st' := [.int (nI K), .int (nI (x0 + j)), .ref 87]) (h' := hp (am_fl2 S 87 x0 j (nI K)) e) (by
      have e1 : nI (x0 + j) = am_fl2 S 87 x0 j (nI K) 92 (nI i).toNatClampNeg + nI j := by rw [f92, nI_add]
      rw [e1]
      exact congrArg (fun v => some (394, [Value.ref 69, b, row, .int (nI L), x4, .int (nI i), .int (nI j), x7, x8], [Value.int v, .int (am_fl2 S 87 x0 j (nI K) 92 (nI i).toNatClampNeg + nI j), .ref 87], hp (am_fl2 S 87 x0 j (nI K)) e)) f13) ?_
    refine go_m rfl rfl (show vp_in (nI (x0 + j)) 960 from vp_in_nI (by omega) (by decide)) ?_
    refine go_s 2 (pc' := 370) (ls' := [.ref 69, b, row, .int (nI L), x4, .int (nI i), .int (nI (j + 1)), x7, x8]) (st' := []) (h' := hp (am_u (am_fl2 S 87 x0 j (nI K)) 87 (nI (x0 + j)).toNatClampNeg (nI K)) e) (by rw [← nI_1 j]; rfl) ?_
    rw [nI_clamp (by omega), am_fl2_s]
    exact c_rc1 hL hK hi hx h92 h13 KK n (j + 1) (by omega)
/-- while the occurrences of the routine K are written down -/
def am_RW (C D S : Nat → Nat → Int32) (F : Nat) (sz : Nat → Nat) (B : Nat → Prop) (ln sp : Nat → Nat) (K : Nat) (S' : Nat → Nat → Int32) (i : Nat) : Prop := (∀ c j, c ≠ 85 → c ≠ 87 → c ≠ 89 → S' c j = S c j) ∧ (∀ y, y < 150 * K → S' 85 y = S 85 y) ∧ (∀ j, sq_ok (am_st sz F) (am_op D F sz B) (am_en D F sz B) (am_sS C) ln sp K j → (sq_gk (am_st sz F) (am_op D F sz B) (am_en D F sz B) (am_sS C) ln sp K j).1 < i → ∃ g r, g < F ∧ r < sz g ∧ j = am_st sz g + r ∧ S' 85 (150 * K + (sq_gk (am_st sz F) (am_op D F sz B) (am_en D F sz B) (am_sS C) ln sp K j).1) = nI (40 * g + r)) ∧ (∀ f p, f < F → p < sz f → ((∃ j, sq_ok (am_st sz F) (am_op D F sz B) (am_en D F sz B) (am_sS C) ln sp K j ∧ (sq_gk (am_st sz F) (am_op D F sz B) (am_en D F sz B) (am_sS C) ln sp K j).1 < i ∧ j ≤ am_st sz f + p ∧ am_st sz f + p < j + ln K) ∧ S' 87 (40 * f + p) = nI K) ∨ ((¬ ∃ j, sq_ok (am_st sz F) (am_op D F sz B) (am_en D F sz B) (am_sS C) ln sp K j ∧ (sq_gk (am_st sz F) (am_op D F sz B) (am_en D F sz B) (am_sS C) ln sp K j).1 < i ∧ j ≤ am_st sz f + p ∧ am_st sz f + p < j + ln K) ∧ S' 87 (40 * f + p) = S 87 (40 * f + p))) ∧ (∀ f p, f < F → p < sz f → (sq_ok (am_st sz F) (am_op D F sz B) (am_en D F sz B) (am_sS C) ln sp K (am_st sz f + p) ∧ (sq_gk (am_st sz F) (am_op D F sz B) (am_en D F sz B) (am_sS C) ln sp K (am_st sz f + p)).1 < i ∧ S' 89 (40 * f + p) = 1) ∨ (¬ (sq_ok (am_st sz F) (am_op D F sz B) (am_en D F sz B) (am_sS C) ln sp K (am_st sz f + p) ∧ (sq_gk (am_st sz F) (am_op D F sz B) (am_en D F sz B) (am_sS C) ln sp K (am_st sz f + p)).1 < i) ∧ S' 89 (40 * f + p) = S 89 (40 * f + p)))
theorem am_RW.fr {C D S : Nat → Nat → Int32} {F : Nat} {sz : Nat → Nat} {B : Nat → Prop} {ln sp : Nat → Nat} {K : Nat} {S' : Nat → Nat → Int32} {i : Nat} (h : am_RW C D S F sz B ln sp K S' i) : ∀ c j, c ≠ 85 → c ≠ 87 → c ≠ 89 → S' c j = S c j := h.1
theorem am_RW.p1 {C D S : Nat → Nat → Int32} {F : Nat} {sz : Nat → Nat} {B : Nat → Prop} {ln sp : Nat → Nat} {K : Nat} {S' : Nat → Nat → Int32} {i : Nat} (h : am_RW C D S F sz B ln sp K S' i) : ∀ y, y < 150 * K → S' 85 y = S 85 y := h.2.1
theorem am_RW.p2 {C D S : Nat → Nat → Int32} {F : Nat} {sz : Nat → Nat} {B : Nat → Prop} {ln sp : Nat → Nat} {K : Nat} {S' : Nat → Nat → Int32} {i : Nat} (h : am_RW C D S F sz B ln sp K S' i) : ∀ j, sq_ok (am_st sz F) (am_op D F sz B) (am_en D F sz B) (am_sS C) ln sp K j → (sq_gk (am_st sz F) (am_op D F sz B) (am_en D F sz B) (am_sS C) ln sp K j).1 < i → ∃ g r, g < F ∧ r < sz g ∧ j = am_st sz g + r ∧ S' 85 (150 * K + (sq_gk (am_st sz F) (am_op D F sz B) (am_en D F sz B) (am_sS C) ln sp K j).1) = nI (40 * g + r) := h.2.2.1
theorem am_RW.ir {C D S : Nat → Nat → Int32} {F : Nat} {sz : Nat → Nat} {B : Nat → Prop} {ln sp : Nat → Nat} {K : Nat} {S' : Nat → Nat → Int32} {i : Nat} (h : am_RW C D S F sz B ln sp K S' i) : ∀ f p, f < F → p < sz f → ((∃ j, sq_ok (am_st sz F) (am_op D F sz B) (am_en D F sz B) (am_sS C) ln sp K j ∧ (sq_gk (am_st sz F) (am_op D F sz B) (am_en D F sz B) (am_sS C) ln sp K j).1 < i ∧ j ≤ am_st sz f + p ∧ am_st sz f + p < j + ln K) ∧ S' 87 (40 * f + p) = nI K) ∨ ((¬ ∃ j, sq_ok (am_st sz F) (am_op D F sz B) (am_en D F sz B) (am_sS C) ln sp K j ∧ (sq_gk (am_st sz F) (am_op D F sz B) (am_en D F sz B) (am_sS C) ln sp K j).1 < i ∧ j ≤ am_st sz f + p ∧ am_st sz f + p < j + ln K) ∧ S' 87 (40 * f + p) = S 87 (40 * f + p)) := h.2.2.2.1
theorem am_RW.bg {C D S : Nat → Nat → Int32} {F : Nat} {sz : Nat → Nat} {B : Nat → Prop} {ln sp : Nat → Nat} {K : Nat} {S' : Nat → Nat → Int32} {i : Nat} (h : am_RW C D S F sz B ln sp K S' i) : ∀ f p, f < F → p < sz f → (sq_ok (am_st sz F) (am_op D F sz B) (am_en D F sz B) (am_sS C) ln sp K (am_st sz f + p) ∧ (sq_gk (am_st sz F) (am_op D F sz B) (am_en D F sz B) (am_sS C) ln sp K (am_st sz f + p)).1 < i ∧ S' 89 (40 * f + p) = 1) ∨ (¬ (sq_ok (am_st sz F) (am_op D F sz B) (am_en D F sz B) (am_sS C) ln sp K (am_st sz f + p) ∧ (sq_gk (am_st sz F) (am_op D F sz B) (am_en D F sz B) (am_sS C) ln sp K (am_st sz f + p)).1 < i) ∧ S' 89 (40 * f + p) = S 89 (40 * f + p)) := h.2.2.2.2
theorem c_rc2 {C D S : Nat → Nat → Int32} {F K : Nat} {sz : Nat → Nat} {B : Nat → Prop} {ln sp : Nat → Nat} {e : am_E} {Q : am_Q} {kc ks : Nat} {b row x7 x8 : Value} (hP : am_PG C D F sz) (hop : ∀ f, f < F → ¬ am_Op D sz f) (hl2 : 2 ≤ ln K) (hl20 : ln K ≤ 20) (hK : K < 60) (h13 : S 69 13 = nI K) (h92 : ∀ j, j < am_st sz F → sq_ok (am_st sz F) (am_op D F sz B) (am_en D F sz B) (am_sS C) ln sp K j → ∃ g r, g < F ∧ r < sz g ∧ j = am_st sz g + r ∧ S 92 (sq_gk (am_st sz F) (am_op D F sz B) (am_en D F sz B) (am_sS C) ln sp K j).1 = nI (40 * g + r)) (q : ∀ S', am_RW C D S F sz B ln sp K S' (sq_gk (am_st sz F) (am_op D F sz B) (am_en D F sz B) (am_sS C) ln sp K (am_st sz F)).1 → Q (some (.int 1)) (hp S' e)) : ∀ (n i : Nat) (x6 : Value) (S' : Nat → Nat → Int32), (sq_gk (am_st sz F) (am_op D F sz B) (am_en D F sz B) (am_sS C) ln sp K (am_st sz F)).1 < n + i → i ≤ (sq_gk (am_st sz F) (am_op D F sz B) (am_en D F sz B) (am_sS C) ln sp K (am_st sz F)).1 → am_RW C D S F sz B ln sp K S' i → am_Go (mX12_findRoutine, 324, [.ref 69, b, row, .int (nI (ln K)), .int (nI (sq_gk (am_st sz F) (am_op D F sz B) (am_en D F sz B) (am_sS C) ln sp K (am_st sz F)).1), .int (nI i), x6, x7, x8], [], hp S' e, kc, ks, Q)
  | 0, i, x6, S', g1, g2, hI => by omega
  | n + 1, i, x6, S', g1, g2, hI => by
    have hN3 := hP.t300
    have hF := hP.hF
    have tm150 : (sq_gk (am_st sz F) (am_op D F sz B) (am_en D F sz B) (am_sS C) ln sp K (am_st sz F)).1 ≤ 150 := by
      obtain ⟨a1, a2, _, _⟩ := sq_gr_le (P := sq_Pk (am_st sz F) (am_op D F sz B) (am_en D F sz B) (am_sS C) ln sp K) (N := am_st sz F) (show 1 ≤ ln K by omega) (fun j z => z.1.1) (am_st sz F)
      have a1 : (sq_gk (am_st sz F) (am_op D F sz B) (am_en D F sz B) (am_sS C) ln sp K (am_st sz F)).1 * ln K ≤ (sq_gk (am_st sz F) (am_op D F sz B) (am_en D F sz B) (am_sS C) ln sp K (am_st sz F)).2 := a1
      have a2 : (sq_gk (am_st sz F) (am_op D F sz B) (am_en D F sz B) (am_sS C) ln sp K (am_st sz F)).2 ≤ am_st sz F := a2
      have a3 : 2 * (sq_gk (am_st sz F) (am_op D F sz B) (am_en D F sz B) (am_sS C) ln sp K (am_st sz F)).1 ≤ (sq_gk (am_st sz F) (am_op D F sz B) (am_en D F sz B) (am_sS C) ln sp K (am_st sz F)).1 * ln K := by
        rw [Nat.mul_comm 2]
        exact Nat.mul_le_mul_left _ hl2
      omega
    refine go_s 3 rfl ?_
    refine go_if (fun c328 => ?_) (fun c328 => ?_)
    rotate_left
    · have hge := mt (nI_lt (a := i) (b := (sq_gk (am_st sz F) (am_op D F sz B) (am_en D F sz B) (am_sS C) ln sp K (am_st sz F)).1) · (by omega)) c328
      have ei : i = (sq_gk (am_st sz F) (am_op D F sz B) (am_en D F sz B) (am_sS C) ln sp K (am_st sz F)).1 := by omega
      rw [ei] at hI
      refine go_s 1 rfl ?_
      exact go_retz rfl rfl (Or.inr rfl) (q _ hI)
    have hit := (nI_ltI (a := i) (b := (sq_gk (am_st sz F) (am_op D F sz B) (am_en D F sz B) (am_sS C) ln sp K (am_st sz F)).1) (by omega) (by omega)).mp c328
    obtain ⟨j0, hj0, hok0, hi0⟩ := sq_nth (P := sq_Pk (am_st sz F) (am_op D F sz B) (am_en D F sz B) (am_sS C) ln sp K) (n := ln K) (am_st sz F) i hit
    have hok0 : sq_ok (am_st sz F) (am_op D F sz B) (am_en D F sz B) (am_sS C) ln sp K j0 := hok0
    have hi0 : (sq_gk (am_st sz F) (am_op D F sz B) (am_en D F sz B) (am_sS C) ln sp K j0).1 = i := hi0
    obtain ⟨g, r, hg, hr, ej0, e92⟩ := h92 j0 hj0 hok0
    rw [hi0] at e92
    have f92 : S' 92 (nI i).toNatClampNeg = nI (40 * g + r) := by rw [nI_clamp (by omega), hI.fr 92 i (by decide) (by decide) (by decide)]; exact e92
    have f13 : S' 69 13 = nI K := (hI.fr 69 13 (by decide) (by decide) (by decide)).trans h13
    have hrl : r + ln K ≤ sz g := sq_ft_in hop hg hr (show 1 ≤ ln K by omega) (by rw [← ej0]; exact hok0.1.1)
    have h40 := hP.s40 g hg
    refine go_s 7 (pc' := 345) (ls' := [.ref 69, b, row, .int (nI (ln K)), .int (nI (sq_gk (am_st sz F) (am_op D F sz B) (am_en D F sz B) (am_sS C) ln sp K (am_st sz F)).1), .int (nI i), x6, x7, x8]) (st' := [.int (nI i), .int (nI (150 * K)), .ref 85]) (h' := hp S' e) (by
      rw [← nI_mul]
      exact congrArg (fun v => some (345, [Value.ref 69, b, row, .int (nI (ln K)), .int (nI (sq_gk (am_st sz F) (am_op D F sz B) (am_en D F sz B) (am_sS C) ln sp K (am_st sz F)).1), .int (nI i), x6, x7, x8], [Value.int (nI i), .int (nI 150 * v), .ref 85], hp S' e)) f13) ?_
    refine go_s 4 (pc' := 352) (ls' := [.ref 69, b, row, .int (nI (ln K)), .int (nI (sq_gk (am_st sz F) (am_op D F sz B) (am_en D F sz B) (am_sS C) ln sp K (am_st sz F)).1), .int (nI i), x6, x7, x8]) (st' := [.int (nI i), .ref 92, .int (nI (150 * K + i)), .ref 85]) (h' := hp S' e) (by rw [← nI_add]; rfl) ?_
    refine go_m rfl rfl (show vp_in (nI i) 150 from vp_in_nI (by omega) (by decide)) ?_
    refine go_m rfl rfl (show vp_in (nI (150 * K + i)) 9000 from vp_in_nI (by omega) (by decide)) ?_
    show am_Go (mX12_findRoutine, 354, [.ref 69, b, row, .int (nI (ln K)), .int (nI (sq_gk (am_st sz F) (am_op D F sz B) (am_en D F sz B) (am_sS C) ln sp K (am_st sz F)).1), .int (nI i), x6, x7, x8], [], hp (am_u S' 85 (nI (150 * K + i)).toNatClampNeg (S' 92 (nI i).toNatClampNeg)) e, kc, ks, Q)
    rw [nI_clamp (show 150 * K + i < 2 ^ 31 by omega), f92]
    refine go_s 5 rfl ?_
    refine go_m rfl rfl (show vp_in (nI i) 150 from vp_in_nI (by omega) (by decide)) ?_
    show am_Go (mX12_findRoutine, 365, [.ref 69, b, row, .int (nI (ln K)), .int (nI (sq_gk (am_st sz F) (am_op D F sz B) (am_en D F sz B) (am_sS C) ln sp K (am_st sz F)).1), .int (nI i), x6, x7, x8], [.int (am_u S' 85 (150 * K + i) (nI (40 * g + r)) 92 (nI i).toNatClampNeg), .ref 89], hp (am_u S' 85 (150 * K + i) (nI (40 * g + r))) e, kc, ks, Q)
    rw [am_u_ne (by decide), f92]
    refine go_s 1 rfl ?_
    refine go_m rfl rfl (show vp_in (nI (40 * g + r)) 960 from vp_in_nI (by omega) (by decide)) ?_
    show am_Go (mX12_findRoutine, 367, [.ref 69, b, row, .int (nI (ln K)), .int (nI (sq_gk (am_st sz F) (am_op D F sz B) (am_en D F sz B) (am_sS C) ln sp K (am_st sz F)).1), .int (nI i), x6, x7, x8], [], hp (am_u (am_u S' 85 (150 * K + i) (nI (40 * g + r))) 89 (nI (40 * g + r)).toNatClampNeg 1) e, kc, ks, Q)
    rw [nI_clamp (show 40 * g + r < 2 ^ 31 by omega)]
    refine go_s 2 (pc' := 370) (ls' := [.ref 69, b, row, .int (nI (ln K)), .int (nI (sq_gk (am_st sz F) (am_op D F sz B) (am_en D F sz B) (am_sS C) ln sp K (am_st sz F)).1), .int (nI i), .int (nI 0), x7, x8]) (st' := []) (h' := hp (am_u (am_u S' 85 (150 * K + i) (nI (40 * g + r))) 89 (40 * g + r) 1) e) rfl ?_
    rw [← am_fl2_0 (am_u (am_u S' 85 (150 * K + i) (nI (40 * g + r))) 89 (40 * g + r) 1) 87 (40 * g + r) (nI K)]
    refine c_rc1 hl20 hK (by omega) (by omega) (by rw [am_u_ne (by decide), am_u_ne (by decide), hI.fr 92 i (by decide) (by decide) (by decide)]; exact e92) (by rw [am_u_ne (by decide), am_u_ne (by decide)]; exact f13) (fun y6 => ?_) (ln K) 0 (by omega)
    refine go_s 2 (pc' := 324) (ls' := [.ref 69, b, row, .int (nI (ln K)), .int (nI (sq_gk (am_st sz F) (am_op D F sz B) (am_en D F sz B) (am_sS C) ln sp K (am_st sz F)).1), .int (nI (i + 1)), y6, x7, x8]) (st' := []) (h' := hp (am_fl2 (am_u (am_u S' 85 (150 * K + i) (nI (40 * g + r))) 89 (40 * g + r) 1) 87 (40 * g + r) (ln K) (nI K)) e) (by rw [← nI_1 i]; rfl) ?_
    have hidx : ∀ j, sq_ok (am_st sz F) (am_op D F sz B) (am_en D F sz B) (am_sS C) ln sp K j → (sq_gk (am_st sz F) (am_op D F sz B) (am_en D F sz B) (am_sS C) ln sp K j).1 = i → j = j0 := fun j a1 a2 => by
      have x1 : ¬ j < j0 := fun z => by
        have := ((sq_gr_last (P := sq_Pk (am_st sz F) (am_op D F sz B) (am_en D F sz B) (am_sS C) ln sp K) (show 1 ≤ ln K by omega) j0).2 j z a1.1 a1.2).2
        have h0 : (sq_gk (am_st sz F) (am_op D F sz B) (am_en D F sz B) (am_sS C) ln sp K j).1 < (sq_gk (am_st sz F) (am_op D F sz B) (am_en D F sz B) (am_sS C) ln sp K j0).1 := this
        omega
      have x2 : ¬ j0 < j := fun z => by
        have := ((sq_gr_last (P := sq_Pk (am_st sz F) (am_op D F sz B) (am_en D F sz B) (am_sS C) ln sp K) (show 1 ≤ ln K by omega) j).2 j0 z hok0.1 hok0.2).2
        have h0 : (sq_gk (am_st sz F) (am_op D F sz B) (am_en D F sz B) (am_sS C) ln sp K j0).1 < (sq_gk (am_st sz F) (am_op D F sz B) (am_en D F sz B) (am_sS C) ln sp K j).1 := this
        omega
      omega
    refine c_rc2 hP hop hl2 hl20 hK h13 h92 q n (i + 1) y6 _ (by omega) (by omega) ⟨fun c y a1 a2 a3 => ?_, fun y hy => ?_, fun j a1 a2 => ?_, fun f p hf hpf => ?_, fun f p hf hpf => ?_⟩
    · rw [am_fl2_ne a2, am_u_ne a3, am_u_ne a1]; exact hI.fr c y a1 a2 a3
    · rw [am_fl2_ne (by decide), am_u_ne (by decide), am_u_nj (by omega)]; exact hI.p1 y hy
    · by_cases e1 : (sq_gk (am_st sz F) (am_op D F sz B) (am_en D F sz B) (am_sS C) ln sp K j).1 = i
      · have e2 := hidx j a1 e1
        refine ⟨g, r, hg, hr, by rw [e2]; exact ej0, ?_⟩
        rw [am_fl2_ne (by decide), am_u_ne (by decide), e1, am_u_eq]
      · obtain ⟨g', r', b1, b2, b3, b4⟩ := hI.p2 j a1 (by omega)
        refine ⟨g', r', b1, b2, b3, ?_⟩
        rw [am_fl2_ne (by decide), am_u_ne (by decide), am_u_nj (by omega)]; exact b4
    · have h41 := hP.s40 f hf
      by_cases cv : j0 ≤ am_st sz f + p ∧ am_st sz f + p < j0 + ln K
      · left
        refine ⟨⟨j0, hok0, by omega, cv⟩, ?_⟩
        obtain ⟨d, ed⟩ := Nat.exists_eq_add_of_le cv.1
        have efp := am_st_u (f := f) (g := g) (p := p) (q := r + d) hpf (by omega) (by omega)
        rw [efp.1, efp.2]
        unfold am_fl2
        rw [if_pos ⟨rfl, by omega, by omega⟩]
      · have hv : am_fl2 (am_u (am_u S' 85 (150 * K + i) (nI (40 * g + r))) 89 (40 * g + r) 1) 87 (40 * g + r) (ln K) (nI K) 87 (40 * f + p) = S' 87 (40 * f + p) := by
          unfold am_fl2
          rw [if_neg, am_u_ne (by decide), am_u_ne (by decide)]
          rintro ⟨_, z1, z2⟩
          have e1 : f = g := by omega
          subst e1
          exact cv ⟨by omega, by omega⟩
        rw [hv]
        rcases hI.ir f p hf hpf with ⟨⟨j, y1, y2, y3⟩, y4⟩ | ⟨y1, y2⟩
        · exact Or.inl ⟨⟨j, y1, by omega, y3⟩, y4⟩
        · refine Or.inr ⟨fun ⟨j, w1, w2, w3, w4⟩ => ?_, y2⟩
          by_cases e1 : (sq_gk (am_st sz F) (am_op D F sz B) (am_en D F sz B) (am_sS C) ln sp K j).1 = i
          · have := hidx j w1 e1
            subst this
            exact cv ⟨w3, w4⟩
          · exact y1 ⟨j, w1, by omega, w3, w4⟩
    · have h41 := hP.s40 f hf
      by_cases cv : am_st sz f + p = j0
      · left
        have efp := am_st_u (f := f) (g := g) (p := p) (q := r) hpf hr (by omega)
        refine ⟨by rw [cv]; exact hok0, by rw [cv]; omega, ?_⟩
        rw [efp.1, efp.2, am_fl2_ne (by decide), am_u_eq]
      · have hne : 40 * f + p ≠ 40 * g + r := fun z => by
          have e1 : f = g := by omega
          subst e1
          exact cv (by omega)
        have hv : am_fl2 (am_u (am_u S' 85 (150 * K + i) (nI (40 * g + r))) 89 (40 * g + r) 1) 87 (40 * g + r) (ln K) (nI K) 89 (40 * f + p) = S' 89 (40 * f + p) := by
          rw [am_fl2_ne (by decide), am_u_nj hne, am_u_ne (by decide)]
        rw [hv]
        rcases hI.bg f p hf hpf with ⟨y1, y2, y3⟩ | ⟨y1, y2⟩
        · exact Or.inl ⟨y1, by omega, y3⟩
        · refine Or.inr ⟨fun w => y1 ⟨w.1, ?_⟩, y2⟩
          by_cases e1 : (sq_gk (am_st sz F) (am_op D F sz B) (am_en D F sz B) (am_sS C) ln sp K (am_st sz f + p)).1 = i
          · exact absurd (hidx _ w.1 e1) cv
          · omega
