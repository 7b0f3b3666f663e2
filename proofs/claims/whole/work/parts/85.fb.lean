def sq_Am (s n : Nat) : Nat → Nat → Prop := fun m t => (2 ≤ m ∧ m ≤ 20 ∧ t < s) ∨ (t = s ∧ 2 ≤ m ∧ m < n)
/-- the best row so far, as the model holds it -/
def sq_Bm (N : Nat) (op en U : Nat → Prop) (sm : Nat → Nat → Prop) (F : Nat) (sz : Nat → Nat) (b row : Int32) (lg : Nat) (A : Nat → Nat → Prop) : Prop := (b = 0 ∧ row = -1 ∧ lg = 0 ∧ ∀ n t, A n t → sq_ft N op en U t n → ¬ 0 < sq_sv (sq_cn N op en U sm t n) n) ∨ ∃ g r, g < F ∧ r < sz g ∧ A lg (am_st sz g + r) ∧ 2 ≤ lg ∧ lg ≤ 20 ∧ sq_ft N op en U (am_st sz g + r) lg ∧ b.toInt = sq_sv (sq_cn N op en U sm (am_st sz g + r) lg) lg ∧ row = nI (40 * g + r) ∧ 0 < sq_sv (sq_cn N op en U sm (am_st sz g + r) lg) lg ∧ ∀ n t, A n t → sq_ft N op en U t n → sq_sv (sq_cn N op en U sm t n) n < sq_sv (sq_cn N op en U sm (am_st sz g + r) lg) lg ∨ (sq_sv (sq_cn N op en U sm t n) n = sq_sv (sq_cn N op en U sm (am_st sz g + r) lg) lg ∧ (n < lg ∨ (n = lg ∧ am_st sz g + r ≤ t)))
section BM
variable {N : Nat} {op en U : Nat → Prop} {sm : Nat → Nat → Prop} {F : Nat} {sz : Nat → Nat} {b row : Int32} {lg : Nat}
theorem sq_Bm_A {A A' : Nat → Nat → Prop} (h : sq_Bm N op en U sm F sz b row lg A) (h1 : ∀ n t, 2 ≤ n → n ≤ 20 → A n t → A' n t) (h2 : ∀ n t, A' n t → sq_ft N op en U t n → A n t ∨ sq_cn N op en U sm t n ≤ 1) : sq_Bm N op en U sm F sz b row lg A' := by
  rcases h with ⟨a1, a2, a3, a4⟩ | ⟨g, r, a1, a2, a3, a4, a5, a6, a7, a8, a9, a10⟩
  · refine Or.inl ⟨a1, a2, a3, fun n t ha hf => ?_⟩
    rcases h2 n t ha hf with z | z
    · exact a4 n t z hf
    · have := sq_sv_1 (n := n) z; omega
  · refine Or.inr ⟨g, r, a1, a2, h1 _ _ a4 a5 a3, a4, a5, a6, a7, a8, a9, fun n t ha hf => ?_⟩
    rcases h2 n t ha hf with z | z
    · exact a10 n t z hf
    · have := sq_sv_1 (n := n) z; exact Or.inl (by omega)
/-- a row that is not better -/
theorem sq_Bm_sk {s n : Nat} (h : sq_Bm N op en U sm F sz b row lg (sq_Am s n)) (hb : ¬ b.toInt < sq_sv (sq_cn N op en U sm s n) n) (he : b.toInt = sq_sv (sq_cn N op en U sm s n) n → 0 < b.toInt → n ≤ lg) : sq_Bm N op en U sm F sz b row lg (sq_Am s (n + 1)) := by
  rcases h with ⟨a1, a2, a3, a4⟩ | ⟨g, r, a1, a2, a3, a4, a5, a6, a7, a8, a9, a10⟩
  · refine Or.inl ⟨a1, a2, a3, fun m t ha hf => ?_⟩
    by_cases e : t = s ∧ m = n
    · rw [e.1, e.2]
      rw [a1, show (0 : Int32).toInt = 0 by decide] at hb
      exact hb
    · refine a4 m t ?_ hf
      rcases ha with z | z
      · exact Or.inl z
      · exact Or.inr ⟨z.1, z.2.1, by omega⟩
  · refine Or.inr ⟨g, r, a1, a2, ?_, a4, a5, a6, a7, a8, a9, fun m t ha hf => ?_⟩
    · rcases a3 with z | z
      · exact Or.inl z
      · exact Or.inr ⟨z.1, z.2.1, by omega⟩
    · by_cases e : t = s ∧ m = n
      · rw [e.1, e.2]
        rw [a7] at hb he
        by_cases g1 : sq_sv (sq_cn N op en U sm s n) n < sq_sv (sq_cn N op en U sm (am_st sz g + r) lg) lg
        · exact Or.inl g1
        · have e2 := he (by omega) a9
          refine Or.inr ⟨by omega, ?_⟩
          rcases a3 with z | z
          · omega
          · omega
      · refine a10 m t ?_ hf
        rcases ha with z | z
        · exact Or.inl z
        · exact Or.inr ⟨z.1, z.2.1, by omega⟩
theorem sq_Bm_up {n g r : Nat} {b' : Int32} (hg : g < F) (hr : r < sz g) (h2 : 2 ≤ n) (h20 : n ≤ 20) (h : sq_Bm N op en U sm F sz b row lg (sq_Am (am_st sz g + r) n)) (hf : sq_ft N op en U (am_st sz g + r) n) (hb : b.toInt < sq_sv (sq_cn N op en U sm (am_st sz g + r) n) n ∨ (b.toInt = sq_sv (sq_cn N op en U sm (am_st sz g + r) n) n ∧ 0 < b.toInt ∧ lg < n)) (e1 : b'.toInt = sq_sv (sq_cn N op en U sm (am_st sz g + r) n) n) : sq_Bm N op en U sm F sz b' (nI (40 * g + r)) n (sq_Am (am_st sz g + r) (n + 1)) := by
  have hpos : 0 < sq_sv (sq_cn N op en U sm (am_st sz g + r) n) n := by
    rcases h with ⟨a1, _⟩ | ⟨_, _, _, _, _, _, _, _, a7, _, a9, _⟩
    · rw [a1, show (0 : Int32).toInt = 0 by decide] at hb; omega
    · omega
  refine Or.inr ⟨g, r, hg, hr, Or.inr ⟨rfl, h2, by omega⟩, h2, h20, hf, e1, rfl, hpos, fun m t ha hft => ?_⟩
  by_cases e : t = am_st sz g + r ∧ m = n
  · rw [e.1, e.2]; exact Or.inr ⟨rfl, Or.inr ⟨rfl, Nat.le_refl _⟩⟩
  · have ha' : sq_Am (am_st sz g + r) n m t := by
      rcases ha with z | z
      · exact Or.inl z
      · exact Or.inr ⟨z.1, z.2.1, by omega⟩
    rcases h with ⟨a1, _, _, a4⟩ | ⟨_, _, _, _, _, _, _, _, a7, _, a9, a10⟩
    · have := a4 m t ha' hft; exact Or.inl (by omega)
    · have := a10 m t ha' hft
      rcases hb with hb | hb
      · exact Or.inl (by omega)
      · rcases this with z | z
        · exact Or.inl (by omega)
        · exact Or.inr ⟨by omega, Or.inl (by omega)⟩
end BM
theorem c_fb1 {C D S : Nat → Nat → Int32} {F : Nat} {sz : Nat → Nat} {B U : Nat → Prop} {e : am_E} {Q : am_Q} (hP : am_PG C D F sz) (hM : am_SM S D F sz B U) (hop : ∀ f, f < F → ¬ am_Op D sz f) {f p kc ks : Nat} (hf : f < F) (hpf : p < sz f) (K : ∀ S' b row lg x6 x7 x8, (∀ c j, c ≠ 92 → S' c j = S c j) → sq_Bm (am_st sz F) (am_op D F sz B) (am_en D F sz B) U (am_sS C) F sz b row lg (sq_Am (am_st sz f + p + 1) 2) → am_Go (mX12_findRoutine, 253, [.ref 69, .int b, .int row, .int (nI lg), .int (nI f), .int (nI p), x6, x7, x8], [], hp S' e, kc, ks, Q)) : ∀ (n0 : Nat) (b row : Int32) (k lg m : Nat) (x8 : Value) (S' : Nat → Nat → Int32), 21 < n0 + m → m ≤ 21 → 2 ≤ m → (∀ c j, c ≠ 92 → S' c j = S c j) → lg ≤ 20 → (m = 2 ∧ k = 2 ∨ (2 < m ∧ k = sq_cn (am_st sz F) (am_op D F sz B) (am_en D F sz B) U (am_sS C) (am_st sz f + p) (m - 1) ∧ sq_ft (am_st sz F) (am_op D F sz B) (am_en D F sz B) U (am_st sz f + p) (m - 1))) → sq_Bm (am_st sz F) (am_op D F sz B) (am_en D F sz B) U (am_sS C) F sz b row lg (sq_Am (am_st sz f + p) m) → am_Go (mX12_findRoutine, 151, [.ref 69, .int b, .int row, .int (nI lg), .int (nI f), .int (nI p), .int (nI k), .int (nI m), x8], [], hp S' e, kc, ks, Q)
  | 0, b, row, k, lg, m, x8, S', g1, g2, g3, hfr, hlg, hk, hB => by omega
  | n0 + 1, b, row, k, lg, m, x8, S', g1, g2, g3, hfr, hlg, hk, hB => by
    have hF := hP.hF
    have h40 := hP.s40 f hf
    have hN3 := hP.t300
    have hk300 : k ≤ 300 := by
      rcases hk with z | z
      · omega
      · have bb := sq_cn_b (N := am_st sz F) (op := am_op D F sz B) (en := am_en D F sz B) (U := U) (sm := am_sS C) (s := am_st sz f + p) (n := m - 1) (by omega)
        omega
    have hS' : am_SM S' D F sz B U := hM.u (fun c j hc => hfr c j (by omega))
    refine go_s 3 rfl ?_
    refine go_if (fun c155 => ?_) (fun c155 => ?_)
    · have c155 : (20 : Int32) < nI m := c155
      have m20 := (nI_ltI (a := 20) (b := m) (by decide) (by omega)).mp c155
      refine K _ _ _ _ _ _ _ hfr (sq_Bm_A hB (fun n t z1 z2 ha => ?_) (fun n t ha hf2 => ?_))
      · rcases ha with z | z
        · exact Or.inl ⟨z1, z2, by omega⟩
        · exact Or.inl ⟨z1, z2, by omega⟩
      · rcases ha with z | z
        · by_cases et : t < (am_st sz f + p)
          · exact Or.inl (Or.inl ⟨z.1, z.2.1, et⟩)
          · have et : t = (am_st sz f + p) := by omega
            rw [et] at hf2 ⊢
            by_cases em : n < m
            · exact Or.inl (Or.inr ⟨rfl, z.1, em⟩)
            · omega
        · omega
    · have c155 : ¬ (20 : Int32) < nI m := c155
      have m20 : m ≤ 20 := by have := mt (nI_lt (a := 20) (b := m) · (by omega)) c155; omega
      refine go_s 3 rfl ?_
      refine go_if (fun c161 => ?_) (fun c161 => ?_)
      · refine go_s 4 rfl ?_
        refine go_v kX12_findRoutine_171 okX12_isFit rfl rfl rfl rfl (Nat.zero_le _) (Nat.zero_le _) ?_
        refine c_X12_isFit hP hS'.ms hop hS'.my hS'.tg hf hpf (by omega) m20 (fun r1 hr1 => ?_)
        refine go_s 1 rfl ?_
        refine go_if (fun c174 => ?_) (fun c174 => ?_)
        · refine K _ _ _ _ _ _ _ hfr (sq_Bm_A hB (fun n t z1 z2 ha => ?_) (fun n t ha hf2 => ?_))
          · rcases ha with z | z
            · exact Or.inl ⟨z1, z2, by omega⟩
            · exact Or.inl ⟨z1, z2, by omega⟩
          · rcases ha with z | z
            · by_cases et : t < (am_st sz f + p)
              · exact Or.inl (Or.inl ⟨z.1, z.2.1, et⟩)
              · have et : t = (am_st sz f + p) := by omega
                rw [et] at hf2 ⊢
                by_cases em : n < m
                · exact Or.inl (Or.inr ⟨rfl, z.1, em⟩)
                · exact absurd (sq_ft_le hf2 (show m ≤ n by omega)) (am_bz_0 hr1 c174)
            · omega
        · refine go_s 7 (pc' := 188) (ls' := [.ref 69, .int b, .int row, .int (nI lg), .int (nI f), .int (nI p), .int (nI k), .int (nI m), x8]) (st' := [.int (nI m), .int (nI (40 * f + p)), .ref 69]) (h' := hp S' e) (by rw [am_x1 f p]; rfl) ?_
          refine go_v kX12_findRoutine_188 okX12_occurrences rfl rfl rfl rfl (Nat.zero_le _) (Nat.zero_le _) ?_
          have hft := am_bz_n hr1 c174
          refine c_X12_occurrences hP hS' hop hf hpf (by omega) m20 hft (fun S2 h2 h2f => ?_)
          have bcn := sq_cn_b (N := am_st sz F) (op := am_op D F sz B) (en := am_en D F sz B) (U := U) (sm := am_sS C) (s := am_st sz f + p) (n := m) (by omega)
          have bsv := am_svI (k := sq_cn (am_st sz F) (am_op D F sz B) (am_en D F sz B) U (am_sS C) (am_st sz f + p) m) (n := m) (by omega) m20
          refine go_s 16 rfl ?_
          refine go_if (fun c212 => ?_) (fun c212 => ?_)
          · have c212 : b < 4 * ((nI (sq_cn (am_st sz F) (am_op D F sz B) (am_en D F sz B) U (am_sS C) (am_st sz f + p) m) - 1) * nI m - 1 - nI (sq_cn (am_st sz F) (am_op D F sz B) (am_en D F sz B) U (am_sS C) (am_st sz f + p) m)) := c212
            rw [Int32.lt_iff_toInt_lt, bsv] at c212
            refine go_s 12 (pc' := 151) (ls' := [.ref 69, .int (4 * ((nI (sq_cn (am_st sz F) (am_op D F sz B) (am_en D F sz B) U (am_sS C) (am_st sz f + p) m) - 1) * nI m - 1 - nI (sq_cn (am_st sz F) (am_op D F sz B) (am_en D F sz B) U (am_sS C) (am_st sz f + p) m))), .int (nI (40 * f + p)), .int (nI m), .int (nI f), .int (nI p), .int (nI (sq_cn (am_st sz F) (am_op D F sz B) (am_en D F sz B) U (am_sS C) (am_st sz f + p) m)), .int (nI (m + 1)), .int (4 * ((nI (sq_cn (am_st sz F) (am_op D F sz B) (am_en D F sz B) U (am_sS C) (am_st sz f + p) m) - 1) * nI m - 1 - nI (sq_cn (am_st sz F) (am_op D F sz B) (am_en D F sz B) U (am_sS C) (am_st sz f + p) m)))]) (st' := []) (h' := hp S2 e) (by rw [← nI_1 m, am_x1 f p]; rfl) ?_
            refine c_fb1 hP hM hop hf hpf K n0 _ _ _ m (m + 1) _ S2 (by omega) (by omega) (by omega) (fun c j hc => (h2 c j hc).trans (hfr c j hc)) (by omega) (Or.inr ⟨by omega, rfl, hft⟩) ?_
            exact sq_Bm_up hf hpf (by omega) m20 hB hft (Or.inl c212) bsv
          · refine go_s 3 rfl ?_
            refine go_if (fun c218 => ?_) (fun c218 => ?_)
            · refine go_s 2 rfl ?_
              refine go_if (fun c223 => ?_) (fun c223 => ?_)
              · refine go_s 3 rfl ?_
                refine go_if (fun c229 => ?_) (fun c229 => ?_)
                · have c212 : ¬ b < 4 * ((nI (sq_cn (am_st sz F) (am_op D F sz B) (am_en D F sz B) U (am_sS C) (am_st sz f + p) m) - 1) * nI m - 1 - nI (sq_cn (am_st sz F) (am_op D F sz B) (am_en D F sz B) U (am_sS C) (am_st sz f + p) m)) := c212
                  rw [Int32.lt_iff_toInt_lt, bsv] at c212
                  have c218 : 4 * ((nI (sq_cn (am_st sz F) (am_op D F sz B) (am_en D F sz B) U (am_sS C) (am_st sz f + p) m) - 1) * nI m - 1 - nI (sq_cn (am_st sz F) (am_op D F sz B) (am_en D F sz B) U (am_sS C) (am_st sz f + p) m)) = b := c218
                  have c223 : (0 : Int32) < 4 * ((nI (sq_cn (am_st sz F) (am_op D F sz B) (am_en D F sz B) U (am_sS C) (am_st sz f + p) m) - 1) * nI m - 1 - nI (sq_cn (am_st sz F) (am_op D F sz B) (am_en D F sz B) U (am_sS C) (am_st sz f + p) m)) := c223
                  rw [c218] at c223
                  rw [Int32.lt_iff_toInt_lt, show (0 : Int32).toInt = 0 by decide] at c223
                  have ebs : b.toInt = sq_sv (sq_cn (am_st sz F) (am_op D F sz B) (am_en D F sz B) U (am_sS C) (am_st sz f + p) m) m := by rw [← bsv, c218]
                  have c229 : nI lg < nI m := c229
                  have c229 := (nI_ltI (a := lg) (b := m) (by omega) (by omega)).mp c229
                  refine go_s 12 (pc' := 151) (ls' := [.ref 69, .int (4 * ((nI (sq_cn (am_st sz F) (am_op D F sz B) (am_en D F sz B) U (am_sS C) (am_st sz f + p) m) - 1) * nI m - 1 - nI (sq_cn (am_st sz F) (am_op D F sz B) (am_en D F sz B) U (am_sS C) (am_st sz f + p) m))), .int (nI (40 * f + p)), .int (nI m), .int (nI f), .int (nI p), .int (nI (sq_cn (am_st sz F) (am_op D F sz B) (am_en D F sz B) U (am_sS C) (am_st sz f + p) m)), .int (nI (m + 1)), .int (4 * ((nI (sq_cn (am_st sz F) (am_op D F sz B) (am_en D F sz B) U (am_sS C) (am_st sz f + p) m) - 1) * nI m - 1 - nI (sq_cn (am_st sz F) (am_op D F sz B) (am_en D F sz B) U (am_sS C) (am_st sz f + p) m)))]) (st' := []) (h' := hp S2 e) (by rw [← nI_1 m, am_x1 f p]; rfl) ?_
                  refine c_fb1 hP hM hop hf hpf K n0 _ _ _ m (m + 1) _ S2 (by omega) (by omega) (by omega) (fun c j hc => (h2 c j hc).trans (hfr c j hc)) (by omega) (Or.inr ⟨by omega, rfl, hft⟩) ?_
                  exact sq_Bm_up hf hpf (by omega) m20 hB hft (Or.inr ⟨ebs, c223, c229⟩) bsv
                · have c212 : ¬ b < 4 * ((nI (sq_cn (am_st sz F) (am_op D F sz B) (am_en D F sz B) U (am_sS C) (am_st sz f + p) m) - 1) * nI m - 1 - nI (sq_cn (am_st sz F) (am_op D F sz B) (am_en D F sz B) U (am_sS C) (am_st sz f + p) m)) := c212
                  rw [Int32.lt_iff_toInt_lt, bsv] at c212
                  have c218 : 4 * ((nI (sq_cn (am_st sz F) (am_op D F sz B) (am_en D F sz B) U (am_sS C) (am_st sz f + p) m) - 1) * nI m - 1 - nI (sq_cn (am_st sz F) (am_op D F sz B) (am_en D F sz B) U (am_sS C) (am_st sz f + p) m)) = b := c218
                  have c223 : (0 : Int32) < 4 * ((nI (sq_cn (am_st sz F) (am_op D F sz B) (am_en D F sz B) U (am_sS C) (am_st sz f + p) m) - 1) * nI m - 1 - nI (sq_cn (am_st sz F) (am_op D F sz B) (am_en D F sz B) U (am_sS C) (am_st sz f + p) m)) := c223
                  rw [c218] at c223
                  rw [Int32.lt_iff_toInt_lt, show (0 : Int32).toInt = 0 by decide] at c223
                  have ebs : b.toInt = sq_sv (sq_cn (am_st sz F) (am_op D F sz B) (am_en D F sz B) U (am_sS C) (am_st sz f + p) m) m := by rw [← bsv, c218]
                  have c229 : ¬ nI lg < nI m := c229
                  have c229 := mt (nI_lt (a := lg) (b := m) · (by omega)) c229
                  refine go_s 2 (pc' := 151) (ls' := [.ref 69, .int b, .int row, .int (nI lg), .int (nI f), .int (nI p), .int (nI (sq_cn (am_st sz F) (am_op D F sz B) (am_en D F sz B) U (am_sS C) (am_st sz f + p) m)), .int (nI (m + 1)), .int (4 * ((nI (sq_cn (am_st sz F) (am_op D F sz B) (am_en D F sz B) U (am_sS C) (am_st sz f + p) m) - 1) * nI m - 1 - nI (sq_cn (am_st sz F) (am_op D F sz B) (am_en D F sz B) U (am_sS C) (am_st sz f + p) m)))]) (st' := []) (h' := hp S2 e) (by rw [← nI_1 m]; rfl) ?_
                  refine c_fb1 hP hM hop hf hpf K n0 _ _ _ _ (m + 1) _ S2 (by omega) (by omega) (by omega) (fun c j hc => (h2 c j hc).trans (hfr c j hc)) hlg (Or.inr ⟨by omega, rfl, hft⟩) ?_
                  exact sq_Bm_sk hB c212 (fun _ _ => by omega)
              · have c212 : ¬ b < 4 * ((nI (sq_cn (am_st sz F) (am_op D F sz B) (am_en D F sz B) U (am_sS C) (am_st sz f + p) m) - 1) * nI m - 1 - nI (sq_cn (am_st sz F) (am_op D F sz B) (am_en D F sz B) U (am_sS C) (am_st sz f + p) m)) := c212
                rw [Int32.lt_iff_toInt_lt, bsv] at c212
                have c218 : 4 * ((nI (sq_cn (am_st sz F) (am_op D F sz B) (am_en D F sz B) U (am_sS C) (am_st sz f + p) m) - 1) * nI m - 1 - nI (sq_cn (am_st sz F) (am_op D F sz B) (am_en D F sz B) U (am_sS C) (am_st sz f + p) m)) = b := c218
                have c223 : ¬ (0 : Int32) < 4 * ((nI (sq_cn (am_st sz F) (am_op D F sz B) (am_en D F sz B) U (am_sS C) (am_st sz f + p) m) - 1) * nI m - 1 - nI (sq_cn (am_st sz F) (am_op D F sz B) (am_en D F sz B) U (am_sS C) (am_st sz f + p) m)) := c223
                rw [c218] at c223
                rw [Int32.lt_iff_toInt_lt, show (0 : Int32).toInt = 0 by decide] at c223
                have ebs : b.toInt = sq_sv (sq_cn (am_st sz F) (am_op D F sz B) (am_en D F sz B) U (am_sS C) (am_st sz f + p) m) m := by rw [← bsv, c218]
                refine go_s 2 (pc' := 151) (ls' := [.ref 69, .int b, .int row, .int (nI lg), .int (nI f), .int (nI p), .int (nI (sq_cn (am_st sz F) (am_op D F sz B) (am_en D F sz B) U (am_sS C) (am_st sz f + p) m)), .int (nI (m + 1)), .int (4 * ((nI (sq_cn (am_st sz F) (am_op D F sz B) (am_en D F sz B) U (am_sS C) (am_st sz f + p) m) - 1) * nI m - 1 - nI (sq_cn (am_st sz F) (am_op D F sz B) (am_en D F sz B) U (am_sS C) (am_st sz f + p) m)))]) (st' := []) (h' := hp S2 e) (by rw [← nI_1 m]; rfl) ?_
                refine c_fb1 hP hM hop hf hpf K n0 _ _ _ _ (m + 1) _ S2 (by omega) (by omega) (by omega) (fun c j hc => (h2 c j hc).trans (hfr c j hc)) hlg (Or.inr ⟨by omega, rfl, hft⟩) ?_
                exact sq_Bm_sk hB c212 (fun _ z => absurd z c223)
            · have c212 : ¬ b < 4 * ((nI (sq_cn (am_st sz F) (am_op D F sz B) (am_en D F sz B) U (am_sS C) (am_st sz f + p) m) - 1) * nI m - 1 - nI (sq_cn (am_st sz F) (am_op D F sz B) (am_en D F sz B) U (am_sS C) (am_st sz f + p) m)) := c212
              rw [Int32.lt_iff_toInt_lt, bsv] at c212
              have c218 : ¬ 4 * ((nI (sq_cn (am_st sz F) (am_op D F sz B) (am_en D F sz B) U (am_sS C) (am_st sz f + p) m) - 1) * nI m - 1 - nI (sq_cn (am_st sz F) (am_op D F sz B) (am_en D F sz B) U (am_sS C) (am_st sz f + p) m)) = b := c218
              refine go_s 2 (pc' := 151) (ls' := [.ref 69, .int b, .int row, .int (nI lg), .int (nI f), .int (nI p), .int (nI (sq_cn (am_st sz F) (am_op D F sz B) (am_en D F sz B) U (am_sS C) (am_st sz f + p) m)), .int (nI (m + 1)), .int (4 * ((nI (sq_cn (am_st sz F) (am_op D F sz B) (am_en D F sz B) U (am_sS C) (am_st sz f + p) m) - 1) * nI m - 1 - nI (sq_cn (am_st sz F) (am_op D F sz B) (am_en D F sz B) U (am_sS C) (am_st sz f + p) m)))]) (st' := []) (h' := hp S2 e) (by rw [← nI_1 m]; rfl) ?_
              refine c_fb1 hP hM hop hf hpf K n0 _ _ _ _ (m + 1) _ S2 (by omega) (by omega) (by omega) (fun c j hc => (h2 c j hc).trans (hfr c j hc)) hlg (Or.inr ⟨by omega, rfl, hft⟩) ?_
              refine sq_Bm_sk hB c212 (fun z _ => absurd ?_ c218)
              exact Int32.toInt_inj.mp (bsv.trans z.symm)
      · have c161 : ¬ (1 : Int32) < nI k := c161
        have k1 : k ≤ 1 := by have := mt (nI_lt (a := 1) (b := k) · (by omega)) c161; omega
        obtain ⟨hm2, hk2, hk3⟩ := hk.resolve_left (fun z => by omega)
        refine K _ _ _ _ _ _ _ hfr (sq_Bm_A hB (fun n t z1 z2 ha => ?_) (fun n t ha hf2 => ?_))
        · rcases ha with z | z
          · exact Or.inl ⟨z1, z2, by omega⟩
          · exact Or.inl ⟨z1, z2, by omega⟩
        · rcases ha with z | z
          · by_cases et : t < (am_st sz f + p)
            · exact Or.inl (Or.inl ⟨z.1, z.2.1, et⟩)
            · have et : t = (am_st sz f + p) := by omega
              rw [et] at hf2 ⊢
              by_cases em : n < m
              · exact Or.inl (Or.inr ⟨rfl, z.1, em⟩)
              · right
                apply Nat.le_of_not_lt
                intro y
                have := sq_cn_mo (m := m - 1) (show 1 ≤ m - 1 by omega) (show m - 1 ≤ n by omega) y
                omega
          · omega
theorem c_fb2 {C D S : Nat → Nat → Int32} {F : Nat} {sz : Nat → Nat} {B U : Nat → Prop} {e : am_E} {Q : am_Q} (hP : am_PG C D F sz) (hM : am_SM S D F sz B U) (hop : ∀ f, f < F → ¬ am_Op D sz f) {f kc ks : Nat} (hf : f < F) (K : ∀ S' b row lg x5 x6 x7 x8, (∀ c j, c ≠ 92 → S' c j = S c j) → lg ≤ 20 → sq_Bm (am_st sz F) (am_op D F sz B) (am_en D F sz B) U (am_sS C) F sz b row lg (sq_Am (am_st sz f + sz f) 2) → am_Go (mX12_findRoutine, 259, [.ref 69, .int b, .int row, .int (nI lg), .int (nI f), x5, x6, x7, x8], [], hp S' e, kc, ks, Q)) : ∀ (n p : Nat) (b row : Int32) (lg : Nat) (x6 x7 x8 : Value) (S' : Nat → Nat → Int32), sz f < n + p → p ≤ sz f → (∀ c j, c ≠ 92 → S' c j = S c j) → lg ≤ 20 → sq_Bm (am_st sz F) (am_op D F sz B) (am_en D F sz B) U (am_sS C) F sz b row lg (sq_Am (am_st sz f + p) 2) → am_Go (mX12_findRoutine, 133, [.ref 69, .int b, .int row, .int (nI lg), .int (nI f), .int (nI p), x6, x7, x8], [], hp S' e, kc, ks, Q)
  | 0, p, b, row, lg, x6, x7, x8, S', g1, g2, hfr, hlg, hB => by omega
  | n + 1, p, b, row, lg, x6, x7, x8, S', g1, g2, hfr, hlg, hB => by
    have hF := hP.hF
    have h40 := hP.s40 f hf
    have e70 : S' 70 (nI f).toNatClampNeg = nI (sz f) := by rw [nI_clamp (by omega), hfr 70 f (by decide), hM.ms.me 70 f (by decide) (by decide)]; exact hP.m70 f hf
    refine go_s 4 rfl ?_
    refine go_m rfl rfl (show vp_in (nI f) 24 from vp_in_nI (by omega) (by decide)) ?_
    refine go_s 1 rfl ?_
    refine go_if (fun c142 => ?_) (fun c142 => ?_)
    · have c142 : nI p < S' 70 (nI f).toNatClampNeg := c142
      rw [e70] at c142
      have hpf := (nI_ltI (a := p) (b := sz f) (by omega) (by omega)).mp c142
      refine go_s 4 (pc' := 151) (ls' := [.ref 69, .int b, .int row, .int (nI lg), .int (nI f), .int (nI p), .int (nI 2), .int (nI 2), x8]) (st' := []) (h' := hp S' e) rfl ?_
      refine c_fb1 hP hM hop hf hpf (fun S2 b2 row2 lg2 y6 y7 y8 h2 hB2 => ?_) 22 _ _ 2 _ 2 _ S' (by omega) (by omega) (by omega) hfr hlg (Or.inl ⟨rfl, rfl⟩) hB
      have hlg2 : lg2 ≤ 20 := by
        rcases hB2 with z | ⟨_, _, _, _, _, _, z, _⟩
        · omega
        · exact z
      refine go_s 2 (pc' := 133) (ls' := [.ref 69, .int b2, .int row2, .int (nI lg2), .int (nI f), .int (nI (p + 1)), y6, y7, y8]) (st' := []) (h' := hp S2 e) (by rw [← nI_1 p]; rfl) ?_
      exact c_fb2 hP hM hop hf K n (p + 1) _ _ _ _ _ _ S2 (by omega) (by omega) h2 hlg2 hB2
    · have c142 : ¬ nI p < S' 70 (nI f).toNatClampNeg := c142
      rw [e70] at c142
      have hge := mt (nI_lt (a := p) (b := sz f) · (by omega)) c142
      have ep : p = sz f := by omega
      rw [ep] at hB
      exact K _ _ _ _ _ _ _ _ hfr hlg hB
theorem c_fb3 {C D S : Nat → Nat → Int32} {F : Nat} {sz : Nat → Nat} {B U : Nat → Prop} {e : am_E} {Q : am_Q} (hP : am_PG C D F sz) (hM : am_SM S D F sz B U) (hop : ∀ f, f < F → ¬ am_Op D sz f) {kc ks : Nat} (K : ∀ S' b row lg x4 x5 x6 x7 x8, (∀ c j, c ≠ 92 → S' c j = S c j) → lg ≤ 20 → sq_Bm (am_st sz F) (am_op D F sz B) (am_en D F sz B) U (am_sS C) F sz b row lg (sq_Am (am_st sz F) 2) → am_Go (mX12_findRoutine, 265, [.ref 69, .int b, .int row, .int (nI lg), x4, x5, x6, x7, x8], [], hp S' e, kc, ks, Q)) : ∀ (n f : Nat) (b row : Int32) (lg : Nat) (x5 x6 x7 x8 : Value) (S' : Nat → Nat → Int32), F < n + f → f ≤ F → (∀ c j, c ≠ 92 → S' c j = S c j) → lg ≤ 20 → sq_Bm (am_st sz F) (am_op D F sz B) (am_en D F sz B) U (am_sS C) F sz b row lg (sq_Am (am_st sz f) 2) → am_Go (mX12_findRoutine, 121, [.ref 69, .int b, .int row, .int (nI lg), .int (nI f), x5, x6, x7, x8], [], hp S' e, kc, ks, Q)
  | 0, f, b, row, lg, x5, x6, x7, x8, S', g1, g2, hfr, hlg, hB => by omega
  | n + 1, f, b, row, lg, x5, x6, x7, x8, S', g1, g2, hfr, hlg, hB => by
    have hF := hP.hF
    refine go_s 4 rfl ?_
    refine go_if (fun c127 => ?_) (fun c127 => ?_)
    · have c127 : nI f < S' 69 1 := c127
      rw [hfr 69 1 (by decide), hM.ms.m1, hP.m1] at c127
      have hf : f < F := (nI_ltI (by omega) (by omega)).mp c127
      refine go_s 2 (pc' := 133) (ls' := [.ref 69, .int b, .int row, .int (nI lg), .int (nI f), .int (nI 0), x6, x7, x8]) (st' := []) (h' := hp S' e) rfl ?_
      refine c_fb2 hP hM hop hf (fun S2 b2 row2 lg2 y5 y6 y7 y8 h2 hlg2 hB2 => ?_) (sz f + 1) 0 _ _ _ _ _ _ S' (by omega) (by omega) hfr hlg hB
      refine go_s 2 (pc' := 121) (ls' := [.ref 69, .int b2, .int row2, .int (nI lg2), .int (nI (f + 1)), y5, y6, y7, y8]) (st' := []) (h' := hp S2 e) (by rw [← nI_1 f]; rfl) ?_
      exact c_fb3 hP hM hop K n (f + 1) _ _ _ _ _ _ _ S2 (by omega) (by omega) h2 hlg2 hB2
    · have c127 : ¬ nI f < S' 69 1 := c127
      rw [hfr 69 1 (by decide), hM.ms.m1, hP.m1] at c127
      have hge := mt (nI_lt (a := f) (b := F) · (by omega)) c127
      have ef : f = F := by omega
      rw [ef] at hB
      exact K _ _ _ _ _ _ _ _ _ hfr hlg hB
