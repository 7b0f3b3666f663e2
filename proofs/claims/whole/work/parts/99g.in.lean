/-! what holds between two calls, and what a pair of calls must do -/
def in_B (X : Nat → Nat → Int32) (F : Nat) (sz : Nat → Nat) (m : Nat) : Prop := (am_PG X X F sz) ∧ (am_IM X) ∧ (am_MI X) ∧ (am_MT X) ∧ (X 7 5 = X 1 7 → ∃ i, am_FR X X F sz i) ∧ (X 1 7 = nI m) ∧ (X 7 5 = -1 ∨ ∃ k, k ≤ m ∧ X 7 5 = nI k) ∧ (∃ w, w ≤ 600 ∧ X 69 12 = nI w)
theorem in_B.pg {X : Nat → Nat → Int32} {F : Nat} {sz : Nat → Nat} {m : Nat} (h : in_B X F sz m) : am_PG X X F sz := h.1
theorem in_B.im {X : Nat → Nat → Int32} {F : Nat} {sz : Nat → Nat} {m : Nat} (h : in_B X F sz m) : am_IM X := h.2.1
theorem in_B.mi {X : Nat → Nat → Int32} {F : Nat} {sz : Nat → Nat} {m : Nat} (h : in_B X F sz m) : am_MI X := h.2.2.1
theorem in_B.mt {X : Nat → Nat → Int32} {F : Nat} {sz : Nat → Nat} {m : Nat} (h : in_B X F sz m) : am_MT X := h.2.2.2.1
theorem in_B.fc {X : Nat → Nat → Int32} {F : Nat} {sz : Nat → Nat} {m : Nat} (h : in_B X F sz m) : X 7 5 = X 1 7 → ∃ i, am_FR X X F sz i := h.2.2.2.2.1
theorem in_B.ch {X : Nat → Nat → Int32} {F : Nat} {sz : Nat → Nat} {m : Nat} (h : in_B X F sz m) : X 1 7 = nI m := h.2.2.2.2.2.1
theorem in_B.sn {X : Nat → Nat → Int32} {F : Nat} {sz : Nat → Nat} {m : Nat} (h : in_B X F sz m) : X 7 5 = -1 ∨ ∃ k, k ≤ m ∧ X 7 5 = nI k := h.2.2.2.2.2.2.1
theorem in_B.wd {X : Nat → Nat → Int32} {F : Nat} {sz : Nat → Nat} {m : Nat} (h : in_B X F sz m) : ∃ w, w ≤ 600 ∧ X 69 12 = nI w := h.2.2.2.2.2.2.2
def in_A (X : Nat → Nat → Int32) (n : Nat) : Prop := ∃ F sz m, m ≤ n ∧ in_B X F sz m
theorem in_A.s {X : Nat → Nat → Int32} {n : Nat} (h : in_A X n) : in_A X (n + 1) := by
  obtain ⟨F, sz, m, h1, h2⟩ := h
  exact ⟨F, sz, m, by omega, h2⟩
def md (M : am_M) (as : List Value) (v : Int32) (X : Nat → Nat → Int32) (e : am_E) (n : Nat) : Prop := ∀ (Q' : am_Q), (∀ X' e', in_A X' n → 109 ≤ e'.2.1 → e'.2.2 = e.2.2 → Q' (some (.int v)) (hp X' e')) → am_Go (M, 0, am_ent M (.ref 69 :: as), [], hp X e, (am_rm M).cells, (am_rm M).slots, Q')
theorem am_w01 {w : Int32} (w0 : ¬ w = 0) (w1 : ¬ w = 1) : zb (¬ w < 0 ∧ ¬ 1 < w) = 0 := by
  rw [zb_0]
  rintro ⟨h1, h2⟩
  obtain ⟨k, hk, rfl⟩ := nI_of h1
  have := mt (nI_lt (a := 1) (b := k) · hk) h2
  have hc : k = 0 ∨ k = 1 := by omega
  rcases hc with rfl | rfl
  · exact w0 rfl
  · exact w1 rfl
theorem am_pm {n : Nat} (hn : n < 2 ^ 31) (i : Int32) : ¬ nI n - 1 < i ↔ i < nI n := by
  have e : (nI n - 1).toInt = (n : Int) - 1 := by
    rcases n with _ | n
    · decide
    · rw [nI_pred, nI_toInt (by omega)]
      omega
  rw [Int32.lt_iff_toInt_lt, Int32.lt_iff_toInt_lt, e, nI_toInt hn]
  omega
theorem am_31 {k : Int32} {m : Nat} (hm : m < 1000) : (¬ k < 0 ∧ ¬ nI m < k) ↔ ∃ j, j ≤ m ∧ k = nI j := by
  constructor
  · rintro ⟨h1, h2⟩
    obtain ⟨j, hj, rfl⟩ := nI_of h1
    exact ⟨j, by have := mt (nI_lt (a := m) (b := j) · hj) h2; omega, rfl⟩
  · rintro ⟨j, hj, rfl⟩
    exact ⟨nI_pos (by omega), nI_nlt hj (by omega)⟩
theorem am_32 {k : Int32} {m : Nat} (hm : m < 1000) : (¬ k < 0 ∧ k < nI m) ↔ ∃ j, j < m ∧ k = nI j := by
  constructor
  · rintro ⟨h1, h2⟩
    obtain ⟨j, hj, rfl⟩ := nI_of h1
    exact ⟨j, (nI_ltI hj (by omega)).mp h2, rfl⟩
  · rintro ⟨j, hj, rfl⟩
    exact ⟨nI_pos (by omega), nI_lt hj (by omega)⟩
theorem am_33 {k : Int32} {m : Nat} (hm : m < 1000) : (0 ≤ k ∧ k < nI m) ↔ ∃ j, j < m ∧ k = nI j := by
  rw [← am_32 hm, Int32.not_lt]
theorem am_34 {k y : Int32} {m : Nat} (hm : m < 1000) (hy : y = nI m) : (0 ≤ k ∧ k < y) ↔ ∃ j, j < m ∧ k = nI j := by
  rw [hy]; exact am_33 hm
theorem am_35 {k y : Int32} {m : Nat} (hm : m < 1000) (hy : y = nI m) : (¬ k < 0 ∧ ¬ y - 1 < k) ↔ ∃ j, j < m ∧ k = nI j := by
  rw [hy, am_pm (by omega)]; exact am_32 hm
/-- printed, register, memory, ran -/
theorem pr_0 {X : Nat → Nat → Int32} (h : am_MT X) (i : Int32) : (if ¬ zb (¬ X 93 0 = -1) = 0 ∧ ¬ i < 0 ∧ i < 200 ∧ i < X 95 0 then X 99 i.toNatClampNeg else 0) = (if ¬ i < 0 ∧ i < X 59 4 ∧ i < 200 then X 60 i.toNatClampNeg else 0) := by
  obtain ⟨h1, hR⟩ := h
  rcases h1 with ⟨a1, a2, a3, _⟩ | ⟨a1, a2, _⟩
  · rw [if_neg (fun z => z.1 (zb_0.mpr (fun y => y a2))), if_neg (fun z => z.1 (by have := z.2.1; rw [a3] at this; exact this))]
  · have e4 : X 59 4 = X 95 0 := hR.2.2.2.2.2.1
    by_cases c : ¬ i < 0 ∧ i < X 59 4 ∧ i < 200
    · rw [if_pos ⟨zb_ne.mpr a2, c.1, c.2.2, by rw [← e4]; exact c.2.1⟩, if_pos c]
      obtain ⟨k, hk, rfl⟩ := (am_32 (m := 200) (by decide)).mp ⟨c.1, c.2.2⟩
      rw [nI_clamp (by omega)]
      exact (hR.2.2.2.2.1 k hk).symm
    · rw [if_neg (fun z => c ⟨z.2.1, by rw [e4]; exact z.2.2.2, z.2.2.1⟩), if_neg c]
theorem pr_1 {X : Nat → Nat → Int32} (h : am_MI X) (i : Int32) : (if ¬ zb (¬ X 93 1 = -1) = 0 ∧ ¬ i < 0 ∧ i < 200 ∧ i < X 95 1 then X 100 i.toNatClampNeg else 0) = (if ¬ i < 0 ∧ i < X 65 4 ∧ i < 200 then X 66 i.toNatClampNeg else 0) := by
  obtain ⟨h1, hR⟩ := h
  rcases h1 with ⟨a1, a2, a3, _⟩ | ⟨a1, a2, _⟩
  · rw [if_neg (fun z => z.1 (zb_0.mpr (fun y => y a2))), if_neg (fun z => z.1 (by have := z.2.1; rw [a3] at this; exact this))]
  · have e4 : X 65 4 = X 95 1 := hR.2.2.2
    by_cases c : ¬ i < 0 ∧ i < X 65 4 ∧ i < 200
    · rw [if_pos ⟨zb_ne.mpr a2, c.1, c.2.2, by rw [← e4]; exact c.2.1⟩, if_pos c]
      obtain ⟨k, hk, rfl⟩ := (am_32 (m := 200) (by decide)).mp ⟨c.1, c.2.2⟩
      rw [nI_clamp (by omega)]
      exact (hR.2.2.1 k hk).symm
    · rw [if_neg (fun z => c ⟨z.2.1, by rw [e4]; exact z.2.2.2, z.2.2.1⟩), if_neg c]
theorem rg_0 {X : Nat → Nat → Int32} (h : am_MT X) (k : Int32) : (if ¬ zb (¬ X 93 0 = -1) = 0 ∧ ¬ zb (¬ k < 0 ∧ ¬ 31 < k) = 0 ∧ X 107 k.toNatClampNeg = 0 then X 102 k.toNatClampNeg else 0) = (if am_srt X k = 0 then am_val X k else 0) := by
  obtain ⟨h1, hR⟩ := h
  by_cases c : ¬ k < 0 ∧ k < 32
  · obtain ⟨j, hj, rfl⟩ := (am_32 (m := 32) (by decide)).mp c
    have c31 : ¬ nI j < 0 ∧ ¬ (31 : Int32) < nI j := (am_31 (m := 31) (by decide)).mpr ⟨j, by omega, rfl⟩
    unfold am_srt am_val
    rw [if_pos c, if_pos c, nI_clamp (by omega), hR.1 j hj]
    rcases h1 with ⟨a1, a2, a3, a4, _⟩ | ⟨a1, a2, _⟩
    · rw [if_neg (fun z => z.1 (zb_0.mpr (fun y => y a2))), a4 j hj, ite_self]
    · by_cases c2 : X 107 j = 0
      · rw [if_pos ⟨zb_ne.mpr a2, zb_ne.mpr c31, c2⟩, if_pos c2]; exact (hR.2.1 j hj).symm
      · rw [if_neg (fun z => c2 z.2.2), if_neg c2]
  · unfold am_srt am_val
    rw [if_neg c, if_neg c, if_pos rfl, if_neg]
    intro z
    obtain ⟨j, hj, e⟩ := (am_31 (m := 31) (by decide)).mp (zb_ne.mp z.2.1)
    exact c (by rw [e]; exact (am_32 (m := 32) (by decide)).mpr ⟨j, by omega, rfl⟩)
theorem rg_1 {X : Nat → Nat → Int32} (h : am_MI X) (k : Int32) : (if ¬ zb (¬ X 93 1 = -1) = 0 ∧ ¬ zb (¬ k < 0 ∧ ¬ 31 < k) = 0 then X 103 k.toNatClampNeg else 0) = (if 0 ≤ k ∧ k < 32 then X 67 k.toNatClampNeg else 0) := by
  obtain ⟨h1, hR⟩ := h
  by_cases c : 0 ≤ k ∧ k < 32
  · obtain ⟨j, hj, rfl⟩ := (am_33 (m := 32) (by decide)).mp c
    have c31 : ¬ nI j < 0 ∧ ¬ (31 : Int32) < nI j := (am_31 (m := 31) (by decide)).mpr ⟨j, by omega, rfl⟩
    rw [if_pos c, nI_clamp (by omega)]
    rcases h1 with ⟨a1, a2, a3, a4, _⟩ | ⟨a1, a2, _⟩
    · rw [if_neg (fun z => z.1 (zb_0.mpr (fun y => y a2))), a4 j hj]
    · rw [if_pos ⟨zb_ne.mpr a2, zb_ne.mpr c31⟩]; exact (hR.1 j hj).symm
  · rw [if_neg c, if_neg]
    intro z
    obtain ⟨j, hj, e⟩ := (am_31 (m := 31) (by decide)).mp (zb_ne.mp z.2)
    exact c (by rw [e]; exact (am_33 (m := 32) (by decide)).mpr ⟨j, by omega, rfl⟩)
theorem me_0 {X : Nat → Nat → Int32} (h : am_MT X) (k : Int32) : (if ¬ zb (¬ X 93 0 = -1) = 0 ∧ ¬ zb (¬ k < 0 ∧ ¬ 63 < k) = 0 ∧ X 108 k.toNatClampNeg = 0 then X 105 k.toNatClampNeg else 0) = (if (0 ≤ k ∧ k < 64) ∧ X 63 k.toNatClampNeg = 0 then X 64 k.toNatClampNeg else 0) := by
  obtain ⟨h1, hR⟩ := h
  by_cases c : 0 ≤ k ∧ k < 64
  · obtain ⟨j, hj, rfl⟩ := (am_33 (m := 64) (by decide)).mp c
    have c31 : ¬ nI j < 0 ∧ ¬ (63 : Int32) < nI j := (am_31 (m := 63) (by decide)).mpr ⟨j, by omega, rfl⟩
    rw [nI_clamp (by omega), hR.2.2.1 j hj]
    rcases h1 with ⟨a1, a2, a3, _, a4⟩ | ⟨a1, a2, _⟩
    · rw [if_neg (fun z => z.1 (zb_0.mpr (fun y => y a2))), a4 j hj, ite_self]
    · by_cases c2 : X 108 j = 0
      · rw [if_pos ⟨zb_ne.mpr a2, zb_ne.mpr c31, c2⟩, if_pos ⟨c, c2⟩]; exact (hR.2.2.2.1 j hj).symm
      · rw [if_neg (fun z => c2 z.2.2), if_neg (fun z => c2 z.2)]
  · rw [if_neg (show ¬ ((0 ≤ k ∧ k < 64) ∧ X 63 k.toNatClampNeg = 0) from fun z => c z.1), if_neg]
    intro z
    obtain ⟨j, hj, e⟩ := (am_31 (m := 63) (by decide)).mp (zb_ne.mp z.2.1)
    exact c (by rw [e]; exact (am_33 (m := 64) (by decide)).mpr ⟨j, by omega, rfl⟩)
theorem me_1 {X : Nat → Nat → Int32} (h : am_MI X) (k : Int32) : (if ¬ zb (¬ X 93 1 = -1) = 0 ∧ ¬ zb (¬ k < 0 ∧ ¬ 63 < k) = 0 then X 106 k.toNatClampNeg else 0) = (if 0 ≤ k ∧ k < 64 then X 68 k.toNatClampNeg else 0) := by
  obtain ⟨h1, hR⟩ := h
  by_cases c : 0 ≤ k ∧ k < 64
  · obtain ⟨j, hj, rfl⟩ := (am_33 (m := 64) (by decide)).mp c
    have c31 : ¬ nI j < 0 ∧ ¬ (63 : Int32) < nI j := (am_31 (m := 63) (by decide)).mpr ⟨j, by omega, rfl⟩
    rw [if_pos c, nI_clamp (by omega)]
    rcases h1 with ⟨a1, a2, a3, _, a4⟩ | ⟨a1, a2, _⟩
    · rw [if_neg (fun z => z.1 (zb_0.mpr (fun y => y a2))), a4 j hj]
    · rw [if_pos ⟨zb_ne.mpr a2, zb_ne.mpr c31⟩]; exact (hR.2.1 j hj).symm
  · rw [if_neg c, if_neg]
    intro z
    obtain ⟨j, hj, e⟩ := (am_31 (m := 63) (by decide)).mp (zb_ne.mp z.2)
    exact c (by rw [e]; exact (am_33 (m := 64) (by decide)).mpr ⟨j, by omega, rfl⟩)
theorem rn_0 {X : Nat → Nat → Int32} (h : am_MT X) (v : Int32) : (if zb (¬ X 93 0 = -1) = 0 then -1 else if v = 0 then X 93 0 else if v = 1 then X 94 0 else if v = 2 then X 95 0 else if v = 3 then X 96 0 else if v = 4 then X 97 0 else -1) = (if X 59 1 = 0 then -1 else if v = 0 then X 59 2 else if v = 1 then X 59 3 else if v = 2 then X 59 4 else if v = 3 then (if X 59 2 = 0 then -1 else X 59 10) else if v = 4 then (if X 59 2 = 0 then -1 else X 59 11) else -1) := by
  obtain ⟨h1, hR⟩ := h
  rcases h1 with ⟨a1, a2, _⟩ | ⟨a1, a2, a3, a4, a5⟩
  · rw [if_pos (zb_0.mpr (fun y => y a2)), if_pos a1]
  · have e4 : X 59 4 = X 95 0 := hR.2.2.2.2.2.1
    rw [if_neg (zb_ne.mpr a2), if_neg (show ¬ X 59 1 = 0 by rw [a1]; decide), a3, a4, e4]
    by_cases c : X 59 2 = 0
    · rw [if_pos c] at a5
      rw [if_pos c, if_pos c, a5.1, a5.2]
    · rw [if_neg c] at a5
      rw [if_neg c, if_neg c, a5.1, a5.2]
theorem rn_1 {X : Nat → Nat → Int32} (h : am_MI X) (v : Int32) : (if zb (¬ X 93 1 = -1) = 0 then -1 else if v = 0 then X 93 1 else if v = 1 then X 94 1 else if v = 2 then X 95 1 else if v = 3 then X 96 1 else if v = 4 then -1 else -1) = (if X 65 1 = 0 then -1 else if v = 0 then X 65 2 else if v = 1 then X 65 3 else if v = 2 then X 65 4 else if v = 3 then (X 65 8) else if v = 4 then (-1) else -1) := by
  obtain ⟨h1, hR⟩ := h
  rcases h1 with ⟨a1, a2, _⟩ | ⟨a1, a2, a3, a4, a5⟩
  · rw [if_pos (zb_0.mpr (fun y => y a2)), if_pos a1]
  · have e4 : X 65 4 = X 95 1 := hR.2.2.2
    rw [if_neg (zb_ne.mpr a2), if_neg (show ¬ X 65 1 = 0 by rw [a1]; decide), a3, a4, a5, e4]
section PRD
variable {X : Nat → Nat → Int32} {e : am_E} {Q : am_Q} {kc ks n : Nat} {w k : Int32}
theorem p_printed (hA : in_A X n) (hw : 109 ≤ e.2.1) (K : ∀ v X', md mX12_printed [.int w, .int k] v X' e (n + 1) → Q (some (.int v)) (hp X' e)) : am_Go (mX11_printed, 0, am_ent mX11_printed [.ref 0, .int w, .int k], [], hp X e, kc, ks, Q) := by
  have hA2 := hA.s
  obtain ⟨F, sz, m, hm, hB⟩ := hA
  by_cases w0 : w = 0
  · subst w0
    exact c_X11_printed_59 (K _ X (fun Q' q' => c_X12_printed_0 (am_qi (q' X e hA2 hw rfl) (pr_0 hB.mt k) rfl)))
  by_cases w1 : w = 1
  · subst w1
    exact c_X11_printed_65 (K _ X (fun Q' q' => c_X12_printed_1 (am_qi (q' X e hA2 hw rfl) (pr_1 hB.mi k) rfl)))
  · exact c_X11_printed_x w0 w1 (K _ X (fun Q' q' => c_X12_printed_x (am_w01 w0 w1) (q' X e hA2 hw rfl)))
theorem p_register (hA : in_A X n) (hw : 109 ≤ e.2.1) (K : ∀ v X', md mX12_register [.int w, .int k] v X' e (n + 1) → Q (some (.int v)) (hp X' e)) : am_Go (mX11_register, 0, am_ent mX11_register [.ref 0, .int w, .int k], [], hp X e, kc, ks, Q) := by
  have hA2 := hA.s
  obtain ⟨F, sz, m, hm, hB⟩ := hA
  by_cases w0 : w = 0
  · subst w0
    exact c_X11_register_59 (K _ X (fun Q' q' => c_X12_register_0 (am_qi (q' X e hA2 hw rfl) (rg_0 hB.mt k) rfl)))
  by_cases w1 : w = 1
  · subst w1
    exact c_X11_register_65 (K _ X (fun Q' q' => c_X12_register_1 (am_qi (q' X e hA2 hw rfl) (rg_1 hB.mi k) rfl)))
  · exact c_X11_register_x w0 w1 (K _ X (fun Q' q' => c_X12_register_x (am_w01 w0 w1) (q' X e hA2 hw rfl)))
theorem p_memory (hA : in_A X n) (hw : 109 ≤ e.2.1) (K : ∀ v X', md mX12_memory [.int w, .int k] v X' e (n + 1) → Q (some (.int v)) (hp X' e)) : am_Go (mX11_memory, 0, am_ent mX11_memory [.ref 0, .int w, .int k], [], hp X e, kc, ks, Q) := by
  have hA2 := hA.s
  obtain ⟨F, sz, m, hm, hB⟩ := hA
  by_cases w0 : w = 0
  · subst w0
    exact c_X11_memory_59 (K _ X (fun Q' q' => c_X12_memory_0 (am_qi (q' X e hA2 hw rfl) (me_0 hB.mt k) rfl)))
  by_cases w1 : w = 1
  · subst w1
    exact c_X11_memory_65 (K _ X (fun Q' q' => c_X12_memory_1 (am_qi (q' X e hA2 hw rfl) (me_1 hB.mi k) rfl)))
  · exact c_X11_memory_x w0 w1 (K _ X (fun Q' q' => c_X12_memory_x (am_w01 w0 w1) (q' X e hA2 hw rfl)))
theorem p_ran (hA : in_A X n) (hw : 109 ≤ e.2.1) (K : ∀ v X', md mX12_ran [.int w, .int k] v X' e (n + 1) → Q (some (.int v)) (hp X' e)) : am_Go (mX11_ran, 0, am_ent mX11_ran [.ref 0, .int w, .int k], [], hp X e, kc, ks, Q) := by
  have hA2 := hA.s
  obtain ⟨F, sz, m, hm, hB⟩ := hA
  by_cases w0 : w = 0
  · subst w0
    exact c_X11_ran_59 (hB.mt.1.imp (fun z => z.1) (fun z => z.1)) (K _ X (fun Q' q' => c_X12_ran_0 (am_qi (q' X e hA2 hw rfl) (rn_0 hB.mt k) rfl)))
  by_cases w1 : w = 1
  · subst w1
    exact c_X11_ran_65 (hB.mi.1.imp (fun z => z.1) (fun z => z.1)) (K _ X (fun Q' q' => c_X12_ran_1 (am_qi (q' X e hA2 hw rfl) (rn_1 hB.mi k) rfl)))
  · exact c_X11_ran_x w0 w1 (K _ X (fun Q' q' => c_X12_ran_x (am_w01 w0 w1) (q' X e hA2 hw rfl)))
theorem p_word (hA : in_A X n) (hw : 109 ≤ e.2.1) (K : ∀ v X', md mX12_word [.int k] v X' e (n + 1) → Q (some (.int v)) (hp X' e)) : am_Go (mX11_word, 0, am_ent mX11_word [.ref 0, .int k], [], hp X e, kc, ks, Q) := by
  have hA2 := hA.s
  obtain ⟨F, sz, m, hm, hB⟩ := hA
  obtain ⟨wd, hwd, ewd⟩ := hB.wd
  have hv : ¬ k < 0 ∧ ¬ X 69 12 - 1 < k → vp_in k 1000 := fun z => by
    obtain ⟨j, hj, e⟩ := (am_35 (by omega) ewd).mp z
    rw [e]; exact vp_in_nI (by omega) (by decide)
  rcases hB.im with ⟨i1, i2, i3, i4, i5⟩ | ⟨W, G, R, O, hG⟩
  · refine c_X11_word (by rw [i2]; decide) (K _ X (fun Q' q' => c_X12_word hv (am_qi (q' X e hA2 hw rfl) ?_ rfl)))
    unfold am_wda
    rw [if_neg (fun z => z.1 i1), if_neg (fun z => z.1 (by have := z.2; rw [i2] at this; exact this))]
  · obtain ⟨w1, w2, w3, w4, w5⟩ := hG.wi
    refine c_X11_word (am_wl w2 w1 (by decide)) (K _ X (fun Q' q' => c_X12_word hv (am_qi (q' X e hA2 hw rfl) ?_ rfl)))
    unfold am_wda
    by_cases c : ¬ k < 0 ∧ k < X 11 3
    · rw [if_pos c]
      rw [w2] at c
      obtain ⟨j, hj, rfl⟩ := (am_32 (m := W) (by omega)).mp c
      rw [if_pos ⟨by rw [hG.hi]; decide, (am_35 (m := W) (by omega) w3).mpr ⟨j, hj, rfl⟩⟩, nI_clamp (by omega)]
      exact (w4 j hj).symm
    · rw [if_neg c, if_neg]
      intro z
      obtain ⟨j, hj, e⟩ := (am_35 (m := W) (by omega) w3).mp z.2
      exact c (by rw [w2, e]; exact (am_32 (m := W) (by omega)).mpr ⟨j, hj, rfl⟩)
end PRD
