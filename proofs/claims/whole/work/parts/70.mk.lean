def am_n1 (D : Nat → Nat → Int32) (x : Nat) : Prop := (am_kA (D 71 x) = 1 ∧ D 72 x = 1) ∨ (am_kB (D 71 x) = 1 ∧ D 73 x = 1) ∨ (am_kC (D 71 x) = 1 ∧ D 74 x = 1)
def am_mw (D : Nat → Nat → Int32) (x : Nat) : Prop := (¬ 21 < D 71 x ∨ D 71 x = 34) ∧ ¬ am_n1 D x
def am_te (D : Nat → Nat → Int32) (x q : Nat) : Prop := ((¬ D 71 x < 22 ∧ ¬ 27 < D 71 x) ∧ D 74 x = nI q) ∨ (D 71 x = 28 ∧ D 72 x = nI q)
def am_Po (D : Nat → Nat → Int32) (sz : Nat → Nat) (B : Nat → Prop) (s : Nat) : Nat → Nat → Prop := fun g r => s = am_st sz g + r ∧ B g ∧ am_mw D (40 * g + r)
def am_Pe (D : Nat → Nat → Int32) (sz : Nat → Nat) (B : Nat → Prop) (s : Nat) : Nat → Nat → Prop := fun g r => B g ∧ ∃ q, q < sz g ∧ s = am_st sz g + q ∧ am_te D (40 * g + r) q
def am_op (D : Nat → Nat → Int32) (F : Nat) (sz : Nat → Nat) (B : Nat → Prop) (s : Nat) : Prop := am_bf sz (am_Po D sz B s) F 0
def am_en (D : Nat → Nat → Int32) (F : Nat) (sz : Nat → Nat) (B : Nat → Prop) (s : Nat) : Prop := am_bf sz (am_Pe D sz B s) F 0
theorem am_k1 {k v : Int32} : (k = 1 ∧ am_kpt k v = 1) ↔ (k = 1 ∧ v = 1) := by
  constructor
  · rintro ⟨h1, h2⟩; subst h1; exact ⟨rfl, h2⟩
  · rintro ⟨h1, h2⟩; subst h1; exact ⟨rfl, h2⟩
theorem am_PG.n1 {C D : Nat → Nat → Int32} {F : Nat} {sz : Nat → Nat} (h : am_PG C D F sz) {f p : Nat} (hf : f < F) (hp : p < sz f) : ((am_kA (am_num C (nI (am_st sz f + p))) = 1 ∧ am_fa C (nI (am_st sz f + p)) = 1) ∨ (am_kB (am_num C (nI (am_st sz f + p))) = 1 ∧ am_fb C (nI (am_st sz f + p)) = 1) ∨ (am_kC (am_num C (nI (am_st sz f + p))) = 1 ∧ am_fc C (nI (am_st sz f + p)) = 1)) ↔ am_n1 D (40 * f + p) := by
  rw [h.num hf hp, h.fa hf hp, h.fb hf hp, h.fc hf hp, am_k1, am_k1, am_k1]
  exact Iff.rfl
theorem am_PG.mir {C D : Nat → Nat → Int32} {F : Nat} {sz : Nat → Nat} (h : am_PG C D F sz) {f p : Nat} (hf : f < F) (hp : p < sz f) : ((¬ am_num C (nI (am_st sz f + p)) < 0 ∧ ¬ 21 < am_num C (nI (am_st sz f + p))) ∨ am_num C (nI (am_st sz f + p)) = 34) ↔ (¬ 21 < D 71 (40 * f + p) ∨ D 71 (40 * f + p) = 34) := by
  rw [h.num hf hp]
  obtain ⟨k, hk, e⟩ := am_gd_n (h.gd hf hp)
  rw [e]
  exact ⟨fun z => z.imp (fun z => z.2) id, fun z => z.imp (fun z => ⟨nI_pos (by omega), z⟩) id⟩
theorem am_PG.te {C D : Nat → Nat → Int32} {F : Nat} {sz : Nat → Nat} (h : am_PG C D F sz) {f p q : Nat} (hf : f < F) (hp : p < sz f) (hq : q < 2 ^ 31) : am_pto C (nI (am_st sz f + p)) = nI q ↔ am_te D (40 * f + p) q := by
  unfold am_pto am_te
  rw [h.num hf hp, h.fa hf hp, h.fc hf hp]
  have nn : ¬ (-1 : Int32) = nI q := fun z => nI_pos hq (by rw [← z]; decide)
  by_cases h1 : ¬ D 71 (40 * f + p) < 22 ∧ ¬ 27 < D 71 (40 * f + p)
  · rw [if_pos h1, am_kC_br h1]
    refine ⟨fun z => Or.inl ⟨h1, z⟩, fun z => ?_⟩
    rcases z with z | z
    · exact z.2
    · exact absurd (by rw [z.1]; decide) h1.2
  · rw [if_neg h1]
    by_cases h2 : D 71 (40 * f + p) = 28
    · rw [if_pos h2, am_kA_br (Or.inl h2)]
      refine ⟨fun z => Or.inr ⟨h2, z⟩, fun z => ?_⟩
      rcases z with z | z
      · exact absurd z.1 h1
      · exact z.2
    · rw [if_neg h2]
      refine ⟨fun z => absurd z nn, fun z => ?_⟩
      rcases z with z | z
      · exact absurd z.1 h1
      · exact absurd z.1 h2
theorem am_PG.spo {C D : Nat → Nat → Int32} {F : Nat} {sz : Nat → Nat} (h : am_PG C D F sz) {f : Nat} (hf : f < F) {v : Int32} (hv64 : v = -1 ∨ ∃ q, q < 64 ∧ v = nI q) : (∃ q, q < sz f ∧ v = nI q ∧ am_spo C (nI f) v = nI (am_st sz f + q)) ∨ ((∀ q, q < sz f → ¬ v = nI q) ∧ am_spo C (nI f) v = -1) := by
  have hF := h.hF
  have ht := h.t300
  have l1 : am_st sz f + sz f ≤ am_st sz F := am_st_le (sz := sz) (show f + 1 ≤ F by omega)
  have e1 := h.c6 f (by omega)
  have e2 : C 6 (f + 1) = nI (am_st sz f + sz f) := h.c6 (f + 1) (by omega)
  unfold am_spo
  rw [nI_1, nI_clamp (by omega), nI_clamp (by omega), e1, e2, h.c5]
  by_cases hv : v < 0
  · exact Or.inr ⟨fun q hq z => nI_pos (n := q) (by have := h.s40 f hf; omega) (by rw [← z]; exact hv), if_neg (fun z => z.2.2.1 hv)⟩
  · obtain ⟨q, hq64, rfl⟩ := hv64.resolve_left (fun z => hv (by rw [z]; decide))
    by_cases hq : q < sz f
    · refine Or.inl ⟨q, hq, rfl, ?_⟩
      rw [nI_add, if_pos ⟨nI_pos (by omega), nI_lt hf (by omega), hv, nI_lt (by omega) (by omega)⟩]
    · refine Or.inr ⟨fun r hr z => hq (by rw [(nI_eq (by omega) (by have := h.s40 f hf; omega)).mp z]; exact hr), if_neg (fun z => ?_)⟩
      have z := z.2.2.2
      rw [nI_add] at z
      have := (nI_ltI (by omega) (by omega)).mp z
      omega
theorem am_PG.pbd {C D : Nat → Nat → Int32} {F : Nat} {sz : Nat → Nat} (h : am_PG C D F sz) {f p : Nat} (hf : f < F) (hp : p < sz f) : am_pto C (nI (am_st sz f + p)) = -1 ∨ ∃ q, q < 64 ∧ am_pto C (nI (am_st sz f + p)) = nI q := by
  have g := h.gd hf hp
  unfold am_pto
  rw [h.num hf hp, h.fa hf hp, h.fc hf hp]
  by_cases h1 : ¬ D 71 (40 * f + p) < 22 ∧ ¬ 27 < D 71 (40 * f + p)
  · rw [if_pos h1, am_kC_br h1]
    obtain ⟨k, hk, e⟩ := am_gd_n g
    rw [e] at g h1
    have T : ∀ k, k < 35 → (¬ nI k < 22 ∧ ¬ 27 < nI k) → am_kC (nI k) = 5 := by decide +kernel
    have g2 := g.2.2.2
    rw [T k hk h1] at g2
    obtain ⟨m, hm, em⟩ := am_gPl g2
    exact Or.inr ⟨m, by omega, em⟩
  · rw [if_neg h1]
    by_cases h2 : D 71 (40 * f + p) = 28
    · rw [if_pos h2, am_kA_br (Or.inl h2)]
      have g2 := g.2.1
      rw [h2] at g2
      obtain ⟨m, hm, em⟩ := am_gPl g2
      exact Or.inr ⟨m, by omega, em⟩
    · rw [if_neg h2]; exact Or.inl rfl
theorem am_Po_lt {D : Nat → Nat → Int32} {sz : Nat → Nat} {B : Nat → Prop} {f p : Nat} : ¬ am_bf sz (am_Po D sz B (am_st sz f + p)) f p := by
  rintro ⟨g, r, h | h, z, _⟩
  · have l1 : am_st sz g + sz g ≤ am_st sz f := am_st_le (sz := sz) (show g + 1 ≤ f by omega)
    omega
  · rw [h.1] at z; omega
/-- the arrays open and entered, so far -/
def am_MO (C D : Nat → Nat → Int32) (F : Nat) (sz : Nat → Nat) (B : Nat → Prop) (C' : Nat → Nat → Int32) (f p : Nat) : Prop := (∀ c j, c ≠ 27 → c ≠ 28 → C' c j = C c j) ∧ (∀ s, s < am_st sz F → am_bz (C' 27 s) (am_bf sz (am_Po D sz B s) f p)) ∧ (∀ s, s < am_st sz F → am_bz (C' 28 s) (am_bf sz (am_Pe D sz B s) f p))
theorem am_MO.fr {C D : Nat → Nat → Int32} {F : Nat} {sz : Nat → Nat} {B : Nat → Prop} {C' : Nat → Nat → Int32} {f p : Nat} (h : am_MO C D F sz B C' f p) : ∀ c j, c ≠ 27 → c ≠ 28 → C' c j = C c j := h.1
theorem am_MO.op {C D : Nat → Nat → Int32} {F : Nat} {sz : Nat → Nat} {B : Nat → Prop} {C' : Nat → Nat → Int32} {f p : Nat} (h : am_MO C D F sz B C' f p) : ∀ s, s < am_st sz F → am_bz (C' 27 s) (am_bf sz (am_Po D sz B s) f p) := h.2.1
theorem am_MO.en {C D : Nat → Nat → Int32} {F : Nat} {sz : Nat → Nat} {B : Nat → Prop} {C' : Nat → Nat → Int32} {f p : Nat} (h : am_MO C D F sz B C' f p) : ∀ s, s < am_st sz F → am_bz (C' 28 s) (am_bf sz (am_Pe D sz B s) f p) := h.2.2
theorem am_bf_sk {sz : Nat → Nat} {P : Nat → Nat → Prop} {f : Nat} (h : ∀ r, ¬ P f r) : am_bf sz P f 0 ↔ am_bf sz P (f + 1) 0 := by
  rw [← am_bf_n]
  constructor
  · rintro ⟨g, r, y | y, z⟩
    · exact ⟨g, r, Or.inl y, z⟩
    · omega
  · rintro ⟨g, r, y | y, z⟩
    · exact ⟨g, r, Or.inl y, z⟩
    · rw [y.1] at z; exact absurd z (h r)
theorem c_ms2 {C D : Nat → Nat → Int32} {F : Nat} {sz : Nat → Nat} {B : Nat → Prop} {e : am_E} {Q : am_Q} (hP : am_PG C D F sz) (hN : C 26 12 = nI (am_st sz F)) {f : Nat} (hf : f < F) (hB : B f) {kc ks p : Nat} (hq : p < sz f) {x4 : Value} {C' : Nat → Nat → Int32} (hI : am_MO C D F sz B C' f p) {v : Int32} (hv : am_bz v (am_mw D (40 * f + p))) (K : ∀ C2 x, am_MO C D F sz B C2 f (p + 1) → am_Go (mX6_markSpotsOf, 106, [.ref 26, .int (nI f), .int (nI (am_st sz f + sz f)), .int (nI (am_st sz f + p)), x], [], hp C2 e, kc, ks, Q)) : am_Go (mX6_markSpotsOf, 66, [.ref 26, .int (nI f), .int (nI (am_st sz f + sz f)), .int (nI (am_st sz f + p)), x4], [], hp (am_u C' 27 (am_st sz f + p) v) e, kc, ks, Q) := by
  have hF := hP.hF
  have ht := hP.t300
  have hl := hP.lt hf hq
  have hP' : am_PG (am_u C' 27 (am_st sz f + p) v) D F sz := hP.fr (fun c j h1 h2 _ => (am_u_ne (by omega)).trans (hI.fr c j (by omega) (by omega))) (fun _ _ _ _ _ => rfl)
  have hop : ∀ t, t < am_st sz F → am_bz (am_u C' 27 (am_st sz f + p) v 27 t) (am_bf sz (am_Po D sz B t) f (p + 1)) := fun t ht' => by
    by_cases et : t = am_st sz f + p
    · subst et
      rw [am_u_eq]
      refine am_bz_iff hv ⟨fun z => am_bf_s.mpr (Or.inr ⟨rfl, hB, z⟩), fun z => ?_⟩
      rcases am_bf_s.mp z with z | z
      · exact absurd z am_Po_lt
      · exact z.2.2
    · rw [am_u_nj et]
      exact am_bz_iff (hI.op t ht') ⟨fun z => am_bf_s.mpr (Or.inl z), fun z => (am_bf_s.mp z).elim id (fun z => absurd z.1 et)⟩
  have h40 := hP.s40 f hf
  have hlr : ∀ r, r < sz f → am_st sz f + r < am_st sz F := fun r hr => hP.lt hf hr
  refine go_s 6 rfl ?_
  refine go_v kX6_markSpotsOf_76 okX5_placeTold rfl rfl rfl rfl (Nat.zero_le _) (Nat.zero_le _) ?_
  refine c_X5_placeTold hP'.h6 ?_
  refine go_v kX6_markSpotsOf_79 okX5_spotOf rfl rfl rfl rfl (Nat.zero_le _) (Nat.zero_le _) ?_
  refine c_X5_spotOf hP'.h5 ?_
  have hsp := hP'.spo hf (hP'.pbd hf hq)
  rcases hsp with ⟨r, hr, er, es⟩ | ⟨hno, es⟩
  · have hlr2 := hlr r hr
    refine go_s 1 (pc' := 84) (ls' := [.ref 26, .int (nI f), .int (nI (am_st sz f + sz f)), .int (nI (am_st sz f + p)), .int (nI (am_st sz f + r))]) (st' := []) (h' := hp (am_u C' 27 (am_st sz f + p) v) e) (by rw [← es]; rfl) ?_
    refine go_s 2 rfl ?_
    refine go_if (fun c86 => absurd c86 (nI_pos (by omega))) (fun c86 => ?_)
    refine go_s 4 rfl ?_
    refine go_if (fun c95 => ?_) (fun c95 => absurd (show nI (am_st sz f + r) < (am_u C' 27 (am_st sz f + p) v) 26 12 by rw [am_u_ne (by decide), hI.fr 26 12 (by decide) (by decide), hN]; exact nI_lt (by omega) (by omega)) c95)
    refine go_s 4 rfl ?_
    refine go_m rfl rfl (show vp_in (nI (am_st sz f + r)) 300 from vp_in_nI (by omega) (by decide)) ?_
    show am_Go (mX6_markSpotsOf, 106, _, [], hp (am_u (am_u C' 27 (am_st sz f + p) v) 28 (nI (am_st sz f + r)).toNatClampNeg 1) e, _, _, Q)
    rw [nI_clamp (by omega)]
    refine K _ _ ⟨fun c j h1 h2 => (am_u_ne h2).trans ((am_u_ne h1).trans (hI.fr c j h1 h2)), fun t ht' => by rw [am_u_ne (by decide)]; exact hop t ht', fun t ht' => ?_⟩
    by_cases et : t = am_st sz f + r
    · subst et; rw [am_u_eq]; exact Or.inr ⟨rfl, am_bf_s.mpr (Or.inr ⟨hB, r, hr, rfl, (hP'.te hf hq (by omega)).mp er⟩)⟩
    · rw [am_u_nj et, am_u_ne (by decide)]
      refine am_bz_iff (hI.en t ht') ⟨fun z => am_bf_s.mpr (Or.inl z), fun z => (am_bf_s.mp z).elim id (fun ⟨_, q, y1, y2, y3⟩ => ?_)⟩
      have y4 := (hP'.te hf hq (q := q) (by omega)).mpr y3
      have := (nI_eq (by omega) (by omega)).mp (er.symm.trans y4)
      exact absurd (by rw [y2, this]) et
  · skip
    refine go_s 1 (pc' := 84) (ls' := [.ref 26, .int (nI f), .int (nI (am_st sz f + sz f)), .int (nI (am_st sz f + p)), .int (-1)]) (st' := []) (h' := hp (am_u C' 27 (am_st sz f + p) v) e) (by rw [← es]; rfl) ?_
    refine go_s 2 rfl ?_
    refine go_if (fun c86 => ?_) (fun c86 => absurd (by decide) c86)
    refine K _ _ ⟨fun c j h1 h2 => (am_u_ne h1).trans (hI.fr c j h1 h2), hop, fun t ht' => ?_⟩
    rw [am_u_ne (by decide)]
    refine am_bz_iff (hI.en t ht') ⟨fun z => am_bf_s.mpr (Or.inl z), fun z => (am_bf_s.mp z).elim id (fun ⟨_, q, y1, y2, y3⟩ => ?_)⟩
    exact absurd ((hP'.te hf hq (q := q) (by omega)).mpr y3) (hno q y1)
theorem c_ms1 {C D : Nat → Nat → Int32} {F : Nat} {sz : Nat → Nat} {B : Nat → Prop} {e : am_E} {Q : am_Q} (hP : am_PG C D F sz) (hN : C 26 12 = nI (am_st sz F)) {f : Nat} (hf : f < F) (hB : B f) (q : ∀ C', am_MO C D F sz B C' f (sz f) → Q none (hp C' e)) : ∀ (n kc ks p : Nat) (x4 : Value) (C' : Nat → Nat → Int32), sz f < n + p → p ≤ sz f → am_MO C D F sz B C' f p → am_Go (mX6_markSpotsOf, 25, [.ref 26, .int (nI f), .int (nI (am_st sz f + sz f)), .int (nI (am_st sz f + p)), x4], [], hp C' e, kc, ks, Q)
  | 0, kc, ks, p, x4, C', h1, h2, hI => by omega
  | n + 1, kc, ks, p, x4, C', h1, h2, hI => by
    have hF := hP.hF
    have ht := hP.t300
    have h40 := hP.s40 f hf
    have l1 : am_st sz f + sz f ≤ am_st sz F := am_st_le (sz := sz) (show f + 1 ≤ F by omega)
    have hP' : am_PG C' D F sz := hP.fr (fun c j h1 h2 _ => hI.fr c j (by omega) (by omega)) (fun _ _ _ _ _ => rfl)
    refine go_s 3 rfl ?_
    refine go_if (fun c27 => ?_) (fun c27 => ?_)
    · have c27 : nI (am_st sz f + p) < nI (am_st sz f + sz f) := c27
      have hq : p < sz f := by
        have := (nI_ltI (a := am_st sz f + p) (b := am_st sz f + sz f) (by omega) (by omega)).mp c27
        omega
      have hl := hP.lt hf hq
      have hX : vp_in (nI (am_st sz f + p)) 300 := vp_in_nI (by omega) (by decide)
      have hcl := nI_clamp (show am_st sz f + p < 2 ^ 31 by omega)
      refine go_s 6 rfl ?_
      refine go_v kX6_markSpotsOf_40 okX5_numberAt rfl rfl rfl rfl (Nat.zero_le _) (Nat.zero_le _) ?_
      refine c_X5_numberAt hP'.h6 ?_
      refine go_st kX6_markSpotsOf_43 okX9_mayBeInRow rfl rfl rfl (Nat.zero_le _) (Nat.zero_le _) ?_
      refine c_X9_mayBeInRow ?_
      refine go_s 1 rfl ?_
      refine go_if (fun c46 => ?_) (fun c46 => ?_)
      · refine go_s 1 rfl ?_
        refine go_m rfl rfl hX ?_
        have c46 : zb ((¬ am_num C' (nI (am_st sz f + p)) < 0 ∧ ¬ 21 < am_num C' (nI (am_st sz f + p))) ∨ am_num C' (nI (am_st sz f + p)) = 34) = 0 := c46
        have c46 := mt (hP'.mir hf hq).mpr (zb_0.mp c46)
        show am_Go (mX6_markSpotsOf, 66, _, [], hp (am_u C' 27 (nI (am_st sz f + p)).toNatClampNeg 0) e, _, _, Q)
        rw [hcl]
        refine c_ms2 hP hN hf hB hq (C' := C') hI (v := 0) (Or.inl ⟨rfl, fun z => c46 z.1⟩) (fun C2 x h2 => ?_)
        refine go_s 2 (pc' := 25) (ls' := [.ref 26, .int (nI f), .int (nI (am_st sz f + sz f)), .int (nI (am_st sz f + (p + 1))), x]) (st' := []) (h' := hp C2 e) (by rw [← Nat.add_assoc, ← nI_1]; rfl) ?_
        exact c_ms1 hP hN hf hB q n _ _ (p + 1) _ _ (by omega) (by omega) h2
      · refine go_s 3 rfl ?_
        refine go_v kX6_markSpotsOf_54 okX5_namesReturnRegister rfl rfl rfl rfl (Nat.zero_le _) (Nat.zero_le _) ?_
        refine c_X5_namesReturnRegister hP'.h6 ?_
        refine go_s 1 rfl ?_
        refine go_if (fun c57 => ?_) (fun c57 => ?_)
        · refine go_s 2 rfl ?_
          refine go_m rfl rfl hX ?_
          have c46 : ¬ zb ((¬ am_num C' (nI (am_st sz f + p)) < 0 ∧ ¬ 21 < am_num C' (nI (am_st sz f + p))) ∨ am_num C' (nI (am_st sz f + p)) = 34) = 0 := c46
          have c46 := (hP'.mir hf hq).mp (zb_ne.mp c46)
          have c57 : zb ((am_kA (am_num C' (nI (am_st sz f + p))) = 1 ∧ am_fa C' (nI (am_st sz f + p)) = 1) ∨ (am_kB (am_num C' (nI (am_st sz f + p))) = 1 ∧ am_fb C' (nI (am_st sz f + p)) = 1) ∨ (am_kC (am_num C' (nI (am_st sz f + p))) = 1 ∧ am_fc C' (nI (am_st sz f + p)) = 1)) = 0 := c57
          have c57 := mt (hP'.n1 hf hq).mpr (zb_0.mp c57)
          show am_Go (mX6_markSpotsOf, 66, _, [], hp (am_u C' 27 (nI (am_st sz f + p)).toNatClampNeg 1) e, _, _, Q)
          rw [hcl]
          refine c_ms2 hP hN hf hB hq (C' := C') hI (v := 1) (Or.inr ⟨rfl, c46, c57⟩) (fun C2 x h2 => ?_)
          refine go_s 2 (pc' := 25) (ls' := [.ref 26, .int (nI f), .int (nI (am_st sz f + sz f)), .int (nI (am_st sz f + (p + 1))), x]) (st' := []) (h' := hp C2 e) (by rw [← Nat.add_assoc, ← nI_1]; rfl) ?_
          exact c_ms1 hP hN hf hB q n _ _ (p + 1) _ _ (by omega) (by omega) h2
        · refine go_s 1 rfl ?_
          refine go_m rfl rfl hX ?_
          have c46 : ¬ zb ((¬ am_num C' (nI (am_st sz f + p)) < 0 ∧ ¬ 21 < am_num C' (nI (am_st sz f + p))) ∨ am_num C' (nI (am_st sz f + p)) = 34) = 0 := c46
          have c46 := (hP'.mir hf hq).mp (zb_ne.mp c46)
          have c57 : ¬ zb ((am_kA (am_num C' (nI (am_st sz f + p))) = 1 ∧ am_fa C' (nI (am_st sz f + p)) = 1) ∨ (am_kB (am_num C' (nI (am_st sz f + p))) = 1 ∧ am_fb C' (nI (am_st sz f + p)) = 1) ∨ (am_kC (am_num C' (nI (am_st sz f + p))) = 1 ∧ am_fc C' (nI (am_st sz f + p)) = 1)) = 0 := c57
          have c57 := (hP'.n1 hf hq).mp (zb_ne.mp c57)
          show am_Go (mX6_markSpotsOf, 66, _, [], hp (am_u C' 27 (nI (am_st sz f + p)).toNatClampNeg 0) e, _, _, Q)
          rw [hcl]
          refine c_ms2 hP hN hf hB hq (C' := C') hI (v := 0) (Or.inl ⟨rfl, fun z => z.2 c57⟩) (fun C2 x h2 => ?_)
          refine go_s 2 (pc' := 25) (ls' := [.ref 26, .int (nI f), .int (nI (am_st sz f + sz f)), .int (nI (am_st sz f + (p + 1))), x]) (st' := []) (h' := hp C2 e) (by rw [← Nat.add_assoc, ← nI_1]; rfl) ?_
          exact c_ms1 hP hN hf hB q n _ _ (p + 1) _ _ (by omega) (by omega) h2
    · have c27 : ¬ nI (am_st sz f + p) < nI (am_st sz f + sz f) := c27
      have hge := mt (nI_lt (a := am_st sz f + p) (b := am_st sz f + sz f) · (by omega)) c27
      have e1 : p = sz f := by omega
      rw [e1] at hI
      exact go_retv rfl rfl (q _ hI)
