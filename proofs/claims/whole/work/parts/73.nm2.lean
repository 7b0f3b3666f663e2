theorem am_a255 (x : Int32) : vp_in (x &&& (255 : Int32)) 256 := by
  rw [vp_in_iff]
  have h : (x &&& (255 : Int32)).toInt = ((x.toBitVec.toNat % 256 : Nat) : Int) := by
    rw [← Int32.toInt_toBitVec]
    have h1 : (x &&& (255 : Int32)).toBitVec.toNat = x.toBitVec.toNat % 256 := by
      have : (x &&& (255 : Int32)).toBitVec = x.toBitVec &&& (BitVec.ofNat 32 255) := rfl
      rw [this, BitVec.toNat_and]
      exact Nat.and_two_pow_sub_one_eq_mod _ 8
    rw [BitVec.toInt_eq_toNat_of_lt (by rw [h1]; omega), h1]
  rw [h]
  omega
def am_mx (C : Nat → Nat → Int32) (s : Int32) : Int32 := if 0 ≤ s ∧ s < C 1 6 then (C 2 s.toNatClampNeg * 7 + C 3 s.toNatClampNeg * 13 + C 4 s.toNatClampNeg * 31 + C 5 s.toNatClampNeg * 67) &&& 255 else 0
theorem am_mx_b (C : Nat → Nat → Int32) (s : Int32) : ∃ c, c < 300 ∧ am_mx C s = nI c := by
  unfold am_mx
  split
  · obtain ⟨c, h, e⟩ := vp_in_of (am_a255 (C 2 s.toNatClampNeg * 7 + C 3 s.toNatClampNeg * 13 + C 4 s.toNatClampNeg * 31 + C 5 s.toNatClampNeg * 67)) (by decide)
    exact ⟨c, by omega, e⟩
  · exact ⟨0, by decide, rfl⟩
def am_ky (C : Nat → Nat → Int32) (n s : Nat) : Int32 := if n = 1 then am_mx C (nI s) else C (31 + (n - 1)) s
theorem c_nr2 {C1 : Nat → Nat → Int32} {e : am_E} {Q : am_Q} {kc ks n s : Nat} {v w : Int32} {x5 : Value} (hn : n ≤ 20) (hs : s < 300) (hv : v = 0 ∨ v = 1) (hw : w = -1 ∨ ∃ r, r ≤ s ∧ w = nI r) (K : am_Go (mX6_nameRowsOf, 12, [.ref 26, .int (nI n), .int (if w = -1 ∨ w = nI s then v else 1), .int (nI (s + 1)), .int w, x5], [], hp (am_u C1 (31 + n) s w) e, kc, ks, Q)) : am_Go (mX6_nameRowsOf, 71, [.ref 26, .int (nI n), .int v, .int (nI s), .int w, x5], [], hp C1 e, kc, ks, Q) := by
  refine go_s 3 rfl ?_
  refine go_aa30 rfl (by omega) ?_
  refine go_s 2 rfl ?_
  refine go_is30 rfl (by omega) (vp_in_nI hs (by decide)) ?_
  rw [nI_clamp (by omega)]
  have o0 : v ||| 0 = v := by rcases hv with h | h <;> subst h <;> decide
  have o1 : v ||| 1 = 1 := by rcases hv with h | h <;> subst h <;> decide
  refine go_s 4 rfl ?_
  refine go_if (fun c => ?_) (fun c => ?_)
  · have c : w = -1 := c
    rw [if_pos (Or.inl c)] at K
    refine go_s 5 (pc' := 12) (ls' := [.ref 26, .int (nI n), .int v, .int (nI (s + 1)), .int w, x5]) (st' := []) (h' := hp (am_u C1 (31 + n) s w) e) (by rw [← nI_1]; exact congrArg (fun z => some (12, [Value.ref 26, .int (nI n), .int z, .int (nI s + 1), .int w, x5], ([] : List Value), hp (am_u C1 (31 + n) s w) e)) o0) ?_
    exact K
  · have c : ¬ w = -1 := c
    refine go_s 3 rfl ?_
    refine go_if (fun d => ?_) (fun d => ?_)
    · have d : w = nI s := d
      rw [if_pos (Or.inr d)] at K
      refine go_s 5 (pc' := 12) (ls' := [.ref 26, .int (nI n), .int v, .int (nI (s + 1)), .int w, x5]) (st' := []) (h' := hp (am_u C1 (31 + n) s w) e) (by rw [← nI_1]; exact congrArg (fun z => some (12, [Value.ref 26, .int (nI n), .int z, .int (nI s + 1), .int w, x5], ([] : List Value), hp (am_u C1 (31 + n) s w) e)) o0) ?_
      exact K
    · have d : ¬ w = nI s := d
      rw [if_neg (fun z => z.elim c d)] at K
      refine go_s 6 (pc' := 12) (ls' := [.ref 26, .int (nI n), .int 1, .int (nI (s + 1)), .int w, x5]) (st' := []) (h' := hp (am_u C1 (31 + n) s w) e) (by rw [← nI_1]; exact congrArg (fun z => some (12, [Value.ref 26, .int (nI n), .int z, .int (nI s + 1), .int w, x5], ([] : List Value), hp (am_u C1 (31 + n) s w) e)) o1) ?_
      exact K
def sq_tw (N : Nat) (op en : Nat → Prop) (sm : Nat → Nat → Prop) (n M : Nat) : Prop := ∃ t r, t < M ∧ r < t ∧ sq_f0 N op en t n ∧ sq_f0 N op en r n ∧ sq_rw sm r t n
def am_NR (C : Nat → Nat → Int32) (N : Nat) (op en : Nat → Prop) (C' : Nat → Nat → Int32) (n s : Nat) (v : Int32) : Prop := (∀ c j, c ≠ 52 → c ≠ 53 → c ≠ 31 + n → C' c j = C c j) ∧ (sq_NM C' N op en (am_sS C) n s) ∧ (∀ c, c < 300 → ∃ l, sq_ll (C' 53) (C' 52 c) s l ∧ ∀ r, r ∈ l ↔ (r < s ∧ sq_fi N op en (am_sS C) n r r ∧ am_ky C n r = nI c)) ∧ (am_bz v (sq_tw N op en (am_sS C) n s))
theorem am_NR.fr {C : Nat → Nat → Int32} {N : Nat} {op en : Nat → Prop} {C' : Nat → Nat → Int32} {n s : Nat} {v : Int32} (h : am_NR C N op en C' n s v) : ∀ c j, c ≠ 52 → c ≠ 53 → c ≠ 31 + n → C' c j = C c j := h.1
theorem am_NR.nm {C : Nat → Nat → Int32} {N : Nat} {op en : Nat → Prop} {C' : Nat → Nat → Int32} {n s : Nat} {v : Int32} (h : am_NR C N op en C' n s v) : sq_NM C' N op en (am_sS C) n s := h.2.1
theorem am_NR.ll {C : Nat → Nat → Int32} {N : Nat} {op en : Nat → Prop} {C' : Nat → Nat → Int32} {n s : Nat} {v : Int32} (h : am_NR C N op en C' n s v) : ∀ c, c < 300 → ∃ l, sq_ll (C' 53) (C' 52 c) s l ∧ ∀ r, r ∈ l ↔ (r < s ∧ sq_fi N op en (am_sS C) n r r ∧ am_ky C n r = nI c) := h.2.2.1
theorem am_NR.tw {C : Nat → Nat → Int32} {N : Nat} {op en : Nat → Prop} {C' : Nat → Nat → Int32} {n s : Nat} {v : Int32} (h : am_NR C N op en C' n s v) : am_bz v (sq_tw N op en (am_sS C) n s) := h.2.2.2
theorem sq_tw_s {N : Nat} {op en : Nat → Prop} {sm : Nat → Nat → Prop} {n s : Nat} : sq_tw N op en sm n (s + 1) ↔ (sq_tw N op en sm n s ∨ (sq_f0 N op en s n ∧ ∃ r, r < s ∧ sq_f0 N op en r n ∧ sq_rw sm r s n)) := by
  constructor
  · rintro ⟨t, r, h1, h2, h3, h4, h5⟩
    by_cases e : t = s
    · subst e; exact Or.inr ⟨h3, r, h2, h4, h5⟩
    · exact Or.inl ⟨t, r, by omega, h2, h3, h4, h5⟩
  · rintro (⟨t, r, h1, h2, h3, h4, h5⟩ | ⟨h3, r, h2, h4, h5⟩)
    · exact ⟨t, r, by omega, h2, h3, h4, h5⟩
    · exact ⟨s, r, by omega, h2, h3, h4, h5⟩
theorem am_NR_nf {C : Nat → Nat → Int32} {N : Nat} {op en : Nat → Prop} {C' : Nat → Nat → Int32} {n s : Nat} {v : Int32} (hn : n ≤ 20) (h : am_NR C N op en C' n s v) (hf : ¬ sq_f0 N op en s n) : am_NR C N op en (am_u C' (31 + n) s (-1)) n (s + 1) v := by
  refine ⟨fun c j a1 a2 a3 => (am_u_ne a3).trans (h.fr c j a1 a2 a3), fun t ht => ?_, fun c hc => ?_, am_bz_iff h.tw ?_⟩
  · by_cases e : t = s
    · subst e; exact Or.inr ⟨hf, am_u_eq⟩
    · rw [am_u_nj e]; exact h.nm t (by omega)
  · obtain ⟨l, h1, h2⟩ := h.ll c hc
    refine ⟨l, ?_, fun r => (h2 r).trans ⟨fun z => ⟨by omega, z.2⟩, fun z => ⟨?_, z.2⟩⟩⟩
    · rw [am_u_ne (by omega)]
      exact sq_ll_mo (sq_ll_fr h1 (fun j _ => am_u_ne (by omega))) (by omega)
    · by_cases e : r = s
      · subst e; exact absurd z.2.1.ft hf
      · omega
  · rw [sq_tw_s]
    exact ⟨Or.inl, fun z => z.elim id (fun z => absurd z.1 hf)⟩
theorem am_NR_old {C : Nat → Nat → Int32} {N : Nat} {op en : Nat → Prop} {C' : Nat → Nat → Int32} {n s r : Nat} {v : Int32} (hn : n ≤ 20) (h : am_NR C N op en C' n s v) (hf : sq_f0 N op en s n) (hr : r < s) (hfi : sq_fi N op en (am_sS C) n r r) (hrw : sq_rw (am_sS C) r s n) : am_NR C N op en (am_u C' (31 + n) s (nI r)) n (s + 1) 1 := by
  refine ⟨fun c j a1 a2 a3 => (am_u_ne a3).trans (h.fr c j a1 a2 a3), fun t ht => ?_, fun c hc => ?_, Or.inr ⟨rfl, sq_tw_s.mpr (Or.inr ⟨hf, r, hr, hfi.ft, hrw⟩)⟩⟩
  · by_cases e : t = s
    · subst e
      refine Or.inl ⟨hf, r, am_u_eq, by omega, hfi.ft, hrw, fun u hu y z => hfi.mn u hu y ?_⟩
      exact (sq_rw_eqv (am_sS_eqv C) n).2.2 _ _ _ z ((sq_rw_eqv (am_sS_eqv C) n).2.1 _ _ hrw)
    · rw [am_u_nj e]; exact h.nm t (by omega)
  · obtain ⟨l, h1, h2⟩ := h.ll c hc
    refine ⟨l, ?_, fun u => (h2 u).trans ⟨fun z => ⟨by omega, z.2⟩, fun z => ⟨?_, z.2⟩⟩⟩
    · rw [am_u_ne (by omega)]
      exact sq_ll_mo (sq_ll_fr h1 (fun j _ => am_u_ne (by omega))) (by omega)
    · by_cases e : u = s
      · subst e; exact absurd hrw (z.2.1.mn r hr hfi.ft)
      · omega
theorem am_NR_new {C : Nat → Nat → Int32} {N : Nat} {op en : Nat → Prop} {C' : Nat → Nat → Int32} {n s c : Nat} {v : Int32} (hn : n ≤ 20) (h : am_NR C N op en C' n s v) (hf : sq_f0 N op en s n) (hc : c < 300) (hky : am_ky C n s = nI c) (hno : ∀ t, t < s → sq_f0 N op en t n → ¬ sq_rw (am_sS C) t s n) : am_NR C N op en (am_u (am_u (am_u C' 53 s (C' 52 c)) 52 c (nI s)) (31 + n) s (nI s)) n (s + 1) v := by
  have hfi : sq_fi N op en (am_sS C) n s s := ⟨Nat.le_refl _, hf, (sq_rw_eqv (am_sS_eqv C) n).1 s, hno⟩
  refine ⟨fun d j a1 a2 a3 => (am_u_ne a3).trans ((am_u_ne a1).trans ((am_u_ne a2).trans (h.fr d j a1 a2 a3))), fun t ht => ?_, fun d hd => ?_, am_bz_iff h.tw ?_⟩
  · by_cases e : t = s
    · subst e; exact Or.inl ⟨hf, t, am_u_eq, hfi⟩
    · rw [am_u_nj e, am_u_ne (by omega), am_u_ne (by omega)]; exact h.nm t (by omega)
  · obtain ⟨l, h1, h2⟩ := h.ll d hd
    have fr53 : ∀ j, j < s → am_u (am_u (am_u C' 53 s (C' 52 c)) 52 c (nI s)) (31 + n) s (nI s) 53 j = C' 53 j := fun j hj => by
      rw [am_u_ne (by omega), am_u_ne (by decide), am_u_nj (by omega)]
    by_cases e : d = c
    · subst e
      refine ⟨s :: l, ⟨?_, by omega, ?_⟩, fun u => ?_⟩
      · rw [am_u_ne (by omega), am_u_eq]
      · have : am_u (am_u (am_u C' 53 s (C' 52 d)) 52 d (nI s)) (31 + n) s (nI s) 53 s = C' 52 d := by
          rw [am_u_ne (by omega), am_u_ne (by decide), am_u_eq]
        rw [this]
        exact sq_ll_fr h1 fr53
      · rw [List.mem_cons, h2 u]
        constructor
        · rintro (z | z)
          · subst z; exact ⟨by omega, hfi, hky⟩
          · exact ⟨by omega, z.2⟩
        · intro z
          by_cases eu : u = s
          · exact Or.inl eu
          · exact Or.inr ⟨by omega, z.2⟩
    · refine ⟨l, ?_, fun u => (h2 u).trans ⟨fun z => ⟨by omega, z.2⟩, fun z => ⟨?_, z.2⟩⟩⟩
      · rw [am_u_ne (by omega), am_u_nj e, am_u_ne (by decide)]
        exact sq_ll_mo (sq_ll_fr h1 fr53) (by omega)
      · by_cases eu : u = s
        · subst eu
          exact absurd ((nI_eq (by omega) (by omega)).mp (z.2.2.symm.trans hky)) e
        · omega
  · rw [sq_tw_s]
    exact ⟨Or.inl, fun z => z.elim id (fun ⟨_, r, y1, y2, y3⟩ => absurd y3 (hno r y1 y2))⟩
theorem am_ky_rw {C D : Nat → Nat → Int32} {F : Nat} {sz : Nat → Nat} {op en : Nat → Prop} {n r s : Nat} (hP : am_PG C D F sz) (h1 : 1 ≤ n) (hM : ∀ m, 1 ≤ m → m < n → sq_NM C (am_st sz F) op en (am_sS C) m (am_st sz F)) (hr : sq_f0 (am_st sz F) op en r n) (hs : sq_f0 (am_st sz F) op en s n) (h : am_ky C n r = am_ky C n s) : sq_rw (am_sS C) r s (n - 1) := by
  have h3 := hP.t300
  have r1 := hr.1
  have s1 := hs.1
  unfold am_ky at h
  by_cases e : n = 1
  · subst e; intro k hk; omega
  · rw [if_neg e, if_neg e] at h
    obtain ⟨_, a, ea, ha⟩ := (hM (n - 1) (by omega) (by omega) r (by omega)).resolve_right (fun z => z.1 (sq_ft_le hr (by omega)))
    obtain ⟨_, b, eb, hb⟩ := (hM (n - 1) (by omega) (by omega) s (by omega)).resolve_right (fun z => z.1 (sq_ft_le hs (by omega)))
    have la := ha.le
    have lb := hb.le
    rw [ea, eb, nI_eq (by omega) (by omega)] at h
    exact (sq_fi_eq (am_sS_eqv C) ha hb).mp h
theorem am_rw_ky {C D : Nat → Nat → Int32} {F : Nat} {sz : Nat → Nat} {op en : Nat → Prop} {n r s : Nat} (hP : am_PG C D F sz) (h1 : 1 ≤ n) (hM : ∀ m, 1 ≤ m → m < n → sq_NM C (am_st sz F) op en (am_sS C) m (am_st sz F)) (hr : sq_f0 (am_st sz F) op en r n) (hs : sq_f0 (am_st sz F) op en s n) (h : sq_rw (am_sS C) r s n) : am_ky C n r = am_ky C n s := by
  have h3 := hP.t300
  have r1 := hr.1
  have s1 := hs.1
  unfold am_ky
  by_cases e : n = 1
  · subst e
    rw [if_pos rfl, if_pos rfl]
    obtain ⟨e1, e2, e3, e4⟩ := sq_rw_1.mp h
    unfold am_mx
    rw [if_pos (hP.inS (by omega)), if_pos (hP.inS (by omega)), nI_clamp (by omega), nI_clamp (by omega), e1, e2, e3, e4]
  · rw [if_neg e, if_neg e]
    obtain ⟨_, a, ea, ha⟩ := (hM (n - 1) (by omega) (by omega) r (by omega)).resolve_right (fun z => z.1 (sq_ft_le hr (by omega)))
    obtain ⟨_, b, eb, hb⟩ := (hM (n - 1) (by omega) (by omega) s (by omega)).resolve_right (fun z => z.1 (sq_ft_le hs (by omega)))
    rw [ea, eb, (sq_fi_eq (am_sS_eqv C) ha hb).mpr (sq_rw_le h (by omega))]
theorem am_ky_b {C D : Nat → Nat → Int32} {F : Nat} {sz : Nat → Nat} {op en : Nat → Prop} {n s : Nat} (hP : am_PG C D F sz) (h1 : 1 ≤ n) (hM : ∀ m, 1 ≤ m → m < n → sq_NM C (am_st sz F) op en (am_sS C) m (am_st sz F)) (hs : sq_f0 (am_st sz F) op en s n) : ∃ c, c < 300 ∧ am_ky C n s = nI c := by
  have h3 := hP.t300
  have s1 := hs.1
  unfold am_ky
  by_cases e : n = 1
  · rw [if_pos e]; exact am_mx_b _ _
  · rw [if_neg e]
    obtain ⟨_, b, eb, hb⟩ := (hM (n - 1) (by omega) (by omega) s (by omega)).resolve_right (fun z => z.1 (sq_ft_le hs (by omega)))
    have lb := hb.le
    exact ⟨b, by omega, eb⟩
