theorem c_nr {C D : Nat → Nat → Int32} {F : Nat} {sz : Nat → Nat} {op en : Nat → Prop} {e : am_E} {Q : am_Q} (hP : am_PG C D F sz) (hN : C 26 12 = nI (am_st sz F)) (hRC : sq_RC C (am_st sz F) op en (fun _ => False)) {n : Nat} (h1 : 1 ≤ n) (h20 : n ≤ 20) (hM : ∀ m, 1 ≤ m → m < n → sq_NM C (am_st sz F) op en (am_sS C) m (am_st sz F)) (q : ∀ C' v, am_NR C (am_st sz F) op en C' n (am_st sz F) v → Q (some (.int v)) (hp C' e)) : ∀ (n0 kc ks s : Nat) (v : Int32) (x4 x5 : Value) (C' : Nat → Nat → Int32), am_st sz F < n0 + s → s ≤ am_st sz F → am_NR C (am_st sz F) op en C' n s v → am_Go (mX6_nameRowsOf, 12, [.ref 26, .int (nI n), .int v, .int (nI s), x4, x5], [], hp C' e, kc, ks, Q)
  | 0, kc, ks, s, v, x4, x5, C', g1, g2, hI => by omega
  | n0 + 1, kc, ks, s, v, x4, x5, C', g1, g2, hI => by
    have h3 := hP.t300
    have r26 : C' 26 12 = nI (am_st sz F) := (hI.fr 26 12 (by decide) (by decide) (by omega)).trans hN
    have hP' : am_PG C' D F sz := hP.fr (fun c j h1 h2 _ => hI.fr c j (by omega) (by omega) (by omega)) (fun _ _ _ _ _ => rfl)
    have hss : am_sS C' = am_sS C := by
      funext s t
      unfold am_sS
      rw [hI.fr 2 s (by decide) (by decide) (by omega), hI.fr 2 t (by decide) (by decide) (by omega), hI.fr 3 s (by decide) (by decide) (by omega), hI.fr 3 t (by decide) (by decide) (by omega), hI.fr 4 s (by decide) (by decide) (by omega), hI.fr 4 t (by decide) (by decide) (by omega), hI.fr 5 s (by decide) (by decide) (by omega), hI.fr 5 t (by decide) (by decide) (by omega)]
    have hM1 : 2 ≤ n → sq_NM C' (am_st sz F) op en (am_sS C') 1 (am_st sz F) := fun h2 t ht => by
      rw [hss, hI.fr 32 t (by decide) (by decide) (by omega)]
      exact hM 1 (by omega) (by omega) t ht
    refine go_s 4 rfl ?_
    refine go_if (fun c17 => ?_) (fun c17 => ?_)
    · have c17 : nI s < C' 26 12 := c17
      rw [r26] at c17
      have hs : s < am_st sz F := (nI_ltI (by omega) (by omega)).mp c17
      have hcs := nI_clamp (show s < 2 ^ 31 by omega)
      obtain ⟨r, hr20, er, hr⟩ := hRC s hs
      have r29 : C' 29 (nI s).toNatClampNeg = nI r := by rw [hcs, hI.fr 29 s (by decide) (by decide) (by omega)]; exact er
      have hv := hI.tw.imp (fun z => z.1) (fun z => z.1)
      refine go_s 5 rfl ?_
      refine go_m rfl rfl (show vp_in (nI s) 300 from vp_in_nI (by omega) (by decide)) ?_
      refine go_s 2 rfl ?_
      refine go_if (fun c30 => ?_) (fun c30 => ?_)
      · have c30 : C' 29 (nI s).toNatClampNeg < nI n := c30
        rw [r29] at c30
        have hnf : ¬ sq_f0 (am_st sz F) op en s n := fun z => by
          have := (hr n h20).mpr z
          have := (nI_ltI (by omega) (by omega)).mp c30
          omega
        refine c_nr2 (w := -1) h20 (by omega) hv (Or.inl rfl) ?_
        rw [if_pos (Or.inl rfl : (-1 : Int32) = -1 ∨ (-1 : Int32) = nI s)]
        exact c_nr hP hN hRC h1 h20 hM q n0 _ _ (s + 1) _ _ _ _ (by omega) (by omega) (am_NR_nf h20 hI hnf)
      · have c30 : ¬ C' 29 (nI s).toNatClampNeg < nI n := c30
        rw [r29] at c30
        have hf : sq_f0 (am_st sz F) op en s n := (hr n h20).mp (by have := mt (nI_lt (a := r) (b := n) · (by omega)) c30; omega)
        obtain ⟨c, hc, ec⟩ := am_ky_b hP h1 hM hf
        refine go_s 3 rfl ?_
        refine go_if (fun c35 => ?_) (fun c35 => ?_)
        · refine go_s 3 rfl ?_
          refine go_v kX6_nameRowsOf_43 okX5_mixAt rfl rfl rfl rfl (Nat.zero_le _) (Nat.zero_le _) ?_
          refine c_X5_mixAt hP'.h6 ?_
          have c35 : nI n = 1 := c35
          have n1 : n = 1 := (nI_eq (b := 1) (by omega) (by decide)).mp c35
          have ek : am_mx C' (nI s) = nI c := by
            rw [← ec, show am_ky C n s = am_mx C (nI s) from if_pos n1]
            unfold am_mx
            rw [hI.fr 1 6 (by decide) (by decide) (by omega), hI.fr 2 _ (by decide) (by decide) (by omega), hI.fr 3 _ (by decide) (by decide) (by omega), hI.fr 4 _ (by decide) (by decide) (by omega), hI.fr 5 _ (by decide) (by decide) (by omega)]
          refine go_s 2 (pc' := 61) (ls' := [.ref 26, .int (nI n), .int v, .int (nI s), .int (-1), .int (nI c)]) (st' := []) (h' := hp C' e) (by rw [← ek]; rfl) ?_
          refine go_s 4 rfl ?_
          refine go_v kX6_nameRowsOf_66 okX6_nameInChain rfl rfl rfl rfl (Nat.zero_le _) (Nat.zero_le _) ?_
          obtain ⟨l, hl1, hl2⟩ := hI.ll c hc
          have hmem : ∀ t, t ∈ l → sq_f0 (am_st sz F) op en t n ∧ sq_rw (am_sS C') t s (n - 1) := fun t ht => by
            have z := (hl2 t).mp ht
            rw [hss]
            exact ⟨z.2.1.ft, am_ky_rw hP h1 hM z.2.1.ft hf (z.2.2.trans ec.symm)⟩
          refine c_X6_nameInChain hP' r26 hc h1 h20 hf hM1 (fun t h2 h3 h4 h5 => ?_) (fun h2 => ?_) hl1 hmem
          · rw [hss] at h5
            refine go_s 1 rfl ?_
            refine c_nr2 h20 (by omega) hv (Or.inr ⟨t, by omega, rfl⟩) ?_
            rw [if_neg (fun z => z.elim (fun z => nI_pos (n := t) (by omega) (by rw [z]; decide)) (fun z => absurd ((nI_eq (by omega) (by omega)).mp z) (by omega)))]
            exact c_nr hP hN hRC h1 h20 hM q n0 _ _ (s + 1) _ _ _ _ (by omega) (by omega) (am_NR_old h20 hI hf h2 ((hl2 t).mp h4).2.1 h5)
          · refine go_s 1 rfl ?_
            refine c_nr2 h20 (by omega) hv (Or.inr ⟨s, Nat.le_refl _, rfl⟩) ?_
            rw [if_pos (Or.inr rfl)]
            refine c_nr hP hN hRC h1 h20 hM q n0 _ _ (s + 1) _ _ _ _ (by omega) (by omega) (am_NR_new h20 hI hf hc ec (fun t ht hft hrw => ?_))
            obtain ⟨_, a, ea, ha⟩ := (hI.nm t ht).resolve_right (fun z => z.1 hft)
            have la := ha.le
            have haa := sq_fi_self (am_sS_eqv C) ha
            have hrw2 := (sq_rw_eqv (am_sS_eqv C) n).2.2 _ _ _ ha.rw hrw
            have := h2 a ((hl2 a).mpr ⟨by omega, haa, (am_rw_ky hP h1 hM haa.ft hf hrw2).trans ec⟩)
            rw [hss] at this
            exact this hrw2
        · refine go_s 5 (pc' := 56) (ls' := [.ref 26, .int (nI n), .int v, .int (nI s), .int (-1), x5]) (st' := [.int (nI (n - 1)), .ref 30]) (h' := hp C' e) (by rw [show nI (n - 1) = nI n - 1 by rw [show n = (n - 1) + 1 by omega, nI_pred]; congr 1]; rfl) ?_
          refine go_aa30 (m := n - 1) rfl (by omega) ?_
          refine go_s 1 rfl ?_
          refine go_il30 rfl (by omega) (show vp_in (nI s) 300 from vp_in_nI (by omega) (by decide)) ?_
          have c35 : ¬ nI n = 1 := c35
          have n1 : ¬ n = 1 := fun z => c35 (by rw [z]; rfl)
          have ek : C' (31 + (n - 1)) s = nI c := by
            rw [← ec, show am_ky C n s = C (31 + (n - 1)) s from if_neg n1]
            exact hI.fr _ _ (by omega) (by omega) (by omega)
          rw [hcs]
          refine go_s 1 (pc' := 61) (ls' := [.ref 26, .int (nI n), .int v, .int (nI s), .int (-1), .int (nI c)]) (st' := []) (h' := hp C' e) (by rw [← ek]; rfl) ?_
          refine go_s 4 rfl ?_
          refine go_v kX6_nameRowsOf_66 okX6_nameInChain rfl rfl rfl rfl (Nat.zero_le _) (Nat.zero_le _) ?_
          obtain ⟨l, hl1, hl2⟩ := hI.ll c hc
          have hmem : ∀ t, t ∈ l → sq_f0 (am_st sz F) op en t n ∧ sq_rw (am_sS C') t s (n - 1) := fun t ht => by
            have z := (hl2 t).mp ht
            rw [hss]
            exact ⟨z.2.1.ft, am_ky_rw hP h1 hM z.2.1.ft hf (z.2.2.trans ec.symm)⟩
          refine c_X6_nameInChain hP' r26 hc h1 h20 hf hM1 (fun t h2 h3 h4 h5 => ?_) (fun h2 => ?_) hl1 hmem
          · rw [hss] at h5
            refine go_s 1 rfl ?_
            refine c_nr2 h20 (by omega) hv (Or.inr ⟨t, by omega, rfl⟩) ?_
            rw [if_neg (fun z => z.elim (fun z => nI_pos (n := t) (by omega) (by rw [z]; decide)) (fun z => absurd ((nI_eq (by omega) (by omega)).mp z) (by omega)))]
            exact c_nr hP hN hRC h1 h20 hM q n0 _ _ (s + 1) _ _ _ _ (by omega) (by omega) (am_NR_old h20 hI hf h2 ((hl2 t).mp h4).2.1 h5)
          · refine go_s 1 rfl ?_
            refine c_nr2 h20 (by omega) hv (Or.inr ⟨s, Nat.le_refl _, rfl⟩) ?_
            rw [if_pos (Or.inr rfl)]
            refine c_nr hP hN hRC h1 h20 hM q n0 _ _ (s + 1) _ _ _ _ (by omega) (by omega) (am_NR_new h20 hI hf hc ec (fun t ht hft hrw => ?_))
            obtain ⟨_, a, ea, ha⟩ := (hI.nm t ht).resolve_right (fun z => z.1 hft)
            have la := ha.le
            have haa := sq_fi_self (am_sS_eqv C) ha
            have hrw2 := (sq_rw_eqv (am_sS_eqv C) n).2.2 _ _ _ ha.rw hrw
            have := h2 a ((hl2 a).mpr ⟨by omega, haa, (am_rw_ky hP h1 hM haa.ft hf hrw2).trans ec⟩)
            rw [hss] at this
            exact this hrw2
    · refine go_s 1 rfl ?_
      have c17 : ¬ nI s < C' 26 12 := c17
      rw [r26] at c17
      have hge := mt (nI_lt (a := s) (b := am_st sz F) · (by omega)) c17
      have es : s = am_st sz F := by omega
      rw [es] at hI
      exact go_retz rfl rfl (hI.tw.imp (fun z => z.1) (fun z => z.1)) (q _ _ hI)
theorem c_X6_nameRowsOf {C D : Nat → Nat → Int32} {F : Nat} {sz : Nat → Nat} {op en : Nat → Prop} {e : am_E} {Q : am_Q} (hP : am_PG C D F sz) (hN : C 26 12 = nI (am_st sz F)) (hRC : sq_RC C (am_st sz F) op en (fun _ => False)) {n : Nat} (h1 : 1 ≤ n) (h20 : n ≤ 20) (hM : ∀ m, 1 ≤ m → m < n → sq_NM C (am_st sz F) op en (am_sS C) m (am_st sz F)) (q : ∀ C' v, am_NR C (am_st sz F) op en C' n (am_st sz F) v → Q (some (.int v)) (hp C' e)) {kc ks : Nat} : am_Go (mX6_nameRowsOf, 0, am_ent mX6_nameRowsOf [.ref 26, .int (nI n)], [], hp C e, kc, ks, Q) := by
  refine go_s 5 rfl ?_
  refine go_st kX6_nameRowsOf_7 okJ7_fill_53178 rfl rfl rfl (Nat.zero_le _) (Nat.zero_le _) ?_
  refine c_J7_fill_53178 rfl (by decide) ?_
  refine go_s 2 (pc' := 12) (ls' := [.ref 26, .int (nI n), .int 0, .int (nI 0), .long 0, .long 0]) (st' := []) (h' := hp (am_fil C 52 300 (-1)) e) rfl ?_
  refine c_nr hP hN hRC h1 h20 hM q (am_st sz F + 1) _ _ 0 _ _ _ _ (by omega) (by omega) ⟨fun c j a1 _ _ => am_fil_ne a1, fun t ht => by omega, fun c hc => ⟨[], am_fil_eq hc, fun r => ⟨fun z => (by cases z), fun z => (by omega)⟩⟩, Or.inl ⟨rfl, fun ⟨t, r, ht, _⟩ => by omega⟩⟩
def am_NL (C : Nat → Nat → Int32) (N : Nat) (op en : Nat → Prop) (C' : Nat → Nat → Int32) (L : Nat) : Prop := (∀ c j, (c < 32 ∨ 53 < c) → (c ≠ 26 ∨ j ≠ 13) → C' c j = C c j) ∧ (∀ m, 1 ≤ m → m ≤ L → sq_NM C' N op en (am_sS C) m N) ∧ (C' 26 13 = nI L)
theorem am_NL.fr {C : Nat → Nat → Int32} {N : Nat} {op en : Nat → Prop} {C' : Nat → Nat → Int32} {L : Nat} (h : am_NL C N op en C' L) : ∀ c j, (c < 32 ∨ 53 < c) → (c ≠ 26 ∨ j ≠ 13) → C' c j = C c j := h.1
theorem am_NL.nm {C : Nat → Nat → Int32} {N : Nat} {op en : Nat → Prop} {C' : Nat → Nat → Int32} {L : Nat} (h : am_NL C N op en C' L) : ∀ m, 1 ≤ m → m ≤ L → sq_NM C' N op en (am_sS C) m N := h.2.1
theorem am_NL.lt {C : Nat → Nat → Int32} {N : Nat} {op en : Nat → Prop} {C' : Nat → Nat → Int32} {L : Nat} (h : am_NL C N op en C' L) : C' 26 13 = nI L := h.2.2
theorem am_sS_cg {C C' : Nat → Nat → Int32} (h : ∀ c j, 2 ≤ c → c ≤ 5 → C' c j = C c j) : am_sS C' = am_sS C := by
  funext s t
  unfold am_sS
  rw [h 2 s (by decide) (by decide), h 2 t (by decide) (by decide), h 3 s (by decide) (by decide), h 3 t (by decide) (by decide), h 4 s (by decide) (by decide), h 4 t (by decide) (by decide), h 5 s (by decide) (by decide), h 5 t (by decide) (by decide)]
theorem sq_tw_mo {N : Nat} {op en : Nat → Prop} {sm : Nat → Nat → Prop} {n m M : Nat} (hm : n ≤ m) (h : sq_tw N op en sm m M) : sq_tw N op en sm n M := by
  obtain ⟨t, r, h1, h2, h3, h4, h5⟩ := h
  exact ⟨t, r, h1, h2, sq_ft_le h3 hm, sq_ft_le h4 hm, sq_rw_le h5 hm⟩
theorem c_nrw {C D : Nat → Nat → Int32} {F : Nat} {sz : Nat → Nat} {op en : Nat → Prop} {e : am_E} {Q : am_Q} (hP : am_PG C D F sz) (hN : C 26 12 = nI (am_st sz F)) (hRC : sq_RC C (am_st sz F) op en (fun _ => False)) (q : ∀ C' L, L ≤ 20 → am_NL C (am_st sz F) op en C' L → (∀ m, L < m → m ≤ 20 → ¬ sq_tw (am_st sz F) op en (am_sS C) m (am_st sz F)) → Q none (hp C' e)) : ∀ (n0 kc ks L : Nat) (C' : Nat → Nat → Int32), 20 < n0 + L → L ≤ 20 → am_NL C (am_st sz F) op en C' L → am_Go (mX6_nameRows, 9, [.ref 26, .int 1, .int (nI (L + 1))], [], hp C' e, kc, ks, Q)
  | 0, kc, ks, L, C', g1, g2, hI => by omega
  | n0 + 1, kc, ks, L, C', g1, g2, hI => by
    have h3 := hP.t300
    have r26 : C' 26 12 = nI (am_st sz F) := (hI.fr 26 12 (by decide) (by decide)).trans hN
    have hP' : am_PG C' D F sz := hP.fr (fun c j h1 h2 _ => hI.fr c j (by omega) (Or.inl (by omega))) (fun _ _ _ _ _ => rfl)
    have hss : am_sS C' = am_sS C := am_sS_cg (fun c j h1 h2 => hI.fr c j (by omega) (Or.inl (by omega)))
    have hRC' : sq_RC C' (am_st sz F) op en (fun _ => False) := fun s hs => by
      rw [hI.fr 29 s (by omega) (Or.inl (by decide))]; exact hRC s hs
    refine go_s 2 rfl ?_
    refine go_if (fun c10 => absurd c10 (by decide)) (fun c10 => ?_)
    refine go_s 3 rfl ?_
    refine go_if (fun c16 => ?_) (fun c16 => ?_)
    · have c16 : (20 : Int32) < nI (L + 1) := c16
      have := (nI_ltI (a := 20) (b := L + 1) (by decide) (by omega)).mp c16
      exact go_retv rfl rfl (q C' L (by omega) hI (fun m a1 a2 => by omega))
    · refine go_s 2 rfl ?_
      refine go_v kX6_nameRows_21 okX6_nameRowsOf rfl rfl rfl rfl (Nat.zero_le _) (Nat.zero_le _) ?_
      have c16 : ¬ (20 : Int32) < nI (L + 1) := c16
      have hL : L + 1 ≤ 20 := by have := mt (nI_lt (a := 20) (b := L + 1) · (by omega)) c16; omega
      refine c_X6_nameRowsOf hP' r26 hRC' (n := L + 1) (by omega) (by omega) (fun m a1 a2 => by rw [hss]; exact hI.nm m a1 (by omega)) (fun C2 v2 h2 => ?_)
      skip
      refine go_s 3 rfl ?_
      refine go_if (fun c26 => ?_) (fun c26 => ?_)
      · have hno := am_bz_0 h2.tw c26
        rw [hss] at hno
        refine go_s 2 (pc' := 9) (ls' := [.ref 26, .int v2, .int (nI (L + 2))]) (st' := []) (h' := hp C2 e) (by rw [show L + 2 = L + 1 + 1 from rfl, ← nI_1 (L + 1)]; rfl) ?_
        refine go_s 2 rfl ?_
        refine go_if (fun _ => ?_) (fun z => absurd c26 z)
        refine go_retv rfl rfl (q C2 L (by omega) ⟨fun c j a1 a2 => (h2.fr c j (by omega) (by omega) (by omega)).trans (hI.fr c j a1 a2), fun m a1 a2 t ht => ?_, (h2.fr 26 13 (by decide) (by decide) (by omega)).trans hI.lt⟩ (fun m a1 a2 z => hno (sq_tw_mo (by omega) z)))
        rw [h2.fr (31 + m) t (by omega) (by omega) (by omega)]
        exact hI.nm m a1 a2 t ht
      · refine go_s 5 (pc' := 9) (ls' := [.ref 26, .int v2, .int (nI (L + 2))]) (st' := []) (h' := hp (am_u C2 26 13 (nI (L + 1))) e) (by rw [show L + 2 = L + 1 + 1 from rfl, ← nI_1 (L + 1)]; rfl) ?_
        have hv1 : v2 = 1 := (h2.tw.resolve_left (fun z => c26 z.1)).1
        subst hv1
        refine c_nrw hP hN hRC q n0 _ _ (L + 1) _ (by omega) (by omega) ⟨fun c j a1 a2 => ?_, fun m a1 a2 t ht => ?_, am_u_eq⟩
        · rw [show am_u C2 26 13 (nI (L + 1)) c j = C2 c j by unfold am_u; rw [if_neg (by omega)]]
          exact (h2.fr c j (by omega) (by omega) (by omega)).trans (hI.fr c j a1 a2)
        · rw [am_u_ne (by omega)]
          by_cases em : m = L + 1
          · subst em; rw [← hss]; exact h2.nm t ht
          · rw [h2.fr (31 + m) t (by omega) (by omega) (by omega)]; exact hI.nm m a1 (by omega) t ht
theorem c_X6_nameRows {C D : Nat → Nat → Int32} {F : Nat} {sz : Nat → Nat} {op en : Nat → Prop} {e : am_E} {Q : am_Q} (hP : am_PG C D F sz) (hN : C 26 12 = nI (am_st sz F)) (hRC : sq_RC C (am_st sz F) op en (fun _ => False)) (q : ∀ C' L, L ≤ 20 → am_NL C (am_st sz F) op en C' L → (∀ m, L < m → m ≤ 20 → ¬ sq_tw (am_st sz F) op en (am_sS C) m (am_st sz F)) → Q none (hp C' e)) {kc ks : Nat} : am_Go (mX6_nameRows, 0, am_ent mX6_nameRows [.ref 26], [], hp C e, kc, ks, Q) := by
  refine go_s 7 (pc' := 9) (ls' := [.ref 26, .int 1, .int (nI (0 + 1))]) (st' := []) (h' := hp (am_u C 26 13 0) e) rfl ?_
  refine c_nrw hP hN hRC q 21 _ _ 0 _ (by omega) (by omega) ⟨fun c j a1 a2 => ?_, fun m a1 a2 => by omega, am_u_eq⟩
  unfold am_u
  rw [if_neg (by omega)]
