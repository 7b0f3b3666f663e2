def am_TB (C : Nat → Nat → Int32) (F : Nat) (sz : Nat → Nat) (op en : Nat → Prop) (sm : Nat → Nat → Prop) (ln sp : Nat → Nat) (K : Nat) (C' : Nat → Nat → Int32) (j : Nat) : Prop := (∀ c i, (c < 15 ∨ 25 < c) → c ≠ 27 → C' c i = C c i) ∧ (sq_RP C' F sz op en sm ln sp K j) ∧ (∀ t, t < am_st sz F → am_bz (C' 27 t) (op t ∧ ¬ sq_U (am_st sz F) op en sm ln sp K t ∧ ¬ (t < j ∧ ∃ i, sq_ok (am_st sz F) op en sm ln sp K i ∧ i ≤ t ∧ t < i + ln K)))
theorem am_TB.fr {C : Nat → Nat → Int32} {F : Nat} {sz : Nat → Nat} {op en : Nat → Prop} {sm : Nat → Nat → Prop} {ln sp : Nat → Nat} {K : Nat} {C' : Nat → Nat → Int32} {j : Nat} (h : am_TB C F sz op en sm ln sp K C' j) : ∀ c i, (c < 15 ∨ 25 < c) → c ≠ 27 → C' c i = C c i := h.1
theorem am_TB.rp {C : Nat → Nat → Int32} {F : Nat} {sz : Nat → Nat} {op en : Nat → Prop} {sm : Nat → Nat → Prop} {ln sp : Nat → Nat} {K : Nat} {C' : Nat → Nat → Int32} {j : Nat} (h : am_TB C F sz op en sm ln sp K C' j) : sq_RP C' F sz op en sm ln sp K j := h.2.1
theorem am_TB.op {C : Nat → Nat → Int32} {F : Nat} {sz : Nat → Nat} {op en : Nat → Prop} {sm : Nat → Nat → Prop} {ln sp : Nat → Nat} {K : Nat} {C' : Nat → Nat → Int32} {j : Nat} (h : am_TB C F sz op en sm ln sp K C' j) : ∀ t, t < am_st sz F → am_bz (C' 27 t) (op t ∧ ¬ sq_U (am_st sz F) op en sm ln sp K t ∧ ¬ (t < j ∧ ∃ i, sq_ok (am_st sz F) op en sm ln sp K i ∧ i ≤ t ∧ t < i + ln K)) := h.2.2
theorem c_tb2 {C : Nat → Nat → Int32} {F : Nat} {sz : Nat → Nat} {op en : Nat → Prop} {sm : Nat → Nat → Prop} {ln sp : Nat → Nat} {K j : Nat} {e : am_E} {Q : am_Q} {kc ks : Nat} {x1 x4 : Value} {C' : Nat → Nat → Int32} (h3 : am_st sz F ≤ 300) (hj : j < am_st sz F) (hl : 1 ≤ ln K) (hl20 : ln K ≤ 20) (hfr : ∀ c i, (c < 15 ∨ 25 < c) → c ≠ 27 → C' c i = C c i) (hrp : sq_RP C' F sz op en sm ln sp K (j + 1)) (hop : ∀ t, t < am_st sz F → am_bz (C' 27 t) (op t ∧ ¬ sq_U (am_st sz F) op en sm ln sp K t ∧ ¬ (t < j ∧ ∃ i, sq_ok (am_st sz F) op en sm ln sp K i ∧ i ≤ t ∧ t < i + ln K))) (h1 : 1 ≤ (sq_gk (am_st sz F) op en sm ln sp K (j + 1)).1) (KK : ∀ C2, am_TB C F sz op en sm ln sp K C2 (j + 1) → am_Go (mX6_takeBest, 38, [.ref 26, x1, .int (nI (sq_gk (am_st sz F) op en sm ln sp K (j + 1)).2), .int (nI (j + 1)), x4], [], hp C2 e, kc, ks, Q)) : am_Go (mX6_takeBest, 102, [.ref 26, x1, .int (nI (sq_gk (am_st sz F) op en sm ln sp K (j + 1)).2), .int (nI j), x4], [], hp C' e, kc, ks, Q) := by
  have cov := sq_cov (P := sq_Pk (am_st sz F) op en sm ln sp K) hl h1
  have gle := sq_gr_le (P := sq_Pk (am_st sz F) op en sm ln sp K) (N := am_st sz F) hl (fun i z => z.1.1) (j + 1)
  have gle2 : (sq_gk (am_st sz F) op en sm ln sp K (j + 1)).2 ≤ am_st sz F := gle.2.1
  have hcj := nI_clamp (show j < 2 ^ 31 by omega)
  refine go_s 3 rfl ?_
  refine go_if (fun c => ?_) (fun c => ?_)
  · have c := (nI_ltI (a := j) (by omega) (by omega)).mp c
    have cv := cov.mp c
    refine go_s 4 rfl ?_
    refine go_m rfl rfl (show vp_in (nI j) 300 from vp_in_nI (by omega) (by decide)) ?_
    refine go_s 2 (pc' := 38) (ls' := [.ref 26, x1, .int (nI (sq_gk (am_st sz F) op en sm ln sp K (j + 1)).2), .int (nI (j + 1)), x4]) (st' := []) (h' := hp (am_u C' 27 (nI j).toNatClampNeg 0) e) (by rw [← nI_1 j]; rfl) ?_
    rw [hcj]
    refine KK _ ⟨fun c i a1 a2 => (am_u_ne a2).trans (hfr c i a1 a2), ?_, fun t ht => ?_⟩
    · refine ⟨(am_u_ne (by decide)).trans hrp.cR, (am_u_ne (by decide)).trans hrp.cO, fun k hk => sq_RO_cg (hrp.ro k hk) (fun c a1 a2 => am_u_ne (by omega)) (fun i _ _ => ⟨am_u_ne (by decide), fun c a1 a2 => am_u_ne (by omega)⟩), sq_RO_cg hrp.rp (fun c a1 a2 => am_u_ne (by omega)) (fun i _ _ => ⟨am_u_ne (by decide), fun c a1 a2 => am_u_ne (by omega)⟩), fun i hi g1 g2 => (am_u_ne (by decide)).trans (hrp.no i hi g1 g2)⟩
    · by_cases et : t = j
      · subst et; rw [am_u_eq]
        exact Or.inl ⟨rfl, fun z => z.2.2 ⟨by omega, cv⟩⟩
      · rw [am_u_nj et]
        exact am_bz_iff (hop t ht) ⟨fun z => ⟨z.1, z.2.1, fun y => z.2.2 ⟨by omega, y.2⟩⟩, fun z => ⟨z.1, z.2.1, fun y => z.2.2 ⟨by omega, y.2⟩⟩⟩
  · have c := mt (nI_lt (a := j) (b := (sq_gk (am_st sz F) op en sm ln sp K (j + 1)).2) · (by omega)) c
    have cv := mt cov.mpr c
    refine go_s 2 (pc' := 38) (ls' := [.ref 26, x1, .int (nI (sq_gk (am_st sz F) op en sm ln sp K (j + 1)).2), .int (nI (j + 1)), x4]) (st' := []) (h' := hp C' e) (by rw [← nI_1 j]; rfl) ?_
    refine KK _ ⟨hfr, hrp, fun t ht => am_bz_iff (hop t ht) ⟨fun z => ⟨z.1, z.2.1, fun y => ?_⟩, fun z => ⟨z.1, z.2.1, fun y => z.2.2 ⟨by omega, y.2⟩⟩⟩⟩
    by_cases et : t = j
    · subst et; exact cv y.2
    · exact z.2.2 ⟨by omega, y.2⟩
theorem c_tb {C D : Nat → Nat → Int32} {F T K : Nat} {sz : Nat → Nat} {op en : Nat → Prop} {sm : Nat → Nat → Prop} {ln sp : Nat → Nat} {e : am_E} {Q : am_Q} (hP : am_PG C D F sz) (hE : sq_EN C (am_st sz F) op en (sq_U (am_st sz F) op en sm ln sp K) sm T) (hB : sq_B (am_st sz F) op en (sq_U (am_st sz F) op en sm ln sp K) sm (ln K) (sp K)) (hLT : ln K ≤ T) (hln : ∀ k, k ≤ K → 2 ≤ ln k) (hK : K < 60) (b15 : C 26 15 = nI (ln K)) {r : Nat} (hr : sq_fi (am_st sz F) op en sm (ln K) (sp K) r) (q : ∀ C', (∀ c i, (c < 15 ∨ 25 < c) → c ≠ 27 → C' c i = C c i) → sq_RS C' F sz op en sm ln sp (K + 1) → (∀ t, t < am_st sz F → am_bz (C' 27 t) (op t ∧ ¬ sq_U (am_st sz F) op en sm ln sp (K + 1) t)) → Q none (hp C' e)) : ∀ (n0 kc ks j en0 : Nat) (x4 : Value) (C' : Nat → Nat → Int32), am_st sz F < n0 + j → j ≤ am_st sz F → sp K ≤ j → am_TB C F sz op en sm ln sp K C' j → ((j = sp K ∧ en0 = sp K) ∨ (sp K < j ∧ en0 = (sq_gk (am_st sz F) op en sm ln sp K j).2)) → am_Go (mX6_takeBest, 38, [.ref 26, .int (nI r), .int (nI en0), .int (nI j), x4], [], hp C' e, kc, ks, Q)
  | 0, kc, ks, j, en0, x4, C', g1, g2, hsj, hI, hed => by omega
  | n0 + 1, kc, ks, j, en0, x4, C', g1, g2, hsj, hI, hed => by
    have hn3 := hE.n3
    have l2 := hB.l2
    have l20 := hB.l20
    have hF := hP.hF
    have hPs : sq_Pk (am_st sz F) op en sm ln sp K (sp K) := ⟨hB.ft, (sq_rw_eqv hE.eq _).1 _⟩
    have hmin : ∀ i, i < sp K → ¬ sq_Pk (am_st sz F) op en sm ln sp K i := fun i hi z => by
      have e1 := sq_cn_eq (N := am_st sz F) (op := op) (en := en) (U := sq_U (am_st sz F) op en sm ln sp K) hE.eq z.2
      have := hB.mx (ln K) i l2 l20 z.1
      rw [← e1] at this
      omega
    have r15 : C' 26 15 = nI (ln K) := (hI.fr 26 15 (Or.inr (by decide)) (by decide)).trans b15
    have hE' : sq_EN C' (am_st sz F) op en (sq_U (am_st sz F) op en sm ln sp K) sm T := hE.u (fun c i hc => hI.fr c i (by omega) (by omega))
    have hP' : am_PG C' D F sz := hP.fr (fun c i h1 h2 _ => hI.fr c i (by omega) (by omega)) (fun _ _ _ _ _ => rfl)
    have genb := (sq_gr_le (P := sq_Pk (am_st sz F) op en sm ln sp K) (N := am_st sz F) (show 1 ≤ ln K by omega) (fun i z => z.1.1) j).2.1
    have hen : en0 ≤ 300 := by
      rcases hed with z | z
      · omega
      · have : (sq_gk (am_st sz F) op en sm ln sp K j).2 ≤ am_st sz F := genb
        omega
    refine go_s 4 rfl ?_
    refine go_if (fun c43 => ?_) (fun c43 => ?_)
    · have c43 : nI j < C' 26 12 := c43
      rw [hE'.sz] at c43
      have hjN : j < am_st sz F := (nI_ltI (by omega) (by omega)).mp c43
      refine go_s 3 rfl ?_
      refine go_if (fun c48 => ?_) (fun c48 => ?_)
      · refine go_s 0 rfl ?_
        have c48 := (nI_ltI (a := j) (b := en0) (by omega) (by omega)).mp c48
        obtain ⟨y1, y2⟩ := hed.resolve_left (fun z => by omega)
        have hnok : ¬ sq_ok (am_st sz F) op en sm ln sp K j := fun z => by have := z.2; omega
        have eg : sq_gk (am_st sz F) op en sm ln sp K (j + 1) = sq_gk (am_st sz F) op en sm ln sp K j := sq_gr_f hnok
        have g1 : 1 ≤ (sq_gk (am_st sz F) op en sm ln sp K (j + 1)).1 := (sq_gr_1 (P := sq_Pk (am_st sz F) op en sm ln sp K) (by omega) hPs (show sp K < j + 1 by omega)).1
        rw [y2, ← eg]
        exact c_tb2 hn3 hjN (by omega) hB.l20 hI.fr (sq_RP_sk hI.rp hnok) hI.op g1 (fun C2 h2 => c_tb hP hE hB hLT hln hK b15 hr q n0 _ _ (j + 1) _ _ C2 (by omega) (by omega) (by omega) h2 (Or.inr ⟨by omega, rfl⟩))
      · refine go_s 4 rfl ?_
        refine go_v kX6_takeBest_57 okX6_fitNameAt rfl rfl rfl rfl (Nat.zero_le _) (Nat.zero_le _) ?_
        show am_Go (mX6_fitNameAt, 0, am_ent mX6_fitNameAt [.ref 26, .int (nI j), .int (C' 26 15)], [], hp C' e, _, _, _)
        rw [r15]
        refine c_X6_fitNameAt hE' (by omega) hLT hjN (fun w hw => ?_)
        refine go_s 2 rfl ?_
        refine go_if (fun c61 => ?_) (fun c61 => ?_)
        · have c48 := mt (nI_lt (a := j) (b := en0) · (by omega)) c48
          have c61 : w = nI r := c61
          have hPj : sq_Pk (am_st sz F) op en sm ln sp K j := by
            obtain ⟨y1, a, ea, ha⟩ := hw.resolve_right (fun y => nI_pos (n := r) (by have := hr.le; have := hB.ft.1; omega) (by rw [← c61, y.2]; decide))
            have la := ha.le
            have lr := hr.le
            have lb := hB.ft.1
            have er : a = r := (nI_eq (by omega) (by omega)).mp (ea.symm.trans c61)
            exact ⟨y1, (sq_fi_eq hE.eq hr ha).mp er.symm⟩
          have hok : sq_ok (am_st sz F) op en sm ln sp K j := ⟨hPj, by
            rcases hed with z | z
            · rw [z.1, show (sq_gk (am_st sz F) op en sm ln sp K (sp K)) = (0, 0) from sq_gr_0 _ hmin]; exact Nat.zero_le _
            · have := z.2
              omega⟩
          obtain ⟨f, p, hf, hpf, ej⟩ := am_spx F j hjN
          have eg : sq_gk (am_st sz F) op en sm ln sp K (j + 1) = ((sq_gk (am_st sz F) op en sm ln sp K j).1 + 1, j + ln K) := sq_gr_t hok.1 hok.2
          have g1 : 1 ≤ (sq_gk (am_st sz F) op en sm ln sp K (j + 1)).1 := by rw [eg]; dsimp only; omega
          have fob := sq_fo_p (N := am_st sz F) (op := op) (en := en) (sm := sm) (sp := sp) hln (j + 1)
          rw [eg] at fob
          dsimp only at fob
          have hac := am_aoc_eq (C := C') (K := K) (o := sq_fo (am_st sz F) op en sm ln sp K + (sq_gk (am_st sz F) op en sm ln sp K j).1) (m := (sq_gk (am_st sz F) op en sm ln sp K j).1) (j := j) (f := f) (p := p) hK (by omega) (by omega) hI.rp.cR hI.rp.cO hI.rp.rp.s19
          have hrp3 := sq_RP_up hln hI.rp hok hf hpf ej
          rw [← hac] at hrp3
          have hfr3 : ∀ c i, (c < 15 ∨ 25 < c) → c ≠ 27 → am_aoc C' (nI j) (nI f) (nI p) c i = C c i := fun c i a1 a2 => by
            rw [hac]
            unfold am_ac
            rw [am_u_ne (by omega), am_u_ne (by omega), am_u_ne (by omega), am_u_ne (by omega), am_u_ne (by omega), am_u_ne (by omega), am_u_ne (by omega)]; exact hI.fr c i a1 a2
          have hop3 : ∀ t, t < am_st sz F → am_bz (am_aoc C' (nI j) (nI f) (nI p) 27 t) (op t ∧ ¬ sq_U (am_st sz F) op en sm ln sp K t ∧ ¬ (t < j ∧ ∃ i, sq_ok (am_st sz F) op en sm ln sp K i ∧ i ≤ t ∧ t < i + ln K)) := fun t ht => by
            rw [hac]
            unfold am_ac
            rw [am_u_ne (by decide), am_u_ne (by decide), am_u_ne (by decide), am_u_ne (by decide), am_u_ne (by decide), am_u_ne (by decide), am_u_ne (by decide)]; exact hI.op t ht
          refine go_s 3 rfl ?_
          refine go_v kX6_takeBest_69 okX5_functionAt rfl rfl rfl rfl (Nat.zero_le _) (Nat.zero_le _) ?_
          show am_Go (mX5_functionAt, 0, am_ent mX5_functionAt [.ref 1, .int (nI j)], [], hp C' e, _, _, _)
          rw [ej]
          refine c_X5_functionAt hP' hf hpf ?_
          rw [← ej]
          refine go_s 9 rfl ?_
          refine go_v kX6_takeBest_88 okX5_startOf rfl rfl rfl rfl (Nat.zero_le _) (Nat.zero_le _) ?_
          refine c_X5_startOf hP'.h5 ?_
          refine go_s 1 (pc' := 92) (ls' := [.ref 26, .int (nI r), .int (nI en0), .int (nI j), .int (nI f)]) (st' := [.int (nI p), .int (nI f), .int (nI j), .ref 15]) (h' := hp C' e) (by rw [show nI p = nI j - am_sta C' (nI f) by rw [hP'.sta hf, ej, nI_sub (by omega)]; congr 1; omega]; rfl) ?_
          refine go_v kX6_takeBest_92 okX7_addOccurrence rfl rfl rfl rfl (Nat.zero_le _) (Nat.zero_le _) ?_
          show am_Go (mX7_addOccurrence, 0, am_ent mX7_addOccurrence [.ref 15, .int (nI j), .int (nI f), .int (nI p)], [], hp C' e, _, _, _)
          refine c_X7_addOccurrence (by rw [hI.rp.cO]; exact nI_pos (by omega)) (by rw [hI.rp.cR, nI_pred]; exact vp_in_nI hK (by decide)) ?_
          refine go_s 5 (pc' := 102) (ls' := [.ref 26, .int (nI r), .int (nI (sq_gk (am_st sz F) op en sm ln sp K (j + 1)).2), .int (nI j), .int (nI f)]) (st' := []) (h' := hp (am_aoc C' (nI j) (nI f) (nI p)) e) (by rw [eg, ← nI_add, show nI (ln K) = am_aoc C' (nI j) (nI f) (nI p) 26 15 by rw [hfr3 26 15 (Or.inr (by decide)) (by decide)]; exact b15.symm]; rfl) ?_
          exact c_tb2 hn3 hjN (by omega) hB.l20 hfr3 hrp3 hop3 g1 (fun C2 h2 => c_tb hP hE hB hLT hln hK b15 hr q n0 _ _ (j + 1) _ _ C2 (by omega) (by omega) (by omega) h2 (Or.inr ⟨by omega, rfl⟩))
        · refine go_s 0 rfl ?_
          have c48 := mt (nI_lt (a := j) (b := en0) · (by omega)) c48
          have c61 : ¬ w = nI r := c61
          have hnP : ¬ sq_Pk (am_st sz F) op en sm ln sp K j := fun z => by
            obtain ⟨_, a, ea, ha⟩ := hw.resolve_right (fun y => y.1 z.1)
            exact c61 (by rw [ea, (sq_fi_eq hE.eq ha hr).mpr ((sq_rw_eqv hE.eq _).2.1 _ _ z.2)])
          have hnok : ¬ sq_ok (am_st sz F) op en sm ln sp K j := fun z => hnP z.1
          have hjs : ¬ j = sp K := fun z => hnP (by rw [z]; exact hPs)
          obtain ⟨y1, y2⟩ := hed.resolve_left (fun z => hjs z.1)
          have eg : sq_gk (am_st sz F) op en sm ln sp K (j + 1) = sq_gk (am_st sz F) op en sm ln sp K j := sq_gr_f hnok
          have g1 : 1 ≤ (sq_gk (am_st sz F) op en sm ln sp K (j + 1)).1 := (sq_gr_1 (P := sq_Pk (am_st sz F) op en sm ln sp K) (by omega) hPs (show sp K < j + 1 by omega)).1
          rw [y2, ← eg]
          exact c_tb2 hn3 hjN (by omega) hB.l20 hI.fr (sq_RP_sk hI.rp hnok) hI.op g1 (fun C2 h2 => c_tb hP hE hB hLT hln hK b15 hr q n0 _ _ (j + 1) _ _ C2 (by omega) (by omega) (by omega) h2 (Or.inr ⟨by omega, rfl⟩))
    · have c43 : ¬ nI j < C' 26 12 := c43
      rw [hE'.sz] at c43
      have hge := mt (nI_lt (a := j) (b := am_st sz F) · (by omega)) c43
      have ej : j = am_st sz F := by omega
      rw [ej] at hI
      refine go_retv rfl rfl (q _ hI.fr ⟨hI.rp.cR, hI.rp.cO, fun k hk => ?_, fun i hi g => hI.rp.no i hi (fun k hk => g k (by omega)) (fun z => g K (by omega) z.1)⟩ (fun t ht => am_bz_iff (hI.op t ht) ⟨fun z => ⟨z.1, fun y => y.elim z.2.1 (fun y => z.2.2 ⟨ht, y⟩)⟩, fun z => ⟨z.1, fun y => z.2 (Or.inl y), fun y => z.2 (Or.inr y.2)⟩⟩))
      by_cases ek : k = K
      · subst ek; exact hI.rp.rp
      · exact hI.rp.ro k (by omega)
