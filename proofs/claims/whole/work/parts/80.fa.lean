def am_ar (C : Nat → Nat → Int32) (K s l : Nat) : Nat → Nat → Int32 := am_u (am_u (am_u (am_u (am_u (am_u C 16 K (nI s)) 17 K (nI l)) 18 K (C 15 11)) 19 K 0) 20 K 0) 15 10 (nI (K + 1))
theorem am_aro_eq {C : Nat → Nat → Int32} {K s l : Nat} (hK : K < 60) (h10 : C 15 10 = nI K) : am_aro C (nI s) (nI l) = am_ar C K s l := by
  unfold am_aro am_ar
  rw [h10, if_pos (show nI K < 60 from nI_lt (a := K) (b := 60) hK (by decide)), nI_clamp (by omega), nI_1]
theorem am_ar_ne {C : Nat → Nat → Int32} {K s l c j : Nat} (h : c < 15 ∨ 20 < c) : am_ar C K s l c j = C c j := by
  unfold am_ar
  rw [am_u_ne (by omega), am_u_ne (by omega), am_u_ne (by omega), am_u_ne (by omega), am_u_ne (by omega), am_u_ne (by omega)]
theorem am_ar_nj {C : Nat → Nat → Int32} {K s l c j : Nat} (h : j ≠ K) (h2 : c ≠ 15) : am_ar C K s l c j = C c j := by
  unfold am_ar am_u
  rw [if_neg (by omega), if_neg (by omega), if_neg (by omega), if_neg (by omega), if_neg (by omega), if_neg (by omega)]
theorem c_X6_takeBest {C D : Nat → Nat → Int32} {F T K : Nat} {sz : Nat → Nat} {op en : Nat → Prop} {sm : Nat → Nat → Prop} {ln sp : Nat → Nat} {e : am_E} {Q : am_Q} (hP : am_PG C D F sz) (hE : sq_EN C (am_st sz F) op en (sq_U (am_st sz F) op en sm ln sp K) sm T) (hB : sq_B (am_st sz F) op en (sq_U (am_st sz F) op en sm ln sp K) sm (ln K) (sp K)) (hLT : ln K ≤ T) (hln : ∀ k, k ≤ K → 2 ≤ ln k) (hK : K < 60) (b15 : C 26 15 = nI (ln K)) (b16 : C 26 16 = nI (sp K)) (hRS : sq_RS C F sz op en sm ln sp K) (ho : ∀ t, t < am_st sz F → am_bz (C 27 t) (op t ∧ ¬ sq_U (am_st sz F) op en sm ln sp K t)) (q : ∀ C', (∀ c i, (c < 15 ∨ 25 < c) → c ≠ 27 → C' c i = C c i) → sq_RS C' F sz op en sm ln sp (K + 1) → (∀ t, t < am_st sz F → am_bz (C' 27 t) (op t ∧ ¬ sq_U (am_st sz F) op en sm ln sp (K + 1) t)) → Q none (hp C' e)) {kc ks : Nat} : am_Go (mX6_takeBest, 0, am_ent mX6_takeBest [.ref 26], [], hp C e, kc, ks, Q) := by
  have hn3 := hE.n3
  have hbf := hB.ft.1
  have l2 := hB.l2
  have l20 := hB.l20
  have hPs : sq_Pk (am_st sz F) op en sm ln sp K (sp K) := ⟨hB.ft, (sq_rw_eqv hE.eq _).1 _⟩
  have hmin : ∀ i, i < sp K → ¬ sq_Pk (am_st sz F) op en sm ln sp K i := fun i hi z => by
    have e1 := sq_cn_eq (N := am_st sz F) (op := op) (en := en) (U := sq_U (am_st sz F) op en sm ln sp K) hE.eq z.2
    have := hB.mx (ln K) i l2 l20 z.1
    rw [← e1] at this
    omega
  have g0 : sq_gk (am_st sz F) op en sm ln sp K (sp K) = (0, 0) := sq_gr_0 _ hmin
  refine go_s 6 (pc' := 12) (ls' := [.ref 26, .long 0, .long 0, .long 0, .long 0]) (st' := [.int (nI (ln K)), .int (nI (sp K)), .ref 15]) (h' := hp C e) (by rw [← b15, ← b16]; rfl) ?_
  refine go_v kX6_takeBest_12 okX7_addRoutine rfl rfl rfl rfl (Nat.zero_le _) (Nat.zero_le _) ?_
  refine c_X7_addRoutine (by rw [hRS.cR]; exact nI_pos (by omega)) ?_
  rw [am_aro_eq hK hRS.cR]
  have r15 : am_ar C K (sp K) (ln K) 26 15 = nI (ln K) := (am_ar_ne (Or.inr (by decide))).trans b15
  have r16 : am_ar C K (sp K) (ln K) 26 16 = nI (sp K) := (am_ar_ne (Or.inr (by decide))).trans b16
  refine go_s 5 (pc' := 24) (ls' := [.ref 26, .long 0, .long 0, .long 0, .long 0]) (st' := [.int (nI (ln K)), .int (nI (sp K)), .ref 26]) (h' := hp (am_ar C K (sp K) (ln K)) e) (by rw [← r15, ← r16]; rfl) ?_
  refine go_v kX6_takeBest_24 okX6_fitNameAt rfl rfl rfl rfl (Nat.zero_le _) (Nat.zero_le _) ?_
  have hE' : sq_EN (am_ar C K (sp K) (ln K)) (am_st sz F) op en (sq_U (am_st sz F) op en sm ln sp K) sm T := hE.u (fun c i hc => am_ar_ne (by omega))
  refine c_X6_fitNameAt hE' (by omega) hLT (by omega) (fun w hw => ?_)
  obtain ⟨_, r, er, hr⟩ := hw.resolve_right (fun z => z.1 hB.ft)
  subst er
  refine go_s 7 (pc' := 38) (ls' := [.ref 26, .int (nI r), .int (nI (sp K)), .int (nI (sp K)), .long 0]) (st' := []) (h' := hp (am_ar C K (sp K) (ln K)) e) (by rw [← r16]; rfl) ?_
  have hP' : am_PG (am_ar C K (sp K) (ln K)) D F sz := hP.fr (fun c i h1 h2 _ => am_ar_ne (by omega)) (fun _ _ _ _ _ => rfl)
  refine c_tb hP' hE' hB hLT hln hK r15 hr (fun C' z1 z2 z3 => q C' (fun c i a1 a2 => (z1 c i a1 a2).trans (am_ar_ne (by omega))) z2 z3) (am_st sz F + 1) _ _ (sp K) (sp K) _ _ (by omega) (by omega) (Nat.le_refl _) ⟨fun _ _ _ _ => rfl, ?_, fun t ht => ?_⟩ (Or.inl ⟨rfl, rfl⟩)
  · refine ⟨am_u_eq, ?_, fun k hk => sq_RO_cg (hRS.ro k hk) (fun c a1 a2 => am_ar_nj (by omega) (by omega)) (fun j _ _ => ⟨am_ar_ne (by omega), fun c a1 a2 => am_ar_ne (by omega)⟩), ⟨?_, ?_, ?_, ?_, fun j hj hoj => absurd hoj.1 (hmin j hj)⟩, fun j hj g1 _ => (am_ar_ne (by omega)).trans (hRS.no j hj g1)⟩
    · rw [g0]
      show am_ar C K (sp K) (ln K) 15 11 = nI (_ + 0)
      unfold am_ar
      rw [am_u_nj (by decide), am_u_ne (by decide), am_u_ne (by decide), am_u_ne (by decide), am_u_ne (by decide), am_u_ne (by decide)]; exact hRS.cO
    · unfold am_ar
      rw [am_u_ne (by decide), am_u_ne (by decide), am_u_ne (by decide), am_u_ne (by decide), am_u_ne (by decide), am_u_eq]
    · unfold am_ar
      rw [am_u_ne (by decide), am_u_ne (by decide), am_u_ne (by decide), am_u_ne (by decide), am_u_eq]
    · unfold am_ar
      rw [am_u_ne (by decide), am_u_ne (by decide), am_u_ne (by decide), am_u_eq]; exact hRS.cO
    · unfold am_ar
      rw [am_u_ne (by decide), am_u_ne (by decide), am_u_eq, g0]; rfl
  · rw [am_ar_ne (by omega)]
    refine am_bz_iff (ho t ht) ⟨fun z => ⟨z.1, z.2, fun ⟨y1, i, y2, y3, _⟩ => hmin i (by omega) y2.1⟩, fun z => ⟨z.1, z.2.1⟩⟩
theorem sq_Pk_cg {N : Nat} {op en : Nat → Prop} {sm : Nat → Nat → Prop} {ln sp ln' sp' : Nat → Nat} {k : Nat} (h : ∀ i, i ≤ k → ln i = ln' i ∧ sp i = sp' i) : sq_Pk N op en sm ln sp k = sq_Pk N op en sm ln' sp' k := by
  unfold sq_Pk
  rw [sq_U_cg k (fun i hi => h i (by omega)), (h k (Nat.le_refl _)).1, (h k (Nat.le_refl _)).2]
theorem sq_gk_cg {N : Nat} {op en : Nat → Prop} {sm : Nat → Nat → Prop} {ln sp ln' sp' : Nat → Nat} {k : Nat} (h : ∀ i, i ≤ k → ln i = ln' i ∧ sp i = sp' i) (j : Nat) : sq_gk N op en sm ln sp k j = sq_gk N op en sm ln' sp' k j := by
  unfold sq_gk
  rw [sq_Pk_cg h, (h k (Nat.le_refl _)).1]
theorem sq_ok_cg {N : Nat} {op en : Nat → Prop} {sm : Nat → Nat → Prop} {ln sp ln' sp' : Nat → Nat} {k : Nat} (h : ∀ i, i ≤ k → ln i = ln' i ∧ sp i = sp' i) (j : Nat) : sq_ok N op en sm ln sp k j = sq_ok N op en sm ln' sp' k j := by
  unfold sq_ok
  rw [sq_Pk_cg h, sq_gk_cg h]
theorem sq_fo_cg {N : Nat} {op en : Nat → Prop} {sm : Nat → Nat → Prop} {ln sp ln' sp' : Nat → Nat} : ∀ {k : Nat}, (∀ i, i < k → ln i = ln' i ∧ sp i = sp' i) → sq_fo N op en sm ln sp k = sq_fo N op en sm ln' sp' k
  | 0, _ => rfl
  | k + 1, h => by
    show sq_fo N op en sm ln sp k + _ = sq_fo N op en sm ln' sp' k + _
    rw [sq_fo_cg (fun i hi => h i (by omega)), sq_gk_cg (fun i hi => h i (by omega))]
theorem sq_RS_cg {C : Nat → Nat → Int32} {F : Nat} {sz : Nat → Nat} {op en : Nat → Prop} {sm : Nat → Nat → Prop} {ln sp ln' sp' : Nat → Nat} {K : Nat} (h : ∀ i, i < K → ln i = ln' i ∧ sp i = sp' i) (z : sq_RS C F sz op en sm ln sp K) : sq_RS C F sz op en sm ln' sp' K := by
  refine ⟨z.cR, by rw [← sq_fo_cg h]; exact z.cO, fun k hk => ?_, fun j hj g => z.no j hj (fun k hk => by rw [sq_ok_cg (fun i hi => h i (by omega))]; exact g k hk)⟩
  have r := z.ro k hk
  have h2 : ∀ i, i ≤ k → ln i = ln' i ∧ sp i = sp' i := fun i hi => h i (by omega)
  refine ⟨by rw [← (h k hk).2]; exact r.s16, by rw [← (h k hk).1]; exact r.s17, by rw [← sq_fo_cg (fun i hi => h i (by omega))]; exact r.s18, by rw [← sq_gk_cg h2]; exact r.s19, fun j hj hoj => ?_⟩
  rw [← sq_ok_cg h2] at hoj
  have := r.oc j hj hoj
  rw [← sq_fo_cg (fun i hi => h i (by omega)), ← sq_gk_cg h2]
  exact this
theorem sq_l1_U {N : Nat} {op en U U' : Nat → Prop} {sm : Nat → Nat → Prop} {L : Nat} (hU : ∀ t, U t → U' t) (h : sq_l1 N op en U sm L) : sq_l1 N op en U' sm L := by
  intro m h1 h2 t hf
  apply Nat.le_of_not_lt
  intro z
  obtain ⟨i, j, g1, g2, g3, g4⟩ := (sq_gr_2' (P := sq_P N op en U' sm t m) (show 1 ≤ m by omega) N).2 z
  have := sq_gr_2 (P := sq_P N op en U sm t m) (show 1 ≤ m by omega) ⟨sq_ft_U hU g1.1, g1.2⟩ ⟨sq_ft_U hU g2.1, g2.2⟩ g3 g4
  have h0 := h m h1 h2 t (sq_ft_U hU hf)
  have h0' : (sq_gr (sq_P N op en U sm t m) m N).1 ≤ 1 := h0
  omega
theorem sq_l1_0 {N L : Nat} {op en : Nat → Prop} {sm : Nat → Nat → Prop} (he : am_eqv sm) (h : ∀ m, L < m → m ≤ 20 → ¬ sq_tw N op en sm m N) : sq_l1 N op en (fun _ => False) sm L := by
  intro m h1 h2 t hf
  apply Nat.le_of_not_lt
  intro z
  obtain ⟨i, j, g1, g2, g3, g4⟩ := (sq_gr_2' (P := sq_P N op en (fun _ => False) sm t m) (show 1 ≤ m by omega) N).2 z
  exact h m h1 h2 ⟨j, i, g4, by omega, g2.1, g1.1, (sq_rw_eqv he m).2.2 _ _ _ ((sq_rw_eqv he m).2.1 _ _ g1.2) g2.2⟩
def am_FA (C : Nat → Nat → Int32) (F : Nat) (sz : Nat → Nat) (op en : Nat → Prop) (sm : Nat → Nat → Prop) (C' : Nat → Nat → Int32) (T : Nat) (ln sp : Nat → Nat) (K : Nat) (v : Int32) : Prop := (∀ c i, (c < 15 ∨ 56 < c) → C' c i = C c i) ∧ (sq_Q (am_st sz F) op en sm ln sp K) ∧ (sq_EN C' (am_st sz F) op en (sq_U (am_st sz F) op en sm ln sp K) sm T) ∧ (∃ L, L ≤ T ∧ C' 26 13 = nI L ∧ sq_l1 (am_st sz F) op en (sq_U (am_st sz F) op en sm ln sp K) sm L) ∧ (sq_RS C' F sz op en sm ln sp K) ∧ (∀ t, t < am_st sz F → am_bz (C' 27 t) (op t ∧ ¬ sq_U (am_st sz F) op en sm ln sp K t)) ∧ (∀ t, t < am_st sz F → am_bz (C' 28 t) (en t)) ∧ (v = 1 ∨ (v = 0 ∧ sq_no (am_st sz F) op en (sq_U (am_st sz F) op en sm ln sp K) sm))
theorem am_FA.fr {C : Nat → Nat → Int32} {F : Nat} {sz : Nat → Nat} {op en : Nat → Prop} {sm : Nat → Nat → Prop} {C' : Nat → Nat → Int32} {T : Nat} {ln sp : Nat → Nat} {K : Nat} {v : Int32} (h : am_FA C F sz op en sm C' T ln sp K v) : ∀ c i, (c < 15 ∨ 56 < c) → C' c i = C c i := h.1
theorem am_FA.qq {C : Nat → Nat → Int32} {F : Nat} {sz : Nat → Nat} {op en : Nat → Prop} {sm : Nat → Nat → Prop} {C' : Nat → Nat → Int32} {T : Nat} {ln sp : Nat → Nat} {K : Nat} {v : Int32} (h : am_FA C F sz op en sm C' T ln sp K v) : sq_Q (am_st sz F) op en sm ln sp K := h.2.1
theorem am_FA.en' {C : Nat → Nat → Int32} {F : Nat} {sz : Nat → Nat} {op en : Nat → Prop} {sm : Nat → Nat → Prop} {C' : Nat → Nat → Int32} {T : Nat} {ln sp : Nat → Nat} {K : Nat} {v : Int32} (h : am_FA C F sz op en sm C' T ln sp K v) : sq_EN C' (am_st sz F) op en (sq_U (am_st sz F) op en sm ln sp K) sm T := h.2.2.1
theorem am_FA.lt {C : Nat → Nat → Int32} {F : Nat} {sz : Nat → Nat} {op en : Nat → Prop} {sm : Nat → Nat → Prop} {C' : Nat → Nat → Int32} {T : Nat} {ln sp : Nat → Nat} {K : Nat} {v : Int32} (h : am_FA C F sz op en sm C' T ln sp K v) : ∃ L, L ≤ T ∧ C' 26 13 = nI L ∧ sq_l1 (am_st sz F) op en (sq_U (am_st sz F) op en sm ln sp K) sm L := h.2.2.2.1
theorem am_FA.rs {C : Nat → Nat → Int32} {F : Nat} {sz : Nat → Nat} {op en : Nat → Prop} {sm : Nat → Nat → Prop} {C' : Nat → Nat → Int32} {T : Nat} {ln sp : Nat → Nat} {K : Nat} {v : Int32} (h : am_FA C F sz op en sm C' T ln sp K v) : sq_RS C' F sz op en sm ln sp K := h.2.2.2.2.1
theorem am_FA.op' {C : Nat → Nat → Int32} {F : Nat} {sz : Nat → Nat} {op en : Nat → Prop} {sm : Nat → Nat → Prop} {C' : Nat → Nat → Int32} {T : Nat} {ln sp : Nat → Nat} {K : Nat} {v : Int32} (h : am_FA C F sz op en sm C' T ln sp K v) : ∀ t, t < am_st sz F → am_bz (C' 27 t) (op t ∧ ¬ sq_U (am_st sz F) op en sm ln sp K t) := h.2.2.2.2.2.1
theorem am_FA.ee {C : Nat → Nat → Int32} {F : Nat} {sz : Nat → Nat} {op en : Nat → Prop} {sm : Nat → Nat → Prop} {C' : Nat → Nat → Int32} {T : Nat} {ln sp : Nat → Nat} {K : Nat} {v : Int32} (h : am_FA C F sz op en sm C' T ln sp K v) : ∀ t, t < am_st sz F → am_bz (C' 28 t) (en t) := h.2.2.2.2.2.2.1
theorem am_FA.st {C : Nat → Nat → Int32} {F : Nat} {sz : Nat → Nat} {op en : Nat → Prop} {sm : Nat → Nat → Prop} {C' : Nat → Nat → Int32} {T : Nat} {ln sp : Nat → Nat} {K : Nat} {v : Int32} (h : am_FA C F sz op en sm C' T ln sp K v) : v = 1 ∨ (v = 0 ∧ sq_no (am_st sz F) op en (sq_U (am_st sz F) op en sm ln sp K) sm) := h.2.2.2.2.2.2.2
theorem c_fa {C D : Nat → Nat → Int32} {F T : Nat} {sz : Nat → Nat} {op en : Nat → Prop} {sm : Nat → Nat → Prop} {e : am_E} {Q : am_Q} (hP : am_PG C D F sz) (q : ∀ C' ln sp K, (∀ c i, (c < 15 ∨ 56 < c) → C' c i = C c i) → sq_F (am_st sz F) op en sm ln sp K → sq_RS C' F sz op en sm ln sp K → Q none (hp C' e)) : ∀ (n0 kc ks K : Nat) (v : Int32) (ln sp : Nat → Nat) (C' : Nat → Nat → Int32), 60 < n0 + K → K ≤ 60 → am_FA C F sz op en sm C' T ln sp K v → am_Go (mX6_findAll, 33, [.ref 26, .int v, .int (nI K)], [], hp C' e, kc, ks, Q)
  | 0, kc, ks, K, v, ln, sp, C', g1, hK, hI => by omega
  | n0 + 1, kc, ks, K, v, ln, sp, C', g1, hK, hI => by
    have hn3 := hI.en'.n3
    refine go_s 2 rfl ?_
    refine go_if (fun c34 => ?_) (fun c34 => ?_)
    · have c34 : v = 0 := c34
      exact go_retv rfl rfl (q C' ln sp K hI.fr ⟨hK, hI.qq, Or.inr (hI.st.resolve_left (fun z => absurd (z.symm.trans c34) (by decide))).2⟩ hI.rs)
    · refine go_s 3 rfl ?_
      refine go_if (fun c40 => ?_) (fun c40 => ?_)
      · have c40 : nI K < 60 := c40
        have hK6 := (nI_ltI (a := K) (b := 60) (by omega) (by decide)).mp c40
        obtain ⟨L, hLT, h13, hl1⟩ := hI.lt
        refine go_s 1 rfl ?_
        refine go_v kX6_findAll_44 okX6_chooseBest rfl rfl rfl rfl (Nat.zero_le _) (Nat.zero_le _) ?_
        refine c_X6_chooseBest hI.en' (fun C2 L2 z1 z2 z3 z4 z5 => ?_) hLT h13 hl1
        have en2 : sq_EN C2 (am_st sz F) op en (sq_U (am_st sz F) op en sm ln sp K) sm T := hI.en'.u (fun c i hc => z1 c i (by omega) (by omega) (by omega) (by omega))
        have rs2 : sq_RS C2 F sz op en sm ln sp K := ⟨(z1 15 10 (by decide) (by decide) (by decide) (Or.inl (by decide))).trans hI.rs.cR, (z1 15 11 (by decide) (by decide) (by decide) (Or.inl (by decide))).trans hI.rs.cO, fun k hk => sq_RO_cg (hI.rs.ro k hk) (fun c a1 a2 => z1 c _ (by omega) (by omega) (by omega) (Or.inl (by omega))) (fun j _ _ => ⟨z1 25 j (by decide) (by decide) (by decide) (Or.inl (by decide)), fun c a1 a2 => z1 c _ (by omega) (by omega) (by omega) (Or.inl (by omega))⟩), fun j hj g => (z1 25 j (by decide) (by decide) (by decide) (Or.inl (by decide))).trans (hI.rs.no j hj g)⟩
        have op2 : ∀ t, t < am_st sz F → am_bz (C2 27 t) (op t ∧ ¬ sq_U (am_st sz F) op en sm ln sp K t) := fun t ht => by rw [z1 27 t (by decide) (by decide) (by decide) (Or.inl (by decide))]; exact hI.op' t ht
        have ee2 : ∀ t, t < am_st sz F → am_bz (C2 28 t) (en t) := fun t ht => by rw [z1 28 t (by decide) (by decide) (by decide) (Or.inl (by decide))]; exact hI.ee t ht
        have hP2 : am_PG C2 D F sz := hP.fr (fun c i h1 h2 _ => (z1 c i (by omega) (by omega) (by omega) (Or.inl (by omega))).trans (hI.fr c i (by omega))) (fun _ _ _ _ _ => rfl)
        rcases z5 with ⟨n1, n2⟩ | ⟨L3, s3, _, n1, n2, n3, n4, n5, n6, n7, n8⟩
        · refine go_s 3 rfl ?_
          refine go_if (fun c51 => absurd c51 (show ¬ (0 : Int32) < C2 26 14 by rw [n1]; decide)) (fun c51 => ?_)
          refine go_s 4 rfl ?_
          refine go_if (fun c61 => ?_) (fun c61 => absurd (by decide) c61)
          refine go_s 2 (pc' := 33) (ls' := [.ref 26, .int 0, .int (nI (K + 1))]) (st' := []) (h' := hp C2 e) (by rw [← nI_1 K]; rfl) ?_
          refine go_s 2 rfl ?_
          refine go_if (fun _ => ?_) (fun z => absurd rfl z)
          exact go_retv rfl rfl (q C2 ln sp K (fun c i a1 => (z1 c i (by omega) (by omega) (by omega) (by omega)).trans (hI.fr c i a1)) ⟨hK, hI.qq, Or.inr (fun n t y1 y2 y3 => n2 n t ⟨y1, y2⟩ y3)⟩ rs2)
        · have hB : sq_B (am_st sz F) op en (sq_U (am_st sz F) op en sm ln sp K) sm L3 s3 := ⟨n1, n2, n3, n7, fun n t a1 a2 a3 => n8 n t ⟨a1, a2⟩ a3⟩
          obtain ⟨ln', hl'⟩ : ∃ g : Nat → Nat, g = fun k => if k = K then L3 else ln k := ⟨_, rfl⟩
          obtain ⟨sp', hs'⟩ : ∃ g : Nat → Nat, g = fun k => if k = K then s3 else sp k := ⟨_, rfl⟩
          have ecg : ∀ i, i < K → ln i = (ln') i ∧ sp i = (sp') i := fun i hi => by
            rw [hl', hs']
            dsimp only
            rw [if_neg (by omega), if_neg (by omega)]
            exact ⟨rfl, rfl⟩
          have eU : sq_U (am_st sz F) op en sm ln' sp' K = sq_U (am_st sz F) op en sm ln sp K := (sq_U_cg K ecg).symm
          have eln : ln' K = L3 := by rw [hl']; exact if_pos rfl
          have esp : sp' K = s3 := by rw [hs']; exact if_pos rfl
          have hL3T : L3 ≤ T := by
            apply Nat.le_of_not_lt
            intro z
            have := z4 L3 (by omega) n2 s3 n3
            have := sq_sv_1 (n := L3) this
            omega
          refine go_s 3 rfl ?_
          refine go_if (fun c51 => ?_) (fun c51 => absurd (show (0 : Int32) < C2 26 14 by rw [Int32.lt_iff_toInt_lt, n4]; exact n7) c51)
          refine go_s 5 rfl ?_
          refine go_if (fun c61 => absurd c61 (by decide)) (fun c61 => ?_)
          refine go_s 1 rfl ?_
          refine go_v kX6_findAll_65 okX6_takeBest rfl rfl rfl rfl (Nat.zero_le _) (Nat.zero_le _) ?_
          refine c_X6_takeBest (ln := ln') (sp := sp') (K := K) (T := T) hP2 (by rw [eU]; exact en2) (by rw [eU, eln, esp]; exact hB) (by rw [eln]; exact hL3T) (fun k hk => ?_) hK6 (by rw [eln]; exact n5) (by rw [esp]; exact n6) (sq_RS_cg ecg rs2) (fun t ht => by rw [eU]; exact op2 t ht) (fun C3 y1 y2 y3 => ?_)
          · by_cases ek : k = K
            · rw [ek, eln]; exact n1
            · rw [← (ecg k (by omega)).1]; exact (hI.qq k (by omega)).l2
          refine go_s 1 rfl ?_
          refine go_v kX6_findAll_69 okX6_measureReach rfl rfl rfl rfl (Nat.zero_le _) (Nat.zero_le _) ?_
          refine c_X6_measureReach (N := am_st sz F) (op := op) (en := en) (U := sq_U (am_st sz F) op en sm ln' sp' (K + 1)) hI.en'.n3 ((y1 26 12 (Or.inr (by decide)) (by decide)).trans en2.sz) y3 (fun t ht => by rw [y1 28 t (Or.inr (by decide)) (by decide)]; exact ee2 t ht) (fun C4 w1 w2 => ?_)
          refine go_s 2 (pc' := 33) (ls' := [.ref 26, .int 1, .int (nI (K + 1))]) (st' := []) (h' := hp C4 e) (by rw [← nI_1 K]; rfl) ?_
          refine c_fa hP q n0 _ _ (K + 1) _ ln' sp' C4 (by omega) (by omega) ⟨fun c i a1 => ?_, fun k hk => ?_, ?_, ⟨L2, z2, ?_, ?_⟩, ?_, fun t ht => ?_, fun t ht => ?_, Or.inl rfl⟩
          · exact (w1 c i (by omega)).trans ((y1 c i (by omega) (by omega)).trans ((z1 c i (by omega) (by omega) (by omega) (by omega)).trans (hI.fr c i a1)))
          · by_cases ek : k = K
            · rw [ek, eU, eln, esp]; exact hB
            · rw [← sq_U_cg k (fun i hi => ecg i (by omega)), ← (ecg k (by omega)).1, ← (ecg k (by omega)).2]; exact hI.qq k (by omega)
          · have e1 := en2.u (C' := C3) (fun c i hc => y1 c i (by omega) (by omega))
            refine ⟨e1.n3, e1.t20, (w1 26 12 (by decide)).trans e1.sz, w2, fun m a1 a2 s hs => ?_, e1.eq⟩
            have := e1.t20
            rw [w1 (31 + m) s (by omega)]; exact e1.nm m a1 a2 s hs
          · rw [w1 26 13 (by decide), y1 26 13 (Or.inr (by decide)) (by decide)]; exact z3
          · refine sq_l1_U (fun t z => Or.inl ?_) z4
            rw [eU]; exact z
          · refine ⟨(w1 15 10 (by decide)).trans y2.cR, (w1 15 11 (by decide)).trans y2.cO, fun k hk => sq_RO_cg (y2.ro k hk) (fun c a1 a2 => w1 c _ (by omega)) (fun j _ _ => ⟨w1 25 j (by decide), fun c a1 a2 => w1 c _ (by omega)⟩), fun j hj g => (w1 25 j (by decide)).trans (y2.no j hj g)⟩
          · rw [w1 27 t (by decide)]; exact y3 t ht
          · rw [w1 28 t (by decide), y1 28 t (Or.inr (by decide)) (by decide)]; exact ee2 t ht
      · have c40 : ¬ nI K < 60 := c40
        have := mt (nI_lt (a := K) (b := 60) · (by decide)) c40
        exact go_retv rfl rfl (q C' ln sp K hI.fr ⟨hK, hI.qq, Or.inl (by omega)⟩ hI.rs)
