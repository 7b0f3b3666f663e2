theorem c_wb2 {C2 : Nat → Nat → Int32} {f p i : Nat} {sz : Nat → Nat} {e : am_E} {Q : am_Q} {kc ks : Nat} {x4 x5 : Value} (hi : i < 100) (KK : am_Go (mX3_writeBody, 11, [.ref 57, .int (nI f), .int (nI (i - 1)), .int (nI (am_st sz f + (p + 1))), x4, x5], [], hp C2 e, kc, ks, Q)) : am_Go (mX3_writeBody, 87, [.ref 57, .int (nI f), .int (nI i), .int (nI (am_st sz f + p)), x4, x5], [], hp C2 e, kc, ks, Q) := by
  refine go_s 4 rfl ?_
  refine go_max 783 rfl (by decide +kernel) rfl ?_
  refine go_s 3 (pc' := 11) (ls' := [.ref 57, .int (nI f), .int (nI (i - 1)), .int (nI (am_st sz f + (p + 1))), x4, x5]) (st' := []) (h' := hp C2 e) (by rw [← am_mx1 hi, ← Nat.add_assoc, ← nI_1 (am_st sz f + p)]; rfl) ?_
  exact KK
theorem c_wb {C D : Nat → Nat → Int32} {F : Nat} {sz : Nat → Nat} {B : Nat → Prop} {bo : Nat → Nat} {sm : Nat → Nat → Prop} {ln sp : Nat → Nat} {K : Nat} {C1 : Nat → Nat → Int32} {e : am_E} {Q : am_Q} (hE : ly_E2 C D F sz B bo sm ln sp K) (hL : ly_L2 C D F sz B sm ln sp K C1 K) {f : Nat} (hf : f < F) (hB : B f) (q : ∀ C', ly_L3 C D F sz B bo sm ln sp K C1 C' (am_st sz f + sz f) → Q none (hp C' e)) : ∀ (n kc ks p i : Nat) (x4 x5 : Value) (C' : Nat → Nat → Int32), sz f < n + p → p ≤ sz f → ly_in (am_st sz F) (am_op D F sz B) (am_en D F sz B) sm ln sp K (am_st sz f + p) i → ly_L3 C D F sz B bo sm ln sp K C1 C' (am_st sz f + p) → am_Go (mX3_writeBody, 11, [.ref 57, .int (nI f), .int (nI i), .int (nI (am_st sz f + p)), x4, x5], [], hp C' e, kc, ks, Q)
  | 0, kc, ks, p, i, x4, x5, C', g1, g2, hin, hI => by omega
  | n + 1, kc, ks, p, i, x4, x5, C', g1, g2, hin, hI => by
    have hP := hI.pg hE hL
    have hF := hP.hF
    have ht := hP.t300
    have h40 := hP.s40 f hf
    have hlf : am_st sz f + sz f ≤ am_st sz F := am_st_le (sz := sz) (show f + 1 ≤ F by omega)
    have fr : ∀ c j, c ≠ 12 → (c ≠ 11 ∨ j ≠ 3) → c ≠ 14 → c ≠ 20 → c ≠ 24 → c ≠ 58 → C' c j = C c j := fun c j a1 a2 a3 a4 a5 a6 => (hI.fr c j a1 a2).trans (hL.fr c j a3 a4 a5 a6)
    refine go_s 4 rfl ?_
    refine go_v kX3_writeBody_17 okX5_endOf rfl rfl rfl rfl (Nat.zero_le _) (Nat.zero_le _) ?_
    refine c_X5_endOf hP.h5 ?_
    rw [hP.ende hf]
    refine go_s 1 rfl ?_
    refine go_if (fun c20 => ?_) (fun c20 => ?_)
    rotate_left
    · have hge := mt (nI_lt (a := am_st sz f + p) (b := am_st sz f + sz f) · (by omega)) c20
      have ep : p = sz f := by omega
      subst ep
      exact go_retv rfl rfl (q _ hI)
    have c20 := (nI_ltI (a := am_st sz f + p) (b := am_st sz f + sz f) (by omega) (by omega)).mp c20
    have hq : p < sz f := by omega
    have hl := hP.lt hf hq
    have hcs := nI_clamp (show am_st sz f + p < 2 ^ 31 by omega)
    have hbd : ly_bd F sz B (am_st sz f + p) := (ly_bd_i hf hq).mpr hB
    have eb : (if ¬ nI (am_st sz f + p) < 0 ∧ nI (am_st sz f + p) < 300 then C' 25 (nI (am_st sz f + p)).toNatClampNeg else -1) = C 25 (am_st sz f + p) := by rw [if_pos ⟨nI_pos (by omega), show nI (am_st sz f + p) < 300 from nI_lt (a := am_st sz f + p) (b := 300) (by omega) (by decide)⟩, hcs, fr 25 _ (by decide) (Or.inl (by decide)) (by decide) (by decide) (by decide) (by decide)]
    have w600 := hE.W6 (s := am_st sz f + p) (by omega)
    have w601 := hE.W6 (s := am_st sz f + p + 1) (by omega)
    have h0 : ¬ C' 11 3 < 0 := by rw [hI.n]; exact nI_pos (by omega)
    refine go_s 3 rfl ?_
    refine go_v kX3_writeBody_28 okX7_beginningAt rfl rfl rfl rfl (Nat.zero_le _) (Nat.zero_le _) ?_
    refine c_X7_beginningAt ?_
    rw [eb]
    have hi100 : i < 100 := by
      rcases hin with z | ⟨_, k, j, a1, _, a3, a4⟩
      · omega
      · have := (hE.e.l2 a1).2; omega
    by_cases hbg : ly_bg (am_st sz F) (am_op D F sz B) (am_en D F sz B) sm ln sp K (am_st sz f + p)
    · obtain ⟨k, hk, hok⟩ := hbg
      have hbg : ly_bg (am_st sz F) (am_op D F sz B) (am_en D F sz B) sm ln sp K (am_st sz f + p) := ⟨k, hk, hok⟩
      have hl2 := hE.e.l2 hk
      have hk60 := hE.e.k60
      have hU := ly_bg_U (fun k hk => by have := (hE.e.l2 hk).1; omega) hbg
      have hn : ly_n C D F sz B sm ln sp K (am_st sz f + p) = 1 := ly_w_bg hbd hU hbg
      rw [ly_W_s, hn] at w601
      obtain ⟨g, r, hg, hr, eg, e21, e22, e23, e25⟩ := (hE.e.rs.ro k hk).oc (am_st sz f + p) hl hok
      have hix := sq_ix_lt hk (show 1 ≤ ln k by omega) hok
      have hfo := hE.e.fo
      obtain ⟨o, hO⟩ : ∃ o, o = sq_fo (am_st sz F) (am_op D F sz B) (am_en D F sz B) sm ln sp k + (sq_gk (am_st sz F) (am_op D F sz B) (am_en D F sz B) sm ln sp k (am_st sz f + p)).1 := ⟨_, rfl⟩
      rw [← hO] at e21 e22 e23 e25 hix
      have r11 : C' 15 11 = nI (sq_fo (am_st sz F) (am_op D F sz B) (am_en D F sz B) sm ln sp K) := (fr 15 11 (by decide) (Or.inl (by decide)) (by decide) (by decide) (by decide) (by decide)).trans hE.e.rs.cO
      have r10 : C' 15 10 = nI K := (fr 15 10 (by decide) (Or.inl (by decide)) (by decide) (by decide) (by decide) (by decide)).trans hE.e.rs.cR
      have hoo : 0 ≤ nI o ∧ nI o < C' 15 11 := ⟨nI_pos' (by omega), by rw [r11]; exact nI_lt hix (by omega)⟩
      have hO11 : (C' 15 11).toInt ≤ 150 := am_wl r11 hfo (by decide)
      have hR10 : (C' 15 10).toInt ≤ 60 := am_wl r10 hk60 (by decide)
      rw [e25]
      refine go_s 4 rfl ?_
      refine go_if (fun c => absurd c (fun z => nI_pos (n := o) (by omega) (by rw [show nI o = -1 from z]; decide))) (fun c => ?_)
      refine go_s 3 rfl ?_
      refine go_v kX3_writeBody_45 okX7_ownerAt rfl rfl rfl rfl (Nat.zero_le _) (Nat.zero_le _) ?_
      refine c_X7_ownerAt hO11 ?_
      rw [if_pos hoo, nI_clamp (by omega), fr 21 o (by decide) (Or.inl (by decide)) (by decide) (by decide) (by decide) (by decide), e21]
      refine go_s 4 rfl ?_
      refine go_v kX3_writeBody_56 okX7_lengthOf rfl rfl rfl rfl (Nat.zero_le _) (Nat.zero_le _) ?_
      refine c_X7_lengthOf hR10 ?_
      have hkk : 0 ≤ nI k ∧ nI k < C' 15 10 := ⟨nI_pos' (by omega), by rw [r10]; exact nI_lt hk (by omega)⟩
      rw [if_pos hkk, nI_clamp (by omega), fr 17 k (by decide) (Or.inl (by decide)) (by decide) (by decide) (by decide) (by decide), (hE.e.rs.ro k hk).s17]
      refine go_s 6 rfl ?_
      refine go_v kX3_writeBody_68 okX7_firstWordOf rfl rfl rfl rfl (Nat.zero_le _) (Nat.zero_le _) ?_
      refine c_X7_firstWordOf hR10 ?_
      rw [if_pos hkk, nI_clamp (by omega), hI.fr 20 k (by decide) (Or.inl (by decide)), hL.ro k hk]
      refine go_v kX3_writeBody_71 okX3_writeJump rfl rfl rfl rfl (Nat.zero_le _) (Nat.zero_le _) ?_
      refine c_X3_writeJump h0 ?_
      rw [hI.n]
      refine go_s 1 (pc' := 87) (ls' := [.ref 57, .int (nI f), .int (nI (ln k)), .int (nI (am_st sz f + p)), .int (nI o), .int (nI k)]) (st' := []) (h' := hp (am_app C' (am_jw 5 (4 * (nI (ly_R C D F sz B sm ln sp K k) - nI (ly_W C D F sz B sm ln sp K (am_st sz f + p)))))) e) rfl ?_
      refine c_wb2 (by omega) ?_
      exact c_wb hE hL hf hB q n _ _ (p + 1) (ln k - 1) _ _ _ (by omega) (by omega) (ly_in_bg hl2.1 hk hok) (hI.w1 hf hq (by omega) hn (ly_v_bg (fun k hk => by have := (hE.e.l2 hk).1; omega) hk hok).symm)
    · have e25 : C 25 (am_st sz f + p) = -1 := hE.e.rs.no _ (by omega) (fun k hk z => hbg ⟨k, hk, z⟩)
      rw [e25]
      refine go_s 4 rfl ?_
      refine go_if (fun c => ?_) (fun c => absurd rfl c)
      refine go_s 2 rfl ?_
      rcases i with _ | i
      · refine go_if (fun c => ?_) (fun c => absurd rfl c)
        obtain ⟨hin2, hnU⟩ := ly_in_0 hin hbg
        refine go_s 3 rfl ?_
        refine go_v kX3_writeBody_84 okX3_writeInstruction rfl rfl rfl rfl (Nat.zero_le _) (Nat.zero_le _) ?_
        refine c_X3_writeInstruction h0 hP.h5 hP.h6 (am_wl ((fr 11 4 (by decide) (Or.inr (by decide)) (by decide) (by decide) (by decide) (by decide)).trans hE.e.c4) hF (by decide)) ?_
        by_cases h32 : C 2 (am_st sz f + p) = 32
        · have hn : ly_n C D F sz B sm ln sp K (am_st sz f + p) = 2 := ly_w_2 hbd hnU h32
          rw [ly_W_s, hn] at w601
          rw [(hI.wi hE hL hf hq hB).2 h32]
          show am_Go (mX3_writeBody, 87, [.ref 57, .int (nI f), .int (nI 0), .int (nI (am_st sz f + p)), .int (-1), x5], [], hp (am_wa C' (C 3 (am_st sz f + p)) (ly_ad C D F sz B bo sm ln sp K (am_st sz f + p))) e, _, _, Q)
          refine c_wb2 (by omega) ?_
          exact c_wb hE hL hf hB q n _ _ (p + 1) 0 _ _ _ (by omega) (by omega) hin2 (hI.w2 hf hq (by omega) hn (ly_v_0 hbg h32).symm (ly_v_1 hbg h32).symm)
        · have hn : ly_n C D F sz B sm ln sp K (am_st sz f + p) = 1 := ly_w_1 hbd hnU h32
          rw [ly_W_s, hn] at w601
          rw [(hI.wi hE hL hf hq hB).1 h32]
          show am_Go (mX3_writeBody, 87, [.ref 57, .int (nI f), .int (nI 0), .int (nI (am_st sz f + p)), .int (-1), x5], [], hp (am_app C' (ly_cd C D F sz B bo sm ln sp K f (am_st sz f + p))) e, _, _, Q)
          refine c_wb2 (by omega) ?_
          exact c_wb hE hL hf hB q n _ _ (p + 1) 0 _ _ _ (by omega) (by omega) hin2 (hI.w1 hf hq (by omega) hn (ly_v_nb hbg h32).symm)
      · refine go_if (fun c => absurd c (nI_ne0 (by omega) (by omega))) (fun c => ?_)
        obtain ⟨hin2, hU, hnb⟩ := ly_in_s (fun k hk => by have := (hE.e.l2 hk).1; omega) hin
        have hn : ly_n C D F sz B sm ln sp K (am_st sz f + p) = 0 := ly_w_cv hbd hU hnb
        show am_Go (mX3_writeBody, 87, [.ref 57, .int (nI f), .int (nI (i + 1)), .int (nI (am_st sz f + p)), .int (-1), x5], [], hp C' e, _, _, Q)
        refine c_wb2 (by omega) ?_
        exact c_wb hE hL hf hB q n _ _ (p + 1) i _ _ _ (by omega) (by omega) hin2 (hI.w0 hn)
theorem c_X3_writeBody {C D : Nat → Nat → Int32} {F : Nat} {sz : Nat → Nat} {B : Nat → Prop} {bo : Nat → Nat} {sm : Nat → Nat → Prop} {ln sp : Nat → Nat} {K : Nat} {C1 : Nat → Nat → Int32} {e : am_E} {Q : am_Q} (hE : ly_E2 C D F sz B bo sm ln sp K) (hL : ly_L2 C D F sz B sm ln sp K C1 K) {f kc ks : Nat} (hf : f < F) (hB : B f) {C' : Nat → Nat → Int32} (hI : ly_L3 C D F sz B bo sm ln sp K C1 C' (am_st sz f)) (q : ∀ C', ly_L3 C D F sz B bo sm ln sp K C1 C' (am_st sz f + sz f) → Q none (hp C' e)) : am_Go (mX3_writeBody, 0, am_ent mX3_writeBody [.ref 57, .int (nI f)], [], hp C' e, kc, ks, Q) := by
  have hP := hI.pg hE hL
  refine go_s 5 rfl ?_
  refine go_v kX3_writeBody_7 okX5_startOf rfl rfl rfl rfl (Nat.zero_le _) (Nat.zero_le _) ?_
  refine c_X5_startOf hP.h5 ?_
  rw [hP.sta hf]
  refine go_s 1 rfl ?_
  exact c_wb hE hL hf hB q (sz f + 1) _ _ 0 0 _ _ _ (by omega) (by omega) (ly_in_f hE.e.op (fun k hk => by have := (hE.e.l2 hk).1; omega)) hI
