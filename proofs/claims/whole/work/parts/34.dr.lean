def am_drv (sf : (Nat → Nat → Int32) → Int32 × (Nat → Nat → Int32)) : Nat → Int32 → Nat → (Nat → Nat → Int32) → Int32 × Nat × (Nat → Nat → Int32)
  | 0, s, d, D => (s, d, D)
  | n + 1, s, d, D => if s = 3 then am_drv sf n (sf D).1 (if (sf D).1 = 2 then d else d + 1) (sf D).2 else (s, d, D)
theorem am_u_ne {D : Nat → Nat → Int32} {o p k j : Nat} {v : Int32} (h : p ≠ o) : am_u D o k v p j = D p j := by
  unfold am_u; rw [if_neg (fun z => h z.1)]
theorem am_wr_ne {D : Nat → Nat → Int32} {a b c : Int32} {p j : Nat} (h1 : p ≠ 61) (h2 : p ≠ 62) : am_wr D a b c p j = D p j := by
  unfold am_wr; split
  · rw [am_u_ne h2, am_u_ne h1]
  · rfl
theorem am_go_ne {D : Nat → Nat → Int32} {p j : Nat} (h : p ≠ 59) : am_go D p j = D p j := am_u_ne h
theorem am_tca_1 (D : Nat → Nat → Int32) (s n : Int32) (j : Nat) : (am_tca D s n).2 1 j = D 1 j := by
  unfold am_tca
  repeat' split
  all_goals first | rfl | (dsimp only; rw [am_go_ne (by decide), am_wr_ne (by decide) (by decide)])
theorem am_tbr_1 (D : Nat → Nat → Int32) (s n : Int32) (j : Nat) : (am_tbr D s n).2 1 j = D 1 j := by
  unfold am_tbr
  repeat' split
  all_goals first | rfl | (dsimp only; rw [am_go_ne (by decide)]) | (dsimp only; rw [am_u_ne (by decide), am_u_ne (by decide)])
theorem am_tld_1 (D : Nat → Nat → Int32) (s : Int32) (j : Nat) : (am_tld D s).2 1 j = D 1 j := by
  unfold am_tld
  split
  · dsimp only; rw [am_go_ne (by decide), am_wr_ne (by decide) (by decide)]
  · rfl
theorem am_tst_1 (D : Nat → Nat → Int32) (s : Int32) (j : Nat) : (am_tst D s).2 1 j = D 1 j := by
  unfold am_tst
  split
  · dsimp only; rw [am_go_ne (by decide), am_u_ne (by decide), am_u_ne (by decide)]
  · rfl
theorem am_tgb_1 (D : Nat → Nat → Int32) (j : Nat) : (am_tgb D).2 1 j = D 1 j := by
  unfold am_tgb
  repeat' split
  all_goals first | rfl | (dsimp only; rw [am_u_ne (by decide), am_u_ne (by decide)])
theorem am_tpr_1 (D : Nat → Nat → Int32) (j : Nat) : (am_tpr D).2 1 j = D 1 j := by
  unfold am_tpr am_kp
  split
  · dsimp only
    rw [am_go_ne (by decide), am_u_ne (by decide)]
    split
    · rw [am_u_ne (by decide)]
    · rfl
  · rfl
theorem am_tsn_1 (D : Nat → Nat → Int32) (s n : Int32) (j : Nat) : (am_tsn D s n).2 1 j = D 1 j := by
  unfold am_tsn
  by_cases h1 : 18 < n
  · rw [if_pos h1]
    by_cases h2 : ¬ n < 22 ∧ ¬ 27 < n
    · rw [if_pos h2]; exact am_tbr_1 D s n j
    · rw [if_neg h2]
      repeat' split
      all_goals first | (simp only [am_tca_1, am_tbr_1, am_tld_1, am_tst_1, am_tgb_1, am_tpr_1, am_go_ne (show (1 : Nat) ≠ 59 by decide), am_wr_ne (show (1 : Nat) ≠ 61 by decide) (show (1 : Nat) ≠ 62 by decide), am_u_ne (show (1 : Nat) ≠ 59 by decide)]; done) | rfl
  · rw [if_neg h1]; exact am_tca_1 D s n j
theorem am_tsp_1 (D : Nat → Nat → Int32) (j : Nat) : (am_tsp D).2 1 j = D 1 j := by
  unfold am_tsp
  split
  · rfl
  · exact am_tsn_1 _ _ _ _
theorem am_wi_ne {D : Nat → Nat → Int32} {a b : Int32} {p j : Nat} (h1 : p ≠ 67) : am_wi D a b p j = D p j := by
  unfold am_wi; split
  · rw [am_u_ne h1]
  · rfl
theorem am_gi_ne {D : Nat → Nat → Int32} {g : Int32} {p j : Nat} (h : p ≠ 65) : (am_gi D g).2 p j = D p j := am_u_ne h
theorem am_kpi_ne {D : Nat → Nat → Int32} {v : Int32} {p j : Nat} (h1 : p ≠ 65) (h2 : p ≠ 66) : am_kpi D v p j = D p j := by
  unfold am_kpi
  rw [am_u_ne h1]
  split
  · rw [am_u_ne h2]
  · rfl
theorem am_isp_11 (D : Nat → Nat → Int32) (j : Nat) : (am_isp D).2 11 j = D 11 j := by
  unfold am_isp
  split
  · rfl
  · unfold am_isw am_ild am_wgi am_isr am_ibr am_ijp
    repeat' split
    all_goals first | (simp only [am_gi_ne (show (11 : Nat) ≠ 65 by decide), am_wi_ne (show (11 : Nat) ≠ 67 by decide), am_u_ne (show (11 : Nat) ≠ 68 by decide), am_kpi_ne (show (11 : Nat) ≠ 65 by decide) (show (11 : Nat) ≠ 66 by decide)]; done) | rfl
theorem c_drx_59 {D : Nat → Nat → Int32} {e : am_E} {kc ks : Nat} {Q : am_Q} {F s d i : Int32} (q : Q (some (.int (if s = 3 then 1 else s))) (hp (am_u (am_u D 59 3 d) 59 2 (if s = 3 then 1 else s)) e)) : am_Go (mX4_drive, 51, [.ref 59, .int F, .int s, .int d, .int i], [], hp D e, kc, ks, Q) := by
  refine go_s 7 rfl ?_
  refine go_if (fun c => ?_) (fun c => ?_)
  · have c : s = 3 := c
    rw [if_pos c] at q
    refine go_s 5 rfl ?_
    exact go_ret rfl rfl (am_qi q rfl rfl)
  · have c : ¬ s = 3 := c
    rw [if_neg c] at q
    refine go_s 4 rfl ?_
    exact go_ret rfl rfl (am_qi q rfl rfl)
theorem c_drl_59 {e : am_E} {kc ks N : Nat} {Q : am_Q} (hN : N < 2 ^ 31) : ∀ (n i d : Nat) (s : Int32) (D : Nat → Nat → Int32), (D 1 5).toInt ≤ 24 ∧ (D 1 6).toInt ≤ 300 → n + i = N → (Q (some (.int (if (am_drv am_tsp n s d D).1 = 3 then 1 else (am_drv am_tsp n s d D).1))) (hp (am_u (am_u (am_drv am_tsp n s d D).2.2 59 3 (nI (am_drv am_tsp n s d D).2.1)) 59 2 (if (am_drv am_tsp n s d D).1 = 3 then 1 else (am_drv am_tsp n s d D).1)) e)) → am_Go (mX4_drive, 21, [.ref 59, .int (nI N), .int s, .int (nI d), .int (nI i)], [], hp D e, kc, ks, Q) := by
  intro n
  induction n with
  | zero =>
    intro i d s D hI hi q
    refine go_s 3 rfl ?_
    refine go_if (fun c => absurd c (nI_nlt (by omega) (by omega))) (fun c => ?_)
    exact c_drx_59 q
  | succ n ih =>
    intro i d s D hI hi q
    refine go_s 3 rfl ?_
    refine go_if (fun c => ?_) (fun c => absurd (nI_lt (by omega) hN) c)
    refine go_s 3 rfl ?_
    refine go_if (fun c2 => ?_) (fun c2 => ?_)
    · have e1 : am_drv am_tsp (n + 1) s d D = am_drv am_tsp n (am_tsp D).1 (if (am_tsp D).1 = 2 then d else d + 1) (am_tsp D).2 := if_pos c2
      rw [e1] at q
      refine go_s 1 rfl ?_
      refine go_u kX4_drive_33_7 okX10_step rfl rfl rfl rfl (Nat.zero_le _) (Nat.zero_le _) ?_
      refine c_X10_step hI.1 hI.2 ?_
      refine go_s 4 rfl ?_
      refine go_if (fun c3 => ?_) (fun c3 => ?_)
      · have c3 : (am_tsp D).1 = 2 := c3
        rw [if_pos c3] at q
        refine go_s 2 (pc' := 21) (ls' := [.ref 59, .int (nI N), .int (am_tsp D).1, .int (nI d), .int (nI (i + 1))]) (st' := []) (h' := hp (am_tsp D).2 e) (by rw [← nI_1]; rfl) ?_
        exact ih (i + 1) d (am_tsp D).1 (am_tsp D).2 ⟨by rw [am_tsp_1]; exact hI.1, by rw [am_tsp_1]; exact hI.2⟩ (by omega) q
      · have c3 : ¬ (am_tsp D).1 = 2 := c3
        rw [if_neg c3] at q
        refine go_s 3 (pc' := 21) (ls' := [.ref 59, .int (nI N), .int (am_tsp D).1, .int (nI (d + 1)), .int (nI (i + 1))]) (st' := []) (h' := hp (am_tsp D).2 e) (by rw [← nI_1, ← nI_1]; rfl) ?_
        exact ih (i + 1) (d + 1) (am_tsp D).1 (am_tsp D).2 ⟨by rw [am_tsp_1]; exact hI.1, by rw [am_tsp_1]; exact hI.2⟩ (by omega) q
    · have e1 : am_drv am_tsp (n + 1) s d D = (s, d, D) := if_neg c2
      rw [e1] at q
      exact c_drx_59 q
def am_dv_59 (D : Nat → Nat → Int32) (N : Nat) : Int32 × Nat × (Nat → Nat → Int32) := am_drv am_tsp N 3 0 (am_tr0 (am_u (am_u D 59 1 1) 59 4 0))
theorem am_tr0_1 (D : Nat → Nat → Int32) (j : Nat) : am_tr0 D 1 j = D 1 j := by
  unfold am_tr0
  rw [am_u_ne (by decide), am_u_ne (by decide), am_wr_ne (by decide) (by decide)]
  simp [am_fil]
theorem c_X4_drive_59 {D : Nat → Nat → Int32} {e : am_E} {kc ks N : Nat} {Q : am_Q} (hN : N < 2 ^ 31) (hF : (D 1 5).toInt ≤ 24) (hS : (D 1 6).toInt ≤ 300) (q : Q (some (.int (if (am_dv_59 D N).1 = 3 then 1 else (am_dv_59 D N).1))) (hp (am_u (am_u (am_dv_59 D N).2.2 59 3 (nI (am_dv_59 D N).2.1)) 59 2 (if (am_dv_59 D N).1 = 3 then 1 else (am_dv_59 D N).1)) e)) : am_Go (mX4_drive, 0, am_ent mX4_drive [.ref 59, .int (nI N)], [], hp D e, kc, ks, Q) := by
  refine go_s 2 rfl ?_
  refine go_m rfl rfl (Or.inr rfl) ?_
  refine go_s 4 rfl ?_
  refine go_u kX4_drive_11_7 okX10_restart rfl rfl rfl rfl (Nat.zero_le _) (Nat.zero_le _) ?_
  refine c_X10_restart ?_
  refine go_s 6 (pc' := 21) (ls' := [.ref 59, .int (nI N), .int 3, .int (nI 0), .int (nI 0)]) (st' := []) (h' := hp (am_tr0 (am_u (am_u D 59 1 1) 59 4 0)) e) rfl ?_
  exact c_drl_59 hN N 0 0 3 _ ⟨by rw [show am_tr0 (am_u (am_u D 59 1 1) 59 4 0) 1 5 = D 1 5 from am_tr0_1 _ _]; exact hF, by rw [show am_tr0 (am_u (am_u D 59 1 1) 59 4 0) 1 6 = D 1 6 from am_tr0_1 _ _]; exact hS⟩ (by omega) q
theorem c_drx_65 {D : Nat → Nat → Int32} {e : am_E} {kc ks : Nat} {Q : am_Q} {F s d i : Int32} (q : Q (some (.int (if s = 3 then 1 else s))) (hp (am_u (am_u D 65 3 d) 65 2 (if s = 3 then 1 else s)) e)) : am_Go (mX4_drive, 51, [.ref 65, .int F, .int s, .int d, .int i], [], hp D e, kc, ks, Q) := by
  refine go_s 7 rfl ?_
  refine go_if (fun c => ?_) (fun c => ?_)
  · have c : s = 3 := c
    rw [if_pos c] at q
    refine go_s 5 rfl ?_
    exact go_ret rfl rfl (am_qi q rfl rfl)
  · have c : ¬ s = 3 := c
    rw [if_neg c] at q
    refine go_s 4 rfl ?_
    exact go_ret rfl rfl (am_qi q rfl rfl)
theorem c_drl_65 {e : am_E} {kc ks N : Nat} {Q : am_Q} (hN : N < 2 ^ 31) : ∀ (n i d : Nat) (s : Int32) (D : Nat → Nat → Int32), (D 11 3).toInt ≤ 600 → n + i = N → (Q (some (.int (if (am_drv am_isp n s d D).1 = 3 then 1 else (am_drv am_isp n s d D).1))) (hp (am_u (am_u (am_drv am_isp n s d D).2.2 65 3 (nI (am_drv am_isp n s d D).2.1)) 65 2 (if (am_drv am_isp n s d D).1 = 3 then 1 else (am_drv am_isp n s d D).1)) e)) → am_Go (mX4_drive, 21, [.ref 65, .int (nI N), .int s, .int (nI d), .int (nI i)], [], hp D e, kc, ks, Q) := by
  intro n
  induction n with
  | zero =>
    intro i d s D hI hi q
    refine go_s 3 rfl ?_
    refine go_if (fun c => absurd c (nI_nlt (by omega) (by omega))) (fun c => ?_)
    exact c_drx_65 q
  | succ n ih =>
    intro i d s D hI hi q
    refine go_s 3 rfl ?_
    refine go_if (fun c => ?_) (fun c => absurd (nI_lt (by omega) hN) c)
    refine go_s 3 rfl ?_
    refine go_if (fun c2 => ?_) (fun c2 => ?_)
    · have e1 : am_drv am_isp (n + 1) s d D = am_drv am_isp n (am_isp D).1 (if (am_isp D).1 = 2 then d else d + 1) (am_isp D).2 := if_pos c2
      rw [e1] at q
      refine go_s 1 rfl ?_
      refine go_u kX4_drive_33_2 okX2_step rfl rfl rfl rfl (Nat.zero_le _) (Nat.zero_le _) ?_
      refine c_X2_step hI ?_
      refine go_s 4 rfl ?_
      refine go_if (fun c3 => ?_) (fun c3 => ?_)
      · have c3 : (am_isp D).1 = 2 := c3
        rw [if_pos c3] at q
        refine go_s 2 (pc' := 21) (ls' := [.ref 65, .int (nI N), .int (am_isp D).1, .int (nI d), .int (nI (i + 1))]) (st' := []) (h' := hp (am_isp D).2 e) (by rw [← nI_1]; rfl) ?_
        exact ih (i + 1) d (am_isp D).1 (am_isp D).2 (by rw [am_isp_11]; exact hI) (by omega) q
      · have c3 : ¬ (am_isp D).1 = 2 := c3
        rw [if_neg c3] at q
        refine go_s 3 (pc' := 21) (ls' := [.ref 65, .int (nI N), .int (am_isp D).1, .int (nI (d + 1)), .int (nI (i + 1))]) (st' := []) (h' := hp (am_isp D).2 e) (by rw [← nI_1, ← nI_1]; rfl) ?_
        exact ih (i + 1) (d + 1) (am_isp D).1 (am_isp D).2 (by rw [am_isp_11]; exact hI) (by omega) q
    · have e1 : am_drv am_isp (n + 1) s d D = (s, d, D) := if_neg c2
      rw [e1] at q
      exact c_drx_65 q
def am_dv_65 (D : Nat → Nat → Int32) (N : Nat) : Int32 × Nat × (Nat → Nat → Int32) := am_drv am_isp N 3 0 (am_ir0 (am_u (am_u D 65 1 1) 65 4 0))
theorem c_X4_drive_65 {D : Nat → Nat → Int32} {e : am_E} {kc ks N : Nat} {Q : am_Q} (hN : N < 2 ^ 31) (hW : (D 11 3).toInt ≤ 600) (hG : (D 11 4).toInt ≤ 24) (q : Q (some (.int (if (am_dv_65 D N).1 = 3 then 1 else (am_dv_65 D N).1))) (hp (am_u (am_u (am_dv_65 D N).2.2 65 3 (nI (am_dv_65 D N).2.1)) 65 2 (if (am_dv_65 D N).1 = 3 then 1 else (am_dv_65 D N).1)) e)) : am_Go (mX4_drive, 0, am_ent mX4_drive [.ref 65, .int (nI N)], [], hp D e, kc, ks, Q) := by
  refine go_s 2 rfl ?_
  refine go_m rfl rfl (Or.inr rfl) ?_
  refine go_s 4 rfl ?_
  refine go_u kX4_drive_11_2 okX2_restart rfl rfl rfl rfl (Nat.zero_le _) (Nat.zero_le _) ?_
  refine c_X2_restart hG ?_
  refine go_s 6 (pc' := 21) (ls' := [.ref 65, .int (nI N), .int 3, .int (nI 0), .int (nI 0)]) (st' := []) (h' := hp (am_ir0 (am_u (am_u D 65 1 1) 65 4 0)) e) rfl ?_
  exact c_drl_65 hN N 0 0 3 _ (by show (D 11 3).toInt ≤ 600; exact hW) (by omega) q
