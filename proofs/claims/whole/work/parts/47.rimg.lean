def am_FI (D' D : Nat → Nat → Int32) : Prop := ∀ c j, c ≠ 100 → c ≠ 103 → c ≠ 106 → ((c ≠ 93 ∧ c ≠ 94 ∧ c ≠ 95 ∧ c ≠ 96 ∧ c ≠ 97) ∨ j ≠ 1) → D' c j = D c j
theorem am_drv_n3 {sf : (Nat → Nat → Int32) → Int32 × (Nat → Nat → Int32)} {s : Int32} {d : Nat} {C : Nat → Nat → Int32} (hs : ¬ s = 3) : ∀ n, am_drv sf n s d C = (s, d, C)
  | 0 => rfl
  | n + 1 => if_neg hs
def am_WI (C D : Nat → Nat → Int32) (W : Nat) : Prop := W ≤ 600 ∧ C 11 3 = nI W ∧ D 69 12 = nI W ∧ (∀ i, i < W → C 12 i = D 79 i) ∧ (∀ i, i < W → am_gop (D 79 i))
def am_PI (C D : Nat → Nat → Int32) (d : Nat) : Prop := am_RI C D ∧ D 96 1 = C 65 8 ∧ D 94 1 = nI d ∧ ∃ m, m ≤ d ∧ D 95 1 = nI m
theorem c_runI {e : am_E} {kc ks N W : Nat} {Q : am_Q} (hN : N ≤ 20000) : ∀ (n d : Nat) (C D : Nat → Nat → Int32) (x3 x4 : Value), n + d = N → am_PI C D d → am_WI C D W → (∀ D', am_PI (am_drv am_isp n 3 d C).2.2 D' (am_drv am_isp n 3 d C).2.1 → am_FI D' D → Q (some (.int (if (am_drv am_isp n 3 d C).1 = 3 then 1 else (am_drv am_isp n 3 d C).1))) (hp D' e)) → am_Go (mX12_runImage, 14, [.ref 69, .int (nI N), .int (C 65 8), x3, x4], [], hp D e, kc, ks, Q)
  | 0, d, C, D, x3, x4, hn, hP, hW, q => by
    refine go_s 3 rfl ?_
    refine go_m rfl rfl (show vp_in _ 2 from vp_in_nI (n := 1) (by decide) (by decide)) ?_
    refine go_s 2 rfl ?_
    have h94 : D 94 1 = nI N := by rw [hP.2.2.1]; congr 1; omega
    refine go_if (fun c => absurd c ?_) (fun c => ?_)
    · show ¬ D 94 1 < nI N
      rw [h94]
      exact nI_nlt (Nat.le_refl _) (by omega)
    · refine go_s 1 rfl ?_
      exact go_ret rfl rfl (q D hP (fun _ _ _ _ _ _ => rfl))
  | n + 1, d, C, D, x3, x4, hn, hP, hW, q => by
    have hP0 := hP
    obtain ⟨hR, h96, h94, m, hm, h95⟩ := hP0
    obtain ⟨hW1, hW2, hW3, hW4, hW5⟩ := hW
    refine go_s 3 rfl ?_
    refine go_m rfl rfl (show vp_in _ 2 from vp_in_nI (n := 1) (by decide) (by decide)) ?_
    refine go_s 2 rfl ?_
    refine go_if (fun c => ?_) (fun c => absurd ?_ c)
    rotate_left
    · show D 94 1 < nI N
      rw [h94]
      exact nI_lt (by omega) (by omega)
    refine go_s 4 rfl ?_
    refine go_m rfl rfl (by decide) ?_
    refine go_s 3 rfl ?_
    refine go_m rfl rfl (by decide) ?_
    have hu : am_drv am_isp (n + 1) 3 d C = am_drv am_isp n (am_isp C).1 (if (am_isp C).1 = 2 then d else d + 1) (am_isp C).2 := if_pos rfl
    rcases am_ix hW1 hW2 (C 65 8) with ⟨p1, p2, p3, p4, i, hi, p5, p6⟩ | ⟨p1, p2⟩
    · refine go_s 1 rfl ?_
      refine go_if (fun c35 => ?_) (fun c35 => absurd p1 c35)
      refine go_s 3 rfl ?_
      refine go_if (fun c42 => absurd c42 p2) (fun c42 => ?_)
      refine go_s 4 rfl ?_
      refine go_if (fun c50 => ?_) (fun c50 => absurd (show (C 65 8 - 4096) / 4 < D 69 12 by rw [hW3]; exact p3) c50)
      refine go_s 5 rfl ?_
      refine go_m rfl rfl (show vp_in ((C 65 8 - 4096) / 4) 1000 by rw [p5]; exact vp_in_nI (by omega) (by decide)) ?_
      refine go_v kX12_runImage_63 okX12_does_ rfl rfl rfl rfl (Nat.zero_le _) (Nat.zero_le _) ?_
      refine c_X12_does_ (pc := C 65 8) (w := D 79 ((C 65 8 - 4096) / 4).toNatClampNeg) (by rw [h95]; exact nI_pos (by omega)) ?_
      have hw : D 79 ((C 65 8 - 4096) / 4).toNatClampNeg = D 79 i := by rw [p5, nI_clamp (by omega)]
      have hsp : am_isp C = am_isw C (D 79 i) := by
        unfold am_isp
        rw [p6, if_neg (fun z => nI_pos (n := i) (by omega) (by rw [z]; decide))]
        unfold am_wda
        rw [hW2, if_pos ⟨nI_pos (by omega), nI_lt hi (by omega)⟩, nI_clamp (by omega), hW4 i hi]
      have hst := am_stI (w := D 79 i) hR rfl p4 (hW5 i hi) h95 (by omega)
      have hfr : ∀ c j, c ≠ 100 → c ≠ 103 → c ≠ 106 → (c = 95 → j ≠ 1) → (am_mis D (C 65 8) (D 79 i)).2 c j = D c j := fun c j a1 a2 a3 a4 => am_mis_fr a1 a2 a3 a4
      have hfc : ∀ c j, c ≠ 65 → c ≠ 66 → c ≠ 67 → c ≠ 68 → (am_isw C (D 79 i)).2 c j = C c j := fun c j a0 a1 a2 a3 => am_isw_fr a1 a2 a3 (fun z => absurd z a0)
      rw [hw]
      rw [hu, hsp] at q
      generalize am_mis D (C 65 8) (D 79 i) = r at hst hfr ⊢
      generalize am_isw C (D 79 i) = p at hst hfc q
      obtain ⟨r1, D1⟩ := r
      obtain ⟨s1, C1⟩ := p
      refine go_s 4 rfl ?_
      rcases hst with ⟨t1, t2⟩ | ⟨t1, t2, t3, t4, t5⟩
      · cases t1
        cases t2
        refine go_if (fun c71 => ?_) (fun c71 => absurd rfl c71)
        refine go_s 1 rfl ?_
        rw [am_drv_n3 (show ¬ (2 : Int32) = 3 by decide)] at q
        exact go_ret rfl rfl (q D hP (fun _ _ _ _ _ _ => rfl))
      · refine go_if (fun c71 => absurd c71 t1) (fun c71 => ?_)
        refine go_s 4 rfl ?_
        refine go_m rfl rfl (show vp_in _ 2 from vp_in_nI (n := 1) (by decide) (by decide)) ?_
        refine go_s 2 rfl ?_
        refine go_m rfl rfl (show vp_in _ 2 from vp_in_nI (n := 1) (by decide) (by decide)) ?_
        refine go_s 6 rfl ?_
        refine go_m rfl rfl (show vp_in _ 2 from vp_in_nI (n := 1) (by decide) (by decide)) ?_
        refine go_s 2 rfl ?_
        dsimp only at t1 t2 t3 t4 t5 hfr hfc q
        have k94 : D1 94 1 = nI d := by rw [hfr 94 1 (by decide) (by decide) (by decide) (by decide)]; exact h94
        have hPn : am_PI C1 (am_u (am_u D1 94 1 (D1 94 1 + 1)) 96 1 r1) (d + 1) := by
          refine ⟨?_, ?_, ?_, ?_⟩
          · obtain ⟨u1, u2, u3, u4⟩ := t4
            refine ⟨fun k hk => ?_, fun k hk => ?_, fun k hk => ?_, ?_⟩
            · rw [am_u_ne (by decide), am_u_ne (by decide)]; exact u1 k hk
            · rw [am_u_ne (by decide), am_u_ne (by decide)]; exact u2 k hk
            · rw [am_u_ne (by decide), am_u_ne (by decide)]; exact u3 k hk
            · rw [am_u_ne (by decide), am_u_ne (by decide)]; exact u4
          · rw [am_u_eq, t3]
          · rw [am_u_ne (by decide), am_u_eq, k94, nI_1]
          · rcases t5 with t5 | t5
            · exact ⟨m, by omega, by rw [am_u_ne (by decide), am_u_ne (by decide)]; exact t5⟩
            · exact ⟨m + 1, by omega, by rw [am_u_ne (by decide), am_u_ne (by decide)]; exact t5⟩
        have hFn : am_FI (am_u (am_u D1 94 1 (D1 94 1 + 1)) 96 1 r1) D := by
          intro c j a1 a2 a3 a4
          by_cases e6 : c = 96
          · subst e6
            rw [am_u_nj (by omega), am_u_ne (by decide)]
            exact hfr _ _ a1 a2 a3 (by omega)
          rw [am_u_ne e6]
          by_cases e4 : c = 94
          · subst e4
            rw [am_u_nj (by omega)]
            exact hfr _ _ a1 a2 a3 (by omega)
          rw [am_u_ne e4]
          exact hfr _ _ a1 a2 a3 (by omega)
        by_cases hz : r1 = 0
        · refine go_if (fun c97 => ?_) (fun c97 => absurd hz c97)
          rw [if_pos hz] at t2
          subst t2
          rw [am_drv_n3 (show ¬ (0 : Int32) = 3 by decide), if_neg (show ¬ (0 : Int32) = 2 by decide)] at q
          refine go_s 1 rfl ?_
          exact go_ret rfl rfl (q _ hPn hFn)
        · refine go_if (fun c97 => absurd c97 hz) (fun c97 => ?_)
          rw [if_neg hz] at t2
          subst t2
          rw [if_neg (by decide)] at q
          refine go_s 1 rfl ?_
          have ih := c_runI (e := e) (kc := kc - (am_rm mX12_does_).cells) (ks := ks - (am_rm mX12_does_).slots) (Q := Q) (W := W) hN n (d + 1) C1 (am_u (am_u D1 94 1 (D1 94 1 + 1)) 96 1 r1) (.int ((C 65 8 - 4096) / 4)) (.int r1) (by omega) hPn ?_ ?_
          · rw [t3] at ih
            exact ih
          · refine ⟨hW1, ?_, ?_, fun k hk => ?_, fun k hk => ?_⟩
            · rw [hfc 11 3 (by decide) (by decide) (by decide) (by decide)]; exact hW2
            · rw [hFn 69 12 (by decide) (by decide) (by decide) (by decide)]; exact hW3
            · rw [hfc 12 k (by decide) (by decide) (by decide) (by decide), hFn 79 k (by decide) (by decide) (by decide) (Or.inl (by decide))]; exact hW4 k hk
            · rw [hFn 79 k (by decide) (by decide) (by decide) (Or.inl (by decide))]; exact hW5 k hk
          · intro D' b1 b2
            refine q D' b1 (fun c j a1 a2 a3 a4 => ?_)
            rw [b2 c j a1 a2 a3 a4, hFn c j a1 a2 a3 a4]
    · have hsp : am_isp C = (2, C) := if_pos p2
      rw [hu, hsp, am_drv_n3 (show ¬ (2 : Int32) = 3 by decide)] at q
      have q' := q D hP (fun _ _ _ _ _ _ => rfl)
      refine go_s 1 rfl ?_
      refine go_if (fun c35 => ?_) (fun c35 => ?_)
      · refine go_s 3 rfl ?_
        refine go_if (fun c42 => ?_) (fun c42 => ?_)
        · refine go_s 1 rfl ?_
          exact go_ret rfl rfl q'
        · refine go_s 4 rfl ?_
          refine go_if (fun c50 => ?_) (fun c50 => ?_)
          · exact absurd ⟨c35, c42, (show (C 65 8 - 4096) / 4 < nI W by rw [← hW3]; exact c50)⟩ p1
          · refine go_s 1 rfl ?_
            exact go_ret rfl rfl q'
      · refine go_s 1 rfl ?_
        exact go_ret rfl rfl q'
