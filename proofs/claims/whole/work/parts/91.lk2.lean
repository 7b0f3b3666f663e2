theorem c_X3_layOutBody {C D : Nat → Nat → Int32} {F K : Nat} {sz : Nat → Nat} {B : Nat → Prop} {sm : Nat → Nat → Prop} {ln sp : Nat → Nat} {e : am_E} {Q : am_Q} (hE : ly_E C D F sz B sm ln sp K) {f kc ks : Nat} (hf : f < F) (hB : B f) {C' : Nat → Nat → Int32} (hI : ly_L C D F sz B sm ln sp K C' (am_st sz f) f) (q : ∀ C', ly_L C D F sz B sm ln sp K C' (am_st sz f + sz f) (f + 1) → Q (some (.int (nI (am_st (ly_w (ly_bd F sz B) (sq_U (am_st sz F) (am_op D F sz B) (am_en D F sz B) sm ln sp K) (ly_bg (am_st sz F) (am_op D F sz B) (am_en D F sz B) sm ln sp K) (fun t => C 2 t = 32)) (am_st sz f + sz f))))) (hp C' e)) : am_Go (mX3_layOutBody, 0, am_ent mX3_layOutBody [.ref 57, .int (nI f), .int (nI (am_st (ly_w (ly_bd F sz B) (sq_U (am_st sz F) (am_op D F sz B) (am_en D F sz B) sm ln sp K) (ly_bg (am_st sz F) (am_op D F sz B) (am_en D F sz B) sm ln sp K) (fun t => C 2 t = 32)) (am_st sz f)))], [], hp C' e, kc, ks, Q) := by
  have hP := hE.pg
  have hF := hP.hF
  have ht := hP.t300
  have hlf : am_st sz f + sz f ≤ am_st sz F := am_st_le (sz := sz) (show f + 1 ≤ F by omega)
  have r4 : C' 11 4 = nI F := (hI.fr 11 4 (by decide) (by decide) (by decide)).trans hE.c4
  refine go_s 4 rfl ?_
  refine go_v kX3_layOutBody_6 okX1_setFirstWord rfl rfl rfl rfl (Nat.zero_le _) (Nat.zero_le _) ?_
  refine c_X1_setFirstWord (am_wl r4 hF (by decide)) ?_
  rw [if_pos ⟨nI_pos' (by omega), by rw [r4]; exact nI_lt hf (by omega)⟩, nI_clamp (by omega)]
  have hP' : am_PG (am_u C' 14 f (nI (am_st (ly_w (ly_bd F sz B) (sq_U (am_st sz F) (am_op D F sz B) (am_en D F sz B) sm ln sp K) (ly_bg (am_st sz F) (am_op D F sz B) (am_en D F sz B) sm ln sp K) (fun t => C 2 t = 32)) (am_st sz f)))) D F sz := hP.fr (fun c j h1 h2 _ => (am_u_ne (by omega)).trans (hI.fr c j (by omega) (by omega) (by omega))) (fun _ _ _ _ _ => rfl)
  have hL : ly_L C D F sz B sm ln sp K (am_u C' 14 f (nI (am_st (ly_w (ly_bd F sz B) (sq_U (am_st sz F) (am_op D F sz B) (am_en D F sz B) sm ln sp K) (ly_bg (am_st sz F) (am_op D F sz B) (am_en D F sz B) sm ln sp K) (fun t => C 2 t = 32)) (am_st sz f)))) (am_st sz f) (f + 1) := by
    refine ⟨fun c j a1 a2 a3 => (am_u_ne a1).trans (hI.fr c j a1 a2 a3), fun t a1 a2 a3 => (am_u_ne (by decide)).trans (hI.wo t a1 a2 a3), fun k j a1 a2 a3 => (am_u_ne (by decide)).trans (hI.oc k j a1 a2 a3), fun g a1 a2 a3 => ?_⟩
    by_cases eg : g = f
    · subst eg; rw [am_u_eq]
    · rw [am_u_nj eg]; exact hI.fi g a1 a2 (by omega)
  generalize am_u C' 14 f (nI (am_st (ly_w (ly_bd F sz B) (sq_U (am_st sz F) (am_op D F sz B) (am_en D F sz B) sm ln sp K) (ly_bg (am_st sz F) (am_op D F sz B) (am_en D F sz B) sm ln sp K) (fun t => C 2 t = 32)) (am_st sz f))) = C2 at hP' hL ⊢
  refine go_s 5 rfl ?_
  refine go_v kX3_layOutBody_16 okX5_endOf rfl rfl rfl rfl (Nat.zero_le _) (Nat.zero_le _) ?_
  refine c_X5_endOf hP'.h5 ?_
  rw [hP'.ende hf]
  refine go_s 3 rfl ?_
  refine go_min 756 rfl (by decide +kernel) rfl ?_
  rw [if_neg (show ¬ Int32.ofNat ((0 : Nat), (300 : Nat)).2 < nI (am_st sz f + sz f) from nI_nlt (a := 300) (b := am_st sz f + sz f) (by omega) (by decide))]
  refine go_s 6 rfl ?_
  refine go_v kX3_layOutBody_37 okX5_startOf rfl rfl rfl rfl (Nat.zero_le _) (Nat.zero_le _) ?_
  refine c_X5_startOf hP'.h5 ?_
  rw [hP'.sta hf]
  refine go_s 1 rfl ?_
  exact c_lo hE hf hB q (sz f + 1) _ _ 0 0 _ _ (by omega) (by omega) (ly_in_f hE.op (fun k hk => by have := (hE.l2 hk).1; omega)) hL
