theorem am_mxS : am_in (.static Lib.Math.max.name) := by unfold am_in; decide +kernel
theorem am_mnS : am_in (.static Lib.Math.min.name) := by unfold am_in; decide +kernel
theorem am_mxI : am_in (.initialized "java/lang/Math") := by unfold am_in; decide +kernel
theorem am_mxC : am_in (.code Lib.Math.max.name Lib.Math.max.code 2 (some .int)) := by unfold am_in; decide +kernel
theorem am_mnC : am_in (.code Lib.Math.min.name Lib.Math.min.code 2 (some .int)) := by unfold am_in; decide +kernel
set_option maxHeartbeats 16000000 in
set_option maxRecDepth 20000 in
/-- THE ABSTRACT RUN IS THE MACHINE'S -/
theorem am_sound (l : Launch) : ∀ k, am_Go k → am_X l k := by
  intro k hk
  refine am_Go.ind ?_ hk
  clear hk k
  rintro ⟨M, pc, ls, st, h, kc, ks, Q⟩ ⟨i, len, hi, H⟩
  intro hM hkc hks G tb p e s m args below meth c htb cx
  obtain ⟨hdec, hchk, hlen⟩ := hM.2.2.1 _ (am_lk_mem hi)
  dsimp only at hdec hchk hlen
  have hd : decode (am_cc M) pc = .ok (i, len) := hdec
  have cx0 := cx
  obtain ⟨hx, hb, hr, hml, hown, hts, hlocks, hnm, hK, hT, hbase⟩ := cx
  have hl1 : am_elen i ≠ 0 → len = am_elen i := fun q => hlen.resolve_left q
  rcases H with H | H | H | H | H | H | H | H | H | H | H | H | H | H
  · obtain ⟨pc', ls', st', h', hs, X⟩ := H
    exact am_step_s cx0 hM hd hchk hlen htb hs (X hM hkc hks G tb p e s m args below meth c ((am_step_tb hs).trans htb) cx0)
  · obtain ⟨P, pc', ls', st', h', hs, hP, X⟩ := H
    exact am_mem_s cx0 hM hd hchk hlen htb hs hP (X hM hkc hks G tb p e s m args below meth c ((am_mem_tb hs).trans htb) cx0)
  · obtain ⟨rfl, v, rfl, hret, hQ⟩ := H
    obtain rfl := hl1 (Nat.succ_ne_zero _)
    intro lsC HH locs hL hH hS
    refine W.widen (Nat.sub_le _ _) (Nat.sub_le _ _) ?_
    rcases hret with hret | ⟨hret, hv⟩
    · exact W.iret hx hb (hr.trans hret) (fun t ht hW => ⟨⟨some (.int v), h, rfl, hQ, by rw [ht]; exact hH, htb⟩, hS.F ht⟩) hS.2.2 hd hlocks
    · exact W.zret hx hb (hr.trans hret) (by rcases hv with rfl | rfl <;> rfl) (fun t ht hW => ⟨⟨some (.int v), h, rfl, hQ, by rw [ht]; exact hH, htb⟩, hS.F ht⟩) hS.2.2 hd hlocks
  · obtain ⟨rfl, v, n, rfl, hv, hret, hQ⟩ := H
    obtain rfl := hl1 (Nat.succ_ne_zero _)
    intro lsC HH locs hL hH hS
    refine W.widen (Nat.sub_le _ _) (Nat.sub_le _ _) ?_
    exact W.aret hx hb (hr.trans hret) (Or.inl ⟨n, rfl⟩) (by rcases hv with rfl | ⟨a, rfl⟩; exact Or.inl rfl; exact Or.inr ⟨_, rfl⟩) (fun t ht hW => ⟨⟨some v, h, rfl, hQ, by rw [ht]; exact hH, htb⟩, hS.F ht⟩) hS.2.2 hd hlocks
  · obtain ⟨rfl, rfl, hret, hQ⟩ := H
    obtain rfl := hl1 (Nat.succ_ne_zero _)
    intro lsC HH locs hL hH hS
    refine W.widen (Nat.sub_le _ _) (Nat.sub_le _ _) ?_
    exact W.vret hx hb (hr.trans hret) (fun t ht hW => ⟨⟨none, h, rfl, hQ, by rw [ht]; exact hH, htb⟩, hS.F ht⟩) hS.2.2 hd hlocks
  · obtain ⟨idx, M', ci, o, as, rest, Q1, rfl, rfl, ho, hcall, hM', hr8, hrc, hac, hal, hmc, hms, X1, X2⟩ := H
    obtain rfl := hl1 (Nat.succ_ne_zero _)
    intro lsC HH locs hL hH hS
    have hmet := am_met (l := l) (G := G) (tb := tb) hM' (as := .ref o :: as) (h := h) (Q1 := Q1) (fun v hv => by
      rcases List.mem_cons.mp hv with rfl | q
      · rfl
      · exact hac v q) hal (fun p e s m args below meth c cx1 => am_Wcs (by omega) (by omega) (X1 hM' (Nat.le_refl _) (Nat.le_refl _) G tb p e s m args below meth c htb cx1))
    have hstk : (as.reverse ++ Value.ref o :: rest).map (am_tv G) = (as.map (am_tv G)).reverse ++ .ref (G.2.2.1 + o) :: rest.map (am_tv G) := by
      rw [List.map_append, List.map_reverse]
      rfl
    have hst : ∀ w ∈ am_word M' :: lw_g, ∀ (a' : Array Value) (U : State), s.WarmedH U.vm → w.before a' U = true := fun w hw a' U hW => by
      rcases hcall with ⟨r, -, -, -, -, -, -, -, -, -, hwd⟩ | ⟨r, x, owner, -, -, -, -, -, -, -, -, -, hwd, -⟩
      · rcases List.mem_cons.mp hw with rfl | q
        · exact am_stays hW hts _ hwd
        · exact am_stays hW hts _ q
      · rcases List.mem_cons.mp hw with rfl | q
        · exact am_stays hW hts _ hwd
        · exact am_stays hW hts _ q
    obtain ⟨hb1, hb2⟩ := am_pre (as := .ref o :: as) cx0 hH hS
    rcases hcall with ⟨r, hr1, hcls, hpl, hnmx, hfit, w1, w2, w3, w4, w5⟩ | ⟨r, x, owner, hr1, hpl, hnmx, hfit, w1, w2, w3, w4, w5, w6, w7⟩
    · have hcell := va_recv (ws := [(G.2.2.1 + o, .inr (ci, (List.range (am_kd.getD ci []).length).map (fun k => am_tv G (am_fv h o ci k))))]) (q0 := 0) hK (am_one ⟨r, hr1, (am_obj hH ho hr1).2⟩) hr1 rfl
      refine am_call (rest := rest.map (am_tv G)) (va_runV (b := G.2.2.1 + o) (As := as.map (am_tv G)) (C := r.1) (n := as.length) (bytes := am_cc M') (maxL := am_ml M') (ret := am_ret M') (index := idx) (Ts := lw_g) ⟨hx, hb, hml, hown, hts⟩ hmet ⟨⟨rfl, rfl, hfit.1, hfit.2, hst, List.mem_cons_self, hts _ w5, by rw [hcls]; exact hts _ w4, hpl, fun sig q => ?_, hts _ w1⟩, hts _ w2, hts _ w3⟩ ⟨hb1, hcell, hb2⟩ rfl (by rw [List.length_map]) hL.1 hstk (lv_room (by rw [am_sum1 rest hrc]; exact hr8)) hd ⟨by omega, by omega⟩) hS ?_
      · have := hnmx; unfold am_nm at this; rw [q] at this; exact (Option.some.inj this).symm
      · exact am_back hL hkc hks hmc hms (fun r h1 q1 q2 => X2 r h1 q1 hM (by omega) (by omega) G tb p e s m args below meth c q2 cx0)
    · have hcell := va_recv (ws := [(G.2.2.1 + o, .inr (ci, (List.range (am_kd.getD ci []).length).map (fun k => am_tv G (am_fv h o ci k))))]) (q0 := 0) hK (am_one ⟨r, hr1, (am_obj hH ho hr1).2⟩) hr1 rfl
      refine am_call (rest := rest.map (am_tv G)) (va_runU (b := G.2.2.1 + o) (As := as.map (am_tv G)) (C := r.1) (x := x) (owner := owner) (n := as.length) (bytes := am_cc M') (maxL := am_ml M') (ret := am_ret M') (index := idx) (Ts := lw_g) ⟨hx, hb, hml, hown, hts⟩ hmet ⟨⟨rfl, rfl, hfit.1, hfit.2, hst, List.mem_cons_self⟩, hts _ w6, hts _ w5, hpl, fun sig q => ?_, hts _ w1, hts _ w2, ?_, hts _ w3, hts _ w4⟩ ⟨hb1, hcell, hb2⟩ rfl (by rw [List.length_map]) hL.1 hstk (lv_room (by rw [am_sum1 rest hrc]; exact hr8)) hd ⟨by omega, by omega⟩) hS ?_
      · have := hnmx; unfold am_nm at this; rw [q] at this; exact (Option.some.inj this).symm
      · rcases w7 with q | q
        · rw [← q]; exact va_Decl.of (hts _ w4) (hts _ w6)
        · exact va_Decl.abs (va_Nw.of rfl (hts _ q))
      · exact am_back hL hkc hks hmc hms (fun r h1 q1 q2 => X2 r h1 q1 hM (by omega) (by omega) G tb p e s m args below meth c q2 cx0)
  · obtain ⟨idx, M', as, rest, Q1, rfl, rfl, hcall, hM', hr8, hrc, hac, hal, hmc, hms, X1, X2⟩ := H
    obtain rfl := hl1 (Nat.succ_ne_zero _)
    intro lsC HH locs hL hH hS
    have hmet := am_met (l := l) (G := G) (tb := tb) hM' (as := as) (h := h) (Q1 := Q1) hac hal (fun p e s m args below meth c cx1 => am_Wcs (by omega) (by omega) (X1 hM' (Nat.le_refl _) (Nat.le_refl _) G tb p e s m args below meth c htb cx1))
    have hstk : (as.reverse ++ rest).map (am_tv G) = (as.map (am_tv G)).reverse ++ rest.map (am_tv G) := by
      rw [List.map_append, List.map_reverse]
    obtain ⟨hpl, hnmx, hfit, w1, w2, w3, w4⟩ := hcall
    have hst : ∀ w ∈ am_word M' :: lw_g, ∀ (a' : Array Value) (U : State), s.WarmedH U.vm → w.before a' U = true := fun w hw a' U hW => by
      rcases List.mem_cons.mp hw with rfl | q
      · exact am_stays hW hts _ w4
      · exact am_stays hW hts _ q
    have hlen1 : ∀ sig, parseMethodDescriptor (am_y M').desc = some sig → as.length = sig.parameters.length := fun sig q => by
      have := hnmx; unfold am_nm at this; rw [q] at this; exact (Option.some.inj this).symm
    have fin := am_back (Q1 := Q1) (M' := M') (rest := rest) (pc := pc) (tb := tb) (p := p) (l := l) (e := e) (R := am_rm M) (s := s) (m := m) (args := args) (below := below) (meth := meth) (c := c) (Z := MQ below (am_Qc G tb Q) args s (am_rm M).cells (am_rm M).slots (am_A G)) hL hkc hks hmc hms (fun r h1 q1 q2 => X2 r h1 q1 hM (by omega) (by omega) G tb p e s m args below meth c q2 cx0)
    rcases w1 with w1 | ⟨xc, hxc, w1, w1s⟩
    · exact am_call (rest := rest.map (am_tv G)) (va_runS (As := as.map (am_tv G)) (n := as.length) (bytes := am_cc M') (maxL := am_ml M') (ret := am_ret M') (index := idx) (Ts := lw_g) ⟨hx, hb, hml, hown, hts⟩ hmet ⟨⟨rfl, rfl, hfit.1, hfit.2, hst, List.mem_cons_self, hts _ w4, hts _ w3, hpl, hlen1, hts _ w1⟩, hts _ w2⟩ (am_pre cx0 hH hS) rfl (by rw [List.length_map]) hL.1 hstk (lv_room (by rw [am_sum1 rest hrc]; exact hr8)) hd ⟨by omega, by omega⟩) hS fin
    · exact am_call (rest := rest.map (am_tv G)) (am_runSUp (As := as.map (am_tv G)) (n := as.length) (bytes := am_cc M') (maxL := am_ml M') (ret := am_ret M') (index := idx) (Ts := lw_g) (xc := xc) ⟨hx, hb, hml, hown, hts⟩ hmet rfl rfl hfit.1 hfit.2 hst List.mem_cons_self (hts _ w4) (hts _ w3) hpl hxc hlen1 (hts _ w1) (hts _ w1s) (hts _ w2) (am_pre cx0 hH hS) rfl (by rw [List.length_map]) hL.1 hstk (lv_room (by rw [am_sum1 rest hrc]; exact hr8)) hd ⟨by omega, by omega⟩) hS fin
  · obtain ⟨idx, M', o, as, rest, Q1, rfl, rfl, hcall, hM', hr8, hrc, hac, hal, hmc, hms, X1, X2⟩ := H
    obtain rfl := hl1 (Nat.succ_ne_zero _)
    intro lsC HH locs hL hH hS
    have hmet := am_met (l := l) (G := G) (tb := tb) hM' (as := .ref o :: as) (h := h) (Q1 := Q1) (fun v hv => by
      rcases List.mem_cons.mp hv with rfl | q
      · rfl
      · exact hac v q) hal (fun p e s m args below meth c cx1 => am_Wcs (by omega) (by omega) (X1 hM' (Nat.le_refl _) (Nat.le_refl _) G tb p e s m args below meth c htb cx1))
    have hstk : (as.reverse ++ Value.ref o :: rest).map (am_tv G) = (as.map (am_tv G)).reverse ++ .ref (G.2.2.1 + o) :: rest.map (am_tv G) := by
      rw [List.map_append, List.map_reverse]
      rfl
    obtain ⟨hpl, hnmx, hfit, w1, w2, w3, w4, hini, hrn⟩ := hcall
    have hst : ∀ w ∈ am_word M' :: lw_g, ∀ (a' : Array Value) (U : State), s.WarmedH U.vm → w.before a' U = true := fun w hw a' U hW => by
      rcases List.mem_cons.mp hw with rfl | q
      · exact am_stays hW hts _ w4
      · exact am_stays hW hts _ q
    have hwd : am_word M' = .code (am_y M') (am_cc M') (am_ml M') none := by unfold am_word; rw [hrn]
    have hlen1 : ∀ sig, parseMethodDescriptor (am_y M').desc = some sig → as.length = sig.parameters.length := fun sig q => by
      have := hnmx; unfold am_nm at this; rw [q] at this; exact (Option.some.inj this).symm
    have hwm : Jvm.Cond.code (am_y M') (am_cc M') (am_ml M') none ∈ am_word M' :: lw_g := by rw [← hwd]; exact List.mem_cons_self
    have hcb : (Jvm.Cond.code (am_y M') (am_cc M') (am_ml M') none).before args s = true := by rw [← hwd]; exact hts _ w4
    have fin := am_back (Q1 := Q1) (M' := M') (rest := rest) (pc := pc) (tb := tb) (p := p) (l := l) (e := e) (R := am_rm M) (s := s) (m := m) (args := args) (below := below) (meth := meth) (c := c) (Z := MQ below (am_Qc G tb Q) args s (am_rm M).cells (am_rm M).slots (am_A G)) hL hkc hks hmc hms (fun r h1 q1 q2 => X2 r h1 q1 hM (by omega) (by omega) G tb p e s m args below meth c q2 cx0)
    rcases w1 with w1 | ⟨host, w1⟩
    · exact am_call (rest := rest.map (am_tv G)) (va_runI (b := G.2.2.1 + o) (As := as.map (am_tv G)) (n := as.length) (bytes := am_cc M') (maxL := am_ml M') (index := idx) (Ts := lw_g) ⟨hx, hb, hml, hown, hts⟩ hmet ⟨⟨rfl, rfl, hfit.1, hfit.2, hst, hwm, hcb, hts _ w3, hpl, hlen1, hts _ w1⟩, hini, hts _ w2⟩ (am_pre (as := .ref o :: as) cx0 hH hS) rfl (by rw [List.length_map]) hL.1 hstk (lv_room (by rw [am_sum1 rest hrc]; exact hr8)) hd ⟨by omega, by omega⟩) hS fin
    · exact am_call (rest := rest.map (am_tv G)) (va_runIN (b := G.2.2.1 + o) (host := host) (As := as.map (am_tv G)) (n := as.length) (bytes := am_cc M') (maxL := am_ml M') (index := idx) (Ts := lw_g) ⟨hx, hb, hml, hown, hts⟩ hmet ⟨⟨⟨rfl, rfl, hfit.1, hfit.2, hst, hwm⟩, hcb, hts _ w3, hpl, hlen1, hts _ w1⟩, hini, hts _ w2⟩ (am_pre (as := .ref o :: as) cx0 hH hS) rfl (by rw [List.length_map]) hL.1 hstk (lv_room (by rw [am_sum1 rest hrc]; exact hr8)) hd ⟨by omega, by omega⟩) hS fin
  · obtain ⟨idx, o, rest, rfl, rfl, w1, hf1, hl2, hrc, X⟩ := H
    obtain rfl := hl1 (Nat.succ_ne_zero _)
    intro lsC HH locs hL hH hS
    refine W.objInit hx hb hown (hts _ w1) (hts _ am_ioI) (hts _ am_ioC) rfl (by rw [hml]; exact hL.1) rfl hd hf1 ?_ (X hM hkc hks G tb p e s m args below meth c htb cx0 lsC HH locs hL hH hS)
    show 2 * 0 + ((rest.map (am_tv G)).map fun v => v.category).sum + 12 ≤ _
    rw [am_sum1 rest hrc]
    omega
  · obtain ⟨idx, x, dp, o, sp, o0, rest, n0, n1, rfl, rfl, w1, g0, g1, z1, z2, z3, z4, z5, hf1, hl2, hrc, X⟩ := H
    obtain rfl := hl1 (Nat.succ_ne_zero _)
    exact am_cpy_s cx0 w1 hd g0 g1 z1 z2 z3 z4 z5 hf1 hl2 hrc (X hM hkc hks G tb p e s m args below meth c htb cx0)
  · obtain ⟨idx, ci, r, rfl, hr1, w1, w2, w3, q1, q2, X⟩ := H
    obtain rfl := hl1 (Nat.succ_ne_zero _)
    exact am_new_s cx0 hr1 w1 w2 w3 hd (by omega) (by omega) (am_Wcs (by omega) (by omega) (X hM (by omega) (by omega) G tb p e s m args below meth c htb cx0))
  · obtain ⟨at', t, x, rest, rfl, ha, rfl, z1, z2, q1, q2, X⟩ := H
    obtain rfl := hl1 (Nat.succ_ne_zero _)
    exact am_newa_s cx0 ha hd z1 z2 (by omega) (by omega) (am_Wcs (by omega) (by omega) (X hM (by omega) (by omega) G tb p e s m args below meth c htb cx0))
  · obtain ⟨idx, x, y, rest, rfl, rfl, z1, z2, z3, z4, w1, q1, q2, X⟩ := H
    obtain rfl := hl1 (Nat.succ_ne_zero _)
    exact am_mna_s cx0 w1 hd z1 z2 z3 z4 (by omega) (by omega) (am_Wcs (by omega) (by omega) (X hM (by omega) (by omega) G tb p e s m args below meth c htb cx0))
  · obtain ⟨idx, x, y, z, rest, rfl, rfl, hw, hf1, hl2, hrc, X⟩ := H
    obtain rfl := hl1 (Nat.succ_ne_zero _)
    intro lsC HH locs hL hH hS
    have K := X hM hkc hks G tb p e s m args below meth c htb cx0 lsC HH locs hL hH hS
    have hsum : ((rest.map (am_tv G)).map fun v => v.category).sum + 13 ≤ (am_rm M).locals := by rw [am_sum1 rest hrc]; exact hl2
    rcases hw with ⟨w1, rfl⟩ | ⟨w1, rfl⟩
    · exact va_mmax hx hb (hml.trans hL.1.symm) hown (hts _ w1) (hts _ am_mxS) (hts _ am_mxI) (hts _ am_mxC) hf1 hsum (Nat.sub_le _ _) (Nat.sub_le _ _) hd K
    · exact va_mmin hx hb (hml.trans hL.1.symm) hown (hts _ w1) (hts _ am_mnS) (hts _ am_mxI) (hts _ am_mnC) hf1 hsum (Nat.sub_le _ _) (Nat.sub_le _ _) hd K
