theorem c_mw0 {C D : Nat → Nat → Int32} {F : Nat} {sz : Nat → Nat} {B : Nat → Prop} {bo : Nat → Nat} {sm : Nat → Nat → Prop} {ln sp : Nat → Nat} {K : Nat} {S S1 : Nat → Nat → Int32} {e : am_E} {Q : am_Q} {kc ks : Nat} (hE : ly_E2 C D F sz B bo sm ln sp K) (hM : ly_ME D S1 F sz B bo sm ln sp K) (hO : ly_MO C D F sz B bo sm ln sp K S S1) {f p : Nat} {x4 : Value} {S' : Nat → Nat → Int32} (KK : am_Go (mX12_write, 19, [.ref 69, .int (nI (4096 + 4 * ly_W C D F sz B sm ln sp K (am_st sz f + (p + 1)))), .int (nI f), .int (nI (40 * f + (p + 1))), x4], [], hp S' e, kc, ks, Q)) {w : Nat} (hw : ly_n C D F sz B sm ln sp K (am_st sz f + p) = w) : am_Go (mX12_write, 190, [.ref 69, .int (nI (4096 + 4 * (ly_W C D F sz B sm ln sp K (am_st sz f + p) + w))), .int (nI f), .int (nI (40 * f + p)), x4], [], hp S' e, kc, ks, Q) := by
  refine go_s 2 (pc' := 19) (ls' := [.ref 69, .int (nI (4096 + 4 * ly_W C D F sz B sm ln sp K (am_st sz f + (p + 1)))), .int (nI f), .int (nI (40 * f + (p + 1))), x4]) (st' := []) (h' := hp S' e) (by rw [show ly_W C D F sz B sm ln sp K (am_st sz f + (p + 1)) = ly_W C D F sz B sm ln sp K (am_st sz f + p) + w from (ly_W_s (s := am_st sz f + p)).trans (by rw [hw]), ← Nat.add_assoc (40 * f) p 1, ← nI_1 (40 * f + p)]; rfl) ?_
  exact KK
theorem c_mwx {C D : Nat → Nat → Int32} {F : Nat} {sz : Nat → Nat} {B : Nat → Prop} {bo : Nat → Nat} {sm : Nat → Nat → Prop} {ln sp : Nat → Nat} {K : Nat} {S S1 : Nat → Nat → Int32} {e : am_E} {Q : am_Q} {kc ks : Nat} (hE : ly_E2 C D F sz B bo sm ln sp K) (hM : ly_ME D S1 F sz B bo sm ln sp K) (hO : ly_MO C D F sz B bo sm ln sp K S S1) {f : Nat} (hf : f < F) (hB : B f) (KK : ∀ S' x3 x4, ly_N3 C D F sz B bo sm ln sp K S1 S' (am_st sz f + sz f) → am_Go (mX12_write, 196, [.ref 69, .int (nI (4096 + 4 * ly_W C D F sz B sm ln sp K (am_st sz f + sz f))), .int (nI f), x3, x4], [], hp S' e, kc, ks, Q)) : ∀ (n p : Nat) (x4 : Value) (S' : Nat → Nat → Int32), sz f < n + p → p ≤ sz f → ly_N3 C D F sz B bo sm ln sp K S1 S' (am_st sz f + p) → am_Go (mX12_write, 19, [.ref 69, .int (nI (4096 + 4 * ly_W C D F sz B sm ln sp K (am_st sz f + p))), .int (nI f), .int (nI (40 * f + p)), x4], [], hp S' e, kc, ks, Q)
  | 0, p, x4, S', g1, g2, hI => by omega
  | n + 1, p, x4, S', g1, g2, hI => by
    have hP := hE.e.pg
    have hF := hP.hF
    have h40 := hP.s40 f hf
    have ht := hP.t300
    have hk60 := hE.e.k60
    have hlf : am_st sz f + sz f ≤ am_st sz F := am_st_le (sz := sz) (show f + 1 ≤ F by omega)
    have hM' : ly_ME D S' F sz B bo sm ln sp K := hM.u (fun c j _ _ h1 _ _ _ => hI.fr c j h1)
    have hbo := hE.bo f hf
    refine go_s 2 rfl ?_
    refine go_v kX12_write_21 okX12_isBody rfl rfl rfl rfl (Nat.zero_le _) (Nat.zero_le _) ?_
    refine c_X12_isBody (by omega) (fun r hr => ?_)
    have hr2 : am_bz r (B f) := am_bz_iff hr (by rw [hM'.bd f hf, hM.bb f hf]; exact nI_eq (by omega) (by omega))
    have er : r = 1 := (hr2.resolve_left (fun z => z.2 hB)).1
    subst er
    refine go_s 1 rfl ?_
    refine go_if (fun c => absurd c (by decide)) (fun c => ?_)
    have e16 : nI 40 * nI f + S' 70 (nI f).toNatClampNeg = nI (40 * f + sz f) := by rw [nI_clamp (by omega), hM'.ms.me 70 f (by decide) (by decide), hP.m70 f hf, nI_mul, nI_add]
    refine go_s 7 rfl ?_
    refine go_m rfl rfl (show vp_in (nI f) 24 from vp_in_nI (by omega) (by decide)) ?_
    refine go_s 2 rfl ?_
    refine go_if (fun c39 => ?_) (fun c39 => ?_)
    rotate_left
    · have c39 : ¬ nI (40 * f + p) < nI 40 * nI f + S' 70 (nI f).toNatClampNeg := c39
      rw [e16] at c39
      have hge := mt (nI_lt (a := 40 * f + p) (b := 40 * f + sz f) · (by omega)) c39
      have ep : p = sz f := by omega
      subst ep
      exact KK S' _ _ hI
    have c39 : nI (40 * f + p) < nI 40 * nI f + S' 70 (nI f).toNatClampNeg := c39
    rw [e16] at c39
    have hq : p < sz f := by
      have := (nI_ltI (a := 40 * f + p) (b := 40 * f + sz f) (by omega) (by omega)).mp c39
      omega
    have hX : vp_in (nI (40 * f + p)) 960 := vp_in_nI (by omega) (by decide)
    have hcx := nI_clamp (show 40 * f + p < 2 ^ 31 by omega)
    have hbd : ly_bd F sz B (am_st sz f + p) := (ly_bd_i hf hq).mpr hB
    have w600 := hE.W6 (s := am_st sz f + p) (by omega)
    have w601 := hE.W6 (s := am_st sz f + p + 1) (by omega)
    have hi := hM'.rs.ir f p hf hq
    have hb := hM'.rs.bg f p hf hq
    refine go_s 3 rfl ?_
    refine go_m rfl rfl hX ?_
    refine go_s 2 rfl ?_
    rcases hi with ⟨k, hk, e87, j, j1, j2, j3⟩ | ⟨e87, hnU⟩
    · have hU : sq_U (am_st sz F) (am_op D F sz B) (am_en D F sz B) sm ln sp K (am_st sz f + p) := sq_U_i.mpr ⟨k, j, hk, j1, j2, j3⟩
      refine go_if (fun c => absurd c ?_) (fun c => ?_)
      · show ¬ S' 87 (nI (40 * f + p)).toNatClampNeg = -1
        rw [hcx, e87]
        exact fun z => nI_pos (n := k) (by omega) (by rw [z]; decide)
      refine go_s 3 rfl ?_
      refine go_m rfl rfl hX ?_
      refine go_s 1 rfl ?_
      rcases hb with ⟨e89, hnb⟩ | ⟨e89, hbg⟩
      · refine go_if (fun c => ?_) (fun c => absurd (show S' 89 (nI (40 * f + p)).toNatClampNeg = 0 by rw [hcx]; exact e89) c)
        have hn : ly_n C D F sz B sm ln sp K (am_st sz f + p) = 0 := ly_w_cv hbd hU hnb
        refine c_mw0 hE hM hO (w := 0) ?_ hn
        exact c_mwx hE hM hO hf hB KK n (p + 1) _ S' (by omega) (by omega) (hI.w0 hn)
      · refine go_if (fun c => absurd c (show ¬ S' 89 (nI (40 * f + p)).toNatClampNeg = 0 by rw [hcx, e89]; decide)) (fun c => ?_)
        have hn : ly_n C D F sz B sm ln sp K (am_st sz f + p) = 1 := ly_w_bg hbd hU hbg
        rw [ly_W_s, hn] at w601
        obtain ⟨k', hk', hok⟩ := hbg
        have ekk := ly_uq (t := am_st sz f + p) (by have := (hE.e.l2 hk').1; omega) hok j1 (Nat.le_refl _) (by have := (hE.e.l2 hk').1; omega) j2 j3
        have ek' := ekk.1
        subst ek'
        refine go_s 8 rfl ?_
        refine go_m rfl rfl hX ?_
        show am_Go (mX12_write, 74, [.ref 69, .int (nI (4096 + 4 * ly_W C D F sz B sm ln sp K (am_st sz f + p))), .int (nI f), .int (nI (40 * f + p)), x4], [.int (S' 87 (nI (40 * f + p)).toNatClampNeg), .ref 83, .int 5, .int (nI (4096 + 4 * ly_W C D F sz B sm ln sp K (am_st sz f + p))), .ref 69], hp S' e, _, _, Q)
        rw [hcx, e87]
        refine go_m rfl rfl (show vp_in (nI k') 60 from vp_in_nI (by omega) (by decide)) ?_
        show am_Go (mX12_write, 75, [.ref 69, .int (nI (4096 + 4 * ly_W C D F sz B sm ln sp K (am_st sz f + p))), .int (nI f), .int (nI (40 * f + p)), x4], [.int (S' 83 (nI k').toNatClampNeg), .int 5, .int (nI (4096 + 4 * ly_W C D F sz B sm ln sp K (am_st sz f + p))), .ref 69], hp S' e, _, _, Q)
        rw [nI_clamp (show k' < 2 ^ 31 by omega), hI.fr 83 k' (by decide), hO.ra k' hk']
        refine go_s 2 rfl ?_
        refine go_st kX12_write_77 okX12_jal rfl rfl rfl (Nat.zero_le _) (Nat.zero_le _) ?_
        refine c_X12_jal ?_
        show am_Go (mX12_write, 80, [.ref 69, .int (nI (4096 + 4 * ly_W C D F sz B sm ln sp K (am_st sz f + p))), .int (nI f), .int (nI (40 * f + p)), x4], [.int (am_mj 5 (nI (4096 + 4 * ly_R C D F sz B sm ln sp K k') - nI (4096 + 4 * ly_W C D F sz B sm ln sp K (am_st sz f + p)))), .int (nI (4096 + 4 * ly_W C D F sz B sm ln sp K (am_st sz f + p))), .ref 69], hp S' e, _, _, Q)
        rw [am_by, ← am_jwe]
        refine go_v kX12_write_80 okX12_say rfl rfl rfl rfl (Nat.zero_le _) (Nat.zero_le _) ?_
        refine c_X12_say (by omega) ?_
        refine go_s 2 (pc' := 190) (ls' := [.ref 69, .int (nI (4096 + 4 * (ly_W C D F sz B sm ln sp K (am_st sz f + p) + 1))), .int (nI f), .int (nI (40 * f + p)), x4]) (st' := []) (h' := hp (am_u S' 79 (ly_W C D F sz B sm ln sp K (am_st sz f + p)) (am_jw 5 (4 * (nI (ly_R C D F sz B sm ln sp K k') - nI (ly_W C D F sz B sm ln sp K (am_st sz f + p)))))) e) rfl ?_
        refine c_mw0 hE hM hO (w := 1) ?_ hn
        exact c_mwx hE hM hO hf hB KK n (p + 1) _ _ (by omega) (by omega) (hI.w1 hf hq hn (ly_v_bg (fun k hk => by have := (hE.e.l2 hk).1; omega) hk' hok).symm)
    · refine go_if (fun c => ?_) (fun c => absurd (show S' 87 (nI (40 * f + p)).toNatClampNeg = -1 by rw [hcx]; exact e87) c)
      have hnb : ¬ ly_bg (am_st sz F) (am_op D F sz B) (am_en D F sz B) sm ln sp K (am_st sz f + p) := fun z => hnU (ly_bg_U (fun k hk => by have := (hE.e.l2 hk).1; omega) z)
      refine go_s 3 rfl ?_
      refine go_m rfl rfl hX ?_
      refine go_s 2 rfl ?_
      have e71 : S' 71 (nI (40 * f + p)).toNatClampNeg = C 2 (am_st sz f + p) := by rw [hcx, hM'.ms.me 71 _ (by decide) (by decide)]; exact (hP.ins f p hf hq).1.symm
      by_cases h32 : C 2 (am_st sz f + p) = 32
      · refine go_if (fun c => ?_) (fun c => absurd (e71.trans h32) c)
        have hn : ly_n C D F sz B sm ln sp K (am_st sz f + p) = 2 := ly_w_2 hbd hnU h32
        rw [ly_W_s, hn] at w601
        obtain ⟨q, q1, q2, q3⟩ := ly_p32 hE hf hq h32
        have hqb := hE.bo q q1
        have w6b := hE.W6 (s := am_st sz (bo q)) (am_st_le (by omega))
        have e73 : S' 73 (40 * f + p) = nI q := by rw [hM'.ms.me 73 _ (by decide) (by decide)]; exact q3
        have e72 : S' 72 (40 * f + p) = C 3 (am_st sz f + p) := by
          rw [hM'.ms.me 72 _ (by decide) (by decide), (hP.ins f p hf hq).2.1, show D 71 (40 * f + p) = 32 from (hP.ins f p hf hq).1.symm.trans h32]
          rfl
        have ead : ly_ad C D F sz B bo sm ln sp K (am_st sz f + p) = 4096 + 4 * nI (ly_W C D F sz B sm ln sp K (am_st sz (bo q))) := by
          unfold ly_ad
          rw [q2, nI_clamp (by omega)]
        refine go_s 5 rfl ?_
        refine go_m rfl rfl hX ?_
        show am_Go (mX12_write, 108, [.ref 69, .int (nI (4096 + 4 * ly_W C D F sz B sm ln sp K (am_st sz f + p))), .int (nI f), .int (nI (40 * f + p)), x4], [.int (S' 73 (nI (40 * f + p)).toNatClampNeg), .ref 78], hp S' e, _, _, Q)
        rw [hcx, e73]
        refine go_m rfl rfl (show vp_in (nI q) 24 from vp_in_nI (by omega) (by decide)) ?_
        show am_Go (mX12_write, 109, [.ref 69, .int (nI (4096 + 4 * ly_W C D F sz B sm ln sp K (am_st sz f + p))), .int (nI f), .int (nI (40 * f + p)), x4], [.int (S' 78 (nI q).toNatClampNeg)], hp S' e, _, _, Q)
        rw [nI_clamp (show q < 2 ^ 31 by omega), hI.fr 78 q (by decide), hO.fo q q1, ← am_adw (ly_W C D F sz B sm ln sp K (am_st sz (bo q)))]
        generalize hto : 4096 + 4 * nI (ly_W C D F sz B sm ln sp K (am_st sz (bo q))) = to
        have hu := am_adu _ (show ly_W C D F sz B sm ln sp K (am_st sz (bo q)) < 601 by omega)
        have hlo := am_adl _ (show ly_W C D F sz B sm ln sp K (am_st sz (bo q)) < 601 by omega)
        rw [hto] at hu hlo ead
        refine go_s 11 rfl ?_
        refine go_m rfl rfl hX ?_
        show am_Go (mX12_write, 129, [.ref 69, .int (nI (4096 + 4 * ly_W C D F sz B sm ln sp K (am_st sz f + p))), .int (nI f), .int (nI (40 * f + p)), .int to], [.int (S' 72 (nI (40 * f + p)).toNatClampNeg), .int (to + 2048 &&& (-4096)), .int (nI (4096 + 4 * ly_W C D F sz B sm ln sp K (am_st sz f + p))), .ref 69], hp S' e, _, _, Q)
        rw [hcx, e72]
        refine go_s 5 (pc' := 136) (ls' := [.ref 69, .int (nI (4096 + 4 * ly_W C D F sz B sm ln sp K (am_st sz f + p))), .int (nI f), .int (nI (40 * f + p)), .int to]) (st' := [.int (am_uw (C 3 (am_st sz f + p)) (am_aup to)), .int (nI (4096 + 4 * ly_W C D F sz B sm ln sp K (am_st sz f + p))), .ref 69]) (h' := hp S' e) (by
          unfold am_uw
          rw [← hu]
          rfl) ?_
        refine go_v kX12_write_136 okX12_say rfl rfl rfl rfl (Nat.zero_le _) (Nat.zero_le _) ?_
        refine c_X12_say (by omega) ?_
        have e72b : am_u S' 79 (ly_W C D F sz B sm ln sp K (am_st sz f + p)) (am_uw (C 3 (am_st sz f + p)) (am_aup to)) 72 (40 * f + p) = C 3 (am_st sz f + p) := (am_u_ne (by decide)).trans e72
        have hI2 := hI.w2 hf hq (w := am_uw (C 3 (am_st sz f + p)) (am_aup to)) (w' := am_iw 10 (C 3 (am_st sz f + p)) (C 3 (am_st sz f + p)) (am_alo to)) hn (by rw [ly_v_0 hnb h32, ead]) (by rw [ly_v_1 hnb h32, ead])
        generalize am_u S' 79 (ly_W C D F sz B sm ln sp K (am_st sz f + p)) (am_uw (C 3 (am_st sz f + p)) (am_aup to)) = S2 at e72b hI2 ⊢
        refine go_s 9 rfl ?_
        refine go_m rfl rfl hX ?_
        show am_Go (mX12_write, 153, [.ref 69, .int (nI (4096 + 4 * (ly_W C D F sz B sm ln sp K (am_st sz f + p) + 1))), .int (nI f), .int (nI (40 * f + p)), .int to], [.int (S2 72 (nI (40 * f + p)).toNatClampNeg), .int (to <<< (20 : Int32)), .int (nI (4096 + 4 * (ly_W C D F sz B sm ln sp K (am_st sz f + p) + 1))), .ref 69], hp S2 e, _, _, Q)
        rw [hcx, e72b]
        refine go_s 6 rfl ?_
        refine go_m rfl rfl hX ?_
        show am_Go (mX12_write, 163, [.ref 69, .int (nI (4096 + 4 * (ly_W C D F sz B sm ln sp K (am_st sz f + p) + 1))), .int (nI f), .int (nI (40 * f + p)), .int to], [.int (S2 72 (nI (40 * f + p)).toNatClampNeg), .int (to <<< (20 : Int32) ||| C 3 (am_st sz f + p) <<< (15 : Int32)), .int (nI (4096 + 4 * (ly_W C D F sz B sm ln sp K (am_st sz f + p) + 1))), .ref 69], hp S2 e, _, _, Q)
        rw [hcx, e72b]
        refine go_s 5 (pc' := 170) (ls' := [.ref 69, .int (nI (4096 + 4 * (ly_W C D F sz B sm ln sp K (am_st sz f + p) + 1))), .int (nI f), .int (nI (40 * f + p)), .int to]) (st' := [.int (am_iw 10 (C 3 (am_st sz f + p)) (C 3 (am_st sz f + p)) (am_alo to)), .int (nI (4096 + 4 * (ly_W C D F sz B sm ln sp K (am_st sz f + p) + 1))), .ref 69]) (h' := hp S2 e) (by
          unfold am_iw
          rw [← hlo, show am_sel 10 <<< (12 : Int32) = 0 by decide +kernel, show (if am_othz 10 = 0 then (0 : Int32) else 1073741824) = 0 by decide +kernel, Int32.zero_or, Int32.or_zero]
          rfl) ?_
        refine go_v kX12_write_170 okX12_say rfl rfl rfl rfl (Nat.zero_le _) (Nat.zero_le _) ?_
        refine c_X12_say (by omega) ?_
        refine go_s 2 (pc' := 190) (ls' := [.ref 69, .int (nI (4096 + 4 * (ly_W C D F sz B sm ln sp K (am_st sz f + p) + 2))), .int (nI f), .int (nI (40 * f + p)), .int to]) (st' := []) (h' := hp (am_u S2 79 (ly_W C D F sz B sm ln sp K (am_st sz f + p) + 1) (am_iw 10 (C 3 (am_st sz f + p)) (C 3 (am_st sz f + p)) (am_alo to))) e) rfl ?_
        refine c_mw0 hE hM hO (w := 2) ?_ hn
        exact c_mwx hE hM hO hf hB KK n (p + 1) _ _ (by omega) (by omega) hI2
      · refine go_if (fun c => absurd (e71.symm.trans c) h32) (fun c => ?_)
        have hn : ly_n C D F sz B sm ln sp K (am_st sz f + p) = 1 := ly_w_1 hbd hnU h32
        rw [ly_W_s, hn] at w601
        have ha : ∀ f p, f < F → p < sz f → B f → S' 88 (40 * f + p) = nI (4096 + 4 * ly_W C D F sz B sm ln sp K (am_st sz f + p)) := fun g r b1 b2 b3 => (hI.fr 88 _ (by decide)).trans (hO.ad g r b1 b2 b3)
        have hfo : ∀ f, f < F → S' 78 f = nI (4096 + 4 * ly_W C D F sz B sm ln sp K (am_st sz (bo f))) := fun g b1 => (hI.fr 78 g (by decide)).trans (hO.fo g b1)
        have ecd := ly_cod (S := S) hE hM'.ms ha hfo hf hq hB h32
        have e72 : S' 72 (40 * f + p) = D 72 (40 * f + p) := hM'.ms.me 72 _ (by decide) (by decide)
        have e74 : S' 74 (40 * f + p) = D 74 (40 * f + p) := hM'.ms.me 74 _ (by decide) (by decide)
        refine go_s 6 rfl ?_
        refine go_v kX12_write_183 okX12_coded rfl rfl rfl rfl (Nat.zero_le _) (Nat.zero_le _) ?_
        refine c_X12_coded hX (fun z => ?_) (fun z => ?_) (fun z => ?_) ?_
        · rw [e71] at z
          obtain ⟨q, q1, q2, q3, q4⟩ := ly_pbr hE hf hq hB z
          rw [hcx, e74, q3, show (40 : Int32) * nI f + nI q = nI (40 * f + q) from by rw [show (40 : Int32) = nI 40 from rfl, nI_mul, nI_add]]
          exact vp_in_nI (by omega) (by decide)
        · rw [e71] at z
          obtain ⟨q, q1, q2, q3, q4⟩ := ly_p28 hE hf hq hB z
          rw [hcx, e72, q3, show (40 : Int32) * nI f + nI q = nI (40 * f + q) from by rw [show (40 : Int32) = nI 40 from rfl, nI_mul, nI_add]]
          exact vp_in_nI (by omega) (by decide)
        · rw [e71] at z
          obtain ⟨q, q1, q2, q3⟩ := ly_p29 hE hf hq z
          rw [hcx, e72, q3]
          exact vp_in_nI (by omega) (by decide)
        rw [hcx, ecd]
        refine go_v kX12_write_186 okX12_say rfl rfl rfl rfl (Nat.zero_le _) (Nat.zero_le _) ?_
        refine c_X12_say (by omega) ?_
        refine go_s 1 (pc' := 190) (ls' := [.ref 69, .int (nI (4096 + 4 * (ly_W C D F sz B sm ln sp K (am_st sz f + p) + 1))), .int (nI f), .int (nI (40 * f + p)), x4]) (st' := []) (h' := hp (am_u S' 79 (ly_W C D F sz B sm ln sp K (am_st sz f + p)) (ly_cd C D F sz B bo sm ln sp K f (am_st sz f + p))) e) rfl ?_
        refine c_mw0 hE hM hO (w := 1) ?_ hn
        exact c_mwx hE hM hO hf hB KK n (p + 1) _ _ (by omega) (by omega) (hI.w1 hf hq hn (ly_v_nb hnb h32).symm)
theorem c_mwf {C D : Nat → Nat → Int32} {F : Nat} {sz : Nat → Nat} {B : Nat → Prop} {bo : Nat → Nat} {sm : Nat → Nat → Prop} {ln sp : Nat → Nat} {K : Nat} {S S1 : Nat → Nat → Int32} {e : am_E} {Q : am_Q} {kc ks : Nat} (hE : ly_E2 C D F sz B bo sm ln sp K) (hM : ly_ME D S1 F sz B bo sm ln sp K) (hO : ly_MO C D F sz B bo sm ln sp K S S1) (KK : ∀ S' x3 x4, ly_N3 C D F sz B bo sm ln sp K S1 S' (am_st sz F) → am_Go (mX12_write, 202, [.ref 69, .int (nI (4096 + 4 * ly_W C D F sz B sm ln sp K (am_st sz F))), .int (nI F), x3, x4], [], hp S' e, kc, ks, Q)) : ∀ (n f : Nat) (x3 x4 : Value) (S' : Nat → Nat → Int32), F < n + f → f ≤ F → ly_N3 C D F sz B bo sm ln sp K S1 S' (am_st sz f) → am_Go (mX12_write, 6, [.ref 69, .int (nI (4096 + 4 * ly_W C D F sz B sm ln sp K (am_st sz f))), .int (nI f), x3, x4], [], hp S' e, kc, ks, Q)
  | 0, f, x3, x4, S', g1, g2, hI => by omega
  | n + 1, f, x3, x4, S', g1, g2, hI => by
    have hP := hE.e.pg
    have hF := hP.hF
    have hM' : ly_ME D S' F sz B bo sm ln sp K := hM.u (fun c j _ _ h1 _ _ _ => hI.fr c j h1)
    have m1 : S' 69 1 = nI F := hM'.ms.1.trans hP.m1
    refine go_s 4 rfl ?_
    refine go_if (fun c11 => ?_) (fun c11 => ?_)
    rotate_left
    · have c11 : ¬ nI f < S' 69 1 := c11
      rw [m1] at c11
      have hge := mt (nI_lt (a := f) (b := F) · (by omega)) c11
      have ef : f = F := by omega
      subst ef
      exact KK S' _ _ hI
    have c11 : nI f < S' 69 1 := c11
    rw [m1] at c11
    have hf := (nI_ltI (a := f) (b := F) (by omega) (by omega)).mp c11
    refine go_s 4 (pc' := 19) (ls' := [.ref 69, .int (nI (4096 + 4 * ly_W C D F sz B sm ln sp K (am_st sz f + 0))), .int (nI f), .int (nI (40 * f + 0)), x4]) (st' := []) (h' := hp S' e) (by rw [show nI (40 * f + 0) = nI 40 * nI f from (nI_mul 40 f).symm]; rfl) ?_
    by_cases hB : B f
    · refine c_mwx hE hM hO hf hB (fun S2 y3 y4 h2 => ?_) (sz f + 1) 0 _ S' (by omega) (by omega) hI
      refine go_s 2 (pc' := 6) (ls' := [.ref 69, .int (nI (4096 + 4 * ly_W C D F sz B sm ln sp K (am_st sz (f + 1)))), .int (nI (f + 1)), y3, y4]) (st' := []) (h' := hp S2 e) (by rw [← nI_1 f]; rfl) ?_
      exact c_mwf hE hM hO KK n (f + 1) _ _ S2 (by omega) (by omega) h2
    · have hbo := hE.bo f hf
      refine go_s 2 rfl ?_
      refine go_v kX12_write_21 okX12_isBody rfl rfl rfl rfl (Nat.zero_le _) (Nat.zero_le _) ?_
      refine c_X12_isBody (by omega) (fun r hr => ?_)
      have hr2 : am_bz r (B f) := am_bz_iff hr (by rw [hM'.bd f hf, hM.bb f hf]; exact nI_eq (by omega) (by omega))
      have er : r = 0 := (hr2.resolve_right (fun z => hB z.2)).1
      subst er
      refine go_s 1 rfl ?_
      refine go_if (fun c => ?_) (fun c => absurd rfl c)
      have ew : ly_W C D F sz B sm ln sp K (am_st sz (f + 1)) = ly_W C D F sz B sm ln sp K (am_st sz f) := ly_W_nb hf hB (sz f) (Nat.le_refl _)
      refine go_s 2 (pc' := 6) (ls' := [.ref 69, .int (nI (4096 + 4 * ly_W C D F sz B sm ln sp K (am_st sz (f + 1)))), .int (nI (f + 1)), .int (nI (40 * f + 0)), x4]) (st' := []) (h' := hp S' e) (by rw [← nI_1 f, ew]; rfl) ?_
      exact c_mwf hE hM hO KK n (f + 1) _ _ S' (by omega) (by omega) (ly_N3_nb hf hB hI (sz f) (Nat.le_refl _))
