theorem c_mwr {C D : Nat → Nat → Int32} {F : Nat} {sz : Nat → Nat} {B : Nat → Prop} {bo : Nat → Nat} {sm : Nat → Nat → Prop} {ln sp : Nat → Nat} {K : Nat} {S S1 : Nat → Nat → Int32} {e : am_E} {Q : am_Q} {kc ks : Nat} (hE : ly_E2 C D F sz B bo sm ln sp K) (hM : ly_ME D S1 F sz B bo sm ln sp K) (hO : ly_MO C D F sz B bo sm ln sp K S S1) {k : Nat} (hk : k < K) {x4 : Value} (KK : ∀ S' x3, ly_N4 C D F sz B bo sm ln sp K S1 S' (k + 1) 0 → am_Go (mX12_write, 204, [.ref 69, .int (nI (4096 + 4 * ly_R C D F sz B sm ln sp K (k + 1))), .int (nI (k + 1)), x3, x4], [], hp S' e, kc, ks, Q)) : ∀ (n i : Nat) (S' : Nat → Nat → Int32), ln k < n + i → i ≤ ln k → ly_N4 C D F sz B bo sm ln sp K S1 S' k i → am_Go (mX12_write, 214, [.ref 69, .int (nI (4096 + 4 * (ly_R C D F sz B sm ln sp K k + i))), .int (nI k), .int (nI i), x4], [], hp S' e, kc, ks, Q)
  | 0, i, S', g1, g2, hI => by omega
  | n + 1, i, S', g1, g2, hI => by
    have hP := hE.e.pg
    have hF := hP.hF
    have hk60 := hE.e.k60
    have hl2 := hE.e.l2 hk
    have hM' : ly_ME D S' F sz B bo sm ln sp K := hM.u (fun c j _ _ h1 _ _ _ => hI.fr c j h1)
    have hX : vp_in (nI k) 60 := vp_in_nI (by omega) (by decide)
    have hck := nI_clamp (show k < 2 ^ 31 by omega)
    have w6 := hE.R6 (show k + 1 ≤ K from hk)
    rw [ly_R_s] at w6
    have e80 : S' 80 (nI k).toNatClampNeg = nI (ln k) := by rw [hck]; exact (hM'.rs.ro k hk).s80
    refine go_s 4 rfl ?_
    refine go_m rfl rfl hX ?_
    refine go_s 1 rfl ?_
    refine go_if (fun c221 => ?_) (fun c221 => ?_)
    · have c221 : nI i < S' 80 (nI k).toNatClampNeg := c221
      rw [e80] at c221
      have hi := (nI_ltI (a := i) (b := ln k) (by omega) (by omega)).mp c221
      obtain ⟨g, r, hg, hr, esp, e84⟩ := (hM'.rs.ro k hk).s84
      have h40 := hP.s40 g hg
      have hft := (hE.e.qq k hk).ft
      rw [esp] at hft
      have hin := sq_ft_in hE.e.op hg hr (show 1 ≤ ln k by omega) hft
      have hri : r + i < sz g := by omega
      have hop := (hft.2 i hi).1
      rw [Nat.add_assoc] at hop
      have hmw := ((am_op_i hg hri).mp hop).2
      have hins := hP.ins g (r + i) hg hri
      obtain ⟨k2, hk2, ek2⟩ := am_gd_n (hP.gd hg hri)
      have T : ∀ k, k < 35 → (¬ 21 < nI k ∨ nI k = 34) → (k ≤ 21 ∨ k = 34) := by decide +kernel
      have hpl : k2 ≤ 21 ∨ k2 = 34 := T k2 hk2 (by rw [← ek2]; exact hmw.1)
      have T2 : ∀ k, k < 35 → (k ≤ 21 ∨ k = 34) → ¬ (¬ nI k < 22 ∧ ¬ 27 < nI k) ∧ ¬ nI k = 28 ∧ ¬ (nI k = 29 ∨ nI k = 30) := by decide +kernel
      obtain ⟨t1, t2, t3⟩ := T2 k2 hk2 hpl
      have hX9 : vp_in (nI (40 * g + (r + i))) 960 := vp_in_nI (by omega) (by decide)
      have hcx := nI_clamp (show 40 * g + (r + i) < 2 ^ 31 by omega)
      have e71 : S' 71 (nI (40 * g + (r + i))).toNatClampNeg = nI k2 := by rw [hcx, hM'.ms.me 71 _ (by decide) (by decide)]; exact ek2
      refine go_s 7 rfl ?_
      refine go_m rfl rfl hX ?_
      show am_Go (mX12_write, 234, [.ref 69, .int (nI (4096 + 4 * (ly_R C D F sz B sm ln sp K k + i))), .int (nI k), .int (nI i), x4], [.int (S' 84 (nI k).toNatClampNeg), .int 0, .ref 69, .int (nI (4096 + 4 * (ly_R C D F sz B sm ln sp K k + i))), .ref 69], hp S' e, _, _, Q)
      rw [hck, e84]
      refine go_s 3 (pc' := 237) (ls' := [.ref 69, .int (nI (4096 + 4 * (ly_R C D F sz B sm ln sp K k + i))), .int (nI k), .int (nI i), x4]) (st' := [.int (nI (4096 + 4 * (ly_R C D F sz B sm ln sp K k + i))), .int (nI (40 * g + (r + i))), .int 0, .ref 69, .int (nI (4096 + 4 * (ly_R C D F sz B sm ln sp K k + i))), .ref 69]) (h' := hp S' e) (by rw [← Nat.add_assoc (40 * g) r i, ← nI_add (40 * g + r) i]; rfl) ?_
      refine go_v kX12_write_237 okX12_coded rfl rfl rfl rfl (Nat.zero_le _) (Nat.zero_le _) ?_
      refine c_X12_coded hX9 (fun z => absurd z (by rw [e71]; exact t1)) (fun z => absurd z (by rw [e71]; exact t2)) (fun z => absurd z (by rw [e71]; exact t3)) ?_
      have ew : ∀ pc pa fo : Int32, am_cod (S' 71 (nI (40 * g + (r + i))).toNatClampNeg) (S' 72 (nI (40 * g + (r + i))).toNatClampNeg) (S' 73 (nI (40 * g + (r + i))).toNatClampNeg) (S' 74 (nI (40 * g + (r + i))).toNatClampNeg) (nI (4096 + 4 * (ly_R C D F sz B sm ln sp K k + i))) pc pa fo = ly_rv C ln sp k i := fun pc pa fo => by
        rw [hcx, hM'.ms.me 71 _ (by decide) (by decide), hM'.ms.me 72 _ (by decide) (by decide), hM'.ms.me 73 _ (by decide) (by decide), hM'.ms.me 74 _ (by decide) (by decide), am_cod_pw hk2 ek2 hpl hins.2.1 hins.2.2.1 hins.2.2.2.1]
        unfold ly_rv
        rw [if_pos hi, esp, Nat.add_assoc, hins.1]
      rw [ew]
      refine go_v kX12_write_240 okX12_say rfl rfl rfl rfl (Nat.zero_le _) (Nat.zero_le _) ?_
      refine c_X12_say (by omega) ?_
      refine go_s 3 (pc' := 214) (ls' := [.ref 69, .int (nI (4096 + 4 * (ly_R C D F sz B sm ln sp K k + (i + 1)))), .int (nI k), .int (nI (i + 1)), x4]) (st' := []) (h' := hp (am_u S' 79 (ly_R C D F sz B sm ln sp K k + i) (ly_rv C ln sp k i)) e) (by rw [← nI_1 i]; rfl) ?_
      exact c_mwr hE hM hO hk KK n (i + 1) _ (by omega) (by omega) (hI.w hP rfl)
    · have c221 : ¬ nI i < S' 80 (nI k).toNatClampNeg := c221
      rw [e80] at c221
      have hge := mt (nI_lt (a := i) (b := ln k) · (by omega)) c221
      have ei : i = ln k := by omega
      subst ei
      refine go_s 3 rfl ?_
      refine go_v kX12_write_254 okX12_say rfl rfl rfl rfl (Nat.zero_le _) (Nat.zero_le _) ?_
      refine c_X12_say (by omega) ?_
      refine go_s 3 (pc' := 204) (ls' := [.ref 69, .int (nI (4096 + 4 * ly_R C D F sz B sm ln sp K (k + 1))), .int (nI (k + 1)), .int (nI (ln k)), x4]) (st' := []) (h' := hp (am_u S' 79 (ly_R C D F sz B sm ln sp K k + ln k) 163943) e) (by rw [ly_R_s, ← Nat.add_assoc, ← nI_1 k]; rfl) ?_
      exact KK _ _ (hI.w hP (w := 163943) (by unfold ly_rv; rw [if_neg (by omega)]; decide)).s
theorem c_mwk {C D : Nat → Nat → Int32} {F : Nat} {sz : Nat → Nat} {B : Nat → Prop} {bo : Nat → Nat} {sm : Nat → Nat → Prop} {ln sp : Nat → Nat} {K : Nat} {S S1 : Nat → Nat → Int32} {e : am_E} {Q : am_Q} {kc ks : Nat} (hE : ly_E2 C D F sz B bo sm ln sp K) (hM : ly_ME D S1 F sz B bo sm ln sp K) (hO : ly_MO C D F sz B bo sm ln sp K S S1) {x4 : Value} (q : ∀ S', ly_N4 C D F sz B bo sm ln sp K S1 S' K 0 → Q none (hp S' e)) : ∀ (n k : Nat) (x3 : Value) (S' : Nat → Nat → Int32), K < n + k → k ≤ K → ly_N4 C D F sz B bo sm ln sp K S1 S' k 0 → am_Go (mX12_write, 204, [.ref 69, .int (nI (4096 + 4 * ly_R C D F sz B sm ln sp K k)), .int (nI k), x3, x4], [], hp S' e, kc, ks, Q)
  | 0, k, x3, S', g1, g2, hI => by omega
  | n + 1, k, x3, S', g1, g2, hI => by
    have hk60 := hE.e.k60
    have hM' : ly_ME D S' F sz B bo sm ln sp K := hM.u (fun c j _ _ h1 _ _ _ => hI.fr c j h1)
    refine go_s 4 rfl ?_
    refine go_if (fun c88 => ?_) (fun c88 => ?_)
    rotate_left
    · have c88 : ¬ nI k < S' 69 13 := c88
      rw [hM'.k] at c88
      have hge := mt (nI_lt (a := k) (b := K) · (by omega)) c88
      have ef : k = K := by omega
      subst ef
      exact go_retv rfl rfl (q S' hI)
    have c88 : nI k < S' 69 13 := c88
    rw [hM'.k] at c88
    have hk := (nI_ltI (a := k) (b := K) (by omega) (by omega)).mp c88
    refine go_s 2 (pc' := 214) (ls' := [.ref 69, .int (nI (4096 + 4 * (ly_R C D F sz B sm ln sp K k + 0))), .int (nI k), .int (nI 0), x4]) (st' := []) (h' := hp S' e) rfl ?_
    exact c_mwr hE hM hO hk (fun S2 y3 h2 => c_mwk hE hM hO q n (k + 1) y3 S2 (by omega) (by omega) h2) (ln k + 1) 0 S' (by omega) (by omega) hI
theorem c_X12_write {C D : Nat → Nat → Int32} {F : Nat} {sz : Nat → Nat} {B : Nat → Prop} {bo : Nat → Nat} {sm : Nat → Nat → Prop} {ln sp : Nat → Nat} {K : Nat} {S S1 : Nat → Nat → Int32} {e : am_E} {Q : am_Q} {kc ks : Nat} (hE : ly_E2 C D F sz B bo sm ln sp K) (hM : ly_ME D S1 F sz B bo sm ln sp K) (hO : ly_MO C D F sz B bo sm ln sp K S S1) (q : ∀ S', ly_N4 C D F sz B bo sm ln sp K S1 S' K 0 → Q none (hp S' e)) : am_Go (mX12_write, 0, am_ent mX12_write [.ref 69], [], hp S1 e, kc, ks, Q) := by
  refine go_s 4 (pc' := 6) (ls' := [.ref 69, .int (nI (4096 + 4 * ly_W C D F sz B sm ln sp K (am_st sz 0))), .int (nI 0), .long 0, .long 0]) (st' := []) (h' := hp S1 e) rfl ?_
  refine c_mwf hE hM hO (fun S2 y3 y4 h2 => ?_) (F + 1) 0 _ _ S1 (by omega) (Nat.zero_le _) ⟨fun _ _ _ => rfl, fun f p r _ _ z => absurd z (Nat.not_lt_zero _)⟩
  refine go_s 2 (pc' := 204) (ls' := [.ref 69, .int (nI (4096 + 4 * ly_R C D F sz B sm ln sp K 0)), .int (nI 0), y3, y4]) (st' := []) (h' := hp S2 e) rfl ?_
  exact c_mwk hE hM hO q (K + 1) 0 _ S2 (by omega) (Nat.zero_le _) ⟨h2.fr, fun f p r a1 a2 a3 => h2.wb f p r a1 a2 (hE.e.pg.lt a1 a2) a3, fun k r z => by omega⟩
