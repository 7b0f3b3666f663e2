theorem am_l6 {L i : Nat} (hL : L ≤ 3072) (hi : i ≤ 4000) : nI L - 6 < nI i ↔ L < i + 6 := by
  have T : ∀ L, L < 6 → (nI L - 6).toInt = (L : Int) - 6 := by decide +kernel
  have e : (nI L - 6).toInt = (L : Int) - 6 := by
    by_cases h : L < 6
    · exact T L h
    · rw [show (6 : Int32) = nI 6 from rfl, nI_sub (by omega), nI_toInt (by omega)]
      omega
  rw [Int32.lt_iff_toInt_lt, e, nI_toInt (by omega)]
  omega
set_option maxRecDepth 20000 in
set_option maxHeartbeats 4000000 in
theorem c_law {L : Nat} {xs : Nat → Int32} {Q : am_Q} (hL : L ≤ 3072) (q : ∀ h, Q (some (.int 1)) h) : ∀ (n j kc ks : Nat) (X : Nat → Nat → Int32) (e : am_E), L < 6 * (n + j) → e.2.2 = (L, xs) → 109 ≤ e.2.1 → in_A X j → 512 ≤ kc + j → 2560 ≤ ks + 5 * j → 6 * j ≤ L → am_Go (mL_law, 18, [.retAddr 5, .ref 0, .ref 69, .int (nI (6 * j))], [], hp X e, kc, ks, Q)
  | 0, j, kc, ks, X, e, g1, he, hw, hA, hk1, hk2, hj => by omega
  | n + 1, j, kc, ks, X, e, g1, he, hw, hA, hk1, hk2, hj => by
    have eL : e.2.2.1 = L := by rw [he]
    have hj9 : j < 900 := by omega
    refine go_s 6 rfl ?_
    refine go_if (fun c24 => ?_) (fun c24 => ?_)
    · refine go_s 1 rfl ?_
      exact go_retz rfl rfl (Or.inr rfl) (q _)
    have c24 : ¬ nI e.2.2.1 - 6 < nI (6 * j) := c24
    rw [eL, am_l6 hL (by omega)] at c24
    have hv : ∀ k, k < 6 → vp_in (nI (6 * j) + nI k) e.2.2.1 := fun k hk => by
      rw [nI_add, eL]
      exact vp_in_nI (by omega) (by omega)
    have hv0 : vp_in (nI (6 * j)) e.2.2.1 := by
      rw [eL]
      exact vp_in_nI (by omega) (by omega)
    have KK : ∀ (X' : Nat → Nat → Int32) (e' : am_E) (kc' ks' : Nat), in_A X' (j + 1) → 109 ≤ e'.2.1 → e'.2.2 = (L, xs) → 512 ≤ kc' + (j + 1) → 2560 ≤ ks' + 5 * (j + 1) → am_Go (mL_law, 615, [.retAddr 5, .ref 0, .ref 69, .int (nI (6 * j))], [], hp X' e', kc', ks', Q) := fun X' e' kc' ks' b1 b2 b3 b4 b5 => by
      refine go_s 2 (pc' := 18) (ls' := [.retAddr 5, .ref 0, .ref 69, .int (nI (6 * (j + 1)))]) (st' := []) (h' := hp X' e') (by rw [show 6 * (j + 1) = 6 * j + 6 by omega, ← nI_add (6 * j) 6]; rfl) ?_
      exact c_law hL q n (j + 1) kc' ks' X' e' (by omega) b3 b2 b1 b4 b5 (by omega)
    refine go_s 2 rfl ?_
    refine go_m rfl rfl hv0 ?_
    refine go_s 3 rfl ?_
    refine go_if (fun _ => ?_) (fun _ => ?_)
    · refine go_s 1 rfl ?_
      refine go_v kL_law_109 okX11_function rfl rfl rfl rfl (Nat.zero_le _) (Nat.zero_le _) ?_
      refine p_function hj9 hA hw (fun v X1 hm => ?_)
      refine go_s 1 rfl ?_
      refine go_v kL_law_113 okX12_function rfl rfl rfl rfl (Nat.zero_le _) (Nat.zero_le _) ?_
      refine hm _ (fun X2 e2 a1 a2 a3 => ?_)
      refine go_s 1 rfl ?_
      refine go_if (fun _ => ?_) (fun c => absurd rfl c)
      exact KK X2 e2 kc ks a1 a2 (a3.trans he) (by omega) (by omega)
    refine go_if (fun _ => ?_) (fun _ => ?_)
    · refine go_s 5 rfl ?_
      refine go_m rfl rfl (show vp_in _ _ from hv 1 (by decide)) ?_
      refine go_s 4 rfl ?_
      refine go_m rfl rfl (show vp_in _ _ from hv 2 (by decide)) ?_
      refine go_s 4 rfl ?_
      refine go_m rfl rfl (show vp_in _ _ from hv 3 (by decide)) ?_
      refine go_s 4 rfl ?_
      refine go_m rfl rfl (show vp_in _ _ from hv 4 (by decide)) ?_
      refine go_s 4 rfl ?_
      refine go_m rfl rfl (show vp_in _ _ from hv 5 (by decide)) ?_
      refine go_v kL_law_147 okX11_put rfl rfl rfl rfl (Nat.zero_le _) (Nat.zero_le _) ?_
      refine p_put hj9 hA hw (fun v X1 hm => ?_)
      refine go_s 5 rfl ?_
      refine go_m rfl rfl (show vp_in _ _ from hv 1 (by decide)) ?_
      refine go_s 4 rfl ?_
      refine go_m rfl rfl (show vp_in _ _ from hv 2 (by decide)) ?_
      refine go_s 4 rfl ?_
      refine go_m rfl rfl (show vp_in _ _ from hv 3 (by decide)) ?_
      refine go_s 4 rfl ?_
      refine go_m rfl rfl (show vp_in _ _ from hv 4 (by decide)) ?_
      refine go_s 4 rfl ?_
      refine go_m rfl rfl (show vp_in _ _ from hv 5 (by decide)) ?_
      refine go_v kL_law_176 okX12_put rfl rfl rfl rfl (Nat.zero_le _) (Nat.zero_le _) ?_
      refine hm _ (fun X2 e2 a1 a2 a3 => ?_)
      refine go_s 1 rfl ?_
      refine go_if (fun _ => ?_) (fun c => absurd rfl c)
      exact KK X2 e2 kc ks a1 a2 (a3.trans he) (by omega) (by omega)
    refine go_if (fun _ => ?_) (fun _ => ?_)
    · refine go_s 1 rfl ?_
      refine go_v kL_law_185 okX11_clear rfl rfl rfl rfl (Nat.zero_le _) (Nat.zero_le _) ?_
      refine p_clear hj9 hA hw (fun v X1 hm => ?_)
      refine go_s 1 rfl ?_
      refine go_v kL_law_189 okX12_clear rfl rfl rfl rfl (Nat.zero_le _) (Nat.zero_le _) ?_
      refine hm _ (fun X2 e2 a1 a2 a3 => ?_)
      refine go_s 1 rfl ?_
      refine go_if (fun _ => ?_) (fun c => absurd rfl c)
      exact KK X2 e2 kc ks a1 a2 (a3.trans he) (by omega) (by omega)
    refine go_if (fun _ => ?_) (fun _ => ?_)
    · refine go_s 5 rfl ?_
      refine go_m rfl rfl (show vp_in _ _ from hv 1 (by decide)) ?_
      refine go_s 1 rfl ?_
      refine go_if (fun c1 => ?_) (fun c1 => ?_)
      · refine go_s 5 rfl ?_
        refine go_m rfl rfl (show vp_in _ _ from hv 2 (by decide)) ?_
        refine go_s 1 rfl ?_
        refine go_if (fun c2 => ?_) (fun c2 => ?_)
        · refine go_s 1 rfl ?_
          refine go_v kL_law_224 okX11_press rfl rfl rfl rfl (Nat.zero_le _) (Nat.zero_le _) ?_
          refine p_press hA hw (fun v X1 hm => ?_)
          refine go_s 5 rfl ?_
          refine go_m rfl rfl (show vp_in _ _ from hv 1 (by decide)) ?_
          refine go_s 1 rfl ?_
          refine go_if (fun _ => ?_) (fun c => absurd c1 c)
          refine go_s 5 rfl ?_
          refine go_m rfl rfl (show vp_in _ _ from hv 2 (by decide)) ?_
          refine go_s 1 rfl ?_
          refine go_if (fun _ => ?_) (fun c => absurd c2 c)
          refine go_s 1 rfl ?_
          refine go_v kL_law_254 okX12_press rfl rfl rfl rfl (show 1 ≤ kc by omega) (show 5 ≤ ks by omega) ?_
          refine hm _ (fun X2 e2 a1 a2 a3 => ?_)
          refine go_s 1 rfl ?_
          refine go_if (fun _ => ?_) (fun c => absurd rfl c)
          exact KK X2 e2 (kc - 1) (ks - 5) a1 a2 (a3.trans he) (by omega) (by omega)
        · refine go_s 2 rfl ?_
          refine go_v kL_law_224 okX11_press rfl rfl rfl rfl (Nat.zero_le _) (Nat.zero_le _) ?_
          refine p_press hA hw (fun v X1 hm => ?_)
          refine go_s 5 rfl ?_
          refine go_m rfl rfl (show vp_in _ _ from hv 1 (by decide)) ?_
          refine go_s 1 rfl ?_
          refine go_if (fun _ => ?_) (fun c => absurd c1 c)
          refine go_s 5 rfl ?_
          refine go_m rfl rfl (show vp_in _ _ from hv 2 (by decide)) ?_
          refine go_s 1 rfl ?_
          refine go_if (fun c => absurd c c2) (fun _ => ?_)
          refine go_s 2 rfl ?_
          refine go_v kL_law_254 okX12_press rfl rfl rfl rfl (show 1 ≤ kc by omega) (show 5 ≤ ks by omega) ?_
          refine hm _ (fun X2 e2 a1 a2 a3 => ?_)
          refine go_s 1 rfl ?_
          refine go_if (fun _ => ?_) (fun c => absurd rfl c)
          exact KK X2 e2 (kc - 1) (ks - 5) a1 a2 (a3.trans he) (by omega) (by omega)
      · refine go_s 6 rfl ?_
        refine go_m rfl rfl (show vp_in _ _ from hv 2 (by decide)) ?_
        refine go_s 1 rfl ?_
        refine go_if (fun c2 => ?_) (fun c2 => ?_)
        · refine go_s 1 rfl ?_
          refine go_v kL_law_224 okX11_press rfl rfl rfl rfl (Nat.zero_le _) (Nat.zero_le _) ?_
          refine p_press hA hw (fun v X1 hm => ?_)
          refine go_s 5 rfl ?_
          refine go_m rfl rfl (show vp_in _ _ from hv 1 (by decide)) ?_
          refine go_s 1 rfl ?_
          refine go_if (fun c => absurd c c1) (fun _ => ?_)
          refine go_s 6 rfl ?_
          refine go_m rfl rfl (show vp_in _ _ from hv 2 (by decide)) ?_
          refine go_s 1 rfl ?_
          refine go_if (fun _ => ?_) (fun c => absurd c2 c)
          refine go_s 1 rfl ?_
          refine go_v kL_law_254 okX12_press rfl rfl rfl rfl (show 1 ≤ kc by omega) (show 5 ≤ ks by omega) ?_
          refine hm _ (fun X2 e2 a1 a2 a3 => ?_)
          refine go_s 1 rfl ?_
          refine go_if (fun _ => ?_) (fun c => absurd rfl c)
          exact KK X2 e2 (kc - 1) (ks - 5) a1 a2 (a3.trans he) (by omega) (by omega)
        · refine go_s 2 rfl ?_
          refine go_v kL_law_224 okX11_press rfl rfl rfl rfl (Nat.zero_le _) (Nat.zero_le _) ?_
          refine p_press hA hw (fun v X1 hm => ?_)
          refine go_s 5 rfl ?_
          refine go_m rfl rfl (show vp_in _ _ from hv 1 (by decide)) ?_
          refine go_s 1 rfl ?_
          refine go_if (fun c => absurd c c1) (fun _ => ?_)
          refine go_s 6 rfl ?_
          refine go_m rfl rfl (show vp_in _ _ from hv 2 (by decide)) ?_
          refine go_s 1 rfl ?_
          refine go_if (fun c => absurd c c2) (fun _ => ?_)
          refine go_s 2 rfl ?_
          refine go_v kL_law_254 okX12_press rfl rfl rfl rfl (show 1 ≤ kc by omega) (show 5 ≤ ks by omega) ?_
          refine hm _ (fun X2 e2 a1 a2 a3 => ?_)
          refine go_s 1 rfl ?_
          refine go_if (fun _ => ?_) (fun c => absurd rfl c)
          exact KK X2 e2 (kc - 1) (ks - 5) a1 a2 (a3.trans he) (by omega) (by omega)
    refine go_if (fun _ => ?_) (fun _ => ?_)
    · refine go_s 5 rfl ?_
      refine go_m rfl rfl (show vp_in _ _ from hv 1 (by decide)) ?_
      refine go_s 4 rfl ?_
      refine go_m rfl rfl (show vp_in _ _ from hv 2 (by decide)) ?_
      refine go_v kL_law_273 okX11_about rfl rfl rfl rfl (Nat.zero_le _) (Nat.zero_le _) ?_
      refine p_about hA hw (fun v X1 hm => ?_)
      refine go_s 5 rfl ?_
      refine go_m rfl rfl (show vp_in _ _ from hv 1 (by decide)) ?_
      refine go_s 4 rfl ?_
      refine go_m rfl rfl (show vp_in _ _ from hv 2 (by decide)) ?_
      refine go_v kL_law_287 okX12_about rfl rfl rfl rfl (Nat.zero_le _) (Nat.zero_le _) ?_
      refine hm _ (fun X2 e2 a1 a2 a3 => ?_)
      refine go_s 1 rfl ?_
      refine go_if (fun _ => ?_) (fun c => absurd rfl c)
      exact KK X2 e2 kc ks a1 a2 (a3.trans he) (by omega) (by omega)
    refine go_if (fun _ => ?_) (fun _ => ?_)
    · refine go_s 5 rfl ?_
      refine go_m rfl rfl (show vp_in _ _ from hv 1 (by decide)) ?_
      refine go_s 4 rfl ?_
      refine go_m rfl rfl (show vp_in _ _ from hv 2 (by decide)) ?_
      refine go_v kL_law_306 okX11_body rfl rfl rfl rfl (Nat.zero_le _) (Nat.zero_le _) ?_
      refine p_body hA hw (fun v X1 hm => ?_)
      refine go_s 5 rfl ?_
      refine go_m rfl rfl (show vp_in _ _ from hv 1 (by decide)) ?_
      refine go_s 4 rfl ?_
      refine go_m rfl rfl (show vp_in _ _ from hv 2 (by decide)) ?_
      refine go_v kL_law_320 okX12_body rfl rfl rfl rfl (Nat.zero_le _) (Nat.zero_le _) ?_
      refine hm _ (fun X2 e2 a1 a2 a3 => ?_)
      refine go_s 1 rfl ?_
      refine go_if (fun _ => ?_) (fun c => absurd rfl c)
      exact KK X2 e2 kc ks a1 a2 (a3.trans he) (by omega) (by omega)
    refine go_if (fun _ => ?_) (fun _ => ?_)
    · refine go_s 5 rfl ?_
      refine go_m rfl rfl (show vp_in _ _ from hv 1 (by decide)) ?_
      refine go_s 4 rfl ?_
      refine go_m rfl rfl (show vp_in _ _ from hv 2 (by decide)) ?_
      refine go_v kL_law_339 okX11_routine rfl rfl rfl rfl (Nat.zero_le _) (Nat.zero_le _) ?_
      refine p_routine hA hw (fun v X1 hm => ?_)
      refine go_s 5 rfl ?_
      refine go_m rfl rfl (show vp_in _ _ from hv 1 (by decide)) ?_
      refine go_s 4 rfl ?_
      refine go_m rfl rfl (show vp_in _ _ from hv 2 (by decide)) ?_
      refine go_v kL_law_353 okX12_routine rfl rfl rfl rfl (Nat.zero_le _) (Nat.zero_le _) ?_
      refine hm _ (fun X2 e2 a1 a2 a3 => ?_)
      refine go_s 1 rfl ?_
      refine go_if (fun _ => ?_) (fun c => absurd rfl c)
      exact KK X2 e2 kc ks a1 a2 (a3.trans he) (by omega) (by omega)
    refine go_if (fun _ => ?_) (fun _ => ?_)
    · refine go_s 5 rfl ?_
      refine go_m rfl rfl (show vp_in _ _ from hv 1 (by decide)) ?_
      refine go_s 4 rfl ?_
      refine go_m rfl rfl (show vp_in _ _ from hv 2 (by decide)) ?_
      refine go_s 4 rfl ?_
      refine go_m rfl rfl (show vp_in _ _ from hv 3 (by decide)) ?_
      refine go_v kL_law_377 okX11_occurrence rfl rfl rfl rfl (Nat.zero_le _) (Nat.zero_le _) ?_
      refine p_occurrence hA hw (fun v X1 hm => ?_)
      refine go_s 5 rfl ?_
      refine go_m rfl rfl (show vp_in _ _ from hv 1 (by decide)) ?_
      refine go_s 4 rfl ?_
      refine go_m rfl rfl (show vp_in _ _ from hv 2 (by decide)) ?_
      refine go_s 4 rfl ?_
      refine go_m rfl rfl (show vp_in _ _ from hv 3 (by decide)) ?_
      refine go_v kL_law_396 okX12_occurrence rfl rfl rfl rfl (Nat.zero_le _) (Nat.zero_le _) ?_
      refine hm _ (fun X2 e2 a1 a2 a3 => ?_)
      refine go_s 1 rfl ?_
      refine go_if (fun _ => ?_) (fun c => absurd rfl c)
      exact KK X2 e2 kc ks a1 a2 (a3.trans he) (by omega) (by omega)
    refine go_if (fun _ => ?_) (fun _ => ?_)
    · refine go_s 5 rfl ?_
      refine go_m rfl rfl (show vp_in _ _ from hv 1 (by decide)) ?_
      refine go_v kL_law_410 okX11_word rfl rfl rfl rfl (Nat.zero_le _) (Nat.zero_le _) ?_
      refine p_word hA hw (fun v X1 hm => ?_)
      refine go_s 5 rfl ?_
      refine go_m rfl rfl (show vp_in _ _ from hv 1 (by decide)) ?_
      refine go_v kL_law_419 okX12_word rfl rfl rfl rfl (Nat.zero_le _) (Nat.zero_le _) ?_
      refine hm _ (fun X2 e2 a1 a2 a3 => ?_)
      refine go_s 1 rfl ?_
      refine go_if (fun _ => ?_) (fun c => absurd rfl c)
      exact KK X2 e2 kc ks a1 a2 (a3.trans he) (by omega) (by omega)
    refine go_if (fun _ => ?_) (fun _ => ?_)
    · refine go_s 5 rfl ?_
      refine go_m rfl rfl (show vp_in _ _ from hv 1 (by decide)) ?_
      refine go_s 4 rfl ?_
      refine go_m rfl rfl (show vp_in _ _ from hv 2 (by decide)) ?_
      refine go_v kL_law_438 okX11_run rfl rfl rfl rfl (Nat.zero_le _) (Nat.zero_le _) ?_
      refine p_run hA hw (fun v X1 hm => ?_)
      refine go_s 5 rfl ?_
      refine go_m rfl rfl (show vp_in _ _ from hv 1 (by decide)) ?_
      refine go_s 4 rfl ?_
      refine go_m rfl rfl (show vp_in _ _ from hv 2 (by decide)) ?_
      refine go_v kL_law_452 okX12_run rfl rfl rfl rfl (Nat.zero_le _) (Nat.zero_le _) ?_
      refine hm _ (fun X2 e2 a1 a2 a3 => ?_)
      refine go_s 1 rfl ?_
      refine go_if (fun _ => ?_) (fun c => absurd rfl c)
      exact KK X2 e2 kc ks a1 a2 (a3.trans he) (by omega) (by omega)
    refine go_if (fun _ => ?_) (fun _ => ?_)
    · refine go_s 5 rfl ?_
      refine go_m rfl rfl (show vp_in _ _ from hv 1 (by decide)) ?_
      refine go_s 4 rfl ?_
      refine go_m rfl rfl (show vp_in _ _ from hv 2 (by decide)) ?_
      refine go_v kL_law_471 okX11_ran rfl rfl rfl rfl (Nat.zero_le _) (Nat.zero_le _) ?_
      refine p_ran hA hw (fun v X1 hm => ?_)
      refine go_s 5 rfl ?_
      refine go_m rfl rfl (show vp_in _ _ from hv 1 (by decide)) ?_
      refine go_s 4 rfl ?_
      refine go_m rfl rfl (show vp_in _ _ from hv 2 (by decide)) ?_
      refine go_v kL_law_485 okX12_ran rfl rfl rfl rfl (Nat.zero_le _) (Nat.zero_le _) ?_
      refine hm _ (fun X2 e2 a1 a2 a3 => ?_)
      refine go_s 1 rfl ?_
      refine go_if (fun _ => ?_) (fun c => absurd rfl c)
      exact KK X2 e2 kc ks a1 a2 (a3.trans he) (by omega) (by omega)
    refine go_if (fun _ => ?_) (fun _ => ?_)
    · refine go_s 5 rfl ?_
      refine go_m rfl rfl (show vp_in _ _ from hv 1 (by decide)) ?_
      refine go_s 4 rfl ?_
      refine go_m rfl rfl (show vp_in _ _ from hv 2 (by decide)) ?_
      refine go_v kL_law_504 okX11_printed rfl rfl rfl rfl (Nat.zero_le _) (Nat.zero_le _) ?_
      refine p_printed hA hw (fun v X1 hm => ?_)
      refine go_s 5 rfl ?_
      refine go_m rfl rfl (show vp_in _ _ from hv 1 (by decide)) ?_
      refine go_s 4 rfl ?_
      refine go_m rfl rfl (show vp_in _ _ from hv 2 (by decide)) ?_
      refine go_v kL_law_518 okX12_printed rfl rfl rfl rfl (Nat.zero_le _) (Nat.zero_le _) ?_
      refine hm _ (fun X2 e2 a1 a2 a3 => ?_)
      refine go_s 1 rfl ?_
      refine go_if (fun _ => ?_) (fun c => absurd rfl c)
      exact KK X2 e2 kc ks a1 a2 (a3.trans he) (by omega) (by omega)
    refine go_if (fun _ => ?_) (fun _ => ?_)
    · refine go_s 5 rfl ?_
      refine go_m rfl rfl (show vp_in _ _ from hv 1 (by decide)) ?_
      refine go_s 4 rfl ?_
      refine go_m rfl rfl (show vp_in _ _ from hv 2 (by decide)) ?_
      refine go_v kL_law_537 okX11_register rfl rfl rfl rfl (Nat.zero_le _) (Nat.zero_le _) ?_
      refine p_register hA hw (fun v X1 hm => ?_)
      refine go_s 5 rfl ?_
      refine go_m rfl rfl (show vp_in _ _ from hv 1 (by decide)) ?_
      refine go_s 4 rfl ?_
      refine go_m rfl rfl (show vp_in _ _ from hv 2 (by decide)) ?_
      refine go_v kL_law_551 okX12_register rfl rfl rfl rfl (Nat.zero_le _) (Nat.zero_le _) ?_
      refine hm _ (fun X2 e2 a1 a2 a3 => ?_)
      refine go_s 1 rfl ?_
      refine go_if (fun _ => ?_) (fun c => absurd rfl c)
      exact KK X2 e2 kc ks a1 a2 (a3.trans he) (by omega) (by omega)
    refine go_if (fun _ => ?_) (fun _ => ?_)
    · refine go_s 5 rfl ?_
      refine go_m rfl rfl (show vp_in _ _ from hv 1 (by decide)) ?_
      refine go_s 4 rfl ?_
      refine go_m rfl rfl (show vp_in _ _ from hv 2 (by decide)) ?_
      refine go_v kL_law_570 okX11_memory rfl rfl rfl rfl (Nat.zero_le _) (Nat.zero_le _) ?_
      refine p_memory hA hw (fun v X1 hm => ?_)
      refine go_s 5 rfl ?_
      refine go_m rfl rfl (show vp_in _ _ from hv 1 (by decide)) ?_
      refine go_s 4 rfl ?_
      refine go_m rfl rfl (show vp_in _ _ from hv 2 (by decide)) ?_
      refine go_v kL_law_584 okX12_memory rfl rfl rfl rfl (Nat.zero_le _) (Nat.zero_le _) ?_
      refine hm _ (fun X2 e2 a1 a2 a3 => ?_)
      refine go_s 1 rfl ?_
      refine go_if (fun _ => ?_) (fun c => absurd rfl c)
      exact KK X2 e2 kc ks a1 a2 (a3.trans he) (by omega) (by omega)
    refine go_if (fun _ => ?_) (fun _ => ?_)
    · refine go_s 5 rfl ?_
      refine go_m rfl rfl (show vp_in _ _ from hv 1 (by decide)) ?_
      refine go_v kL_law_598 okX11_count rfl rfl rfl rfl (Nat.zero_le _) (Nat.zero_le _) ?_
      refine p_count hA hw (fun v X1 hm => ?_)
      refine go_s 5 rfl ?_
      refine go_m rfl rfl (show vp_in _ _ from hv 1 (by decide)) ?_
      refine go_v kL_law_607 okX12_count rfl rfl rfl rfl (Nat.zero_le _) (Nat.zero_le _) ?_
      refine hm _ (fun X2 e2 a1 a2 a3 => ?_)
      refine go_s 1 rfl ?_
      refine go_if (fun _ => ?_) (fun c => absurd rfl c)
      exact KK X2 e2 kc ks a1 a2 (a3.trans he) (by omega) (by omega)
    exact KK X e kc ks hA.s hw he (by omega) (by omega)
