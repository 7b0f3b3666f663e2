/-! the constructors: what is made, cell behind cell -/
abbrev am_LR : Type := List (Nat × Nat × Nat)
abbrev am_LN : Type := List (Nat × Nat × Int32)
def am_rl : List (Nat × Nat × Nat) → Nat → Nat → Option Nat
  | [], _, _ => none
  | q :: L, i, k => if i = q.1 ∧ k = q.2.1 then some q.2.2 else am_rl L i k
def am_dl : List (Nat × Nat × Int32) → Nat → Nat → Int32
  | [], _, _ => 0
  | q :: L, i, k => if i = q.1 ∧ k = q.2.1 then q.2.2 else am_dl L i k
theorem am_rl_n {n k : Nat} : ∀ {L : List (Nat × Nat × Nat)}, (∀ q ∈ L, q.1 < n) → am_rl L n k = none
  | [], _ => rfl
  | q :: L, h => by
    unfold am_rl
    rw [if_neg (fun z => by have := h q List.mem_cons_self; omega)]
    exact am_rl_n (fun p hp => h p (List.mem_cons_of_mem _ hp))
theorem am_dl_n {n k : Nat} : ∀ {L : List (Nat × Nat × Int32)}, (∀ q ∈ L, q.1 < n) → am_dl L n k = 0
  | [], _ => rfl
  | q :: L, h => by
    unfold am_dl
    rw [if_neg (fun z => by have := h q List.mem_cons_self; omega)]
    exact am_dl_n (fun p hp => h p (List.mem_cons_of_mem _ hp))
def cs (S : Nat → am_S) (R : Nat → Nat → Option Nat) (D : Nat → Nat → Int32) (n : Nat) (L : am_LR) (N : am_LN) : Prop := (∀ i, i < n → am_sh0[i]? = some (S i)) ∧ (∀ i, n ≤ i → S i = .inl 999) ∧ (∀ i k, R i k = am_rl L i k) ∧ (∀ c j, c ≠ 25 → D c j = am_dl N c j) ∧ (∀ q ∈ L, q.1 < n) ∧ (∀ q ∈ N, q.1 < n)
theorem cs.s1 {S : Nat → am_S} {R : Nat → Nat → Option Nat} {D : Nat → Nat → Int32} {n : Nat} {L : am_LR} {N : am_LN} (h : cs S R D n L N) : ∀ i, i < n → am_sh0[i]? = some (S i) := h.1
theorem cs.s2 {S : Nat → am_S} {R : Nat → Nat → Option Nat} {D : Nat → Nat → Int32} {n : Nat} {L : am_LR} {N : am_LN} (h : cs S R D n L N) : ∀ i, n ≤ i → S i = .inl 999 := h.2.1
theorem cs.r {S : Nat → am_S} {R : Nat → Nat → Option Nat} {D : Nat → Nat → Int32} {n : Nat} {L : am_LR} {N : am_LN} (h : cs S R D n L N) : ∀ i k, R i k = am_rl L i k := h.2.2.1
theorem cs.d {S : Nat → am_S} {R : Nat → Nat → Option Nat} {D : Nat → Nat → Int32} {n : Nat} {L : am_LR} {N : am_LN} (h : cs S R D n L N) : ∀ c j, c ≠ 25 → D c j = am_dl N c j := h.2.2.2.1
theorem cs.l {S : Nat → am_S} {R : Nat → Nat → Option Nat} {D : Nat → Nat → Int32} {n : Nat} {L : am_LR} {N : am_LN} (h : cs S R D n L N) : ∀ q ∈ L, q.1 < n := h.2.2.2.2.1
theorem cs.m {S : Nat → am_S} {R : Nat → Nat → Option Nat} {D : Nat → Nat → Int32} {n : Nat} {L : am_LR} {N : am_LN} (h : cs S R D n L N) : ∀ q ∈ N, q.1 < n := h.2.2.2.2.2
theorem cs.new {S : Nat → am_S} {R : Nat → Nat → Option Nat} {D : Nat → Nat → Int32} {n : Nat} {L : List (Nat × Nat × Nat)} {N : List (Nat × Nat × Int32)} {s : am_S} (h : cs S R D n L N) (hs : am_sh0[n]? = some s) : cs (am_us S n s) (am_rz R n) (am_dz D n) (n + 1) L N := by
  refine ⟨fun i hi => ?_, fun i hi => ?_, fun i k => ?_, fun c j hc => ?_, fun q hq => by have := h.l q hq; omega, fun q hq => by have := h.m q hq; omega⟩
  · unfold am_us
    by_cases e : i = n
    · rw [if_pos e, e]; exact hs
    · rw [if_neg e]; exact h.s1 i (by omega)
  · unfold am_us
    rw [if_neg (by omega)]; exact h.s2 i (by omega)
  · unfold am_rz
    by_cases e : i = n
    · rw [if_pos e, e, am_rl_n h.l]
    · rw [if_neg e]; exact h.r i k
  · unfold am_dz
    by_cases e : c = n
    · rw [if_pos e, e, am_dl_n h.m]
    · rw [if_neg e]; exact h.d c j hc
def am_ra (n : Nat) : Nat → List (Nat × Nat × Nat)
  | 0 => []
  | m + 1 => (n, m, n + 1 + m) :: am_ra n m
theorem am_ra_e {n i k : Nat} {L : List (Nat × Nat × Nat)} : ∀ m, am_rl (am_ra n m ++ L) i k = if i = n ∧ k < m then some (n + 1 + k) else am_rl L i k
  | 0 => by rw [if_neg (by omega)]; rfl
  | m + 1 => by
    show (if i = n ∧ k = m then some (n + 1 + m) else am_rl (am_ra n m ++ L) i k) = _
    by_cases e : i = n ∧ k = m
    · rw [if_pos e, if_pos (by omega), e.2]
    · rw [if_neg e, am_ra_e m]
      by_cases g : i = n ∧ k < m
      · rw [if_pos g, if_pos (by omega)]
      · rw [if_neg g, if_neg (by omega)]
theorem am_ra_l {n : Nat} : ∀ m, ∀ q ∈ am_ra n m, q.1 = n
  | 0, q, h => by cases h
  | m + 1, q, h => by
    rcases List.mem_cons.mp h with rfl | g
    · rfl
    · exact am_ra_l m q g
theorem cs.new2 {S : Nat → am_S} {R : Nat → Nat → Option Nat} {D : Nat → Nat → Int32} {n m k : Nat} {L : List (Nat × Nat × Nat)} {N : List (Nat × Nat × Int32)} {T : Nat → Nat × (Nat → Int32)} (h : cs S R D n L N) (hs : am_sh0[n]? = some (.inr (2, m))) (hs2 : ∀ j, j < m → am_sh0[n + 1 + j]? = some (.inr (0, k))) : cs (am_new2 (S, R, D, n, T) m k).1 (am_new2 (S, R, D, n, T) m k).2.1 (am_new2 (S, R, D, n, T) m k).2.2.1 (n + 1 + m) (am_ra n m ++ L) N := by
  refine ⟨fun i hi => ?_, fun i hi => ?_, fun i j => ?_, fun c j hc => ?_, fun q hq => ?_, fun q hq => by have := h.m q hq; omega⟩
  · show am_sh0[i]? = some (if i = n then .inr (2, m) else if n < i ∧ i ≤ n + m then .inr (0, k) else S i)
    by_cases e : i = n
    · rw [if_pos e, e]; exact hs
    · rw [if_neg e]
      by_cases g : n < i ∧ i ≤ n + m
      · rw [if_pos g, show i = n + 1 + (i - (n + 1)) by omega]; exact hs2 _ (by omega)
      · rw [if_neg g]; exact h.s1 i (by omega)
  · show (if i = n then _ else if n < i ∧ i ≤ n + m then _ else S i) = _
    rw [if_neg (by omega), if_neg (by omega)]; exact h.s2 i (by omega)
  · show (if i = n then (if j < m then some (n + 1 + j) else none) else R i j) = _
    rw [am_ra_e]
    by_cases e : i = n
    · rw [if_pos e]
      by_cases g : j < m
      · rw [if_pos g, if_pos ⟨e, g⟩]
      · rw [if_neg g, if_neg (fun z => g z.2), e, am_rl_n h.l]
    · rw [if_neg e, if_neg (fun z => e z.1)]; exact h.r i j
  · show (if n < c ∧ c ≤ n + m then 0 else D c j) = _
    by_cases g : n < c ∧ c ≤ n + m
    · rw [if_pos g, am_dl_n (fun q hq => by have := h.m q hq; omega)]
    · rw [if_neg g]; exact h.d c j hc
  · rcases List.mem_append.mp hq with z | z
    · have := am_ra_l m q z; omega
    · have := h.l q z; omega
section CSG
variable {M : am_M} {pc kc ks n : Nat} {ls st : List Value} {S : Nat → am_S} {R : Nat → Nat → Option Nat} {D : Nat → Nat → Int32} {T : Nat → Nat × (Nat → Int32)} {L : List (Nat × Nat × Nat)} {N : List (Nat × Nat × Int32)} {Q : am_Q}
theorem cs.at {o : Nat} {s : am_S} (h : cs S R D n L N) (ho : o < n) (hs : am_sh0[o]? = some s) : S o = s := Option.some.inj ((h.s1 o ho).symm.trans hs)
theorem cs_new {idx len : Nat} (ci i1 i2 i3 : Nat) {r : vw_C} (h : cs S R D n L N) (hi : am_lk pc (am_code M) = some (.new idx, len)) (hr : vwCl[ci]? = some r) (h1 : lw_tbl[i1]? = some (.classLink (am_own M) idx r.1)) (h2 : lw_tbl[i2]? = some (.instantiable r.1 r.2.2)) (h3 : lw_tbl[i3]? = some (.initialized r.1)) (hk1 : 1 ≤ kc) (hk2 : r.2.2 ≤ ks) (hs : am_sh0[n]? = some (.inl ci)) (K : ∀ S' R' D', cs S' R' D' (n + 1) L N → am_Go (M, pc + 3, ls, .ref n :: st, (S', R', D', n + 1, T), kc - 1, ks - r.2.2, Q)) : am_Go (M, pc, ls, st, (S, R, D, n, T), kc, ks, Q) :=
  go_new ci i1 i2 i3 hi hr h1 h2 h3 hk1 hk2 (K _ _ _ (h.new hs))
theorem cs_newa {len t : Nat} {at' : ArrayType} {x : Int32} (m : Nat) (h : cs S R D n L N) (hi : am_lk pc (am_code M) = some (.newarray at', len)) (ha : am_arr at' = some t) (hn : x = nI m) (hb : (Nat.ble m 100000 && Nat.ble 1 kc && Nat.ble m ks) = true) (hs : am_sh0[n]? = some (.inr (t, m))) (K : ∀ S' R' D', cs S' R' D' (n + 1) L N → am_Go (M, pc + 2, ls, .ref n :: st, (S', R', D', n + 1, T), kc - 1, ks - m, Q)) : am_Go (M, pc, ls, .int x :: st, (S, R, D, n, T), kc, ks, Q) :=
  go_newa m hi ha hn hb (K _ _ _ (h.new hs))
theorem cs_mna {idx len : Nat} (i : Nat) {x y : Int32} (m k : Nat) (h : cs S R D n L N) (hi : am_lk pc (am_code M) = some (.multianewarray idx 2, len)) (hl : lw_tbl[i]? = some (.classLink (am_own M) idx "[[I")) (hn : x = nI m) (hm : y = nI k) (hb : (Nat.ble m 10000 && Nat.ble k 10000 && Nat.ble (1 + m) kc && Nat.ble (m + m * k) ks) = true) (hs : am_sh0[n]? = some (.inr (2, m))) (hs2 : ∀ j, j < m → am_sh0[n + 1 + j]? = some (.inr (0, k))) (K : ∀ S' R' D', cs S' R' D' (n + 1 + m) (am_ra n m ++ L) N → am_Go (M, pc + 4, ls, .ref n :: st, (S', R', D', n + 1 + m, T), kc - (1 + m), ks - (m + m * k), Q)) : am_Go (M, pc, ls, .int y :: .int x :: st, (S, R, D, n, T), kc, ks, Q) :=
  go_mna i m k hi hl hn hm hb (K _ _ _ (h.new2 (T := T) hs hs2))
theorem cs_pf {idx len o v ci k : Nat} (h : cs S R D n L N) (hi : am_lk pc (am_code M) = some (.putfield idx, len)) (ho : o < n) (hc : am_sh0[o]? = some (.inl ci)) (hf : am_fl M idx ci = some k) (hk : am_k ci k = 2) (K : ∀ R', cs S R' D n ((o, k, v) :: L) N → am_Go (M, pc + 3, ls, st, (S, R', D, n, T), kc, ks, Q)) : am_Go (M, pc, ls, .ref v :: .ref o :: st, (S, R, D, n, T), kc, ks, Q) := by
  have hS := h.at ho hc
  refine am_Go.intro ⟨.putfield idx, len, hi, Or.inl ⟨pc + 3, ls, st, (S, am_ur R o k (some v), D, n, T), ?_, K _ ⟨h.s1, h.s2, fun i j => ?_, h.d, fun q hq => ?_, h.m⟩⟩⟩
  · show am_pf M idx pc ls (.ref v :: .ref o :: st) (S, R, D, n, T) = _
    unfold am_pf
    dsimp only
    rw [hS]
    dsimp only
    rw [hf]
    dsimp only
    rw [hk]
  · unfold am_ur am_rl
    by_cases e : i = o ∧ j = k
    · rw [if_pos e, if_pos e]
    · rw [if_neg e, if_neg e]; exact h.r i j
  · rcases List.mem_cons.mp hq with rfl | z
    · exact ho
    · exact h.l q z
theorem cs_pfi {idx len o ci k : Nat} {v : Int32} (h : cs S R D n L N) (hi : am_lk pc (am_code M) = some (.putfield idx, len)) (ho : o < n) (hc : am_sh0[o]? = some (.inl ci)) (hf : am_fl M idx ci = some k) (hk : am_k ci k = 0) (K : ∀ D', cs S R D' n L ((o, k, v) :: N) → am_Go (M, pc + 3, ls, st, (S, R, D', n, T), kc, ks, Q)) : am_Go (M, pc, ls, .int v :: .ref o :: st, (S, R, D, n, T), kc, ks, Q) := by
  have hS := h.at ho hc
  refine am_Go.intro ⟨.putfield idx, len, hi, Or.inl ⟨pc + 3, ls, st, (S, R, am_u D o k v, n, T), ?_, K _ ⟨h.s1, h.s2, h.r, fun i j hj => ?_, h.l, fun q hq => ?_⟩⟩⟩
  · show am_pf M idx pc ls (.int v :: .ref o :: st) (S, R, D, n, T) = _
    unfold am_pf
    dsimp only
    rw [hS]
    dsimp only
    rw [hf]
    dsimp only
    rw [hk]
    rfl
  · unfold am_u am_dl
    by_cases e : i = o ∧ j = k
    · rw [if_pos e, if_pos e]
    · rw [if_neg e, if_neg e]; exact h.d i j hj
  · rcases List.mem_cons.mp hq with rfl | z
    · exact ho
    · exact h.m q z
theorem cs_gf {idx len o v ci k : Nat} (h : cs S R D n L N) (hi : am_lk pc (am_code M) = some (.getfield idx, len)) (ho : o < n) (hc : am_sh0[o]? = some (.inl ci)) (hf : am_fl M idx ci = some k) (hk : am_k ci k = 2) (hv : am_rl L o k = some v) (K : am_Go (M, pc + 3, ls, .ref v :: st, (S, R, D, n, T), kc, ks, Q)) : am_Go (M, pc, ls, .ref o :: st, (S, R, D, n, T), kc, ks, Q) := by
  have hS := h.at ho hc
  have hR := (h.r o k).trans hv
  refine am_Go.intro ⟨.getfield idx, len, hi, Or.inl ⟨pc + 3, ls, .ref v :: st, (S, R, D, n, T), ?_, K⟩⟩
  show am_gf M idx pc ls (.ref o :: st) (S, R, D, n, T) = _
  unfold am_gf am_fv
  dsimp only
  rw [hS]
  dsimp only
  rw [hf]
  dsimp only
  rw [hk, hR]
  rfl
theorem cs_ias {len o i m : Nat} {x v : Int32} (h : cs S R D n L N) (hi : am_lk pc (am_code M) = some (.iastore, len)) (ho : o < n) (hc : am_sh0[o]? = some (.inr (0, m))) (hx : x = nI i) (him : i < m) (hm : m < 1000) (K : ∀ D', cs S R D' n L ((o, i, v) :: N) → am_Go (M, pc + 1, ls, st, (S, R, D', n, T), kc, ks, Q)) : am_Go (M, pc, ls, .int v :: .int x :: .ref o :: st, (S, R, D, n, T), kc, ks, Q) := by
  have hS := h.at ho hc
  subst hx
  refine go_m (P := vp_in (nI i) m) (pc' := pc + 1) (ls' := ls) (st' := st) (h' := (S, R, am_u D o (nI i).toNatClampNeg v, n, T)) hi ?_ (vp_in_nI him (by omega)) ?_
  · show (match S o with | .inr (0, n) => _ | _ => _) = _
    rw [hS]
    rfl
  · rw [nI_clamp (by omega)]
    refine K _ ⟨h.s1, h.s2, h.r, fun a j hj => ?_, h.l, fun q hq => ?_⟩
    · unfold am_u am_dl
      by_cases e : a = o ∧ j = i
      · rw [if_pos e, if_pos e]
      · rw [if_neg e, if_neg e]; exact h.d a j hj
    · rcases List.mem_cons.mp hq with rfl | z
      · exact ho
      · exact h.m q z
theorem cs_fil {v : Int32} (h : cs S R D n L N) : cs S R (am_fil D 25 300 v) n L N := ⟨h.s1, h.s2, h.r, fun c j hc => (am_fil_ne hc).trans (h.d c j hc), h.l, h.m⟩
end CSG
theorem c_X5_init_1 {S : Nat → am_S} {R : Nat → Nat → Option Nat} {D : Nat → Nat → Int32} {T : Nat → Nat × (Nat → Int32)} {L : List (Nat × Nat × Nat)} {N : List (Nat × Nat × Int32)} {Q : am_Q} (h0 : cs S R D 2 L N) (q : ∀ S' R' D', cs S' R' D' 7 ((1, 4, 6) :: (1, 3, 5) :: (1, 2, 4) :: (1, 1, 3) :: (1, 0, 2) :: L) (N) → Q none (S', R', D', 7, T)) : am_Go (mX5_init, 0, am_ent mX5_init [.ref 1], [], (S, R, D, 2, T), 5, 1225, Q) := by
  refine go_s 1 rfl ?_
  refine go_obj 121 rfl (by decide +kernel) rfl ?_
  refine go_s 2 rfl ?_
  refine cs_newa 300 h0 rfl rfl rfl rfl rfl (fun Sh1 Rh1 Dh1 h1 => ?_)
  refine cs_pf h1 rfl (by decide) rfl rfl rfl (fun Rh2 h2 => ?_)
  refine go_s 2 rfl ?_
  refine cs_newa 300 h2 rfl rfl rfl rfl rfl (fun Sh3 Rh3 Dh3 h3 => ?_)
  refine cs_pf h3 rfl (by decide) rfl rfl rfl (fun Rh4 h4 => ?_)
  refine go_s 2 rfl ?_
  refine cs_newa 300 h4 rfl rfl rfl rfl rfl (fun Sh5 Rh5 Dh5 h5 => ?_)
  refine cs_pf h5 rfl (by decide) rfl rfl rfl (fun Rh6 h6 => ?_)
  refine go_s 2 rfl ?_
  refine cs_newa 300 h6 rfl rfl rfl rfl rfl (fun Sh7 Rh7 Dh7 h7 => ?_)
  refine cs_pf h7 rfl (by decide) rfl rfl rfl (fun Rh8 h8 => ?_)
  refine go_s 2 rfl ?_
  refine cs_newa 25 h8 rfl rfl rfl rfl rfl (fun Sh9 Rh9 Dh9 h9 => ?_)
  refine cs_pf h9 rfl (by decide) rfl rfl rfl (fun Rh10 h10 => ?_)
  exact go_retv rfl rfl (q _ _ _ h10)
theorem c_X0_init_7 {S : Nat → am_S} {R : Nat → Nat → Option Nat} {D : Nat → Nat → Int32} {T : Nat → Nat × (Nat → Int32)} {L : List (Nat × Nat × Nat)} {N : List (Nat × Nat × Int32)} {Q : am_Q} (h0 : cs S R D 8 L N) (q : ∀ S' R' D', cs S' R' D' 11 ((7, 0, 1) :: (7, 3, 10) :: (7, 2, 9) :: (7, 1, 8) :: L) ((7, 5, (-1)) :: N) → Q none (S', R', D', 11, T)) : am_Go (mX0_init, 0, am_ent mX0_init [.ref 7, .ref 1], [], (S, R, D, 8, T), 3, 72, Q) := by
  refine go_s 1 rfl ?_
  refine go_obj 153 rfl (by decide +kernel) rfl ?_
  refine go_s 2 rfl ?_
  refine cs_newa 24 h0 rfl rfl rfl rfl rfl (fun Sh1 Rh1 Dh1 h1 => ?_)
  refine cs_pf h1 rfl (by decide) rfl rfl rfl (fun Rh2 h2 => ?_)
  refine go_s 2 rfl ?_
  refine cs_newa 24 h2 rfl rfl rfl rfl rfl (fun Sh3 Rh3 Dh3 h3 => ?_)
  refine cs_pf h3 rfl (by decide) rfl rfl rfl (fun Rh4 h4 => ?_)
  refine go_s 2 rfl ?_
  refine cs_newa 24 h4 rfl rfl rfl rfl rfl (fun Sh5 Rh5 Dh5 h5 => ?_)
  refine cs_pf h5 rfl (by decide) rfl rfl rfl (fun Rh6 h6 => ?_)
  refine go_s 2 rfl ?_
  refine cs_pfi h6 rfl (by decide) rfl rfl rfl (fun Dh7 h7 => ?_)
  refine go_s 2 rfl ?_
  refine cs_pf h7 rfl (by decide) rfl rfl rfl (fun Rh8 h8 => ?_)
  exact go_retv rfl rfl (q _ _ _ h8)
theorem c_X1_init_11 {S : Nat → am_S} {R : Nat → Nat → Option Nat} {D : Nat → Nat → Int32} {T : Nat → Nat × (Nat → Int32)} {L : List (Nat × Nat × Nat)} {N : List (Nat × Nat × Int32)} {Q : am_Q} (h0 : cs S R D 12 L N) (q : ∀ S' R' D', cs S' R' D' 15 ((11, 2, 14) :: (11, 1, 13) :: (11, 0, 12) :: L) (N) → Q none (S', R', D', 15, T)) : am_Go (mX1_init, 0, am_ent mX1_init [.ref 11], [], (S, R, D, 12, T), 3, 648, Q) := by
  refine go_s 1 rfl ?_
  refine go_obj 179 rfl (by decide +kernel) rfl ?_
  refine go_s 2 rfl ?_
  refine cs_newa 600 h0 rfl rfl rfl rfl rfl (fun Sh1 Rh1 Dh1 h1 => ?_)
  refine cs_pf h1 rfl (by decide) rfl rfl rfl (fun Rh2 h2 => ?_)
  refine go_s 2 rfl ?_
  refine cs_newa 24 h2 rfl rfl rfl rfl rfl (fun Sh3 Rh3 Dh3 h3 => ?_)
  refine cs_pf h3 rfl (by decide) rfl rfl rfl (fun Rh4 h4 => ?_)
  refine go_s 2 rfl ?_
  refine cs_newa 24 h4 rfl rfl rfl rfl rfl (fun Sh5 Rh5 Dh5 h5 => ?_)
  refine cs_pf h5 rfl (by decide) rfl rfl rfl (fun Rh6 h6 => ?_)
  exact go_retv rfl rfl (q _ _ _ h6)
theorem c_X7_init_15 {S : Nat → am_S} {R : Nat → Nat → Option Nat} {D : Nat → Nat → Int32} {T : Nat → Nat × (Nat → Int32)} {L : List (Nat × Nat × Nat)} {N : List (Nat × Nat × Int32)} {Q : am_Q} (h0 : cs S R D 16 L N) (q : ∀ S' R' D', cs S' R' D' 26 ((15, 9, 25) :: (15, 8, 24) :: (15, 7, 23) :: (15, 6, 22) :: (15, 5, 21) :: (15, 4, 20) :: (15, 3, 19) :: (15, 2, 18) :: (15, 1, 17) :: (15, 0, 16) :: L) (N) → Q none (S', R', D', 26, T)) : am_Go (mX7_init, 0, am_ent mX7_init [.ref 15], [], (S, R, D, 16, T), 10, 1200, Q) := by
  refine go_s 1 rfl ?_
  refine go_obj 201 rfl (by decide +kernel) rfl ?_
  refine go_s 2 rfl ?_
  refine cs_newa 60 h0 rfl rfl rfl rfl rfl (fun Sh1 Rh1 Dh1 h1 => ?_)
  refine cs_pf h1 rfl (by decide) rfl rfl rfl (fun Rh2 h2 => ?_)
  refine go_s 2 rfl ?_
  refine cs_newa 60 h2 rfl rfl rfl rfl rfl (fun Sh3 Rh3 Dh3 h3 => ?_)
  refine cs_pf h3 rfl (by decide) rfl rfl rfl (fun Rh4 h4 => ?_)
  refine go_s 2 rfl ?_
  refine cs_newa 60 h4 rfl rfl rfl rfl rfl (fun Sh5 Rh5 Dh5 h5 => ?_)
  refine cs_pf h5 rfl (by decide) rfl rfl rfl (fun Rh6 h6 => ?_)
  refine go_s 2 rfl ?_
  refine cs_newa 60 h6 rfl rfl rfl rfl rfl (fun Sh7 Rh7 Dh7 h7 => ?_)
  refine cs_pf h7 rfl (by decide) rfl rfl rfl (fun Rh8 h8 => ?_)
  refine go_s 2 rfl ?_
  refine cs_newa 60 h8 rfl rfl rfl rfl rfl (fun Sh9 Rh9 Dh9 h9 => ?_)
  refine cs_pf h9 rfl (by decide) rfl rfl rfl (fun Rh10 h10 => ?_)
  refine go_s 2 rfl ?_
  refine cs_newa 150 h10 rfl rfl rfl rfl rfl (fun Sh11 Rh11 Dh11 h11 => ?_)
  refine cs_pf h11 rfl (by decide) rfl rfl rfl (fun Rh12 h12 => ?_)
  refine go_s 2 rfl ?_
  refine cs_newa 150 h12 rfl rfl rfl rfl rfl (fun Sh13 Rh13 Dh13 h13 => ?_)
  refine cs_pf h13 rfl (by decide) rfl rfl rfl (fun Rh14 h14 => ?_)
  refine go_s 2 rfl ?_
  refine cs_newa 150 h14 rfl rfl rfl rfl rfl (fun Sh15 Rh15 Dh15 h15 => ?_)
  refine cs_pf h15 rfl (by decide) rfl rfl rfl (fun Rh16 h16 => ?_)
  refine go_s 2 rfl ?_
  refine cs_newa 150 h16 rfl rfl rfl rfl rfl (fun Sh17 Rh17 Dh17 h17 => ?_)
  refine cs_pf h17 rfl (by decide) rfl rfl rfl (fun Rh18 h18 => ?_)
  refine go_s 2 rfl ?_
  refine cs_newa 300 h18 rfl rfl rfl rfl rfl (fun Sh19 Rh19 Dh19 h19 => ?_)
  refine cs_pf h19 rfl (by decide) rfl rfl rfl (fun Rh20 h20 => ?_)
  refine go_s 1 rfl ?_
  refine cs_gf (v := 25) h20 rfl (by decide) rfl rfl rfl rfl ?_
  refine go_s 1 rfl ?_
  refine go_st kX7_init_94 okJ7_fill_53178 rfl rfl rfl (by decide) (by decide) ?_
  refine c_fill (n := 300) (by decide) (h20.at (by decide) rfl) ?_
  have h21 := cs_fil (v := -1) h20
  exact go_retv rfl rfl (q _ _ _ h21)
theorem c_X6_init_26 {S : Nat → am_S} {R : Nat → Nat → Option Nat} {D : Nat → Nat → Int32} {T : Nat → Nat × (Nat → Int32)} {L : List (Nat × Nat × Nat)} {N : List (Nat × Nat × Int32)} {Q : am_Q} (h0 : cs S R D 27 L N) (q : ∀ S' R' D', cs S' R' D' 57 ((26, 2, 15) :: (26, 1, 11) :: (26, 0, 1) :: (26, 11, 56) :: (26, 10, 55) :: (26, 9, 54) :: (26, 8, 53) :: (26, 7, 52) :: (26, 6, 30) :: (30, 20, 51) :: (30, 19, 50) :: (30, 18, 49) :: (30, 17, 48) :: (30, 16, 47) :: (30, 15, 46) :: (30, 14, 45) :: (30, 13, 44) :: (30, 12, 43) :: (30, 11, 42) :: (30, 10, 41) :: (30, 9, 40) :: (30, 8, 39) :: (30, 7, 38) :: (30, 6, 37) :: (30, 5, 36) :: (30, 4, 35) :: (30, 3, 34) :: (30, 2, 33) :: (30, 1, 32) :: (30, 0, 31) :: (26, 5, 29) :: (26, 4, 28) :: (26, 3, 27) :: L) (N) → Q none (S', R', D', 57, T)) : am_Go (mX6_init, 0, am_ent mX6_init [.ref 26, .ref 1, .ref 11, .ref 15], [], (S, R, D, 27, T), 30, 8721, Q) := by
  refine go_s 1 rfl ?_
  refine go_obj 247 rfl (by decide +kernel) rfl ?_
  refine go_s 2 rfl ?_
  refine cs_newa 300 h0 rfl rfl rfl rfl rfl (fun Sh1 Rh1 Dh1 h1 => ?_)
  refine cs_pf h1 rfl (by decide) rfl rfl rfl (fun Rh2 h2 => ?_)
  refine go_s 2 rfl ?_
  refine cs_newa 300 h2 rfl rfl rfl rfl rfl (fun Sh3 Rh3 Dh3 h3 => ?_)
  refine cs_pf h3 rfl (by decide) rfl rfl rfl (fun Rh4 h4 => ?_)
  refine go_s 2 rfl ?_
  refine cs_newa 300 h4 rfl rfl rfl rfl rfl (fun Sh5 Rh5 Dh5 h5 => ?_)
  refine cs_pf h5 rfl (by decide) rfl rfl rfl (fun Rh6 h6 => ?_)
  refine go_s 3 rfl ?_
  refine cs_mna 248 21 300 h6 rfl (by decide +kernel) rfl rfl rfl rfl (by decide) (fun Sh7 Rh7 Dh7 h7 => ?_)
  refine cs_pf h7 rfl (by decide) rfl rfl rfl (fun Rh8 h8 => ?_)
  refine go_s 2 rfl ?_
  refine cs_newa 300 h8 rfl rfl rfl rfl rfl (fun Sh9 Rh9 Dh9 h9 => ?_)
  refine cs_pf h9 rfl (by decide) rfl rfl rfl (fun Rh10 h10 => ?_)
  refine go_s 2 rfl ?_
  refine cs_newa 300 h10 rfl rfl rfl rfl rfl (fun Sh11 Rh11 Dh11 h11 => ?_)
  refine cs_pf h11 rfl (by decide) rfl rfl rfl (fun Rh12 h12 => ?_)
  refine go_s 2 rfl ?_
  refine cs_newa 300 h12 rfl rfl rfl rfl rfl (fun Sh13 Rh13 Dh13 h13 => ?_)
  refine cs_pf h13 rfl (by decide) rfl rfl rfl (fun Rh14 h14 => ?_)
  refine go_s 2 rfl ?_
  refine cs_newa 300 h14 rfl rfl rfl rfl rfl (fun Sh15 Rh15 Dh15 h15 => ?_)
  refine cs_pf h15 rfl (by decide) rfl rfl rfl (fun Rh16 h16 => ?_)
  refine go_s 2 rfl ?_
  refine cs_newa 300 h16 rfl rfl rfl rfl rfl (fun Sh17 Rh17 Dh17 h17 => ?_)
  refine cs_pf h17 rfl (by decide) rfl rfl rfl (fun Rh18 h18 => ?_)
  refine go_s 2 rfl ?_
  refine cs_pf h18 rfl (by decide) rfl rfl rfl (fun Rh19 h19 => ?_)
  refine go_s 2 rfl ?_
  refine cs_pf h19 rfl (by decide) rfl rfl rfl (fun Rh20 h20 => ?_)
  refine go_s 2 rfl ?_
  refine cs_pf h20 rfl (by decide) rfl rfl rfl (fun Rh21 h21 => ?_)
  exact go_retv rfl rfl (q _ _ _ h21)
theorem c_X3_init_57 {S : Nat → am_S} {R : Nat → Nat → Option Nat} {D : Nat → Nat → Int32} {T : Nat → Nat × (Nat → Int32)} {L : List (Nat × Nat × Nat)} {N : List (Nat × Nat × Int32)} {Q : am_Q} (h0 : cs S R D 58 L N) (q : ∀ S' R' D', cs S' R' D' 59 ((57, 2, 15) :: (57, 1, 11) :: (57, 0, 1) :: (57, 3, 58) :: L) (N) → Q none (S', R', D', 59, T)) : am_Go (mX3_init, 0, am_ent mX3_init [.ref 57, .ref 1, .ref 11, .ref 15], [], (S, R, D, 58, T), 1, 300, Q) := by
  refine go_s 1 rfl ?_
  refine go_obj 307 rfl (by decide +kernel) rfl ?_
  refine go_s 2 rfl ?_
  refine cs_newa 300 h0 rfl rfl rfl rfl rfl (fun Sh1 Rh1 Dh1 h1 => ?_)
  refine cs_pf h1 rfl (by decide) rfl rfl rfl (fun Rh2 h2 => ?_)
  refine go_s 2 rfl ?_
  refine cs_pf h2 rfl (by decide) rfl rfl rfl (fun Rh3 h3 => ?_)
  refine go_s 2 rfl ?_
  refine cs_pf h3 rfl (by decide) rfl rfl rfl (fun Rh4 h4 => ?_)
  refine go_s 2 rfl ?_
  refine cs_pf h4 rfl (by decide) rfl rfl rfl (fun Rh5 h5 => ?_)
  exact go_retv rfl rfl (q _ _ _ h5)
theorem c_X4_init_59 {S : Nat → am_S} {R : Nat → Nat → Option Nat} {D : Nat → Nat → Int32} {T : Nat → Nat × (Nat → Int32)} {L : List (Nat × Nat × Nat)} {N : List (Nat × Nat × Int32)} {Q : am_Q} (h0 : cs S R D 60 L N) (q : ∀ S' R' D', cs S' R' D' 61 ((59, 0, 60) :: L) (N) → Q none (S', R', D', 61, T)) : am_Go (mX4_init, 0, am_ent mX4_init [.ref 59], [], (S, R, D, 60, T), 1, 200, Q) := by
  refine go_s 1 rfl ?_
  refine go_obj 329 rfl (by decide +kernel) rfl ?_
  refine go_s 2 rfl ?_
  refine cs_newa 200 h0 rfl rfl rfl rfl rfl (fun Sh1 Rh1 Dh1 h1 => ?_)
  refine cs_pf h1 rfl (by decide) rfl rfl rfl (fun Rh2 h2 => ?_)
  exact go_retv rfl rfl (q _ _ _ h2)
theorem c_X10_init_59 {S : Nat → am_S} {R : Nat → Nat → Option Nat} {D : Nat → Nat → Int32} {T : Nat → Nat × (Nat → Int32)} {L : List (Nat × Nat × Nat)} {N : List (Nat × Nat × Int32)} {Q : am_Q} (h0 : cs S R D 60 L N) (q : ∀ S' R' D', cs S' R' D' 65 ((59, 5, 1) :: (59, 9, 64) :: (59, 8, 63) :: (59, 7, 62) :: (59, 6, 61) :: (59, 0, 60) :: L) (N) → Q none (S', R', D', 65, T)) : am_Go (mX10_init, 0, am_ent mX10_init [.ref 59, .ref 1], [], (S, R, D, 60, T), 5, 392, Q) := by
  refine go_s 1 rfl ?_
  refine go_sp kX10_init_1 okX4_init rfl rfl rfl (by decide) (by decide) ?_
  refine c_X4_init_59 h0 (fun Sh1 Rh1 Dh1 h1 => ?_)
  refine go_s 2 rfl ?_
  refine cs_newa 32 h1 rfl rfl rfl rfl rfl (fun Sh2 Rh2 Dh2 h2 => ?_)
  refine cs_pf h2 rfl (by decide) rfl rfl rfl (fun Rh3 h3 => ?_)
  refine go_s 2 rfl ?_
  refine cs_newa 32 h3 rfl rfl rfl rfl rfl (fun Sh4 Rh4 Dh4 h4 => ?_)
  refine cs_pf h4 rfl (by decide) rfl rfl rfl (fun Rh5 h5 => ?_)
  refine go_s 2 rfl ?_
  refine cs_newa 64 h5 rfl rfl rfl rfl rfl (fun Sh6 Rh6 Dh6 h6 => ?_)
  refine cs_pf h6 rfl (by decide) rfl rfl rfl (fun Rh7 h7 => ?_)
  refine go_s 2 rfl ?_
  refine cs_newa 64 h7 rfl rfl rfl rfl rfl (fun Sh8 Rh8 Dh8 h8 => ?_)
  refine cs_pf h8 rfl (by decide) rfl rfl rfl (fun Rh9 h9 => ?_)
  refine go_s 2 rfl ?_
  refine cs_pf h9 rfl (by decide) rfl rfl rfl (fun Rh10 h10 => ?_)
  exact go_retv rfl rfl (q _ _ _ h10)
theorem c_X4_init_65 {S : Nat → am_S} {R : Nat → Nat → Option Nat} {D : Nat → Nat → Int32} {T : Nat → Nat × (Nat → Int32)} {L : List (Nat × Nat × Nat)} {N : List (Nat × Nat × Int32)} {Q : am_Q} (h0 : cs S R D 66 L N) (q : ∀ S' R' D', cs S' R' D' 67 ((65, 0, 66) :: L) (N) → Q none (S', R', D', 67, T)) : am_Go (mX4_init, 0, am_ent mX4_init [.ref 65], [], (S, R, D, 66, T), 1, 200, Q) := by
  refine go_s 1 rfl ?_
  refine go_obj 329 rfl (by decide +kernel) rfl ?_
  refine go_s 2 rfl ?_
  refine cs_newa 200 h0 rfl rfl rfl rfl rfl (fun Sh1 Rh1 Dh1 h1 => ?_)
  refine cs_pf h1 rfl (by decide) rfl rfl rfl (fun Rh2 h2 => ?_)
  exact go_retv rfl rfl (q _ _ _ h2)
theorem c_X2_init_65 {S : Nat → am_S} {R : Nat → Nat → Option Nat} {D : Nat → Nat → Int32} {T : Nat → Nat × (Nat → Int32)} {L : List (Nat × Nat × Nat)} {N : List (Nat × Nat × Int32)} {Q : am_Q} (h0 : cs S R D 66 L N) (q : ∀ S' R' D', cs S' R' D' 69 ((65, 5, 11) :: (65, 7, 68) :: (65, 6, 67) :: (65, 0, 66) :: L) (N) → Q none (S', R', D', 69, T)) : am_Go (mX2_init, 0, am_ent mX2_init [.ref 65, .ref 11], [], (S, R, D, 66, T), 3, 296, Q) := by
  refine go_s 1 rfl ?_
  refine go_sp kX2_init_1 okX4_init rfl rfl rfl (by decide) (by decide) ?_
  refine c_X4_init_65 h0 (fun Sh1 Rh1 Dh1 h1 => ?_)
  refine go_s 2 rfl ?_
  refine cs_newa 32 h1 rfl rfl rfl rfl rfl (fun Sh2 Rh2 Dh2 h2 => ?_)
  refine cs_pf h2 rfl (by decide) rfl rfl rfl (fun Rh3 h3 => ?_)
  refine go_s 2 rfl ?_
  refine cs_newa 64 h3 rfl rfl rfl rfl rfl (fun Sh4 Rh4 Dh4 h4 => ?_)
  refine cs_pf h4 rfl (by decide) rfl rfl rfl (fun Rh5 h5 => ?_)
  refine go_s 2 rfl ?_
  refine cs_pf h5 rfl (by decide) rfl rfl rfl (fun Rh6 h6 => ?_)
  exact go_retv rfl rfl (q _ _ _ h6)
theorem c_X11_init_0 {S : Nat → am_S} {R : Nat → Nat → Option Nat} {D : Nat → Nat → Int32} {T : Nat → Nat × (Nat → Int32)} {L : List (Nat × Nat × Nat)} {N : List (Nat × Nat × Int32)} {Q : am_Q} (h0 : cs S R D 1 L N) (q : ∀ S' R' D', cs S' R' D' 69 ((0, 7, 65) :: (65, 5, 11) :: (65, 7, 68) :: (65, 6, 67) :: (65, 0, 66) :: (0, 6, 59) :: (59, 5, 1) :: (59, 9, 64) :: (59, 8, 63) :: (59, 7, 62) :: (59, 6, 61) :: (59, 0, 60) :: (0, 5, 57) :: (57, 2, 15) :: (57, 1, 11) :: (57, 0, 1) :: (57, 3, 58) :: (0, 4, 26) :: (26, 2, 15) :: (26, 1, 11) :: (26, 0, 1) :: (26, 11, 56) :: (26, 10, 55) :: (26, 9, 54) :: (26, 8, 53) :: (26, 7, 52) :: (26, 6, 30) :: (30, 20, 51) :: (30, 19, 50) :: (30, 18, 49) :: (30, 17, 48) :: (30, 16, 47) :: (30, 15, 46) :: (30, 14, 45) :: (30, 13, 44) :: (30, 12, 43) :: (30, 11, 42) :: (30, 10, 41) :: (30, 9, 40) :: (30, 8, 39) :: (30, 7, 38) :: (30, 6, 37) :: (30, 5, 36) :: (30, 4, 35) :: (30, 3, 34) :: (30, 2, 33) :: (30, 1, 32) :: (30, 0, 31) :: (26, 5, 29) :: (26, 4, 28) :: (26, 3, 27) :: (0, 3, 15) :: (15, 9, 25) :: (15, 8, 24) :: (15, 7, 23) :: (15, 6, 22) :: (15, 5, 21) :: (15, 4, 20) :: (15, 3, 19) :: (15, 2, 18) :: (15, 1, 17) :: (15, 0, 16) :: (0, 2, 11) :: (11, 2, 14) :: (11, 1, 13) :: (11, 0, 12) :: (0, 1, 7) :: (7, 0, 1) :: (7, 3, 10) :: (7, 2, 9) :: (7, 1, 8) :: (0, 0, 1) :: (1, 4, 6) :: (1, 3, 5) :: (1, 2, 4) :: (1, 1, 3) :: (1, 0, 2) :: L) ((7, 5, (-1)) :: N) → Q none (S', R', D', 69, T)) : am_Go (mX11_init, 0, am_ent mX11_init [.ref 0], [], (S, R, D, 1, T), 68, 12927, Q) := by
  refine go_s 1 rfl ?_
  refine go_obj 113 rfl (by decide +kernel) rfl ?_
  refine go_s 1 rfl ?_
  refine cs_new 4 116 117 93 h0 rfl rfl (by decide +kernel) (by decide +kernel) (by decide +kernel) (by decide) (by decide) rfl (fun Sh1 Rh1 Dh1 h1 => ?_)
  refine go_s 1 rfl ?_
  refine go_sp kX11_init_9 okX5_init rfl rfl rfl (by decide) (by decide) ?_
  refine c_X5_init_1 h1 (fun Sh2 Rh2 Dh2 h2 => ?_)
  refine cs_pf h2 rfl (by decide) rfl rfl rfl (fun Rh3 h3 => ?_)
  refine go_s 1 rfl ?_
  refine cs_new 0 148 149 94 h3 rfl rfl (by decide +kernel) (by decide +kernel) (by decide +kernel) (by decide) (by decide) rfl (fun Sh4 Rh4 Dh4 h4 => ?_)
  refine go_s 2 rfl ?_
  refine cs_gf (v := 1) h4 rfl (by decide) rfl rfl rfl rfl ?_
  refine go_sp kX11_init_24 okX0_init rfl rfl rfl (by decide) (by decide) ?_
  refine c_X0_init_7 h4 (fun Sh5 Rh5 Dh5 h5 => ?_)
  refine cs_pf h5 rfl (by decide) rfl rfl rfl (fun Rh6 h6 => ?_)
  refine go_s 1 rfl ?_
  refine cs_new 1 174 175 95 h6 rfl rfl (by decide +kernel) (by decide +kernel) (by decide +kernel) (by decide) (by decide) rfl (fun Sh7 Rh7 Dh7 h7 => ?_)
  refine go_s 1 rfl ?_
  refine go_sp kX11_init_35 okX1_init rfl rfl rfl (by decide) (by decide) ?_
  refine c_X1_init_11 h7 (fun Sh8 Rh8 Dh8 h8 => ?_)
  refine cs_pf h8 rfl (by decide) rfl rfl rfl (fun Rh9 h9 => ?_)
  refine go_s 1 rfl ?_
  refine cs_new 6 196 197 96 h9 rfl rfl (by decide +kernel) (by decide +kernel) (by decide +kernel) (by decide) (by decide) rfl (fun Sh10 Rh10 Dh10 h10 => ?_)
  refine go_s 1 rfl ?_
  refine go_sp kX11_init_46 okX7_init rfl rfl rfl (by decide) (by decide) ?_
  refine c_X7_init_15 h10 (fun Sh11 Rh11 Dh11 h11 => ?_)
  refine cs_pf h11 rfl (by decide) rfl rfl rfl (fun Rh12 h12 => ?_)
  refine go_s 1 rfl ?_
  refine cs_new 5 242 243 98 h12 rfl rfl (by decide +kernel) (by decide +kernel) (by decide +kernel) (by decide) (by decide) rfl (fun Sh13 Rh13 Dh13 h13 => ?_)
  refine go_s 2 rfl ?_
  refine cs_gf (v := 1) h13 rfl (by decide) rfl rfl rfl rfl ?_
  refine go_s 1 rfl ?_
  refine cs_gf (v := 11) h13 rfl (by decide) rfl rfl rfl rfl ?_
  refine go_s 1 rfl ?_
  refine cs_gf (v := 15) h13 rfl (by decide) rfl rfl rfl rfl ?_
  refine go_sp kX11_init_69 okX6_init rfl rfl rfl (by decide) (by decide) ?_
  refine c_X6_init_26 h13 (fun Sh14 Rh14 Dh14 h14 => ?_)
  refine cs_pf h14 rfl (by decide) rfl rfl rfl (fun Rh15 h15 => ?_)
  refine go_s 1 rfl ?_
  refine cs_new 3 302 303 99 h15 rfl rfl (by decide +kernel) (by decide +kernel) (by decide +kernel) (by decide) (by decide) rfl (fun Sh16 Rh16 Dh16 h16 => ?_)
  refine go_s 2 rfl ?_
  refine cs_gf (v := 1) h16 rfl (by decide) rfl rfl rfl rfl ?_
  refine go_s 1 rfl ?_
  refine cs_gf (v := 11) h16 rfl (by decide) rfl rfl rfl rfl ?_
  refine go_s 1 rfl ?_
  refine cs_gf (v := 15) h16 rfl (by decide) rfl rfl rfl rfl ?_
  refine go_sp kX11_init_92 okX3_init rfl rfl rfl (by decide) (by decide) ?_
  refine c_X3_init_57 h16 (fun Sh17 Rh17 Dh17 h17 => ?_)
  refine cs_pf h17 rfl (by decide) rfl rfl rfl (fun Rh18 h18 => ?_)
  refine go_s 1 rfl ?_
  refine cs_new 7 321 322 101 h18 rfl rfl (by decide +kernel) (by decide +kernel) (by decide +kernel) (by decide) (by decide) rfl (fun Sh19 Rh19 Dh19 h19 => ?_)
  refine go_s 2 rfl ?_
  refine cs_gf (v := 1) h19 rfl (by decide) rfl rfl rfl rfl ?_
  refine go_sp kX11_init_107 okX10_init rfl rfl rfl (by decide) (by decide) ?_
  refine c_X10_init_59 h19 (fun Sh20 Rh20 Dh20 h20 => ?_)
  refine cs_pf h20 rfl (by decide) rfl rfl rfl (fun Rh21 h21 => ?_)
  refine go_s 1 rfl ?_
  refine cs_new 2 367 368 102 h21 rfl rfl (by decide +kernel) (by decide +kernel) (by decide +kernel) (by decide) (by decide) rfl (fun Sh22 Rh22 Dh22 h22 => ?_)
  refine go_s 2 rfl ?_
  refine cs_gf (v := 11) h22 rfl (by decide) rfl rfl rfl rfl ?_
  refine go_sp kX11_init_122 okX2_init rfl rfl rfl (by decide) (by decide) ?_
  refine c_X2_init_65 h22 (fun Sh23 Rh23 Dh23 h23 => ?_)
  refine cs_pf h23 rfl (by decide) rfl rfl rfl (fun Rh24 h24 => ?_)
  exact go_retv rfl rfl (q _ _ _ h24)
theorem c_X12_init_69 {S : Nat → am_S} {R : Nat → Nat → Option Nat} {D : Nat → Nat → Int32} {T : Nat → Nat × (Nat → Int32)} {L : List (Nat × Nat × Nat)} {N : List (Nat × Nat × Int32)} {Q : am_Q} (h0 : cs S R D 70 L N) (q : ∀ S' R' D', cs S' R' D' 109 ((69, 39, 108) :: (69, 38, 107) :: (69, 37, 104) :: (104, 1, 106) :: (104, 0, 105) :: (69, 36, 101) :: (101, 1, 103) :: (101, 0, 102) :: (69, 35, 98) :: (98, 1, 100) :: (98, 0, 99) :: (69, 34, 97) :: (69, 33, 96) :: (69, 32, 95) :: (69, 31, 94) :: (69, 30, 93) :: (69, 29, 92) :: (69, 28, 91) :: (69, 27, 90) :: (69, 26, 89) :: (69, 25, 88) :: (69, 24, 87) :: (69, 23, 86) :: (69, 22, 85) :: (69, 21, 84) :: (69, 20, 83) :: (69, 19, 82) :: (69, 18, 81) :: (69, 17, 80) :: (69, 16, 79) :: (69, 15, 78) :: (69, 14, 77) :: (69, 9, 76) :: (69, 8, 75) :: (69, 7, 74) :: (69, 6, 73) :: (69, 5, 72) :: (69, 4, 71) :: (69, 3, 70) :: L) ((93, 1, (-1)) :: (93, 0, (-1)) :: N) → Q none (S', R', D', 109, T)) : am_Go (mX12_init, 0, am_ent mX12_init [.ref 69], [], (S, R, D, 70, T), 39, 28914, Q) := by
  refine go_s 1 rfl ?_
  refine go_obj 1311 rfl (by decide +kernel) rfl ?_
  refine go_s 2 rfl ?_
  refine cs_newa 24 h0 rfl rfl rfl rfl rfl (fun Sh1 Rh1 Dh1 h1 => ?_)
  refine cs_pf h1 rfl (by decide) rfl rfl rfl (fun Rh2 h2 => ?_)
  refine go_s 2 rfl ?_
  refine cs_newa 960 h2 rfl rfl rfl rfl rfl (fun Sh3 Rh3 Dh3 h3 => ?_)
  refine cs_pf h3 rfl (by decide) rfl rfl rfl (fun Rh4 h4 => ?_)
  refine go_s 2 rfl ?_
  refine cs_newa 960 h4 rfl rfl rfl rfl rfl (fun Sh5 Rh5 Dh5 h5 => ?_)
  refine cs_pf h5 rfl (by decide) rfl rfl rfl (fun Rh6 h6 => ?_)
  refine go_s 2 rfl ?_
  refine cs_newa 960 h6 rfl rfl rfl rfl rfl (fun Sh7 Rh7 Dh7 h7 => ?_)
  refine cs_pf h7 rfl (by decide) rfl rfl rfl (fun Rh8 h8 => ?_)
  refine go_s 2 rfl ?_
  refine cs_newa 960 h8 rfl rfl rfl rfl rfl (fun Sh9 Rh9 Dh9 h9 => ?_)
  refine cs_pf h9 rfl (by decide) rfl rfl rfl (fun Rh10 h10 => ?_)
  refine go_s 2 rfl ?_
  refine cs_newa 24 h10 rfl rfl rfl rfl rfl (fun Sh11 Rh11 Dh11 h11 => ?_)
  refine cs_pf h11 rfl (by decide) rfl rfl rfl (fun Rh12 h12 => ?_)
  refine go_s 2 rfl ?_
  refine cs_newa 24 h12 rfl rfl rfl rfl rfl (fun Sh13 Rh13 Dh13 h13 => ?_)
  refine cs_pf h13 rfl (by decide) rfl rfl rfl (fun Rh14 h14 => ?_)
  refine go_s 2 rfl ?_
  refine cs_newa 24 h14 rfl rfl rfl rfl rfl (fun Sh15 Rh15 Dh15 h15 => ?_)
  refine cs_pf h15 rfl (by decide) rfl rfl rfl (fun Rh16 h16 => ?_)
  refine go_s 2 rfl ?_
  refine cs_newa 24 h16 rfl rfl rfl rfl rfl (fun Sh17 Rh17 Dh17 h17 => ?_)
  refine cs_pf h17 rfl (by decide) rfl rfl rfl (fun Rh18 h18 => ?_)
  refine go_s 2 rfl ?_
  refine cs_newa 1000 h18 rfl rfl rfl rfl rfl (fun Sh19 Rh19 Dh19 h19 => ?_)
  refine cs_pf h19 rfl (by decide) rfl rfl rfl (fun Rh20 h20 => ?_)
  refine go_s 2 rfl ?_
  refine cs_newa 60 h20 rfl rfl rfl rfl rfl (fun Sh21 Rh21 Dh21 h21 => ?_)
  refine cs_pf h21 rfl (by decide) rfl rfl rfl (fun Rh22 h22 => ?_)
  refine go_s 2 rfl ?_
  refine cs_newa 60 h22 rfl rfl rfl rfl rfl (fun Sh23 Rh23 Dh23 h23 => ?_)
  refine cs_pf h23 rfl (by decide) rfl rfl rfl (fun Rh24 h24 => ?_)
  refine go_s 2 rfl ?_
  refine cs_newa 60 h24 rfl rfl rfl rfl rfl (fun Sh25 Rh25 Dh25 h25 => ?_)
  refine cs_pf h25 rfl (by decide) rfl rfl rfl (fun Rh26 h26 => ?_)
  refine go_s 2 rfl ?_
  refine cs_newa 60 h26 rfl rfl rfl rfl rfl (fun Sh27 Rh27 Dh27 h27 => ?_)
  refine cs_pf h27 rfl (by decide) rfl rfl rfl (fun Rh28 h28 => ?_)
  refine go_s 2 rfl ?_
  refine cs_newa 60 h28 rfl rfl rfl rfl rfl (fun Sh29 Rh29 Dh29 h29 => ?_)
  refine cs_pf h29 rfl (by decide) rfl rfl rfl (fun Rh30 h30 => ?_)
  refine go_s 2 rfl ?_
  refine cs_newa 9000 h30 rfl rfl rfl rfl rfl (fun Sh31 Rh31 Dh31 h31 => ?_)
  refine cs_pf h31 rfl (by decide) rfl rfl rfl (fun Rh32 h32 => ?_)
  refine go_s 2 rfl ?_
  refine cs_newa 9000 h32 rfl rfl rfl rfl rfl (fun Sh33 Rh33 Dh33 h33 => ?_)
  refine cs_pf h33 rfl (by decide) rfl rfl rfl (fun Rh34 h34 => ?_)
  refine go_s 2 rfl ?_
  refine cs_newa 960 h34 rfl rfl rfl rfl rfl (fun Sh35 Rh35 Dh35 h35 => ?_)
  refine cs_pf h35 rfl (by decide) rfl rfl rfl (fun Rh36 h36 => ?_)
  refine go_s 2 rfl ?_
  refine cs_newa 960 h36 rfl rfl rfl rfl rfl (fun Sh37 Rh37 Dh37 h37 => ?_)
  refine cs_pf h37 rfl (by decide) rfl rfl rfl (fun Rh38 h38 => ?_)
  refine go_s 2 rfl ?_
  refine cs_newa 960 h38 rfl rfl rfl rfl rfl (fun Sh39 Rh39 Dh39 h39 => ?_)
  refine cs_pf h39 rfl (by decide) rfl rfl rfl (fun Rh40 h40 => ?_)
  refine go_s 2 rfl ?_
  refine cs_newa 960 h40 rfl rfl rfl rfl rfl (fun Sh41 Rh41 Dh41 h41 => ?_)
  refine cs_pf h41 rfl (by decide) rfl rfl rfl (fun Rh42 h42 => ?_)
  refine go_s 2 rfl ?_
  refine cs_newa 960 h42 rfl rfl rfl rfl rfl (fun Sh43 Rh43 Dh43 h43 => ?_)
  refine cs_pf h43 rfl (by decide) rfl rfl rfl (fun Rh44 h44 => ?_)
  refine go_s 2 rfl ?_
  refine cs_newa 150 h44 rfl rfl rfl rfl rfl (fun Sh45 Rh45 Dh45 h45 => ?_)
  refine cs_pf h45 rfl (by decide) rfl rfl rfl (fun Rh46 h46 => ?_)
  refine go_s 2 rfl ?_
  refine cs_newa 2 h46 rfl rfl rfl rfl rfl (fun Sh47 Rh47 Dh47 h47 => ?_)
  refine go_s 3 rfl ?_
  refine cs_ias (i := 0) h47 rfl (by decide) rfl rfl (by decide) (by decide) (fun Dh48 h48 => ?_)
  refine go_s 3 rfl ?_
  refine cs_ias (i := 1) h48 rfl (by decide) rfl rfl (by decide) (by decide) (fun Dh49 h49 => ?_)
  refine cs_pf h49 rfl (by decide) rfl rfl rfl (fun Rh50 h50 => ?_)
  refine go_s 2 rfl ?_
  refine cs_newa 2 h50 rfl rfl rfl rfl rfl (fun Sh51 Rh51 Dh51 h51 => ?_)
  refine cs_pf h51 rfl (by decide) rfl rfl rfl (fun Rh52 h52 => ?_)
  refine go_s 2 rfl ?_
  refine cs_newa 2 h52 rfl rfl rfl rfl rfl (fun Sh53 Rh53 Dh53 h53 => ?_)
  refine cs_pf h53 rfl (by decide) rfl rfl rfl (fun Rh54 h54 => ?_)
  refine go_s 2 rfl ?_
  refine cs_newa 2 h54 rfl rfl rfl rfl rfl (fun Sh55 Rh55 Dh55 h55 => ?_)
  refine cs_pf h55 rfl (by decide) rfl rfl rfl (fun Rh56 h56 => ?_)
  refine go_s 2 rfl ?_
  refine cs_newa 2 h56 rfl rfl rfl rfl rfl (fun Sh57 Rh57 Dh57 h57 => ?_)
  refine cs_pf h57 rfl (by decide) rfl rfl rfl (fun Rh58 h58 => ?_)
  refine go_s 3 rfl ?_
  refine cs_mna 1312 2 200 h58 rfl (by decide +kernel) rfl rfl rfl rfl (by decide) (fun Sh59 Rh59 Dh59 h59 => ?_)
  refine cs_pf h59 rfl (by decide) rfl rfl rfl (fun Rh60 h60 => ?_)
  refine go_s 3 rfl ?_
  refine cs_mna 1312 2 32 h60 rfl (by decide +kernel) rfl rfl rfl rfl (by decide) (fun Sh61 Rh61 Dh61 h61 => ?_)
  refine cs_pf h61 rfl (by decide) rfl rfl rfl (fun Rh62 h62 => ?_)
  refine go_s 3 rfl ?_
  refine cs_mna 1312 2 64 h62 rfl (by decide +kernel) rfl rfl rfl rfl (by decide) (fun Sh63 Rh63 Dh63 h63 => ?_)
  refine cs_pf h63 rfl (by decide) rfl rfl rfl (fun Rh64 h64 => ?_)
  refine go_s 2 rfl ?_
  refine cs_newa 32 h64 rfl rfl rfl rfl rfl (fun Sh65 Rh65 Dh65 h65 => ?_)
  refine cs_pf h65 rfl (by decide) rfl rfl rfl (fun Rh66 h66 => ?_)
  refine go_s 2 rfl ?_
  refine cs_newa 64 h66 rfl rfl rfl rfl rfl (fun Sh67 Rh67 Dh67 h67 => ?_)
  refine cs_pf h67 rfl (by decide) rfl rfl rfl (fun Rh68 h68 => ?_)
  exact go_retv rfl rfl (q _ _ _ h68)
