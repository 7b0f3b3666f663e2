/-! the pairs put and press -/
theorem am_cp_e {D : Nat → Nat → Int32} {o a b n t : Nat} : am_cp D o a b n o t = if b ≤ t ∧ t < b + n then D o (a + (t - b)) else D o t := by
  unfold am_cp va_cpy
  rw [if_pos rfl]
theorem am_cp_n {D : Nat → Nat → Int32} {o a b n c t : Nat} (h : c ≠ o) : am_cp D o a b n c t = D c t := by
  unfold am_cp
  rw [if_neg h]
theorem am_pt0_v {X : Nat → Nat → Int32} {e0 N c t : Nat} (h6 : X 1 6 = nI N) (hN : N < 1000) (he : e0 ≤ N) (h2 : 2 ≤ c) (h5 : c ≤ 5) : am_pt0 X (nI e0) c t = if e0 < t ∧ t ≤ N then X c (t - 1) else X c t := by
  unfold am_pt0
  rw [h6, nI_sub he]
  by_cases hz : N = e0
  · rw [if_neg (by rw [show N - e0 = 0 by omega]; decide), if_neg (by omega)]
  · rw [if_pos (show (0 : Int32) < nI (N - e0) from nI_lt (a := 0) (b := N - e0) (by omega) (by omega))]
    unfold am_mkr
    rw [h6, nI_sub he, nI_1, nI_clamp (by omega), nI_clamp (by omega), nI_clamp (by omega)]
    have key : ∀ D : Nat → Nat → Int32, (if e0 + 1 ≤ t ∧ t < e0 + 1 + (N - e0) then D c (e0 + (t - (e0 + 1))) else D c t) = if e0 < t ∧ t ≤ N then D c (t - 1) else D c t := fun D => by
      by_cases q : e0 < t ∧ t ≤ N
      · rw [if_pos q, if_pos (by omega), show e0 + (t - (e0 + 1)) = t - 1 by omega]
      · rw [if_neg q, if_neg (by omega)]
    have hc : c = 2 ∨ c = 3 ∨ c = 4 ∨ c = 5 := by omega
    rcases hc with rfl | rfl | rfl | rfl
    · rw [am_cp_n (by decide), am_cp_n (by decide), am_cp_n (by decide), am_cp_e]; exact key _
    · rw [am_cp_n (by decide), am_cp_n (by decide), am_cp_e, am_cp_n (by decide), am_cp_n (by decide)]; exact key _
    · rw [am_cp_n (by decide), am_cp_e, am_cp_n (by decide), am_cp_n (by decide), am_cp_n (by decide), am_cp_n (by decide)]; exact key _
    · rw [am_cp_e, am_cp_n (by decide), am_cp_n (by decide), am_cp_n (by decide), am_cp_n (by decide), am_cp_n (by decide), am_cp_n (by decide)]; exact key _
theorem am_pt0_n {X : Nat → Nat → Int32} {x : Int32} {c t : Nat} (h : c < 2 ∨ 5 < c) : am_pt0 X x c t = X c t := by
  unfold am_pt0
  split
  · unfold am_mkr
    rw [am_cp_n (by omega), am_cp_n (by omega), am_cp_n (by omega), am_cp_n (by omega)]
  · rfl
/-- the class's program behind a put -/
def in_PN (X X1 : Nat → Nat → Int32) (F ff e0 N m : Nat) (n a b c : Int32) : Prop := (∀ k j, (k = 1 → j ≠ 6 ∧ j ≠ 7) → (k < 2 ∨ 6 < k) → X1 k j = X k j) ∧ (X1 1 6 = nI (N + 1)) ∧ (X1 1 7 = nI (m + 1)) ∧ (∀ g, X1 6 g = if ff < g ∧ g ≤ F then X 6 g + 1 else X 6 g) ∧ (X1 2 e0 = n ∧ X1 3 e0 = am_kpt (am_kA n) a ∧ X1 4 e0 = am_kpt (am_kB n) b ∧ X1 5 e0 = am_kpt (am_kC n) c) ∧ (∀ k t, 2 ≤ k → k ≤ 5 → t < e0 → X1 k t = X k t) ∧ (∀ k t, 2 ≤ k → k ≤ 5 → e0 ≤ t → t < N → X1 k (t + 1) = X k t)
theorem in_PN.fr {X X1 : Nat → Nat → Int32} {F ff e0 N m : Nat} {n a b c : Int32} (h : in_PN X X1 F ff e0 N m n a b c) : ∀ k j, (k = 1 → j ≠ 6 ∧ j ≠ 7) → (k < 2 ∨ 6 < k) → X1 k j = X k j := h.1
theorem in_PN.s6 {X X1 : Nat → Nat → Int32} {F ff e0 N m : Nat} {n a b c : Int32} (h : in_PN X X1 F ff e0 N m n a b c) : X1 1 6 = nI (N + 1) := h.2.1
theorem in_PN.s7 {X X1 : Nat → Nat → Int32} {F ff e0 N m : Nat} {n a b c : Int32} (h : in_PN X X1 F ff e0 N m n a b c) : X1 1 7 = nI (m + 1) := h.2.2.1
theorem in_PN.st {X X1 : Nat → Nat → Int32} {F ff e0 N m : Nat} {n a b c : Int32} (h : in_PN X X1 F ff e0 N m n a b c) : ∀ g, X1 6 g = if ff < g ∧ g ≤ F then X 6 g + 1 else X 6 g := h.2.2.2.1
theorem in_PN.new {X X1 : Nat → Nat → Int32} {F ff e0 N m : Nat} {n a b c : Int32} (h : in_PN X X1 F ff e0 N m n a b c) : X1 2 e0 = n ∧ X1 3 e0 = am_kpt (am_kA n) a ∧ X1 4 e0 = am_kpt (am_kB n) b ∧ X1 5 e0 = am_kpt (am_kC n) c := h.2.2.2.2.1
theorem in_PN.lo {X X1 : Nat → Nat → Int32} {F ff e0 N m : Nat} {n a b c : Int32} (h : in_PN X X1 F ff e0 N m n a b c) : ∀ k t, 2 ≤ k → k ≤ 5 → t < e0 → X1 k t = X k t := h.2.2.2.2.2.1
theorem in_PN.hi {X X1 : Nat → Nat → Int32} {F ff e0 N m : Nat} {n a b c : Int32} (h : in_PN X X1 F ff e0 N m n a b c) : ∀ k t, 2 ≤ k → k ≤ 5 → e0 ≤ t → t < N → X1 k (t + 1) = X k t := h.2.2.2.2.2.2
theorem in_pn_of {X : Nat → Nat → Int32} {F ff e0 N m : Nat} {n a b c : Int32} (he : am_end X (nI ff) = nI e0) (h6 : X 1 6 = nI N) (h7 : X 1 7 = nI m) (hN : N < 1000) (h0 : e0 ≤ N) : in_PN X (am_u (am_u (am_pt2 X ff F n a b c) 1 6 (am_pt2 X ff F n a b c 1 6 + 1)) 1 7 (am_pt2 X ff F n a b c 1 7 + 1)) F ff e0 N m n a b c := by
  have hce := nI_clamp (show e0 < 2 ^ 31 by omega)
  have p1 : ∀ k j, k ≠ 6 → am_pt2 X ff F n a b c k j = am_pt1 X (nI e0) n a b c k j := fun k j h => by
    unfold am_pt2 am_inc
    rw [he, if_neg (fun z => h z.1)]
  have p2 : ∀ k j, (k < 2 ∨ 5 < k) → am_pt1 X (nI e0) n a b c k j = X k j := fun k j h => by
    unfold am_pt1
    rw [am_u_ne (by omega), am_u_ne (by omega), am_u_ne (by omega), am_u_ne (by omega), am_pt0_n h]
  have p3 : ∀ k j, 2 ≤ k → k ≤ 5 → j ≠ e0 → am_pt1 X (nI e0) n a b c k j = if e0 < j ∧ j ≤ N then X k (j - 1) else X k j := fun k j h1 h2 h3 => by
    rw [← am_pt0_v h6 hN h0 h1 h2]
    unfold am_pt1
    rw [hce]
    unfold am_u
    rw [if_neg (by omega), if_neg (by omega), if_neg (by omega), if_neg (by omega)]
  have e6 : am_pt2 X ff F n a b c 1 6 = nI N := by rw [p1 1 6 (by decide), p2 1 6 (by decide), h6]
  have e7 : am_pt2 X ff F n a b c 1 7 = nI m := by rw [p1 1 7 (by decide), p2 1 7 (by decide), h7]
  rw [e6, e7, nI_1, nI_1]
  have u1 : ∀ k j, (k = 1 → j ≠ 6 ∧ j ≠ 7) → am_u (am_u (am_pt2 X ff F n a b c) 1 6 (nI (N + 1))) 1 7 (nI (m + 1)) k j = am_pt2 X ff F n a b c k j := fun k j h => by
    unfold am_u
    rw [if_neg (by omega), if_neg (by omega)]
  refine ⟨fun k j h1 h2 => ?_, ?_, am_u_eq, fun g => ?_, ⟨?_, ?_, ?_, ?_⟩, fun k t h1 h2 h3 => ?_, fun k t h1 h2 h3 h4 => ?_⟩
  · rw [u1 k j h1, p1 k j (by omega), p2 k j (by omega)]
  · rw [am_u_nj (by decide), am_u_eq]
  · rw [u1 6 g (by omega)]
    unfold am_pt2 am_inc
    rw [he]
    by_cases q : ff < g ∧ g ≤ F
    · rw [if_pos (by omega), if_pos q, p2 6 g (by omega)]
    · rw [if_neg (by omega), if_neg q, p2 6 g (by omega)]
  · rw [u1 2 e0 (by omega), p1 2 e0 (by decide)]
    unfold am_pt1
    rw [hce, am_u_ne (by decide), am_u_ne (by decide), am_u_ne (by decide), am_u_eq]
  · rw [u1 3 e0 (by omega), p1 3 e0 (by decide)]
    unfold am_pt1
    rw [hce, am_u_ne (by decide), am_u_ne (by decide), am_u_eq]
  · rw [u1 4 e0 (by omega), p1 4 e0 (by decide)]
    unfold am_pt1
    rw [hce, am_u_ne (by decide), am_u_eq]
  · rw [u1 5 e0 (by omega), p1 5 e0 (by decide)]
    unfold am_pt1
    rw [hce, am_u_eq]
  · rw [u1 k t (by omega), p1 k t (by omega), p3 k t h1 h2 (by omega), if_neg (by omega)]
  · rw [u1 k (t + 1) (by omega), p1 k (t + 1) (by omega), p3 k (t + 1) h1 h2 (by omega), if_pos (by omega), Nat.add_sub_cancel]
section PPT
variable {X : Nat → Nat → Int32} {e : am_E} {Q : am_Q} {kc ks n : Nat} {f o a b c : Int32}
theorem p_put (hn : n < 900) (hA : in_A X n) (hw : 109 ≤ e.2.1) (K : ∀ v X', md mX12_put [.int f, .int o, .int a, .int b, .int c] v X' e (n + 1) → Q (some (.int v)) (hp X' e)) : am_Go (mX11_put, 0, am_ent mX11_put [.ref 0, .int f, .int o, .int a, .int b, .int c], [], hp X e, kc, ks, Q) := by
  have hA2 := hA.s
  obtain ⟨F, sz, m, hm, hB⟩ := hA
  have hP := hB.pg
  have hF := hP.hF
  by_cases hk : am_pk F sz f o a b c
  rotate_left
  · exact c_X11_put_no hP.h5 (fun z => hk ((am_pok_pk hP).mp z)) (K _ X (fun Q' q' => c_X12_put_no hP hk (q' X e hA2 hw rfl)))
  have hok := (am_pok_pk hP).mpr hk
  obtain ⟨hgd, ff, hff, rfl, hs, ht⟩ := hk
  have hee := hP.ende hff
  have hlf : am_st sz ff + sz ff ≤ am_st sz F := am_st_le (sz := sz) (show ff + 1 ≤ F by omega)
  obtain ⟨e0, he0⟩ : ∃ z, z = am_st sz ff + sz ff := ⟨_, rfl⟩
  rw [← he0] at hee hlf
  have hPN := in_pn_of (F := F) (n := o) (a := a) (b := b) (c := c) hee hP.cS hB.ch (by omega) hlf
  refine go_s 7 rfl ?_
  refine go_v kX11_put_11 okX5_addInstruction rfl rfl rfl rfl (Nat.zero_le _) (Nat.zero_le _) ?_
  refine c_X5_addInstruction_ok hP.h5 hF hff hP.c5 hok (by rw [hee]; exact nI_pos (by omega)) (by rw [hee, nI_1]; exact nI_pos (by omega)) (by rw [hee, hP.cS, nI_sub hlf, nI_clamp (by omega), nI_clamp (by omega)]; omega) (by rw [hee, nI_1, hP.cS, nI_sub hlf, nI_clamp (by omega), nI_clamp (by omega)]; omega) (by rw [hee]; exact vp_in_nI (by omega) (by decide)) ?_
  have ev : am_end X (nI ff) - am_pt2 X ff F o a b c 6 (nI ff).toNatClampNeg = nI (sz ff) := by
    have e6 : am_pt2 X ff F o a b c 6 ff = X 6 ff := by
      have := hPN.st ff
      rw [if_neg (by omega), am_u_ne (by decide), am_u_ne (by decide)] at this
      exact this
    rw [nI_clamp (by omega), e6, hee, hP.c6 ff (by omega), nI_sub (by omega), he0]
    congr 1
    omega
  rw [ev]
  generalize am_u (am_u (am_pt2 X ff F o a b c) 1 6 (am_pt2 X ff F o a b c 1 6 + 1)) 1 7 (am_pt2 X ff F o a b c 1 7 + 1) = X1 at hPN ⊢
  have hP1 : am_PG X X1 F sz := hP.fr (fun _ _ _ _ _ => rfl) (fun k j h1 h2 _ => hPN.fr k j (by omega) (by omega))
  refine go_ret rfl rfl (K _ X1 (fun Q' q' => c_X12_put_ok hP1 hff hs ht hgd ?_))
  have f2 : ∀ k j, (k < 69 ∨ 74 < k ∨ (k = 69 ∧ j ≠ 2)) → am_mput X1 ff (sz ff) (am_st sz F) o a b c k j = X1 k j := fun k j h => by
    unfold am_mput am_u
    rw [if_neg (by omega), if_neg (by omega), if_neg (by omega), if_neg (by omega), if_neg (by omega), if_neg (by omega)]
  have g2 : am_mput X1 ff (sz ff) (am_st sz F) o a b c 69 2 = nI (am_st sz F + 1) := by
    unfold am_mput
    rw [am_u_eq]
  have g70 : ∀ j, am_mput X1 ff (sz ff) (am_st sz F) o a b c 70 j = if j = ff then nI (sz ff + 1) else X1 70 j := fun j => by
    unfold am_mput
    rw [am_u_ne (by decide)]
    by_cases z : j = ff
    · rw [z, if_pos rfl, am_u_eq]
    · rw [if_neg z, am_u_nj z, am_u_ne (by decide), am_u_ne (by decide), am_u_ne (by decide), am_u_ne (by decide)]
  have g7x : ∀ k j, 71 ≤ k → k ≤ 74 → j ≠ 40 * ff + sz ff → am_mput X1 ff (sz ff) (am_st sz F) o a b c k j = X1 k j := fun k j h1 h2 h3 => by
    unfold am_mput am_u
    rw [if_neg (by omega), if_neg (by omega), if_neg (by omega), if_neg (by omega), if_neg (by omega), if_neg (by omega)]
  have g71 : am_mput X1 ff (sz ff) (am_st sz F) o a b c 71 (40 * ff + sz ff) = o := by
    unfold am_mput
    rw [am_u_ne (by decide), am_u_ne (by decide), am_u_ne (by decide), am_u_ne (by decide), am_u_ne (by decide), am_u_eq]
  have g72 : am_mput X1 ff (sz ff) (am_st sz F) o a b c 72 (40 * ff + sz ff) = a := by
    unfold am_mput
    rw [am_u_ne (by decide), am_u_ne (by decide), am_u_ne (by decide), am_u_ne (by decide), am_u_eq]
  have g73 : am_mput X1 ff (sz ff) (am_st sz F) o a b c 73 (40 * ff + sz ff) = b := by
    unfold am_mput
    rw [am_u_ne (by decide), am_u_ne (by decide), am_u_ne (by decide), am_u_eq]
  have g74 : am_mput X1 ff (sz ff) (am_st sz F) o a b c 74 (40 * ff + sz ff) = c := by
    unfold am_mput
    rw [am_u_ne (by decide), am_u_ne (by decide), am_u_eq]
  generalize am_mput X1 ff (sz ff) (am_st sz F) o a b c = X2 at f2 g2 g70 g7x g71 g72 g73 g74 ⊢
  have fX : ∀ k j, (k = 1 → j ≠ 6 ∧ j ≠ 7) → (k < 2 ∨ 6 < k) → (k < 69 ∨ 74 < k ∨ (k = 69 ∧ j ≠ 2)) → X2 k j = X k j := fun k j h1 h2 h3 => (f2 k j h3).trans (hPN.fr k j h1 h2)
  obtain ⟨sz', hsz⟩ : ∃ s : Nat → Nat, s = fun g => if g = ff then sz ff + 1 else sz g := ⟨_, rfl⟩
  have szn : ∀ g, g ≠ ff → sz' g = sz g := fun g h => by rw [hsz]; exact if_neg h
  have szf : sz' ff = sz ff + 1 := by rw [hsz]; exact if_pos rfl
  have stl : ∀ g, g ≤ ff → am_st sz' g = am_st sz g := fun g hg => am_st_cg (fun h hh => szn h (by omega))
  have sth : ∀ d, am_st sz' (ff + 1 + d) = am_st sz (ff + 1 + d) + 1 := by
    intro d
    induction d with
    | zero =>
      show am_st sz' ff + sz' ff = am_st sz ff + sz ff + 1
      rw [stl ff (Nat.le_refl _), szf]
      omega
    | succ d ih =>
      show am_st sz' (ff + 1 + d) + sz' (ff + 1 + d) = am_st sz (ff + 1 + d) + sz (ff + 1 + d) + 1
      rw [ih, szn _ (by omega)]
      omega
  have sth' : ∀ g, ff < g → am_st sz' g = am_st sz g + 1 := fun g hg => by
    obtain ⟨d, hd⟩ := Nat.exists_eq_add_of_le (show ff + 1 ≤ g by omega)
    rw [hd]; exact sth d
  have c16 : ∀ k j, 2 ≤ k → k ≤ 6 → X2 k j = X1 k j := fun k j h1 h2 => f2 k j (by omega)
  have hP2 : am_PG X2 X2 F sz' := by
    refine ⟨hF, (fX 1 5 (by decide) (by decide) (by decide)).trans hP.c5, (fX 69 1 (by decide) (by decide) (by decide)).trans hP.m1, fun g hg => ?_, fun g hg => ?_, fun g hg => ?_, by rw [sth' F hff]; omega, ?_, by rw [g2, sth' F hff], fun g p hg hp => ?_⟩
    · by_cases z : g = ff
      · rw [z, szf]; omega
      · rw [szn g z]; exact hP.s40 g hg
    · rw [g70 g]
      by_cases z : g = ff
      · rw [if_pos z, z, szf]
      · rw [if_neg z, szn g z, hPN.fr 70 g (by omega) (by decide)]; exact hP.m70 g hg
    · rw [c16 6 g (by decide) (by decide), hPN.st g]
      by_cases z : ff < g
      · rw [if_pos ⟨z, hg⟩, hP.c6 g hg, nI_1, sth' g z]
      · rw [if_neg (fun y => z y.1), hP.c6 g hg, stl g (by omega)]
    · rw [f2 1 6 (by decide), hPN.s6, sth' F hff]
    · by_cases z : g = ff
      · subst z
        rw [szf] at hp
        rw [stl g (Nat.le_refl _)]
        by_cases y : p = sz g
        · subst y
          rw [← he0]
          unfold am_IN
          rw [g71, g72, g73, g74, c16 2 _ (by decide) (by decide), c16 3 _ (by decide) (by decide), c16 4 _ (by decide) (by decide), c16 5 _ (by decide) (by decide)]
          exact ⟨hPN.new.1, hPN.new.2.1, hPN.new.2.2.1, hPN.new.2.2.2, hgd⟩
        · have := hP.ins g p hg (by omega)
          unfold am_IN at this ⊢
          rw [g7x 71 _ (by decide) (by decide) (by omega), g7x 72 _ (by decide) (by decide) (by omega), g7x 73 _ (by decide) (by decide) (by omega), g7x 74 _ (by decide) (by decide) (by omega), hPN.fr 71 _ (by omega) (by decide), hPN.fr 72 _ (by omega) (by decide), hPN.fr 73 _ (by omega) (by decide), hPN.fr 74 _ (by omega) (by decide), c16 2 _ (by decide) (by decide), c16 3 _ (by decide) (by decide), c16 4 _ (by decide) (by decide), c16 5 _ (by decide) (by decide), hPN.lo 2 _ (by decide) (by decide) (by omega), hPN.lo 3 _ (by decide) (by decide) (by omega), hPN.lo 4 _ (by decide) (by decide) (by omega), hPN.lo 5 _ (by decide) (by decide) (by omega)]
          exact this
      · rw [szn g z] at hp
        have hgl := hP.lt hg hp
        have h40 := hP.s40 g hg
        have hne : 40 * g + p ≠ 40 * ff + sz ff := by omega
        have := hP.ins g p hg hp
        unfold am_IN at this ⊢
        rw [g7x 71 _ (by decide) (by decide) hne, g7x 72 _ (by decide) (by decide) hne, g7x 73 _ (by decide) (by decide) hne, g7x 74 _ (by decide) (by decide) hne, hPN.fr 71 _ (by omega) (by decide), hPN.fr 72 _ (by omega) (by decide), hPN.fr 73 _ (by omega) (by decide), hPN.fr 74 _ (by omega) (by decide), c16 2 _ (by decide) (by decide), c16 3 _ (by decide) (by decide), c16 4 _ (by decide) (by decide), c16 5 _ (by decide) (by decide)]
        by_cases y : g < ff
        · have l1 : am_st sz (g + 1) ≤ am_st sz ff := am_st_le y
          have l2 : am_st sz (g + 1) = am_st sz g + sz g := rfl
          rw [stl g (by omega), hPN.lo 2 _ (by decide) (by decide) (by omega), hPN.lo 3 _ (by decide) (by decide) (by omega), hPN.lo 4 _ (by decide) (by decide) (by omega), hPN.lo 5 _ (by decide) (by decide) (by omega)]
          exact this
        · have l1 : am_st sz (ff + 1) ≤ am_st sz g := am_st_le (by omega)
          have l2 : am_st sz (ff + 1) = am_st sz ff + sz ff := rfl
          rw [sth' g (by omega), show am_st sz g + 1 + p = am_st sz g + p + 1 by omega, hPN.hi 2 _ (by decide) (by decide) (by omega) hgl, hPN.hi 3 _ (by decide) (by decide) (by omega) hgl, hPN.hi 4 _ (by decide) (by decide) (by omega) hgl, hPN.hi 5 _ (by decide) (by decide) (by omega) hgl]
          exact this
  refine q' X2 e ⟨F, sz', m + 1, by omega, hP2, hB.im.fr (fun k j h1 h2 => fX k j (by omega) (by omega) (by omega)) (fun j h1 h2 => fX 69 j (by omega) (by omega) (by omega)) (fun k j h1 h2 => fX k j (by omega) (by omega) (by omega)), hB.mi.fr (fun k j h1 h2 => fX k j (by omega) (by omega) (by omega)) (fun k h1 h2 => fX k 1 (by omega) (by omega) (by omega)) (fun k j h1 => fX k j (by omega) (by omega) (by omega)), hB.mt.fr (fun k j h1 h2 => fX k j (by omega) (by omega) (by omega)) (fun k h1 h2 => fX k 0 (by omega) (by omega) (by omega)) (fun k j h1 => fX k j (by omega) (by omega) (by omega)), in_fc (X := X) (by omega) (fX 7 5 (by decide) (by decide) (by decide)) ((f2 1 7 (by decide)).trans hPN.s7) hB.sn, (f2 1 7 (by decide)).trans hPN.s7, in_sn (fX 7 5 (by decide) (by decide) (by decide)) hB.sn, by rw [fX 69 12 (by decide) (by decide) (by decide)]; exact hB.wd⟩ hw rfl
end PPT
section PPS
variable {X : Nat → Nat → Int32} {e : am_E} {Q : am_Q} {kc ks n : Nat} {fl rt : Int32}
theorem p_press (hA : in_A X n) (hw : 109 ≤ e.2.1) (K : ∀ v X', md mX12_press [.int fl, .int rt] v X' e (n + 1) → Q (some (.int v)) (hp X' e)) : am_Go (mX11_press, 0, am_ent mX11_press [.ref 0, .int fl, .int rt], [], hp X e, kc, ks, Q) := by
  obtain ⟨F, sz, m, hm, hB⟩ := hA
  have hP := hB.pg
  have hF := hP.hF
  refine c_X11_press hP hB.fc (fun r h1 h5 hr => ?_) (fun C C1 C' B bo ln sp K' i hrf hps hE hL2 hL4 hfr h75 hR => ?_)
  · refine K _ X (fun Q' q' => c_X12_press_no hP hw (by decide) (by decide) h1 h5 hr (fun D' e' hD he1 he2 => q' D' e' ⟨F, sz, m, by omega, ?_⟩ he1 he2))
    exact hB.fr (fun c j a1 a2 => hD c j (by omega)) (fun c j a1 a2 => hD c j (by omega)) (fun j a1 a2 => hD 69 j (by decide)) (fun c j a1 => hD c j (by omega)) (hB.mi.fr (fun c j a1 a2 => hD c j (by omega)) (fun c a1 a2 => hD c 1 (by omega)) (fun c j a1 => hD c j (by omega))) (hB.mt.fr (fun c j a1 a2 => hD c j (by omega)) (fun c a1 a2 => hD c 0 (by omega)) (fun c j a1 => hD c j (by omega)))
  · have hF1 : 1 ≤ F := by
      rcases hrf with ⟨z, _⟩ | ⟨z, _⟩
      · exact absurd z (by decide)
      · omega
    have fC : ∀ c j, c ≠ 12 → (c ≠ 11 ∨ j ≠ 3) → c ≠ 14 → c ≠ 20 → c ≠ 24 → c ≠ 58 → C' c j = C c j := fun c j a1 a2 a3 a4 a5 a6 => (hL4.fr c j a1 a2).trans (hL2.fr c j a3 a4 a5 a6)
    have fCX : ∀ c j, (c < 7 ∨ (c = 7 ∧ j ≠ 4 ∧ j ≠ 5) ∨ 58 < c) → C' c j = X c j := fun c j h => (fC c j (by omega) (by omega) (by omega) (by omega) (by omega) (by omega)).trans (hfr c j (by omega))
    have hPY : am_PG C' C' F sz := hP.fr (fun c j a1 a2 _ => fCX c j (by omega)) (fun c j a1 a2 _ => fCX c j (by omega))
    refine K _ C' (fun Q' q' => c_X12_press_ok hPY (fun c j hc => fCX c j (by omega)) hw (by decide) (by decide) hrf hps hE (am_sS_cg (fun c j a1 a2 => hfr c j (by omega))) (fun S0 S1 S' e' hS h10 h11 hME hMO hN4 he1 he2 => ?_))
    have hIG := ly_IG hE hF1 hL2 hL4 hME hMO hN4 (fun c j hc => hS c j (by omega) (by omega)) h10 h11
    have hv : S' 69 12 = C' 11 3 := by
      rw [hIG.wi.2.2.1, ← hIG.wi.2.1]
      exact hS 11 3 (by decide) (by decide)
    rw [hv]
    have fS : ∀ c j, c < 109 → (c < 7 ∨ (c = 7 ∧ j ≠ 4 ∧ j ≠ 5) ∨ (58 < c ∧ c < 69) ∨ (c = 69 ∧ (j < 10 ∨ 13 < j)) ∨ (70 ≤ c ∧ c ≤ 74) ∨ 92 < c) → S' c j = X c j := fun c j h1 h2 => (hS c j h1 (by omega)).trans (fCX c j (by omega))
    have hP2 : am_PG S' S' F sz := hP.fr (fun c j a1 a2 _ => fS c j (by omega) (by omega)) (fun c j a1 a2 a3 => fS c j (by omega) (by omega))
    have e75 : S' 7 5 = X 1 7 := by
      rw [hS 7 5 (by decide) (by decide), fC 7 5 (by decide) (by decide) (by decide) (by decide) (by decide) (by decide)]; exact h75
    have hR2 : am_FR S' S' F sz i := am_FR_cg (D := X) (fun c j a1 a2 => fS c j (by omega) (by omega)) (hR.u (fun c j hc => (hS c j (by omega) (by omega)).trans (fC c j (by omega) (by omega) (by omega) (by omega) (by omega) (by omega))))
    refine q' S' e' ⟨F, sz, m, by omega, hP2, Or.inr ⟨_, _, _, _, hIG⟩, hB.mi.fr (fun c j a1 a2 => fS c j (by omega) (by omega)) (fun c a1 a2 => fS c 1 (by omega) (by omega)) (fun c j a1 => fS c j (by omega) (by omega)), hB.mt.fr (fun c j a1 a2 => fS c j (by omega) (by omega)) (fun c a1 a2 => fS c 0 (by omega) (by omega)) (fun c j a1 => fS c j (by omega) (by omega)), fun _ => ⟨i, hR2⟩, (fS 1 7 (by decide) (by decide)).trans hB.ch, Or.inr ⟨m, Nat.le_refl _, e75.trans hB.ch⟩, ⟨_, hIG.wi.1, hIG.wi.2.2.1⟩⟩ he1 he2
end PPS
