section AMV
variable {l : Launch} {G : am_G} {p : Program} {e : Env} {R : Room} {s : State} {m : MethodId} {args : Array Value} {below : List Frame} {meth : Method} {c : Code} {Z : State → Prop} {M : am_M} {cells slots : Nat} {tb : Nat → Nat × (Nat → Int32)}
theorem am_iaI : am_in (.arrayClass .int) := by unfold am_in; decide +kernel
theorem am_iaZ : am_in (.arrayClass .boolean) := by unfold am_in; decide +kernel
theorem am_iaO : am_in (.arrayOver (.array .int)) := by unfold am_in; decide +kernel
theorem am_ioI : am_in (.instanceMethod objectInit) := by unfold am_in; decide +kernel
theorem am_ioC : am_in (.code objectInit ⟨#[0xb1]⟩ 1 none) := by unfold am_in; decide +kernel
theorem am_icN : am_in (.native arraycopyName) := by unfold am_in; decide +kernel
theorem am_icS : am_in (.static arraycopyName) := by unfold am_in; decide +kernel
theorem am_icI : am_in (.initialized "java/lang/System") := by unfold am_in; decide +kernel
/-- a new cell at the end -/
theorem am_Hnew {h : am_H} {H H1 : Heap} {sp : am_S} (hH : am_Hp G h H) (hz : H1.size = H.size + 1) (hq : ∀ q, q < H.size → H1[q]? = H[q]?) (hnew : va_at G.1 vwCl (G.2.2.1 + h.2.2.2.1, am_cell G (am_new h sp) h.2.2.2.1) H1) (ht : ∀ t n, sp = .inr (t, n) → t < 3) : am_Hp G (am_new h sp) H1 := by
  refine ⟨by rw [hz, hH.1]; rfl, fun i hi => ?_, fun i hi => ?_, fun i t n hi => ?_⟩
  · have hi : i < h.2.2.2.1 + 1 := hi
    by_cases e : i = h.2.2.2.1
    · subst e; exact hnew
    · have hc : am_cell G (am_new h sp) i = am_cell G h i := by
        have e1 : am_us h.1 h.2.2.2.1 sp i = h.1 i := by unfold am_us; rw [if_neg e]
        have e2 : am_rz h.2.1 h.2.2.2.1 i = h.2.1 i := by funext j; unfold am_rz; rw [if_neg e]
        have e3 : am_dz h.2.2.1 h.2.2.2.1 i = h.2.2.1 i := by funext j; unfold am_dz; rw [if_neg e]
        unfold am_cell am_arrv am_fv am_new
        dsimp only
        rw [e1, e2, e3]
      rw [hc]
      exact (hH.2.1 i (by omega)).kept (hq _ (by show G.2.2.1 + i < H.size; rw [hH.1]; omega))
  · have hi : h.2.2.2.1 + 1 ≤ i := hi
    show am_us h.1 h.2.2.2.1 sp i = _
    unfold am_us
    rw [if_neg (by omega)]
    exact hH.2.2.1 i (by omega)
  · have hi : am_us h.1 h.2.2.2.1 sp i = .inr (t, n) := hi
    unfold am_us at hi
    split at hi
    · exact ht t n hi
    · exact hH.2.2.2 i t n hi
theorem am_Snew {H H1 : Heap} {locs : List Loc} (hS : va_S (am_A G) s.heap H locs) (hz : H.size ≤ H1.size) (hq : ∀ q, q < H.size → H1[q]? = H[q]?) : va_S (am_A G) s.heap H1 locs := ⟨Nat.le_trans hS.1 hz, fun x h1 h2 => (hq x (Nat.lt_of_lt_of_le h1 hS.1)).trans (hS.2.1 x h1 h2), hS.2.2⟩
set_option maxHeartbeats 4000000 in
theorem am_new_s (cx : am_Cx G M tb p s m args meth c) {idx pc ci : Nat} {r : vw_C} (hr1 : vwCl[ci]? = some r) (h1 : am_in (.classLink (am_own M) idx r.1)) (h2 : am_in (.instantiable r.1 r.2.2)) (h3 : am_in (.initialized r.1)) (hd : decode (am_cc M) pc = .ok (.new idx, 3)) {ls st : List Value} {h : am_H} (hc : cells + 1 ≤ R.cells) (hs : slots + r.2.2 ≤ R.slots)
    (K : am_W l G p e R s m args below meth c Z M (cells + 1) (slots + r.2.2) (pc + 3) ls (.ref h.2.2.2.1 :: st) (am_new h (.inl ci))) : am_W l G p e R s m args below meth c Z M cells slots pc ls st h := by
  obtain ⟨hx, hb, hr, hml, hown, hts, hlocks, hnm, hK, hT, hbase⟩ := cx
  intro lsC H locs hL hH hS
  obtain ⟨hin, hty, hnmx, hlen, hkb⟩ := am_cls hr1
  have hKn := hK.1 ci _ hr1
  refine W.newcK hx hb hown (hts _ h1) (hts _ h2) (hts _ h3) rfl hd hc hs hKn.2.1 rfl fun H1 kC hkC e1 z1 o1 => ?_
  rw [hH.1] at e1 ⊢
  refine K lsC H1 locs hL (am_Hnew hH z1 o1 ?_ (fun t n q => by cases q)) (am_Snew hS (by omega) o1)
  have e4 : am_cell G (am_new h (.inl ci)) h.2.2.2.1 = .inr (ci, (List.range (am_kd.getD ci []).length).map (fun k => am_tv G (am_fv (am_new h (.inl ci)) h.2.2.2.1 ci k))) := by
    unfold am_cell
    have : (am_new h (.inl ci)).1 h.2.2.2.1 = .inl ci := by
      show am_us h.1 h.2.2.2.1 (.inl ci) h.2.2.2.1 = _
      unfold am_us
      rw [if_pos rfl]
    rw [this]
  rw [e4]
  refine ⟨r, hr1, (u_born (am_ti ci) hts hin hKn hkC e1 hty).to (fun k hk => ?_)⟩
  unfold vp_V
  rw [List.getD_eq_getElem?_getD, am_fs_get hr1 hk]
  show _ = am_tv G (am_fv (am_new h (.inl ci)) h.2.2.2.1 ci k)
  have f1 : (am_new h (.inl ci)).2.1 h.2.2.2.1 k = none := by
    show am_rz h.2.1 h.2.2.2.1 h.2.2.2.1 k = none
    unfold am_rz; rw [if_pos rfl]
  have f2 : (am_new h (.inl ci)).2.2.1 h.2.2.2.1 k = 0 := by
    show am_dz h.2.2.1 h.2.2.2.1 h.2.2.2.1 k = 0
    unfold am_dz; rw [if_pos rfl]
  unfold am_fv
  rw [f1, f2]
  rcases am_kb_of (hkb k hk) with ⟨g1, g2⟩ | ⟨g1, g2⟩ | ⟨g1, ⟨n, g2⟩ | ⟨n, g2⟩⟩ <;> rw [g1, g2] <;> rfl
theorem am_zcell {h : am_H} {t n : Nat} (ht : Nat.beq t 2 = false) : am_cell G (am_new h (.inr (t, n))) h.2.2.2.1 = .inl (G.2.1 t, n, .inl (fun _ => 0)) := by
  have e1 : (am_new h (.inr (t, n))).1 h.2.2.2.1 = .inr (t, n) := by
    show am_us h.1 h.2.2.2.1 _ h.2.2.2.1 = _
    unfold am_us
    rw [if_pos rfl]
  have e2 : (am_new h (.inr (t, n))).2.2.1 h.2.2.2.1 = fun _ => 0 := by
    funext j
    show am_dz h.2.2.1 h.2.2.2.1 h.2.2.2.1 j = 0
    unfold am_dz
    rw [if_pos rfl]
  unfold am_cell am_arrv
  rw [e1]
  dsimp only
  rw [ht, e2]
set_option maxHeartbeats 4000000 in
theorem am_newa_s (cx : am_Cx G M tb p s m args meth c) {pc t : Nat} {at' : ArrayType} (ha : am_arr at' = some t) (hd : decode (am_cc M) pc = .ok (.newarray at', 2)) {ls rest : List Value} {h : am_H} {x : Int32} (hx0 : ¬ x < 0) (hx1 : x.toNatClampNeg ≤ 100000) (hc : cells + 1 ≤ R.cells) (hs : slots + x.toNatClampNeg ≤ R.slots)
    (K : am_W l G p e R s m args below meth c Z M (cells + 1) (slots + x.toNatClampNeg) (pc + 2) ls (.ref h.2.2.2.1 :: rest) (am_new h (.inr (t, x.toNatClampNeg)))) : am_W l G p e R s m args below meth c Z M cells slots pc ls (.int x :: rest) h := by
  obtain ⟨hx, hb, hr, hml, hown, hts, hlocks, hnm, hK, hT, hbase⟩ := cx
  intro lsC H locs hL hH hS
  cases at' with
  | int =>
    cases ha
    refine va_newaK (atype := .int) hx hb (hts _ am_iaI) rfl hd rfl hx0 rfl (by show _ * 4 ≤ _; omega) hc hs rfl fun H1 cA e1 z1 o1 hAr hNm => ?_
    have hcA : cA = G.2.1 0 := by
      have := (hK.2 0 _ rfl).2
      exact Option.some.inj (hNm.symm.trans this)
    subst hcA
    rw [hH.1] at e1 ⊢
    refine K lsC H1 locs hL (am_Hnew hH z1 o1 ?_ (fun t n q => by cases q; decide)) (am_Snew hS (by omega) o1)
    rw [am_zcell rfl]
    exact e1
  | boolean =>
    cases ha
    refine va_newaK (atype := .boolean) hx hb (hts _ am_iaZ) rfl hd rfl hx0 rfl (by show _ * 1 ≤ _; omega) hc hs rfl fun H1 cA e1 z1 o1 hAr hNm => ?_
    have hcA : cA = G.2.1 1 := by
      have := (hK.2 1 _ rfl).2
      exact Option.some.inj (hNm.symm.trans this)
    subst hcA
    rw [hH.1] at e1 ⊢
    refine K lsC H1 locs hL (am_Hnew hH z1 o1 ?_ (fun t n q => by cases q; decide)) (am_Snew hS (by omega) o1)
    rw [am_zcell rfl]
    exact e1
  | _ => cases ha
set_option maxHeartbeats 4000000 in
theorem am_mna_s (cx : am_Cx G M tb p s m args meth c) {pc idx : Nat} (hcl : am_in (.classLink (am_own M) idx "[[I")) (hd : decode (am_cc M) pc = .ok (.multianewarray idx 2, 4)) {ls rest : List Value} {h : am_H} {x y : Int32} (hx0 : ¬ x < 0) (hy0 : ¬ y < 0) (hx1 : x.toNatClampNeg ≤ 10000) (hy1 : y.toNatClampNeg ≤ 10000) (hc : cells + (1 + x.toNatClampNeg) ≤ R.cells) (hs : slots + (x.toNatClampNeg + x.toNatClampNeg * y.toNatClampNeg) ≤ R.slots)
    (K : am_W l G p e R s m args below meth c Z M (cells + 1 + x.toNatClampNeg) (slots + x.toNatClampNeg + x.toNatClampNeg * y.toNatClampNeg) (pc + 4) ls (.ref h.2.2.2.1 :: rest) (am_new2 h x.toNatClampNeg y.toNatClampNeg)) : am_W l G p e R s m args below meth c Z M cells slots pc ls (.int y :: .int x :: rest) h := by
  obtain ⟨hx, hb, hr, hml, hown, hts, hlocks, hnm, hK, hT, hbase⟩ := cx
  intro lsC H locs hL hH hS T hT0 Xs
  obtain ⟨vm₁, cA, comp, -, fA, fC, hO, -, X', step⟩ := Xs.multianewarray2F hx (ty := .int) hown (hts _ hcl) (hts _ am_iaO) (hts _ am_iaI) (g := F0 m pc lsC ((Value.int y :: .int x :: rest).map (am_tv G))) rfl (by rw [hb]; exact hd) rfl hx0 hy0 (by omega) (by show _ * 4 ≤ _; omega) (by omega) rfl rfl hc hs
  have eI : comp = G.2.1 0 := by
    have := (hK.2 0 _ rfl).2
    exact Option.some.inj (fC.symm.trans this)
  have eA : cA = G.2.1 2 := by
    have := (hK.2 2 _ rfl).2
    exact Option.some.inj (fA.symm.trans this)
  subst eI
  subst eA
  generalize hF : Jvm.Free.Multi.fill (T.setVm vm₁) (G.2.1 2) (G.2.1 0) x.toNatClampNeg y.toNatClampNeg (defaultValue .int) x.toNatClampNeg = F at X' step
  have hTh : (T.setVm vm₁).heap = H := hT0
  obtain ⟨f1, f2, -, -⟩ := Jvm.Free.Multi.fill_facts (T.setVm vm₁) (G.2.1 2) (G.2.1 0) x.toNatClampNeg y.toNatClampNeg (defaultValue .int) x.toNatClampNeg
  rw [hF, hTh] at f1 f2
  have hold : ∀ q : Nat, q < H.size → F.heap[q]? = H[q]? := fun q hq => by
    have := Jvm.Free.Multi.fill_old (T.setVm vm₁) (G.2.1 2) (G.2.1 0) x.toNatClampNeg y.toNatClampNeg (defaultValue .int) (a := q) (by rw [hTh]; exact hq) x.toNatClampNeg
    rw [hF, hTh] at this
    exact this
  have hrow : ∀ j : Nat, j < x.toNatClampNeg → F.heap[H.size + 1 + j]? = some (vp_cell (G.2.1 0) (y.toNatClampNeg, .inl (fun _ => 0))) := fun j hj => by
    have := Jvm.Free.Multi.fill_inner (T.setVm vm₁) (G.2.1 2) (G.2.1 0) x.toNatClampNeg y.toNatClampNeg (defaultValue .int) x.toNatClampNeg j hj
    rw [hF, hTh] at this
    rw [this]
    show some ({ cls := _, slots := Array.replicate _ _, vm := .none } : Cell) = _
    rw [arrV_new]
    rfl
  rw [vr_outer] at f2
  have e : T.heap.size = H.size := by rw [hT0]
  have hH1 : am_Hp G (am_new2 h x.toNatClampNeg y.toNatClampNeg) F.heap := by
    refine ⟨by rw [f1, hH.1]; show _ = G.2.2.1 + (h.2.2.2.1 + 1 + _); omega, fun i hi => ?_, fun i hi => ?_, fun i t n hi => ?_⟩
    · have hi : i < h.2.2.2.1 + 1 + x.toNatClampNeg := hi
      by_cases e1 : i = h.2.2.2.1
      · subst e1
        have e5 : am_cell G (am_new2 h x.toNatClampNeg y.toNatClampNeg) h.2.2.2.1 = .inl (G.2.1 2, x.toNatClampNeg, .inr (.inr (.inr (.inr (fun j => (if j < x.toNatClampNeg then some (h.2.2.2.1 + 1 + j) else none).map (fun q => G.2.2.1 + q)))))) := by
          unfold am_cell am_new2
          simp only [↓reduceIte]
          unfold am_arrv
          simp
        rw [e5]
        show F.heap[G.2.2.1 + h.2.2.2.1]? = some (vp_cell _ _)
        rw [← hH.1, f2]
        show some _ = some (arrV (G.2.1 2) x.toNatClampNeg (fun j => va_rf ((if j < x.toNatClampNeg then some (h.2.2.2.1 + 1 + j) else none).map (fun q => G.2.2.1 + q))))
        refine congrArg some (congrArg (arrV (G.2.1 2) x.toNatClampNeg) (funext fun j => ?_))
        rw [hH.1]
        by_cases hj : j < x.toNatClampNeg
        · simp only [hj, ↓reduceIte, Option.map_some]
          exact congrArg Value.ref (show (G.2.2.1 + h.2.2.2.1 + 1 + j : Nat) = G.2.2.1 + (h.2.2.2.1 + 1 + j) by omega)
        · simp only [hj, ↓reduceIte, Option.map_none]
      · by_cases e2 : h.2.2.2.1 < i
        · have e3 : h.2.2.2.1 < i ∧ i ≤ h.2.2.2.1 + x.toNatClampNeg := ⟨e2, by omega⟩
          have e5 : am_cell G (am_new2 h x.toNatClampNeg y.toNatClampNeg) i = .inl (G.2.1 0, y.toNatClampNeg, .inl (fun _ => 0)) := by
            unfold am_cell am_new2
            simp only [e1, e3, and_self, ↓reduceIte]
            unfold am_arrv
            simp [e3]
          rw [e5]
          show F.heap[G.2.2.1 + i]? = some (vp_cell _ _)
          have := hrow (i - h.2.2.2.1 - 1) (by omega)
          rw [hH.1, show G.2.2.1 + h.2.2.2.1 + 1 + (i - h.2.2.2.1 - 1) = G.2.2.1 + i by omega] at this
          exact this
        · have e3 : ¬ (h.2.2.2.1 < i ∧ i ≤ h.2.2.2.1 + x.toNatClampNeg) := fun q => e2 q.1
          have e5 : am_cell G (am_new2 h x.toNatClampNeg y.toNatClampNeg) i = am_cell G h i := by
            unfold am_cell am_new2 am_arrv am_fv
            simp only [e1, e3, ↓reduceIte]
          rw [e5]
          exact (hH.2.1 i (by omega)).kept (hold _ (by show G.2.2.1 + i < H.size; rw [hH.1]; omega))
    · have hi : h.2.2.2.1 + 1 + x.toNatClampNeg ≤ i := hi
      unfold am_new2
      simp only
      rw [if_neg (by omega), if_neg (by omega)]
      exact hH.2.2.1 i (by omega)
    · unfold am_new2 at hi
      simp only at hi
      split at hi
      · cases hi; decide
      · split at hi
        · cases hi; decide
        · exact hH.2.2.2 i t n hi
  obtain ⟨t, a1, b1⟩ := K lsC F.heap locs hL hH1 (am_Snew hS (by omega) hold) F rfl X'
  refine ⟨t, step t ?_, b1⟩
  rw [e, hH.1]
  exact a1
end AMV
