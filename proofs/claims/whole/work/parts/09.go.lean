section AMX
variable {l : Launch} {G : am_G} {p : Program} {e : Env} {R : Room} {s : State} {m : MethodId} {args : Array Value} {below : List Frame} {meth : Method} {c : Code} {Z : State → Prop} {M : am_M} {cells slots : Nat} {tb : Nat → Nat × (Nat → Int32)}
set_option maxHeartbeats 4000000 in
theorem am_cpy_s (cx : am_Cx G M tb p s m args meth c) {pc idx : Nat} (hlk : am_in (.methodLink (am_own M) idx arraycopyName)) (hd : decode (am_cc M) pc = .ok (.invokestatic idx, 3)) {ls rest : List Value} {h : am_H} {x dp sp : Int32} {o o0 n0 n1 : Nat} (g0 : h.1 o0 = .inr (0, n0)) (g1 : h.1 o = .inr (0, n1)) (h1 : ¬ sp < 0) (h2 : ¬ dp < 0) (h3 : ¬ x < 0) (h4 : sp.toNatClampNeg + x.toNatClampNeg ≤ n0) (h5 : dp.toNatClampNeg + x.toNatClampNeg ≤ n1) (hfr : 1 ≤ R.frames) (hlo : rest.length + 30 ≤ R.locals) (hcat : ∀ v ∈ rest, v.category = 1)
    (K : am_W l G p e R s m args below meth c Z M cells slots (pc + 3) ls rest (h.1, h.2.1, (fun i j => if i = o then va_cpy (h.2.2.1 o0) (h.2.2.1 o) sp.toNatClampNeg dp.toNatClampNeg x.toNatClampNeg j else h.2.2.1 i j), h.2.2.2)) : am_W l G p e R s m args below meth c Z M cells slots pc ls (.int x :: .int dp :: .ref o :: .int sp :: .ref o0 :: rest) h := by
  obtain ⟨hx, hb, hr, hml, hown, hts, hlocks, hnm, hK, hT, hbase⟩ := cx
  have nn : ∀ z : Int32, ¬ z < 0 → z.toInt = (z.toNatClampNeg : Int) := by
    intro z hz
    have hz0 : (0 : Int) ≤ z.toInt := by
      have := Int32.not_lt.mp hz
      simpa using Int32.le_iff_toInt_le.mp this
    show z.toInt = ((z.toInt.toNat : Nat) : Int)
    omega
  intro lsC H locs hL hH hS T hT0 X
  have hc0 : H[G.2.2.1 + o0]? = some (vp_cell (G.2.1 0) (n0, .inl (h.2.2.1 o0))) := (am_ary hH g0).2
  have hc1 : H[G.2.2.1 + o]? = some (vp_cell (G.2.1 0) (n1, .inl (h.2.2.1 o))) := (am_ary hH g1).2
  obtain ⟨-, k0, hk0, cm0, hkk0⟩ := (hK.2 0 _ rfl).1 n0 (fun j => .int (h.2.2.1 o0 j))
  obtain ⟨-, k1, hk1, cm1, hkk1⟩ := (hK.2 0 _ rfl).1 n1 (fun j => .int (h.2.2.1 o j))
  have hsum : ∀ (r : List Value), (∀ v ∈ r, v.category = 1) → ((r.map (am_tv G)).map fun v => v.category).sum = r.length := by
    intro r
    induction r with
    | nil => intro _; rfl
    | cons v r ih =>
      intro hv
      rw [List.map_cons, List.map_cons, List.sum_cons, ih (fun w hw => hv w (List.mem_cons_of_mem _ hw)), am_tv_cat G v (hv v List.mem_cons_self), List.length_cons]
      omega
  have hnf : nativeFrameWords "java/lang/System" "arraycopy" 5 ≤ 19 := by decide
  have hlo1 : 2 * 0 + ((rest.map (am_tv G)).map fun v => v.category).sum + (nativeFrameWords "java/lang/System" "arraycopy" 5 + 11) ≤ R.locals := by
    rw [hsum rest hcat]
    omega
  obtain ⟨vm', X', step⟩ := X.arraycopy hx hown (hts _ hlk) (hts _ am_icN) (hts _ am_icS) (hts _ am_icI) (src := G.2.2.1 + o0) (dst := G.2.2.1 + o) (cs := vp_cell (G.2.1 0) (n0, .inl (h.2.2.1 o0))) (cd := vp_cell (G.2.1 0) (n1, .inl (h.2.2.1 o))) (srcPos := sp) (destPos := dp) (n := x) (by rw [hT0]; exact hc0) (by rw [hT0]; exact hc1)
    (fun _ h => by cases h) (fun _ h => by cases h) (fun h => by cases h) (fun h => by cases h) hk0 hk1 hkk0 hkk1 (by simp [refKind]) h1 h2 h3
    (by rw [nn sp h1, nn x h3]; show ¬ _ > ((arrV (G.2.1 0) n0 (fun j => .int (h.2.2.1 o0 j))).slots.size : Int); rw [arrV_size]; omega)
    (by rw [nn dp h2, nn x h3]; show ¬ _ > ((arrV (G.2.1 0) n1 (fun j => .int (h.2.2.1 o j))).slots.size : Int); rw [arrV_size]; omega)
    (fun vm₁ _ i hi => by
      have e : (vp_cell (G.2.1 0) (n0, .inl (h.2.2.1 o0))).slots.getD (sp.toNatClampNeg + i) .null = .int (h.2.2.1 o0 (sp.toNatClampNeg + i)) := by
        show (arrV (G.2.1 0) n0 (fun j => .int (h.2.2.1 o0 j))).slots.getD _ _ = _
        rw [Array.getD_eq_getD_getElem?, arrV_read _ _ (by omega)]
        rfl
      refine ⟨?_, ?_⟩
      · rw [e]
        rfl
      · rw [e]
        exact trivial)
    (g := F0 m pc lsC ((Value.int x :: .int dp :: .ref o :: .int sp :: .ref o0 :: rest).map (am_tv G))) rfl (by rw [hml]; exact hL.1) (rest := rest.map (am_tv G)) rfl (by rw [hb]; exact hd) hfr hlo1
  have e1 : copied (vp_cell (G.2.1 0) (n0, .inl (h.2.2.1 o0))) (vp_cell (G.2.1 0) (n1, .inl (h.2.2.1 o))) sp dp x = vp_cell (G.2.1 0) (n1, .inl (va_cpy (h.2.2.1 o0) (h.2.2.1 o) sp.toNatClampNeg dp.toNatClampNeg x.toNatClampNeg)) := va_copied (fun z => .int z) (G.2.1 0) (G.2.1 0) (h.2.2.1 o0) (h.2.2.1 o) h4
  rw [e1] at X' step
  generalize hcl : vp_cell (G.2.1 0) (n1, .inl (va_cpy (h.2.2.1 o0) (h.2.2.1 o) sp.toNatClampNeg dp.toNatClampNeg x.toNatClampNeg)) = cl at X' step
  have hl : G.2.2.1 + o < H.size := (Array.getElem?_eq_some_iff.mp hc1).1
  have hheap : ((T.setVm vm').setCell (G.2.2.1 + o) cl).heap = H.setIfInBounds (G.2.2.1 + o) cl := by rw [← hT0]; rfl
  have oq : ∀ q : Nat, q ≠ G.2.2.1 + o → (H.setIfInBounds (G.2.2.1 + o) cl)[q]? = H[q]? := fun q hq => by simp [Array.getElem?_setIfInBounds, Ne.symm hq]
  have hcell : ∀ i, i ≠ o → am_cell G (h.1, h.2.1, (fun i j => if i = o then va_cpy (h.2.2.1 o0) (h.2.2.1 o) sp.toNatClampNeg dp.toNatClampNeg x.toNatClampNeg j else h.2.2.1 i j), h.2.2.2) i = am_cell G h i := by
    intro i hi
    unfold am_cell am_arrv am_fv
    simp only [hi, ↓reduceIte]
  have hco : am_cell G (h.1, h.2.1, (fun i j => if i = o then va_cpy (h.2.2.1 o0) (h.2.2.1 o) sp.toNatClampNeg dp.toNatClampNeg x.toNatClampNeg j else h.2.2.1 i j), h.2.2.2) o = .inl (G.2.1 0, n1, .inl (va_cpy (h.2.2.1 o0) (h.2.2.1 o) sp.toNatClampNeg dp.toNatClampNeg x.toNatClampNeg)) := by
    unfold am_cell am_arrv
    simp only [g1, ↓reduceIte]
  obtain ⟨t, a1, b1⟩ := K lsC _ _ hL (am_rest hH rfl rfl hcell (fun _ => by rw [hco]; show (H.setIfInBounds (G.2.2.1 + o) cl)[G.2.2.1 + o]? = some _; rw [← hcl]; simp [Array.getElem?_setIfInBounds, hl]) (by simp) oq) ⟨by simp; exact hS.1, fun q g1 g2 => by
      rw [oq q (fun e => g2 (by rw [e]; exact Nat.le_add_right _ _))]
      exact hS.2.1 q g1 g2, fun q hq => by
      rcases List.mem_append.mp hq with h | h
      · exact hS.2.2 q h
      · obtain ⟨z, -, hz⟩ := List.mem_map.mp h
        rw [← hz]
        exact Nat.le_add_right _ _⟩ _ hheap X'
  exact ⟨t, step t a1, b1⟩
theorem am_step_tb {i : Instr} {pc pc' : Nat} {ls st ls' st' : List Value} {h h' : am_H} (hs : am_step M i pc ls st h = some (pc', ls', st', h')) : h'.2.2.2.2 = h.2.2.2.2 := by
  unfold am_step at hs
  split at hs
  all_goals first
    | (cases hs; rfl)
    | (unfold am_il at hs; split at hs <;> cases hs <;> rfl)
    | (unfold am_al at hs; split at hs <;> cases hs <;> rfl)
    | (unfold am_is at hs; split at hs <;> (try split at hs) <;> cases hs <;> rfl)
    | (unfold am_as at hs; split at hs <;> (try split at hs) <;> cases hs <;> rfl)
    | (unfold am_ii at hs; split at hs <;> cases hs <;> rfl)
    | (unfold am_ldc at hs; split at hs <;> cases hs <;> rfl)
    | (unfold am_dup at hs; split at hs <;> cases hs <;> rfl)
    | (unfold am_dup2 at hs; split at hs <;> cases hs <;> rfl)
    | (unfold am_pop at hs; split at hs <;> cases hs <;> rfl)
    | (unfold am_bin at hs; split at hs <;> cases hs <;> rfl)
    | (unfold am_neg at hs; split at hs <;> cases hs <;> rfl)
    | (unfold am_if at hs; split at hs <;> (try split at hs) <;> cases hs <;> rfl)
    | (unfold am_ic at hs; split at hs <;> (try split at hs) <;> cases hs <;> rfl)
    | (unfold am_nn at hs; split at hs <;> cases hs <;> rfl)
    | (unfold am_ts at hs; split at hs <;> cases hs <;> rfl)
    | (unfold am_lsw at hs; split at hs <;> cases hs <;> rfl)
    | (unfold am_gf at hs; split at hs <;> (try split at hs) <;> (try split at hs) <;> cases hs <;> rfl)
    | (unfold am_gs at hs; split at hs <;> cases hs <;> rfl)
    | (unfold am_len at hs; split at hs <;> (try split at hs) <;> cases hs <;> rfl)
    | (unfold am_pf at hs; split at hs <;> (try split at hs) <;> (try split at hs) <;> (try split at hs) <;> cases hs <;> rfl)
    | (exact absurd hs (by simp))
theorem am_mem_tb {i : Instr} {P : Prop} {pc pc' : Nat} {ls st ls' st' : List Value} {h h' : am_H} (hs : am_mem M i pc ls st h = some (P, pc', ls', st', h')) : h'.2.2.2.2 = h.2.2.2.2 := by
  unfold am_mem at hs
  split at hs <;> (try split at hs) <;> (try split at hs) <;> (try split at hs) <;> (try split at hs) <;> cases hs <;> rfl
def am_X (l : Launch) : am_K → Prop := fun (M, pc, ls, st, h, kc, ks, Q) => am_Mok M → kc ≤ (am_rm M).cells → ks ≤ (am_rm M).slots → ∀ (G : am_G) (tb : Nat → Nat × (Nat → Int32)) (p : Program) (e : Env) (s : State) (m : MethodId) (args : Array Value) (below : List Frame) (meth : Method) (c : Code), h.2.2.2.2 = tb → am_Cx G M tb p s m args meth c →
  am_W l G p e (am_rm M) s m args below meth c (MQ below (am_Qc G tb Q) args s (am_rm M).cells (am_rm M).slots (am_A G)) M ((am_rm M).cells - kc) ((am_rm M).slots - ks) pc ls st h
theorem am_sum1 : ∀ (r : List Value), (∀ v ∈ r, v.category = 1) → ((r.map (am_tv G)).map fun v => v.category).sum = r.length
  | [], _ => rfl
  | v :: r, hv => by
    rw [List.map_cons, List.map_cons, List.sum_cons, am_sum1 r (fun w hw => hv w (List.mem_cons_of_mem _ hw)), am_tv_cat G v (hv v List.mem_cons_self), List.length_cons]
    omega
theorem am_Wcs {cells' slots' pc : Nat} {ls st : List Value} {h : am_H} (h1 : cells = cells') (h2 : slots = slots') (K : am_W l G p e R s m args below meth c Z M cells' slots' pc ls st h) : am_W l G p e R s m args below meth c Z M cells slots pc ls st h := by
  subst h1; subst h2; exact K
theorem am_pre {h : am_H} {as : List Value} {H : Heap} {locs : List Loc} (cx : am_Cx G M tb p s m args meth c) (hH : am_Hp G h H) (hS : va_S (am_A G) s.heap H locs) : PreS s H (am_Pc G tb h as) (as.map (am_tv G)) := by
  obtain ⟨hx, hb, hr, hml, hown, hts, hlocks, hnm, hK, hT, hbase⟩ := cx
  exact ⟨am_blind, fun U hU hW => ⟨rfl, by rw [hU]; exact hH, va_K.moved hW.alike hK, hT.to hS hU hW.alike⟩⟩
/-- behind a call the run goes on -/
theorem am_back {pc : Nat} {ls rest : List Value} {lsC : Array Slot} {Q1 : am_Q} {M' : am_M} {kc ks : Nat} (hL : am_Lo G lsC (am_ml M) ls) (hkc : kc ≤ (am_rm M).cells) (hks : ks ≤ (am_rm M).slots) (h1 : (am_rm M').cells ≤ kc) (h2 : (am_rm M').slots ≤ ks)
    (kk : ∀ (r : Option Value) (h1 : am_H), Q1 r h1 → h1.2.2.2.2 = tb → am_W l G p e R s m args below meth c Z M ((am_rm M).cells - (kc - (am_rm M').cells)) ((am_rm M).slots - (ks - (am_rm M').slots)) (pc + 3) ls (r.toList ++ rest) h1) :
    ∀ (r : Option Value) (h1 : am_H) (H1 : Heap) (locs1 : List Loc), Q1 r h1 → am_Hp G h1 H1 → h1.2.2.2.2 = tb → va_S (am_A G) s.heap H1 locs1 → W p l e R s m args below meth c H1 locs1 ((am_rm M).cells - kc + (am_rm M').cells) ((am_rm M).slots - ks + (am_rm M').slots) Z (F0 m (pc + 3) lsC ((r.map (am_tv G)).toList ++ rest.map (am_tv G))) := by
  intro r h1 H1 locs1 hq hH1 ht hS1
  have := kk r h1 hq ht lsC H1 locs1 hL hH1 hS1
  rw [show (am_rm M).cells - (kc - (am_rm M').cells) = (am_rm M).cells - kc + (am_rm M').cells by omega, show (am_rm M).slots - (ks - (am_rm M').slots) = (am_rm M).slots - ks + (am_rm M').slots by omega] at this
  cases r <;> exact this
end AMX
