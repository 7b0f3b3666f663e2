section AMU
variable {l : Launch} {G : am_G} {p : Program} {e : Env} {R : Room} {s : State} {m : MethodId} {args : Array Value} {below : List Frame} {meth : Method} {c : Code} {Z : State → Prop} {M : am_M} {cells slots : Nat} {tb : Nat → Nat × (Nat → Int32)}
theorem am_one {D : va_G} {cl : List vw_C} {q : Nat × va_E} {H : Heap} (h : va_at D cl q H) : va_P D cl [q] H := fun k z hz => by
  cases k with
  | zero => cases hz; exact h
  | succ k => simp at hz
theorem am_tv_vr (G : am_G) (x : Option Nat) : am_tv G (am_vr x) = va_rf (x.map (fun q => G.2.2.1 + q)) := by cases x <;> rfl
theorem am_lt {x : Int32} {n : Nat} (h : vp_in x n) : x.toNatClampNeg < n := Nat.not_le.mp fun q => h (Or.inr q)
theorem am_cell_st {h : am_H} {o t n k : Nat} {v : Int32} (ho : h.1 o = .inr (t, n)) (ht : Nat.beq t 2 = false) : am_cell G (h.1, h.2.1, am_u h.2.2.1 o k v, h.2.2.2) o = .inl (G.2.1 t, n, .inl (upd (h.2.2.1 o) k v)) := by
  unfold am_cell am_arrv
  dsimp only
  rw [ho]
  dsimp only
  rw [ht]
  dsimp only
  have e1 : am_u h.2.2.1 o k v o = upd (h.2.2.1 o) k v := by
    funext j
    unfold am_u upd
    simp
  rw [e1]
theorem am_upd_cell {cA : ClassId} {n k : Nat} {f : Nat → Int32} {v : Int32} : (vp_cell cA (n, .inl f)).setSlot k (.int v) = vp_cell cA (n, .inl (upd f k v)) := by
  show (arrV cA n (fun j => .int (f j))).setSlot k (.int v) = arrV cA n (fun j => .int (upd f k v j))
  rw [arrV_store]
  refine congrArg (arrV cA n) (funext fun j => ?_)
  unfold updV upd
  split <;> rfl
set_option maxHeartbeats 16000000 in
/-- A STEP THAT ASKS SOMETHING -/
theorem am_mem_s (cx : am_Cx G M tb p s m args meth c) (hM : am_Mok M) {i : Instr} {len pc : Nat} (hd : decode (am_cc M) pc = .ok (i, len)) (hchk : am_chk1 M pc i = true) (hl0 : am_elen i = 0 ∨ len = am_elen i) {P : Prop} {ls st ls' st' : List Value} {pc' : Nat} {h h' : am_H} (htb : h.2.2.2.2 = tb) (hs : am_mem M i pc ls st h = some (P, pc', ls', st', h')) (hP : P) (K : am_W l G p e R s m args below meth c Z M cells slots pc' ls' st' h') : am_W l G p e R s m args below meth c Z M cells slots pc ls st h := by
  have cx0 := cx
  obtain ⟨hx, hb, hr, hml, hown, hts, hlocks, hnm, hK, hT, hbase⟩ := cx
  have hlen : am_elen i ≠ 0 → len = am_elen i := fun q => hl0.resolve_left q
  clear hl0
  unfold am_mem at hs
  split at hs
  · obtain rfl := hlen (Nat.succ_ne_zero _)
    split at hs
    · rename_i x o rest
      split at hs
      · rename_i n ho
        cases hs
        intro lsC H locs hL hH hS
        exact va_iald hx hb hK (am_one (q := (G.2.2.1 + o, .inl (G.2.1 0, n, .inl (h.2.2.1 o)))) (am_ary hH ho).2) 0 0 rfl rfl hP hd (K lsC H locs hL hH hS)
      · cases hs
    · rename_i x j rest
      split at hs
      · rename_i hj
        cases hs
        intro lsC H locs hL hH hS
        subst htb
        exact va_ti hx hb (hT.1 j (Nat.le_of_ble_eq_true hj)) hS hP rfl hd (K lsC H locs hL hH hS)
      · cases hs
    · cases hs
  · obtain rfl := hlen (Nat.succ_ne_zero _)
    split at hs
    · rename_i x o rest
      split at hs
      · rename_i n ho
        cases hs
        intro lsC H locs hL hH hS
        exact va_zald hx hb hK (am_one (q := (G.2.2.1 + o, .inl (G.2.1 1, n, .inl (h.2.2.1 o)))) (am_ary hH ho).2) 0 1 rfl rfl hP hd (K lsC H locs hL hH hS)
      · cases hs
    · cases hs
  · obtain rfl := hlen (Nat.succ_ne_zero _)
    split at hs
    · rename_i x o rest
      split at hs
      · rename_i n ho
        cases hs
        intro lsC H locs hL hH hS
        obtain ⟨hlt, hcell⟩ := am_ary hH ho
        have K1 := K lsC H locs hL hH hS
        rw [List.map_cons, am_tv_vr] at K1
        have hcell : H[G.2.2.1 + o]? = some (arrV (G.2.1 2) n (fun j => va_rf ((h.2.1 o j).map (fun q => G.2.2.1 + q)))) := hcell
        exact W.aald hx hb hcell ((hK.2 2 _ rfl).1 n _) rfl (fun q => by cases q) (by rw [arrV_size]; exact hP) (arrV_read _ _ (am_lt hP)) rfl rfl hd K1
      · cases hs
    · cases hs
  · obtain rfl := hlen (Nat.succ_ne_zero _)
    split at hs
    · rename_i v x o rest
      split at hs
      · rename_i n ho
        cases hs
        intro lsC H locs hL hH hS
        obtain ⟨hlt, hcell⟩ := am_ary hH ho
        have hcell : H[G.2.2.1 + o]? = some (vp_cell (G.2.1 0) (n, .inl (h.2.2.1 o))) := hcell
        refine W.iast hx hb hcell ((hK.2 0 _ rfl).1 n _) (fun q => by cases q) (by show ¬ (x < 0 ∨ (arrV _ n _).slots.size ≤ _); rw [arrV_size]; exact hP) rfl rfl hd (fun H1 e1 e2 e3 => ?_)
        rw [am_upd_cell] at e1
        exact K lsC H1 _ hL (am_rest hH rfl rfl am_cell_u (fun _ => by rw [am_cell_st ho rfl]; exact e1) e2 e3) (am_Sput hS e2 e3)
      · cases hs
    · cases hs
  · obtain rfl := hlen (Nat.succ_ne_zero _)
    split at hs
    · rename_i v x o rest
      split at hs
      · rename_i n ho
        cases hs
        intro lsC H locs hL hH hS
        obtain ⟨hlt, hcell⟩ := am_ary hH ho
        have hcell : H[G.2.2.1 + o]? = some (vp_cell (G.2.1 1) (n, .inl (h.2.2.1 o))) := hcell
        refine W.zast hx hb hcell ((hK.2 1 _ rfl).1 n _) (fun q => by cases q) (by show ¬ (x < 0 ∨ (arrV _ n _).slots.size ≤ _); rw [arrV_size]; exact hP) rfl rfl hd (fun H1 e1 e2 e3 => ?_)
        have e1 : H1[G.2.2.1 + o]? = some ((vp_cell (G.2.1 1) (n, .inl (h.2.2.1 o))).setSlot x.toNatClampNeg (.int (v &&& 1))) := e1
        rw [am_upd_cell] at e1
        exact K lsC H1 _ hL (am_rest hH rfl rfl am_cell_u (fun _ => by rw [am_cell_st ho rfl]; exact e1) e2 e3) (am_Sput hS e2 e3)
      · cases hs
    · cases hs
  · obtain rfl := hlen (Nat.succ_ne_zero _)
    split at hs
    · cases hs
      intro lsC H locs hL hH hS
      exact lv_idiv hx hb hd hP (K lsC H locs hL hH hS)
    · cases hs
  · obtain rfl := hlen (Nat.succ_ne_zero _)
    split at hs
    · cases hs
      intro lsC H locs hL hH hS
      exact lv_irem hx hb hd hP (K lsC H locs hL hH hS)
    · cases hs
  · obtain rfl := hlen (Nat.succ_ne_zero _)
    split at hs
    · rename_i v o rest
      split at hs
      · rename_i ci ho
        split at hs
        · rename_i k hk
          split at hs
          · rename_i hk0
            cases hs
            obtain ⟨r, hr1, hkN, hlink⟩ := am_Fof hM hk
            have hty : am_ti ci k = .boolean := by
              rcases am_kb_of ((am_cls hr1).2.2.2.2 k hkN) with q | q | q
              · rw [hk0] at q; cases q.1
              · exact q.2
              · rw [hk0] at q; cases q.1
            intro lsC H locs hL hH hS
            exact am_putW (h' := (h.1, h.2.1, am_u h.2.2.1 o k v, h.2.2.2)) cx0 hM hk ho (v := .int v) (by rw [hty]; rcases hP with rfl | rfl <;> rfl) (by rw [hty]; rcases hP with rfl | rfl <;> rfl) hd hchk rfl rfl am_cell_u (am_fv_u (by rw [hk0]; decide)) hH hS (fun H1 locs1 g1 g2 => K lsC H1 locs1 hL g1 g2)
          · cases hs
        · cases hs
      · cases hs
    · cases hs
  · cases hs
/-! calls -/
def am_Qc (G : am_G) (tb : Nat → Nat × (Nat → Int32)) (Q : am_Q) : Array Value → State → Outcome → State → Prop := fun _ st o t => (∃ (r : Option Value) (h1 : am_H), o = .returned (r.map (am_tv G)) ∧ Q r h1 ∧ am_Hp G h1 t.heap ∧ h1.2.2.2.2 = tb) ∧ va_F (am_A G) st t
def am_Pc (G : am_G) (tb : Nat → Nat × (Nat → Int32)) (h : am_H) (as : List Value) : Array Value → State → Prop := fun v U => v = (as.map (am_tv G)).toArray ∧ am_Hp G h U.heap ∧ va_K G.1 vwCl (am_tys G) U ∧ am_T G tb U
theorem am_T.to {U : State} {H : Heap} {locs : List Loc} (h : am_T G tb s) (hS : va_S (am_A G) s.heap H locs) (hU : U.heap = H) (hvm : s.vm.Alike U.vm) : am_T G tb U := by
  refine ⟨fun j hj => ?_, fun j z hz => ?_⟩
  · exact va_T.moved hvm (by rw [hU]; exact (h.1 j hj).kept (fun a h1 h2 => hS.2.1 a h1 h2))
  · exact va_Z.moved hvm (by rw [hU]; exact (h.2 j z hz).kept (fun a h1 h2 => hS.2.1 a h1 h2))
theorem am_blind {h : am_H} {as : List Value} : FrameBlind (am_Pc G tb h as) := by
  intro a U g mk ⟨q1, q2, q3, q4⟩
  refine ⟨q1, q2, va_K.moved (u := U) (U := U.calling g mk a) (Vm.Alike.refl U.vm) q3, ⟨fun j hj => va_T.moved (u := U) (U := U.calling g mk a) (Vm.Alike.refl U.vm) (q4.1 j hj), fun j z hz => va_Z.moved (u := U) (U := U.calling g mk a) (Vm.Alike.refl U.vm) (q4.2 j z hz)⟩⟩
theorem am_call {pc : Nat} {lsC : Array Slot} {rest st0 : List Value} {a : Array Value} {H : Heap} {locs : List Loc} {mc ms : Nat} {Q1 : am_Q} (hr : va_Run p l e R s m args below meth c H locs cells slots mc ms (F0 m pc lsC st0) rest (am_Qc G tb Q1 a) (am_A G)) (hS : va_S (am_A G) s.heap H locs)
    (kk : ∀ (r : Option Value) (h1 : am_H) (H1 : Heap) (locs1 : List Loc), Q1 r h1 → am_Hp G h1 H1 → h1.2.2.2.2 = tb → va_S (am_A G) s.heap H1 locs1 → W p l e R s m args below meth c H1 locs1 (cells + mc) (slots + ms) Z (F0 m (pc + 3) lsC ((r.map (am_tv G)).toList ++ rest))) : W p l e R s m args below meth c H locs cells slots Z (F0 m pc lsC st0) := by
  intro T hT X
  obtain ⟨v, st₀, t, T', L, h0, X', hL, e1, e2, ⟨⟨r, h1, hv, hq, hH1, htb⟩, hz, hk⟩, st⟩ := hr T hT X
  have hv : v = r.map (am_tv G) := by injection hv
  rw [h0] at hz hk
  subst hv
  obtain ⟨t2, a1, b1⟩ := kk r h1 T'.heap (locs ++ L) hq (by rw [e1]; exact hH1) htb
    ⟨Nat.le_trans hS.1 (by rw [e1]; exact hz), fun q g1 g2 => by rw [e1, hk q (Nat.lt_of_lt_of_le g1 hS.1) g2]; exact hS.2.1 q g1 g2, fun q hq => by
      rcases List.mem_append.mp hq with h | h
      · exact hS.2.2 q h
      · exact hL q h⟩ T' rfl X'
  exact ⟨t2, st t2 a1, b1⟩
theorem am_sl : ∀ (vs : List Value), (∀ v ∈ vs, v.category = 1) → (lg_sl vs).length = vs.length
  | [], _ => rfl
  | v :: vs, h => by
    have h1 := h v List.mem_cons_self
    have e : lg_sl (v :: vs) = [Slot.val v] ++ lg_sl vs := by
      unfold lg_sl
      rw [List.flatMap_cons, if_neg (by rw [h1]; decide)]
    rw [e, List.length_append, am_sl vs (fun w hw => h w (List.mem_cons_of_mem _ hw))]
    simp
    omega
theorem am_args : ∀ (vs : List Value) (k i : Nat) (v : Value), (∀ v ∈ vs, v.category = 1) → vs[i]? = some v → (k + i, v) ∈ lv_args k vs
  | [], _, _, _, _, h => by simp at h
  | w :: vs, k, i, v, hc, h => by
    unfold lv_args
    cases i with
    | zero => cases h; exact List.mem_cons_self
    | succ i =>
      rw [if_neg (by rw [hc w List.mem_cons_self]; decide)]
      have := am_args vs (k + 1) i v (fun w hw => hc w (List.mem_cons_of_mem _ hw)) h
      rw [show k + (i + 1) = k + 1 + i by omega]
      exact List.mem_cons_of_mem _ this
theorem am_met {M' : am_M} (hM' : am_Mok M') {as : List Value} {h : am_H} {Q1 : am_Q} (hc : ∀ v ∈ as, v.category = 1) (hn : as.length ≤ am_ml M')
    (hX : ∀ (p : Program) (e : Env) (s : State) (m : MethodId) (args : Array Value) (below : List Frame) (meth : Method) (c : Code), am_Cx G M' tb p s m args meth c → am_W l G p e (am_rm M') s m args below meth c (MQ below (am_Qc G tb Q1) args s (am_rm M').cells (am_rm M').slots (am_A G)) M' 0 0 0 (am_ent M' as) [] h) :
    Met l (am_y M') (am_word M' :: lw_g) (am_rm M') (am_Pc G tb h as) (am_Qc G tb Q1) (am_rm M').cells (am_rm M').slots (am_A G) := by
  refine Met.ofW (cc := am_cc M') (maxL := am_ml M') (ret := am_ret M') hM'.1 rfl ?_
  intro p e s m args below meth c s₁ B hml hv
  obtain ⟨rfl, hH, hK, hT⟩ := hv
  have hts := atoms_spec (ws := am_word M' :: lw_g) B.pre
  have hown : s.vm.findClass (am_own M') = some m.cls := findClass_of_methodNamed B.named
  have W0 := hX p e s m _ below meth c ⟨B.exec, B.bytes, B.returns, hml, hown, fun w hw => hts w (List.mem_cons_of_mem _ hw), B.notSynchronized, (name_of_methodNamed B.named B.method).1, hK, hT, by rw [hH.1]; exact Nat.le_add_right _ _⟩
  have hc' : ∀ v ∈ as.map (am_tv G), v.category = 1 := fun v hv => by
    obtain ⟨w, hw, rfl⟩ := List.mem_map.mp hv
    exact am_tv_cat G w (hc w hw)
  have hl := lv_entry (as.map (am_tv G)) (n := am_ml M') (by rw [am_sl _ hc', List.length_map]; exact hn)
  rw [lg_entry_eq]
  refine W0 _ s.heap [] ⟨hl.1, hl.2.1, ?_, fun i v hi hv => ?_⟩ hH va_S.rf
  · unfold am_ent
    rw [List.length_append, List.length_replicate]
    omega
  · unfold am_ent at hi
    by_cases hlt : i < as.length
    · rw [List.getElem?_append_left hlt] at hi
      have := am_args (as.map (am_tv G)) 0 i (am_tv G v) hc' (by rw [List.getElem?_map, hi]; rfl)
      rw [Nat.zero_add] at this
      exact hl.2.2 _ this
    · rw [List.getElem?_append_right (by omega)] at hi
      have := List.eq_of_mem_replicate (List.mem_of_getElem? hi)
      rw [this] at hv
      cases hv
end AMU
