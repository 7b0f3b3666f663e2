section AMT
variable {l : Launch} {G : am_G} {p : Program} {e : Env} {R : Room} {s : State} {m : MethodId} {args : Array Value} {below : List Frame} {meth : Method} {c : Code} {Z : State → Prop} {M : am_M} {cells slots : Nat} {tb : Nat → Nat × (Nat → Int32)}
theorem am_ary {h : am_H} {H : Heap} (hH : am_Hp G h H) {o t n : Nat} (ho : h.1 o = .inr (t, n)) : o < h.2.2.2.1 ∧ H[G.2.2.1 + o]? = some (vp_cell (G.2.1 t) (n, am_arrv G h o t)) := by
  have hlt : o < h.2.2.2.1 := by
    rcases Nat.lt_or_ge o h.2.2.2.1 with q | q
    · exact q
    · have := hH.2.2.1 o q
      rw [ho] at this
      cases this
  refine ⟨hlt, ?_⟩
  have h1 := hH.2.1 o hlt
  unfold am_cell at h1
  rw [ho] at h1
  exact h1
theorem am_tyof (hK : va_K G.1 vwCl (am_tys G) s) {t : Nat} (ht : t < 3) : ∃ ty, am_tys G = am_tys G ∧ (am_tys G)[t]? = some (G.2.1 t, ty) ∧ ArrOfT s (G.2.1 t) ty := by
  match t, ht with
  | 0, _ => exact ⟨.int, rfl, rfl, (hK.2 0 _ rfl).1⟩
  | 1, _ => exact ⟨.boolean, rfl, rfl, (hK.2 1 _ rfl).1⟩
  | 2, _ => exact ⟨.array .int, rfl, rfl, (hK.2 2 _ rfl).1⟩
theorem am_isArr (hK : va_K G.1 vwCl (am_tys G) s) {h : am_H} {o t n : Nat} (ht : t < 3) : ∃ ty, s.isArrayOf (vp_cell (G.2.1 t) (n, am_arrv G h o t)) ty := by
  obtain ⟨ty, -, -, ha⟩ := am_tyof hK ht
  refine ⟨ty, ?_⟩
  unfold am_arrv
  split
  · exact ha n _
  · exact ha n _
theorem am_csz {h : am_H} {o t n : Nat} : (vp_cell (G.2.1 t) (n, am_arrv G h o t)).slots.size = n := by
  unfold am_arrv
  split
  · exact arrV_size _ _ _
  · exact arrV_size _ _ _
theorem am_cvm {h : am_H} {o t n : Nat} : (vp_cell (G.2.1 t) (n, am_arrv G h o t)).vm ≠ .unknown := by
  unfold am_arrv
  split <;> (intro q; cases q)
theorem am_rest {h h' : am_H} {H H1 : Heap} {o : Nat} (hH : am_Hp G h H) (h1 : h'.1 = h.1) (h2 : h'.2.2.2 = h.2.2.2) (hc : ∀ i, i ≠ o → am_cell G h' i = am_cell G h i) (ho : o < h.2.2.2.1 → va_at G.1 vwCl (G.2.2.1 + o, am_cell G h' o) H1) (hz : H1.size = H.size) (hq : ∀ q : Nat, q ≠ G.2.2.1 + o → H1[q]? = H[q]?) : am_Hp G h' H1 := by
  refine ⟨by rw [hz, hH.1, h2], fun i hi => ?_, fun i hi => ?_, fun i t n hi => ?_⟩
  · rw [h2] at hi
    by_cases e : i = o
    · subst e; exact ho hi
    · rw [hc i e]
      exact (hH.2.1 i hi).kept (hq _ (fun z => e (Nat.add_left_cancel z)))
  · rw [h2] at hi; rw [h1]; exact hH.2.2.1 i hi
  · rw [h1] at hi; exact hH.2.2.2 i t n hi
theorem am_Sput {H H1 : Heap} {locs : List Loc} {o k : Nat} (hS : va_S (am_A G) s.heap H locs) (hz : H1.size = H.size) (hq : ∀ q : Nat, q ≠ G.2.2.1 + o → H1[q]? = H[q]?) : va_S (am_A G) s.heap H1 (locs ++ [⟨G.2.2.1 + o, k⟩]) := hS.put hz hq (Nat.le_add_right _ _)
theorem am_chkF {pc idx k ci : Nat} (hk : am_fl M idx ci = some k) (hchk : am_chk1 M pc (.putfield idx) = true) {r : vw_C} (hr : vwCl[ci]? = some r) : (r.2.1 k).2.2.2 = false ∨ ((am_y M).name = "<init>" ∧ (r.2.1 k).1 = (am_y M).cls) := by
  unfold am_fl at hk
  split at hk
  · rename_i k0 cs hlk
    split at hk
    · rename_i hc
      cases hk
      unfold am_chk1 at hchk
      dsimp only at hchk
      rw [hlk] at hchk
      dsimp only at hchk
      have hm : ci ∈ cs := by simpa using hc
      have := List.all_eq_true.mp hchk ci hm
      rw [hr] at this
      dsimp only at this
      rw [Bool.or_eq_true, Bool.and_eq_true] at this
      rcases this with q | q
      · exact Or.inl (by simpa using q)
      · exact Or.inr ⟨by simpa using q.1, by simpa using q.2⟩
    · cases hk
  · cases hk
set_option maxHeartbeats 4000000 in
theorem am_putW (cx : am_Cx G M tb p s m args meth c) (hM : am_Mok M) {idx pc ci k o : Nat} (hk : am_fl M idx ci = some k) {h h' : am_H} (ho : h.1 o = .inl ci) {v : Value} (hn : narrow (am_ti ci k) v = v) (hfit : fits (am_ti ci k) v = true) (hd : decode (am_cc M) pc = .ok (.putfield idx, 3)) (hchk : am_chk1 M pc (.putfield idx) = true)
    (h1 : h'.1 = h.1) (h2 : h'.2.2.2 = h.2.2.2) (hc : ∀ i, i ≠ o → am_cell G h' i = am_cell G h i) (hco : ∀ j, am_tv G (am_fv h' o ci j) = if j = k then v else am_tv G (am_fv h o ci j))
    {lsC : Array Slot} {H : Heap} {locs : List Loc} {rest : List Value} (hH : am_Hp G h H) (hS : va_S (am_A G) s.heap H locs)
    (kk : ∀ (H1 : Heap) (locs1 : List Loc), am_Hp G h' H1 → va_S (am_A G) s.heap H1 locs1 → W p l e R s m args below meth c H1 locs1 cells slots Z (F0 m (pc + 3) lsC rest)) : W p l e R s m args below meth c H locs cells slots Z (F0 m pc lsC (v :: .ref (G.2.2.1 + o) :: rest)) := by
  obtain ⟨hx, hb, hr, hml, hown, hts, hlocks, hnm, hK, hT, hbase⟩ := cx
  obtain ⟨r, hr1, hkN, hlink⟩ := am_Fof hM hk
  obtain ⟨hlt, cell, q1, q2, q3, q4⟩ := am_obj hH ho hr1
  obtain ⟨hin, hty, hnmx, hlen, -⟩ := am_cls hr1
  have hap := va_apart (own := am_own M) hts hin (am_ti ci) hty hnmx hK hr1
  obtain ⟨hSl, hfc, kC, hkC, hkind⟩ := hK.1 ci _ hr1
  obtain ⟨cf, kf, fi, f, hi, hsl⟩ := hSl k hkN
  have hlay := hts _ (hin _ (u_in_lay hkN))
  have hst := (u_facts hfc hkC (u_lays hts hin hkN) hi).1
  have fin : ∀ H' : Heap, H'[G.2.2.1 + o]? = some (cell.setSlot (G.1.2 ci k) v) → H'.size = H.size → (∀ q : Nat, q ≠ G.2.2.1 + o → H'[q]? = H[q]?) → am_Hp G h' H' := by
    intro H' e1 e2 e3
    refine am_rest hH h1 h2 hc (fun _ => ?_) e2 e3
    have e4 : am_cell G h' o = .inr (ci, (List.range (am_kd.getD ci []).length).map (fun k => am_tv G (am_fv h' o ci k))) := by
      unfold am_cell
      rw [h1, ho]
    rw [e4]
    refine ⟨r, hr1, t_OB.to (V := updV (vp_V ((List.range (am_kd.getD ci []).length).map (fun k => am_tv G (am_fv h o ci k)))) k v) ⟨_, e1, q2, q3, t_set q4 hap hkN v⟩ (fun j hj => ?_)⟩
    have g1 : ∀ hh : am_H, vp_V ((List.range (am_kd.getD ci []).length).map (fun k => am_tv G (am_fv hh o ci k))) j = am_tv G (am_fv hh o ci j) := fun hh => by
      unfold vp_V
      rw [List.getD_eq_getElem?_getD, am_fs_get hr1 hj]
      rfl
    rw [g1, hco]
    unfold updV
    split
    · rfl
    · exact g1 h
  unfold u_lay at hlay
  rcases am_chkF hk hchk hr1 with hf | ⟨hf1, hf2⟩
  · rw [if_neg (by rw [hf]; decide)] at hlay
    have h6 := u_store hfc hkC hkind hlay hi (hty k hkN) hn hfit
    refine W.putK hx hb (f := f) ⟨hown, hts _ hlink, ⟨_, _, _, hi⟩, hst⟩ (by rw [q2]; exact h6) q1 q3 (by rw [hsl]; exact k2_hasslot (q4 k hkN)) rfl rfl hd fun H' e1 e2 e3 => ?_
    rw [hsl] at e1 ⊢
    exact kk H' _ (fin H' e1 e2 e3) (am_Sput hS e2 e3)
  · by_cases hf : (r.2.1 k).2.2.2 = true
    · rw [if_pos hf] at hlay
      have hcf : m.cls = cf := by
        obtain ⟨_, _, c', _, _, _, -, -, hf', -, -, -, hown2, -⟩ := Cond.laysFinal_spec hlay
        have e1 : c' = cf := by have := hi.symm.trans hf'; simp at this; exact this.1.symm
        rw [hf2] at hown2
        rw [← e1]; exact Option.some.inj (hown.symm.trans hown2)
      have h6 := u_fits hfc hkC hkind (Or.inr hlay) hi (hty k hkN) hn hfit
      refine W.putFinK hx hb hown (hts _ hlink) hi hst hcf (hnm.trans hf1) (by rw [q2]; exact h6) q1 q3 (by rw [hsl]; exact k2_hasslot (q4 k hkN)) rfl rfl hd fun H' e1 e2 e3 => ?_
      rw [hsl] at e1 ⊢
      exact kk H' _ (fin H' e1 e2 e3) (am_Sput hS e2 e3)
    · have hf : (r.2.1 k).2.2.2 = false := by simpa using hf
      rw [if_neg (by rw [hf]; decide)] at hlay
      have h6 := u_store hfc hkC hkind hlay hi (hty k hkN) hn hfit
      refine W.putK hx hb (f := f) ⟨hown, hts _ hlink, ⟨_, _, _, hi⟩, hst⟩ (by rw [q2]; exact h6) q1 q3 (by rw [hsl]; exact k2_hasslot (q4 k hkN)) rfl rfl hd fun H' e1 e2 e3 => ?_
      rw [hsl] at e1 ⊢
      exact kk H' _ (fin H' e1 e2 e3) (am_Sput hS e2 e3)
/-- an int written in the abstract heap: which cells change -/
theorem am_cell_u {h : am_H} {o k : Nat} {v : Int32} : ∀ i, i ≠ o → am_cell G (h.1, h.2.1, am_u h.2.2.1 o k v, h.2.2.2) i = am_cell G h i := by
  intro i hi
  have e1 : am_u h.2.2.1 o k v i = h.2.2.1 i := by
    funext j
    unfold am_u
    rw [if_neg (fun q => hi q.1)]
  unfold am_cell am_arrv am_fv
  dsimp only
  rw [e1]
theorem am_cell_r {h : am_H} {o k : Nat} {v : Option Nat} : ∀ i, i ≠ o → am_cell G (h.1, am_ur h.2.1 o k v, h.2.2) i = am_cell G h i := by
  intro i hi
  have e1 : am_ur h.2.1 o k v i = h.2.1 i := by
    funext j
    unfold am_ur
    rw [if_neg (fun q => hi q.1)]
  unfold am_cell am_arrv am_fv
  dsimp only
  rw [e1]
theorem am_fv_u {h : am_H} {o ci k : Nat} {v : Int32} (hk : am_k ci k ≠ 2) (j : Nat) : am_tv G (am_fv (h.1, h.2.1, am_u h.2.2.1 o k v, h.2.2.2) o ci j) = if j = k then .int v else am_tv G (am_fv h o ci j) := by
  unfold am_fv am_u
  dsimp only
  by_cases e : j = k
  · subst e
    have : Nat.beq (am_k ci j) 2 = false := by
      cases q : Nat.beq (am_k ci j) 2
      · rfl
      · exact absurd (Nat.eq_of_beq_eq_true q) hk
    rw [this]
    simp [am_tv]
  · simp [e]
theorem am_fv_r {h : am_H} {o ci k v : Nat} (hk : am_k ci k = 2) (j : Nat) : am_tv G (am_fv (h.1, am_ur h.2.1 o k (some v), h.2.2) o ci j) = if j = k then .ref (G.2.2.1 + v) else am_tv G (am_fv h o ci j) := by
  unfold am_fv am_ur
  dsimp only
  by_cases e : j = k
  · subst e
    rw [hk]
    simp [am_tv, am_vr]
  · simp [e]
set_option maxHeartbeats 4000000 in
theorem am_pf_s (cx : am_Cx G M tb p s m args meth c) (hM : am_Mok M) {idx pc : Nat} (hd : decode (am_cc M) pc = .ok (.putfield idx, 3)) (hchk : am_chk1 M pc (.putfield idx) = true) {ls st ls' st' : List Value} {pc' : Nat} {h h' : am_H} (hs : am_pf M idx pc ls st h = some (pc', ls', st', h')) (K : am_W l G p e R s m args below meth c Z M cells slots pc' ls' st' h') : am_W l G p e R s m args below meth c Z M cells slots pc ls st h := by
  unfold am_pf at hs
  split at hs
  · rename_i v o rest
    split at hs
    · rename_i ci ho
      split at hs
      · rename_i k hk
        split at hs
        · rename_i hk0
          cases hs
          obtain ⟨r, hr1, hkN, hlink⟩ := am_Fof hM hk
          have hty : am_ti ci k = .int := by
            rcases am_kb_of ((am_cls hr1).2.2.2.2 k hkN) with q | q | q
            · exact q.2
            · rw [hk0] at q; cases q.1
            · rw [hk0] at q; cases q.1
          intro lsC H locs hL hH hS
          exact am_putW (h' := (h.1, h.2.1, am_u h.2.2.1 o k v, h.2.2.2)) cx hM hk ho (v := .int v) (by rw [hty]; rfl) (by rw [hty]; rfl) hd hchk rfl rfl am_cell_u (am_fv_u (by rw [hk0]; decide)) hH hS (fun H1 locs1 g1 g2 => K lsC H1 locs1 hL g1 g2)
        · cases hs
      · cases hs
    · cases hs
  · rename_i v o rest
    split at hs
    · rename_i ci ho
      split at hs
      · rename_i k hk
        split at hs
        · rename_i hk0
          have hk0 := Nat.eq_of_beq_eq_true hk0
          cases hs
          obtain ⟨r, hr1, hkN, hlink⟩ := am_Fof hM hk
          have hty : (∃ n, am_ti ci k = .object n) ∨ ∃ n, am_ti ci k = .array n := by
            rcases am_kb_of ((am_cls hr1).2.2.2.2 k hkN) with q | q | q
            · rw [hk0] at q; cases q.1
            · rw [hk0] at q; cases q.1
            · exact q.2
          intro lsC H locs hL hH hS
          exact am_putW (h' := (h.1, am_ur h.2.1 o k (some v), h.2.2)) cx hM hk ho (v := .ref (G.2.2.1 + v)) (by rcases hty with ⟨n, q⟩ | ⟨n, q⟩ <;> rw [q] <;> rfl) (by rcases hty with ⟨n, q⟩ | ⟨n, q⟩ <;> rw [q] <;> rfl) hd hchk rfl rfl am_cell_r (am_fv_r hk0) hH hS (fun H1 locs1 g1 g2 => K lsC H1 locs1 hL g1 g2)
        · cases hs
      · cases hs
    · cases hs
  · cases hs
theorem am_len_s (cx : am_Cx G M tb p s m args meth c) {pc : Nat} (hd : decode (am_cc M) pc = .ok (.arraylength, 1)) {ls st ls' st' : List Value} {pc' : Nat} {h h' : am_H} (htb : h.2.2.2.2 = tb) (hs : am_len pc ls st h = some (pc', ls', st', h')) (K : am_W l G p e R s m args below meth c Z M cells slots pc' ls' st' h') : am_W l G p e R s m args below meth c Z M cells slots pc ls st h := by
  obtain ⟨hx, hb, hr, hml, hown, hts, hlocks, hnm, hK, hT, hbase⟩ := cx
  unfold am_len at hs
  split at hs
  · rename_i o rest
    split at hs
    · rename_i q ho
      obtain ⟨t, n⟩ := q
      cases hs
      intro lsC H locs hL hH hS
      obtain ⟨hlt, hcell⟩ := am_ary hH ho
      obtain ⟨ty, ha⟩ := am_isArr (h := h) (o := o) (n := n) hK (hH.2.2.2 o t n ho)
      exact W.alen hx hb hcell ha (by rw [am_csz]) rfl rfl hd (K lsC H locs hL hH hS)
    · cases hs
  · rename_i j rest
    split at hs
    · rename_i hj
      cases hs
      intro lsC H locs hL hH hS
      subst htb
      exact va_tlen hx hb (hT.1 j (Nat.le_of_ble_eq_true hj)) hS rfl hd (K lsC H locs hL hH hS)
    · cases hs
  · cases hs
set_option maxHeartbeats 16000000 in
/-- A STEP THAT ASKS NOTHING -/
theorem am_step_s (cx : am_Cx G M tb p s m args meth c) (hM : am_Mok M) {i : Instr} {len pc : Nat} (hd : decode (am_cc M) pc = .ok (i, len)) (hchk : am_chk1 M pc i = true) (hl0 : am_elen i = 0 ∨ len = am_elen i) {ls st ls' st' : List Value} {pc' : Nat} {h h' : am_H} (htb : h.2.2.2.2 = tb) (hs : am_step M i pc ls st h = some (pc', ls', st', h')) (K : am_W l G p e R s m args below meth c Z M cells slots pc' ls' st' h') : am_W l G p e R s m args below meth c Z M cells slots pc ls st h := by
  have cx0 := cx
  obtain ⟨hx, hb, hr, hml, hown, hts, hlocks, hnm, hK, hT, hbase⟩ := cx
  have hlen : am_elen i ≠ 0 → len = am_elen i := fun q => hl0.resolve_left q
  clear hl0
  unfold am_step at hs
  split at hs
  · rename_i k
    obtain rfl := hlen (Nat.succ_ne_zero _)
    unfold am_il at hs
    split at hs
    · rename_i x hl
      cases hs
      intro lsC H locs hL hH hS
      exact lv_iload_n hx hb hd rfl (hL.2.2.2 _ _ hl rfl) (K lsC H locs hL hH hS)
    · cases hs
  · rename_i k
    obtain rfl := hlen (Nat.succ_ne_zero _)
    unfold am_il at hs
    split at hs
    · rename_i x hl
      cases hs
      intro lsC H locs hL hH hS
      exact lv_iload hx hb hd (hL.2.2.2 _ _ hl rfl) (K lsC H locs hL hH hS)
    · cases hs
  · rename_i k
    obtain rfl := hlen (Nat.succ_ne_zero _)
    unfold am_al at hs
    split at hs
    · rename_i x hl
      cases hs
      intro lsC H locs hL hH hS
      exact lv_aload_n hx hb hd rfl (hL.2.2.2 _ _ hl rfl) (K lsC H locs hL hH hS)
    · rename_i x hl
      cases hs
      intro lsC H locs hL hH hS
      exact lv_aload_n hx hb hd rfl (hL.2.2.2 _ _ hl rfl) (K lsC H locs hL hH hS)
    · rename_i hl
      cases hs
      intro lsC H locs hL hH hS
      exact lv_aload_nN hx hb hd rfl (hL.2.2.2 _ _ hl rfl) (K lsC H locs hL hH hS)
    · cases hs
  · rename_i k
    obtain rfl := hlen (Nat.succ_ne_zero _)
    unfold am_al at hs
    split at hs
    · rename_i x hl
      cases hs
      intro lsC H locs hL hH hS
      exact lv_aload hx hb hd (hL.2.2.2 _ _ hl rfl) (K lsC H locs hL hH hS)
    · rename_i x hl
      cases hs
      intro lsC H locs hL hH hS
      exact lv_aload hx hb hd (hL.2.2.2 _ _ hl rfl) (K lsC H locs hL hH hS)
    · rename_i hl
      cases hs
      intro lsC H locs hL hH hS
      exact lv_aloadN hx hb hd (hL.2.2.2 _ _ hl rfl) (K lsC H locs hL hH hS)
    · cases hs
  · rename_i k
    obtain rfl := hlen (Nat.succ_ne_zero _)
    unfold am_is at hs
    split at hs
    · rename_i x rest
      split at hs
      · rename_i hn
        cases hs
        intro lsC H locs hL hH hS
        have hn : k.val < am_ml M := by rw [← hL.2.2.1]; exact Nat.le_of_ble_eq_true hn
        exact lv_istore_n hx hb hd rfl hL.has hn rfl (fun ls' hl => K ls' H locs (hL.set hn rfl hl) hH hS)
      · cases hs
    · cases hs
  · rename_i k
    obtain rfl := hlen (Nat.succ_ne_zero _)
    unfold am_is at hs
    split at hs
    · rename_i x rest
      split at hs
      · rename_i hn
        cases hs
        intro lsC H locs hL hH hS
        have hn : k < am_ml M := by rw [← hL.2.2.1]; exact Nat.le_of_ble_eq_true hn
        exact lv_istore hx hb hd hL.has hn rfl (fun ls' hl => K ls' H locs (hL.set hn rfl hl) hH hS)
      · cases hs
    · cases hs
  · rename_i k
    obtain rfl := hlen (Nat.succ_ne_zero _)
    unfold am_as at hs
    split at hs
    · rename_i x rest
      split at hs
      · rename_i hn
        cases hs
        intro lsC H locs hL hH hS
        have hn : k.val < am_ml M := by rw [← hL.2.2.1]; exact Nat.le_of_ble_eq_true hn
        exact lv_astore_n hx hb hd rfl hL.has hn rfl (fun ls' hl => K ls' H locs (hL.set (v := .ref x) hn rfl hl) hH hS)
      · cases hs
    · rename_i x rest
      split at hs
      · rename_i hn
        cases hs
        intro lsC H locs hL hH hS
        have hn : k.val < am_ml M := by rw [← hL.2.2.1]; exact Nat.le_of_ble_eq_true hn
        exact lv_astore_n hx hb hd rfl hL.has hn rfl (fun ls' hl => K ls' H locs (hL.set (v := .retAddr x) hn rfl hl) hH hS)
      · cases hs
    · rename_i rest
      split at hs
      · rename_i hn
        cases hs
        intro lsC H locs hL hH hS
        have hn : k.val < am_ml M := by rw [← hL.2.2.1]; exact Nat.le_of_ble_eq_true hn
        exact lv_astore_nN hx hb hd rfl hL.has hn rfl (fun ls' hl => K ls' H locs (hL.set (v := .null) hn rfl hl) hH hS)
      · cases hs
    · cases hs
  · rename_i k
    obtain rfl := hlen (Nat.succ_ne_zero _)
    unfold am_as at hs
    split at hs
    · rename_i x rest
      split at hs
      · rename_i hn
        cases hs
        intro lsC H locs hL hH hS
        have hn : k < am_ml M := by rw [← hL.2.2.1]; exact Nat.le_of_ble_eq_true hn
        exact lv_astore hx hb hd hL.has hn rfl (fun ls' hl => K ls' H locs (hL.set (v := .ref x) hn rfl hl) hH hS)
      · cases hs
    · rename_i x rest
      split at hs
      · rename_i hn
        cases hs
        intro lsC H locs hL hH hS
        have hn : k < am_ml M := by rw [← hL.2.2.1]; exact Nat.le_of_ble_eq_true hn
        exact lv_astore hx hb hd hL.has hn rfl (fun ls' hl => K ls' H locs (hL.set (v := .retAddr x) hn rfl hl) hH hS)
      · cases hs
    · rename_i rest
      split at hs
      · rename_i hn
        cases hs
        intro lsC H locs hL hH hS
        have hn : k < am_ml M := by rw [← hL.2.2.1]; exact Nat.le_of_ble_eq_true hn
        exact lv_astoreN hx hb hd hL.has hn rfl (fun ls' hl => K ls' H locs (hL.set (v := .null) hn rfl hl) hH hS)
      · cases hs
    · cases hs
  · rename_i k n
    obtain rfl := hlen (Nat.succ_ne_zero _)
    unfold am_ii at hs
    split at hs
    · rename_i x hl
      cases hs
      intro lsC H locs hL hH hS
      have hn : k < am_ml M := by rw [← hL.2.2.1]; exact (List.getElem?_eq_some_iff.mp hl).1
      obtain ⟨k0, hk0⟩ := List.getElem?_of_mem (am_ll_mem (G := G) hl rfl)
      exact lv_iinc hx hb hd hL.has hk0 rfl hn rfl (fun ls' hl2 => K ls' H locs (hL.set hn rfl hl2) hH hS)
    · cases hs
  · obtain rfl := hlen (Nat.succ_ne_zero _)
    cases hs
    intro lsC H locs hL hH hS
    exact lv_iconst hx hb hd rfl (K lsC H locs hL hH hS)
  · obtain rfl := hlen (Nat.succ_ne_zero _)
    cases hs
    intro lsC H locs hL hH hS
    exact lv_bipush hx hb hd rfl (K lsC H locs hL hH hS)
  · obtain rfl := hlen (Nat.succ_ne_zero _)
    cases hs
    intro lsC H locs hL hH hS
    exact lv_sipush hx hb hd rfl (K lsC H locs hL hH hS)
  · obtain rfl := hlen (Nat.succ_ne_zero _)
    unfold am_ldc at hs
    split at hs
    · rename_i v hl
      cases hs
      intro lsC H locs hL hH hS
      exact lv_ldc hx hb hown (hts _ (hM.2.2.2.2.1 _ (am_lk_mem hl))) hd (K lsC H locs hL hH hS)
    · cases hs
  · obtain rfl := hlen (Nat.succ_ne_zero _)
    unfold am_ldc at hs
    split at hs
    · rename_i v hl
      cases hs
      intro lsC H locs hL hH hS
      exact lv_ldcw hx hb hown (hts _ (hM.2.2.2.2.1 _ (am_lk_mem hl))) hd (K lsC H locs hL hH hS)
    · cases hs
  · obtain rfl := hlen (Nat.succ_ne_zero _)
    cases hs
    intro lsC H locs hL hH hS
    exact lv_null hx hb hd (K lsC H locs hL hH hS)
  · obtain rfl := hlen (Nat.succ_ne_zero _)
    unfold am_dup at hs
    split at hs
    · cases hs
      intro lsC H locs hL hH hS
      exact lv_dup hx hb hd rfl (K lsC H locs hL hH hS)
    · cases hs
      intro lsC H locs hL hH hS
      exact lv_dup hx hb hd rfl (K lsC H locs hL hH hS)
    · cases hs
  · obtain rfl := hlen (Nat.succ_ne_zero _)
    unfold am_dup2 at hs
    split at hs
    · cases hs
      intro lsC H locs hL hH hS
      exact lv_dup2_11 hx hb hd rfl rfl (K lsC H locs hL hH hS)
    · cases hs
  · obtain rfl := hlen (Nat.succ_ne_zero _)
    unfold am_pop at hs
    split at hs
    · cases hs
      intro lsC H locs hL hH hS
      exact lv_pop hx hb hd rfl (K lsC H locs hL hH hS)
    · cases hs
      intro lsC H locs hL hH hS
      exact lv_pop hx hb hd rfl (K lsC H locs hL hH hS)
    · cases hs
  · obtain rfl := hlen (Nat.succ_ne_zero _)
    unfold am_bin at hs
    split at hs
    · cases hs
      intro lsC H locs hL hH hS
      exact lv_iadd hx hb hd (K lsC H locs hL hH hS)
    · cases hs
  · obtain rfl := hlen (Nat.succ_ne_zero _)
    unfold am_bin at hs
    split at hs
    · cases hs
      intro lsC H locs hL hH hS
      exact lv_isub hx hb hd (K lsC H locs hL hH hS)
    · cases hs
  · obtain rfl := hlen (Nat.succ_ne_zero _)
    unfold am_bin at hs
    split at hs
    · cases hs
      intro lsC H locs hL hH hS
      exact lv_imul hx hb hd (K lsC H locs hL hH hS)
    · cases hs
  · obtain rfl := hlen (Nat.succ_ne_zero _)
    unfold am_bin at hs
    split at hs
    · cases hs
      intro lsC H locs hL hH hS
      exact lv_iand hx hb hd (K lsC H locs hL hH hS)
    · cases hs
  · obtain rfl := hlen (Nat.succ_ne_zero _)
    unfold am_bin at hs
    split at hs
    · cases hs
      intro lsC H locs hL hH hS
      exact lv_ior hx hb hd (K lsC H locs hL hH hS)
    · cases hs
  · obtain rfl := hlen (Nat.succ_ne_zero _)
    unfold am_bin at hs
    split at hs
    · cases hs
      intro lsC H locs hL hH hS
      exact lv_ixor hx hb hd (K lsC H locs hL hH hS)
    · cases hs
  · obtain rfl := hlen (Nat.succ_ne_zero _)
    unfold am_bin at hs
    split at hs
    · cases hs
      intro lsC H locs hL hH hS
      exact lv_ishl hx hb hd (K lsC H locs hL hH hS)
    · cases hs
  · obtain rfl := hlen (Nat.succ_ne_zero _)
    unfold am_bin at hs
    split at hs
    · cases hs
      intro lsC H locs hL hH hS
      exact lv_ishr hx hb hd (K lsC H locs hL hH hS)
    · cases hs
  · obtain rfl := hlen (Nat.succ_ne_zero _)
    unfold am_bin at hs
    split at hs
    · cases hs
      intro lsC H locs hL hH hS
      exact lv_iushr hx hb hd rfl (K lsC H locs hL hH hS)
    · cases hs
  · obtain rfl := hlen (Nat.succ_ne_zero _)
    unfold am_neg at hs
    split at hs
    · cases hs
      intro lsC H locs hL hH hS
      exact lv_ineg hx hb hd (K lsC H locs hL hH hS)
    · cases hs
  · obtain rfl := hlen (Nat.succ_ne_zero _)
    exact am_if_s cx0 hd hchk hs K
  · obtain rfl := hlen (Nat.succ_ne_zero _)
    exact am_ic_s cx0 hd hchk hs K
  · obtain rfl := hlen (Nat.succ_ne_zero _)
    unfold am_nn at hs
    split at hs
    · cases hs
      intro lsC H locs hL hH hS
      exact lv_ifnull hx hb hd (K lsC H locs hL hH hS)
    · cases hs
      intro lsC H locs hL hH hS
      exact lv_ifnullN hx hb hd (am_tgt hchk) (K lsC H locs hL hH hS)
    · cases hs
  · obtain rfl := hlen (Nat.succ_ne_zero _)
    unfold am_nn at hs
    split at hs
    · cases hs
      intro lsC H locs hL hH hS
      exact lv_ifnonnull hx hb hd (am_tgt hchk) (K lsC H locs hL hH hS)
    · cases hs
      intro lsC H locs hL hH hS
      exact lv_ifnonnullN hx hb hd (K lsC H locs hL hH hS)
    · cases hs
  · obtain rfl := hlen (Nat.succ_ne_zero _)
    cases hs
    intro lsC H locs hL hH hS
    exact lv_goto hx hb hd (am_tgt hchk) (K lsC H locs hL hH hS)
  · exact am_ts_s cx0 hd hchk hs K
  · exact am_lsw_s cx0 hd hchk hs K
  · obtain rfl := hlen (Nat.succ_ne_zero _)
    exact am_gf_s cx0 hM hd hs K
  · obtain rfl := hlen (Nat.succ_ne_zero _)
    unfold am_gs at hs
    split at hs
    · rename_i j hj
      cases hs
      intro lsC H locs hL hH hS
      obtain ⟨z, hz, hlink⟩ := hM.2.2.2.2.2 _ (am_lk_mem hj)
      exact va_gets hx hb (hT.2 j z hz) hS hown (hts _ hlink) (fun _ h9 => h9) hd (K lsC H locs hL hH hS)
    · cases hs
  · obtain rfl := hlen (Nat.succ_ne_zero _)
    exact am_len_s cx0 hd htb hs K
  · obtain rfl := hlen (Nat.succ_ne_zero _)
    exact am_pf_s cx0 hM hd hchk hs K
  · cases hs
end AMT
