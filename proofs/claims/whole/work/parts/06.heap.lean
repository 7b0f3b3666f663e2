section AMT
variable {l : Launch} {G : am_G} {p : Program} {e : Env} {R : Room} {s : State} {m : MethodId} {args : Array Value} {below : List Frame} {meth : Method} {c : Code} {Z : State → Prop} {M : am_M} {cells slots : Nat} {tb : Nat → Nat × (Nat → Int32)}
theorem am_ary {h : am_H} {H : Heap} (hH : am_Hp G h H) {o t n : Nat} (ho : h.1 o = .inr (t, n)) : o < h.2.2.2.1 ∧ H[G.2.2.1 + o]? = some (vp_cell (G.2.1 t) (n, am_arrv G h o t)) := by
  have hlt : o < h.2.2.2.1 := by
    rcases Nat.lt_or_ge o h.2.2.2.1 with q | q
    · exact q
    · have := hH.2.2.1 o q
      rw [ho] at this
      cases this
  refine ⟨hlt, ?_⟩
  have h1 := hH.2.1 o hlt
  unfold am_cell at h1
  rw [ho] at h1
  exact h1
theorem am_tyof (hK : va_K G.1 vwCl (am_tys G) s) {t : Nat} (ht : t < 3) : ∃ ty, am_tys G = am_tys G ∧ (am_tys G)[t]? = some (G.2.1 t, ty) ∧ ArrOfT s (G.2.1 t) ty := by
  match t, ht with
  | 0, _ => exact ⟨.int, rfl, rfl, (hK.2 0 _ rfl).1⟩
  | 1, _ => exact ⟨.boolean, rfl, rfl, (hK.2 1 _ rfl).1⟩
  | 2, _ => exact ⟨.array .int, rfl, rfl, (hK.2 2 _ rfl).1⟩
theorem am_isArr (hK : va_K G.1 vwCl (am_tys G) s) {h : am_H} {o t n : Nat} (ht : t < 3) : ∃ ty, s.isArrayOf (vp_cell (G.2.1 t) (n, am_arrv G h o t)) ty := by
  obtain ⟨ty, -, -, ha⟩ := am_tyof hK ht
  refine ⟨ty, ?_⟩
  unfold am_arrv
  split
  · exact ha n _
  · exact ha n _
theorem am_csz {h : am_H} {o t n : Nat} : (vp_cell (G.2.1 t) (n, am_arrv G h o t)).slots.size = n := by
  unfold am_arrv
  split
  · exact arrV_size _ _ _
  · exact arrV_size _ _ _
theorem am_cvm {h : am_H} {o t n : Nat} : (vp_cell (G.2.1 t) (n, am_arrv G h o t)).vm ≠ .unknown := by
  unfold am_arrv
  split <;> (intro q; cases q)
theorem am_rest {h h' : am_H} {H H1 : Heap} {o : Nat} (hH : am_Hp G h H) (h1 : h'.1 = h.1) (h2 : h'.2.2.2 = h.2.2.2) (hc : ∀ i, i ≠ o → am_cell G h' i = am_cell G h i) (ho : o < h.2.2.2.1 → va_at G.1 vwCl (G.2.2.1 + o, am_cell G h' o) H1) (hz : H1.size = H.size) (hq : ∀ q : Nat, q ≠ G.2.2.1 + o → H1[q]? = H[q]?) : am_Hp G h' H1 := by
  refine ⟨by rw [hz, hH.1, h2], fun i hi => ?_, fun i hi => ?_, fun i t n hi => ?_⟩
  · rw [h2] at hi
    by_cases e : i = o
    · subst e; exact ho hi
    · rw [hc i e]
      exact (hH.2.1 i hi).kept (hq _ (fun z => e (Nat.add_left_cancel z)))
  · rw [h2] at hi; rw [h1]; exact hH.2.2.1 i hi
  · rw [h1] at hi; exact hH.2.2.2 i t n hi
theorem am_Sput {H H1 : Heap} {locs : List Loc} {o k : Nat} (hS : va_S (am_A G) s.heap H locs) (hz : H1.size = H.size) (hq : ∀ q : Nat, q ≠ G.2.2.1 + o → H1[q]? = H[q]?) : va_S (am_A G) s.heap H1 (locs ++ [⟨G.2.2.1 + o, k⟩]) := hS.put hz hq (Nat.le_add_right _ _)
theorem am_chkF {pc idx k ci : Nat} (hk : am_fl M idx ci = some k) (hchk : am_chk1 M pc (.putfield idx) = true) {r : vw_C} (hr : vwCl[ci]? = some r) : (r.2.1 k).2.2.2 = false ∨ ((am_y M).name = "<init>" ∧ (r.2.1 k).1 = (am_y M).cls) := by
  unfold am_fl at hk
  split at hk
  · rename_i k0 cs hlk
    split at hk
    · rename_i hc
      cases hk
      unfold am_chk1 at hchk
      rw [hlk] at hchk
      dsimp only at hchk
      have hm : ci ∈ cs := by simpa using hc
      have := List.all_eq_true.mp hchk ci hm
      rw [hr] at this
      dsimp only at this
      rw [Bool.or_eq_true, Bool.and_eq_true] at this
      rcases this with q | q
      · exact Or.inl (by simpa using q)
      · exact Or.inr ⟨by simpa using q.1, by simpa using q.2⟩
    · cases hk
  · cases hk
set_option maxHeartbeats 4000000 in
theorem am_putW (cx : am_Cx G M tb p s m args meth c) (hM : am_Mok M) {idx pc ci k o : Nat} (hk : am_fl M idx ci = some k) {h h' : am_H} (ho : h.1 o = .inl ci) {v : Value} (hn : narrow (am_ti ci k) v = v) (hfit : fits (am_ti ci k) v = true) (hd : decode (am_cc M) pc = .ok (.putfield idx, 3)) (hchk : am_chk1 M pc (.putfield idx) = true)
    (h1 : h'.1 = h.1) (h2 : h'.2.2.2 = h.2.2.2) (hc : ∀ i, i ≠ o → am_cell G h' i = am_cell G h i) (hco : ∀ j, am_tv G (am_fv h' o ci j) = if j = k then v else am_tv G (am_fv h o ci j))
    {lsC : Array Slot} {H : Heap} {locs : List Loc} {rest : List Value} (hH : am_Hp G h H) (hS : va_S (am_A G) s.heap H locs)
    (kk : ∀ (H1 : Heap) (locs1 : List Loc), am_Hp G h' H1 → va_S (am_A G) s.heap H1 locs1 → W p l e R s m args below meth c H1 locs1 cells slots Z (F0 m (pc + 3) lsC rest)) : W p l e R s m args below meth c H locs cells slots Z (F0 m pc lsC (v :: .ref (G.2.2.1 + o) :: rest)) := by
  obtain ⟨hx, hb, hr, hml, hown, hts, hlocks, hnm, hK, hT, hbase⟩ := cx
  obtain ⟨r, hr1, hkN, hlink⟩ := am_Fof hM hk
  obtain ⟨hlt, cell, q1, q2, q3, q4⟩ := am_obj hH ho hr1
  obtain ⟨hin, hty, hnmx, hlen, -⟩ := am_cls hr1
  have hap := va_apart (own := am_own M) hts hin (am_ti ci) hty hnmx hK hr1
  obtain ⟨hSl, hfc, kC, hkC, hkind⟩ := hK.1 ci _ hr1
  obtain ⟨cf, kf, fi, f, hi, hsl⟩ := hSl k hkN
  have hlay := hts _ (hin _ (u_in_lay hkN))
  have hst := (u_facts hfc hkC (u_lays hts hin hkN) hi).1
  have fin : ∀ H' : Heap, H'[G.2.2.1 + o]? = some (cell.setSlot (G.1.2 ci k) v) → H'.size = H.size → (∀ q : Nat, q ≠ G.2.2.1 + o → H'[q]? = H[q]?) → am_Hp G h' H' := by
    intro H' e1 e2 e3
    refine am_rest hH h1 h2 hc (fun _ => ?_) e2 e3
    have e4 : am_cell G h' o = .inr (ci, (List.range (am_kd.getD ci []).length).map (fun k => am_tv G (am_fv h' o ci k))) := by
      unfold am_cell
      rw [h1, ho]
    rw [e4]
    refine ⟨r, hr1, t_OB.to (V := updV (vp_V ((List.range (am_kd.getD ci []).length).map (fun k => am_tv G (am_fv h o ci k)))) k v) ⟨_, e1, q2, q3, t_set q4 hap hkN v⟩ (fun j hj => ?_)⟩
    have g1 : ∀ hh : am_H, vp_V ((List.range (am_kd.getD ci []).length).map (fun k => am_tv G (am_fv hh o ci k))) j = am_tv G (am_fv hh o ci j) := fun hh => by
      unfold vp_V
      rw [List.getD_eq_getElem?_getD, am_fs_get hr1 hj]
      rfl
    rw [g1, hco]
    unfold updV
    split
    · rfl
    · exact g1 h
  unfold u_lay at hlay
  rcases am_chkF hk hchk hr1 with hf | ⟨hf1, hf2⟩
  · rw [if_neg (by rw [hf]; decide)] at hlay
    have h6 := u_store hfc hkC hkind hlay hi (hty k hkN) hn hfit
    refine W.putK hx hb (f := f) ⟨hown, hts _ hlink, ⟨_, _, _, hi⟩, hst⟩ (by rw [q2]; exact h6) q1 q3 (by rw [hsl]; exact k2_hasslot (q4 k hkN)) rfl rfl hd fun H' e1 e2 e3 => ?_
    rw [hsl] at e1 ⊢
    exact kk H' _ (fin H' e1 e2 e3) (am_Sput hS e2 e3)
  · by_cases hf : (r.2.1 k).2.2.2 = true
    · rw [if_pos hf] at hlay
      have hcf : m.cls = cf := by
        obtain ⟨_, _, c', _, _, _, -, -, hf', -, -, -, hown2, -⟩ := Cond.laysFinal_spec hlay
        have e1 : c' = cf := by have := hi.symm.trans hf'; simp at this; exact this.1.symm
        rw [hf2] at hown2
        rw [← e1]; exact Option.some.inj (hown.symm.trans hown2)
      have h6 := u_fits hfc hkC hkind (Or.inr hlay) hi (hty k hkN) hn hfit
      refine W.putFinK hx hb hown (hts _ hlink) hi hst hcf (hnm.trans hf1) (by rw [q2]; exact h6) q1 q3 (by rw [hsl]; exact k2_hasslot (q4 k hkN)) rfl rfl hd fun H' e1 e2 e3 => ?_
      rw [hsl] at e1 ⊢
      exact kk H' _ (fin H' e1 e2 e3) (am_Sput hS e2 e3)
    · have hf : (r.2.1 k).2.2.2 = false := by simpa using hf
      rw [if_neg (by rw [hf]; decide)] at hlay
      have h6 := u_store hfc hkC hkind hlay hi (hty k hkN) hn hfit
      refine W.putK hx hb (f := f) ⟨hown, hts _ hlink, ⟨_, _, _, hi⟩, hst⟩ (by rw [q2]; exact h6) q1 q3 (by rw [hsl]; exact k2_hasslot (q4 k hkN)) rfl rfl hd fun H' e1 e2 e3 => ?_
      rw [hsl] at e1 ⊢
      exact kk H' _ (fin H' e1 e2 e3) (am_Sput hS e2 e3)
/-- an int written in the abstract heap: which cells change -/
theorem am_cell_u {h : am_H} {o k : Nat} {v : Int32} : ∀ i, i ≠ o → am_cell G (h.1, h.2.1, am_u h.2.2.1 o k v, h.2.2.2) i = am_cell G h i := by
  intro i hi
  have e1 : am_u h.2.2.1 o k v i = h.2.2.1 i := by
    funext j
    unfold am_u
    rw [if_neg (fun q => hi q.1)]
  unfold am_cell am_arrv am_fv
  dsimp only
  rw [e1]
theorem am_cell_r {h : am_H} {o k : Nat} {v : Option Nat} : ∀ i, i ≠ o → am_cell G (h.1, am_ur h.2.1 o k v, h.2.2) i = am_cell G h i := by
  intro i hi
  have e1 : am_ur h.2.1 o k v i = h.2.1 i := by
    funext j
    unfold am_ur
    rw [if_neg (fun q => hi q.1)]
  unfold am_cell am_arrv am_fv
  dsimp only
  rw [e1]
theorem am_fv_u {h : am_H} {o ci k : Nat} {v : Int32} (hk : am_k ci k ≠ 2) (j : Nat) : am_tv G (am_fv (h.1, h.2.1, am_u h.2.2.1 o k v, h.2.2.2) o ci j) = if j = k then .int v else am_tv G (am_fv h o ci j) := by
  unfold am_fv am_u
  dsimp only
  by_cases e : j = k
  · subst e
    have : Nat.beq (am_k ci j) 2 = false := by
      cases q : Nat.beq (am_k ci j) 2
      · rfl
      · exact absurd (Nat.eq_of_beq_eq_true q) hk
    rw [this]
    simp [am_tv]
  · simp [e]
theorem am_fv_r {h : am_H} {o ci k v : Nat} (hk : am_k ci k = 2) (j : Nat) : am_tv G (am_fv (h.1, am_ur h.2.1 o k (some v), h.2.2) o ci j) = if j = k then .ref (G.2.2.1 + v) else am_tv G (am_fv h o ci j) := by
  unfold am_fv am_ur
  dsimp only
  by_cases e : j = k
  · subst e
    rw [hk]
    simp [am_tv, am_vr]
  · simp [e]
end AMT
