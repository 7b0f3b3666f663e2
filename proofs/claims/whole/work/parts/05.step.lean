section AMS
variable {l : Launch} {G : am_G} {p : Program} {e : Env} {R : Room} {s : State} {m : MethodId} {args : Array Value} {below : List Frame} {meth : Method} {c : Code} {Z : State → Prop} {M : am_M} {cells slots : Nat} {tb : Nat → Nat × (Nat → Int32)}
/-- a field that the tables know, of an object that is there -/
theorem am_obj {h : am_H} {H : Heap} (hH : am_Hp G h H) {o ci : Nat} {r : vw_C} (ho : h.1 o = .inl ci) (hr : vwCl[ci]? = some r) : o < h.2.2.2.1 ∧ t_OB (G.2.2.1 + o) (G.1.1 ci) r.2.2 (G.1.2 ci) H (vp_V ((List.range (am_kd.getD ci []).length).map (fun k => am_tv G (am_fv h o ci k)))) := by
  have hlt : o < h.2.2.2.1 := by
    rcases Nat.lt_or_ge o h.2.2.2.1 with q | q
    · exact q
    · have := hH.2.2.1 o q
      rw [ho] at this
      cases this
      simp at hr
  refine ⟨hlt, ?_⟩
  have h1 := hH.2.1 o hlt
  unfold am_cell at h1
  rw [ho] at h1
  obtain ⟨r', e1, e2⟩ := h1
  have e1 : vwCl[ci]? = some r' := e1
  rw [hr] at e1
  cases e1
  exact e2
theorem am_lk_mem {α : Type} {i : Nat} {a : α} : ∀ {l : List (Nat × α)}, am_lk i l = some a → (i, a) ∈ l
  | [], h => by cases h
  | q :: r, h => by
    unfold am_lk at h
    split at h
    · rename_i hb
      have e1 := Nat.eq_of_beq_eq_true hb
      have e2 := Option.some.inj h
      subst e1
      subst e2
      exact List.mem_cons_self
    · exact List.mem_cons_of_mem _ (am_lk_mem h)
theorem am_Fof (hM : am_Mok M) {idx ci k : Nat} (h : am_fl M idx ci = some k) : am_Fok M idx k ci := by
  unfold am_fl at h
  split at h
  · rename_i k0 cs hlk
    split at h
    · rename_i hc
      cases h
      exact hM.2.2.2.1 (idx, k, cs) (am_lk_mem hlk) ci (by simpa using hc)
    · cases h
  · cases h
theorem am_fs_len {h : am_H} {o ci : Nat} {r : vw_C} (hr : vwCl[ci]? = some r) : ((List.range (am_kd.getD ci []).length).map (fun k => am_tv G (am_fv h o ci k))).length = r.2.2 := by
  rw [List.length_map, List.length_range]; exact (am_cls hr).2.2.2.1
theorem am_fs_get {h : am_H} {o ci k : Nat} {r : vw_C} (hr : vwCl[ci]? = some r) (hk : k < r.2.2) : ((List.range (am_kd.getD ci []).length).map (fun k => am_tv G (am_fv h o ci k)))[k]? = some (am_tv G (am_fv h o ci k)) := by
  rw [List.getElem?_map, List.getElem?_range (by rw [(am_cls hr).2.2.2.1]; exact hk)]
  rfl
set_option maxHeartbeats 4000000 in
theorem am_gf_s (cx : am_Cx G M tb p s m args meth c) (hM : am_Mok M) {idx pc : Nat} (hd : decode (am_cc M) pc = .ok (.getfield idx, 3)) {ls st ls' st' : List Value} {pc' : Nat} {h h' : am_H} (hs : am_gf M idx pc ls st h = some (pc', ls', st', h')) (K : am_W l G p e R s m args below meth c Z M cells slots pc' ls' st' h') : am_W l G p e R s m args below meth c Z M cells slots pc ls st h := by
  obtain ⟨hx, hb, hr, hml, hown, hts, hlocks, hnm, hK, hT, hbase⟩ := cx
  unfold am_gf at hs
  split at hs
  · rename_i o rest
    split at hs
    · rename_i ci ho
      split at hs
      · rename_i k hk
        cases hs
        obtain ⟨r, hr1, hkN, hlink⟩ := am_Fof hM hk
        intro lsC H locs hL hH hS
        obtain ⟨hlt, hob⟩ := am_obj hH ho hr1
        exact va_get (D := G.1) (ci := ci) (cl := vwCl) (ws := [(G.2.2.1 + o, .inr (ci, (List.range (am_kd.getD ci []).length).map (fun k => am_tv G (am_fv h o ci k))))]) (C := r.1) (T := r.2.1) (N := r.2.2) hx hb hts (am_cls hr1).1 hown hK (fun q z hz => by
          cases q with
          | zero => cases hz; exact ⟨r, hr1, hob⟩
          | succ q => simp at hz) 0 rfl hr1 k hkN (hts _ hlink) (fun _ h9 => h9) (am_fs_get hr1 hkN) hd (K lsC H locs hL hH hS)
      · cases hs
    · cases hs
  · cases hs
/-- stores of one int in the heap -/
theorem am_tgt {pc : Nat} {off : Int} (h : decide (0 ≤ (pc : Int) + off) = true) : (pc : Int) + off = ((am_tg pc off : Nat) : Int) := by
  have := of_decide_eq_true h
  unfold am_tg
  omega
theorem am_lt_not {x y : Int32} : y ≤ x ↔ ¬ x < y := ⟨fun h => Int32.not_lt.mpr h, fun h => Int32.not_lt.mp h⟩
theorem am_brk {c0 : Prop} [Decidable c0] {a b : Nat} {ls st : List Value} {h : am_H} (K : am_W l G p e R s m args below meth c Z M cells slots (if c0 then a else b) ls st h) : (c0 → am_W l G p e R s m args below meth c Z M cells slots a ls st h) ∧ (¬ c0 → am_W l G p e R s m args below meth c Z M cells slots b ls st h) := ⟨fun hc => by rw [if_pos hc] at K; exact K, fun hc => by rw [if_neg hc] at K; exact K⟩
set_option maxHeartbeats 4000000 in
theorem am_if_s (cx : am_Cx G M tb p s m args meth c) {cd : Jvm.ClassFile.Cond} {off : Int} {pc : Nat} (hd : decode (am_cc M) pc = .ok (.ifCond cd off, 3)) (ht : decide (0 ≤ (pc : Int) + off) = true) {ls st ls' st' : List Value} {pc' : Nat} {h h' : am_H} (hs : am_if cd off pc ls st h = some (pc', ls', st', h')) (K : am_W l G p e R s m args below meth c Z M cells slots pc' ls' st' h') : am_W l G p e R s m args below meth c Z M cells slots pc ls st h := by
  obtain ⟨hx, hb, hr, hml, hown, hts, hlocks, hnm, hK, hT, hbase⟩ := cx
  unfold am_if at hs
  split at hs
  · rename_i x rest
    intro lsC H locs hL hH hS
    cases cd with
    | eq => cases hs; exact lv_if_eq hx hb hd (am_tgt ht) (fun q => (am_brk K).1 q lsC H locs hL hH hS) (fun q => (am_brk K).2 q lsC H locs hL hH hS)
    | ne => cases hs; exact lv_if_ne hx hb hd (am_tgt ht) (fun q => (am_brk K).2 q lsC H locs hL hH hS) (fun q => (am_brk K).1 q lsC H locs hL hH hS)
    | lt => cases hs; exact lv_if_lt hx hb hd (am_tgt ht) (fun q => (am_brk K).1 q lsC H locs hL hH hS) (fun q => (am_brk K).2 q lsC H locs hL hH hS)
    | ge => cases hs; exact lv_if_ge hx hb hd (am_tgt ht) (fun q => (am_brk K).2 (am_lt_not.mp q) lsC H locs hL hH hS) (fun q => (am_brk K).1 (Classical.byContradiction fun z => q (am_lt_not.mpr z)) lsC H locs hL hH hS)
    | gt => cases hs; exact lv_if_gt hx hb hd (am_tgt ht) (fun q => (am_brk K).1 q lsC H locs hL hH hS) (fun q => (am_brk K).2 q lsC H locs hL hH hS)
    | le => cases hs; exact lv_if_le hx hb hd (am_tgt ht) (fun q => (am_brk K).2 (am_lt_not.mp q) lsC H locs hL hH hS) (fun q => (am_brk K).1 (Classical.byContradiction fun z => q (am_lt_not.mpr z)) lsC H locs hL hH hS)
  · cases hs
set_option maxHeartbeats 4000000 in
theorem am_ic_s (cx : am_Cx G M tb p s m args meth c) {cd : Jvm.ClassFile.Cond} {off : Int} {pc : Nat} (hd : decode (am_cc M) pc = .ok (.if_icmp cd off, 3)) (ht : decide (0 ≤ (pc : Int) + off) = true) {ls st ls' st' : List Value} {pc' : Nat} {h h' : am_H} (hs : am_ic cd off pc ls st h = some (pc', ls', st', h')) (K : am_W l G p e R s m args below meth c Z M cells slots pc' ls' st' h') : am_W l G p e R s m args below meth c Z M cells slots pc ls st h := by
  obtain ⟨hx, hb, hr, hml, hown, hts, hlocks, hnm, hK, hT, hbase⟩ := cx
  unfold am_ic at hs
  split at hs
  · rename_i y x rest
    intro lsC H locs hL hH hS
    cases cd with
    | eq => cases hs; exact lv_icmp_eq hx hb hd (am_tgt ht) (fun q => (am_brk K).1 q lsC H locs hL hH hS) (fun q => (am_brk K).2 q lsC H locs hL hH hS)
    | ne => cases hs; exact lv_icmp_ne hx hb hd (am_tgt ht) (fun q => (am_brk K).2 q lsC H locs hL hH hS) (fun q => (am_brk K).1 q lsC H locs hL hH hS)
    | lt => cases hs; exact lv_icmp_lt hx hb hd (am_tgt ht) (fun q => (am_brk K).1 q lsC H locs hL hH hS) (fun q => (am_brk K).2 q lsC H locs hL hH hS)
    | ge => cases hs; exact lv_icmp_ge hx hb hd (am_tgt ht) (fun q => (am_brk K).2 (am_lt_not.mp q) lsC H locs hL hH hS) (fun q => (am_brk K).1 (Classical.byContradiction fun z => q (am_lt_not.mpr z)) lsC H locs hL hH hS)
    | gt => cases hs; exact lv_icmp_gt hx hb hd (am_tgt ht) (fun q => (am_brk K).1 q lsC H locs hL hH hS) (fun q => (am_brk K).2 q lsC H locs hL hH hS)
    | le => cases hs; exact lv_icmp_le hx hb hd (am_tgt ht) (fun q => (am_brk K).2 (am_lt_not.mp q) lsC H locs hL hH hS) (fun q => (am_brk K).1 (Classical.byContradiction fun z => q (am_lt_not.mpr z)) lsC H locs hL hH hS)
  · cases hs
set_option maxHeartbeats 4000000 in
theorem am_ts_s (cx : am_Cx G M tb p s m args meth c) {d lo hi : Int} {offs : Array Int} {pc len : Nat} (hd : decode (am_cc M) pc = .ok (.tableswitch d lo hi offs, len)) (ht : am_chk1 M pc (.tableswitch d lo hi offs) = true) {ls st ls' st' : List Value} {pc' : Nat} {h h' : am_H} (hs : am_ts d lo offs pc ls st h = some (pc', ls', st', h')) (K : am_W l G p e R s m args below meth c Z M cells slots pc' ls' st' h') : am_W l G p e R s m args below meth c Z M cells slots pc ls st h := by
  obtain ⟨hx, hb, hr, hml, hown, hts, hlocks, hnm, hK, hT, hbase⟩ := cx
  unfold am_chk1 at ht
  simp only [Bool.and_eq_true, List.all_eq_true, decide_eq_true_eq] at ht
  obtain ⟨⟨⟨⟨⟨t1, t2⟩, t3⟩, t4⟩, t5⟩, t6⟩ := ht
  unfold am_ts at hs
  split at hs
  · rename_i x rest
    cases hs
    intro lsC H locs hL hH hS
    rw [am_tsel_eq pc d x offs.toList lo t4 (by omega)] at K
    by_cases hc : lo ≤ x.toInt ∧ x.toInt < lo + offs.toList.length
    · rw [if_pos hc] at K
      have hlt : (x.toInt - lo).toNat < offs.toList.length := by omega
      have hget : offs.toList[(x.toInt - lo).toNat]? = some (offs.toList.getD (x.toInt - lo).toNat d) := by
        rw [List.getD_eq_getElem?_getD, List.getElem?_eq_getElem hlt]; rfl
      refine lv_tableIn hx hb hd (by omega) (by omega) (off := offs.toList.getD (x.toInt - lo).toNat d) (by rw [← Array.getElem?_toList]; exact hget) (am_tgt (decide_eq_true (t2 _ (List.mem_of_getElem? hget)))) (K lsC H locs hL hH hS)
    · rw [if_neg hc] at K
      exact lv_tableOut hx hb hd (by omega) (am_tgt (decide_eq_true t1)) (K lsC H locs hL hH hS)
  · cases hs
theorem am_lk_off {P : Int → Prop} {d x : Int} : ∀ {ps : List (Int × Int)}, P d → (∀ q ∈ ps, P q.2) → P (Op.lookupswitch.offset ps d x)
  | [], h, _ => h
  | q :: r, h, hq => by
    obtain ⟨a, b⟩ := q
    by_cases e : a = x
    · have : Op.lookupswitch.offset ((a, b) :: r) d x = b := by simp [Op.lookupswitch.offset, e]
      rw [this]
      exact hq (a, b) List.mem_cons_self
    · have : Op.lookupswitch.offset ((a, b) :: r) d x = Op.lookupswitch.offset r d x := by simp [Op.lookupswitch.offset, e]
      rw [this]
      exact am_lk_off h (fun z hz => hq z (List.mem_cons_of_mem _ hz))
set_option maxHeartbeats 4000000 in
theorem am_lsw_s (cx : am_Cx G M tb p s m args meth c) {d : Int} {ps : Array (Int × Int)} {pc len : Nat} (hd : decode (am_cc M) pc = .ok (.lookupswitch d ps, len)) (ht : am_chk1 M pc (.lookupswitch d ps) = true) {ls st ls' st' : List Value} {pc' : Nat} {h h' : am_H} (hs : am_lsw d ps pc ls st h = some (pc', ls', st', h')) (K : am_W l G p e R s m args below meth c Z M cells slots pc' ls' st' h') : am_W l G p e R s m args below meth c Z M cells slots pc ls st h := by
  obtain ⟨hx, hb, hr, hml, hown, hts, hlocks, hnm, hK, hT, hbase⟩ := cx
  unfold am_chk1 at ht
  rw [Bool.and_eq_true, Bool.and_eq_true, List.all_eq_true] at ht
  obtain ⟨⟨t1, t2⟩, t3⟩ := ht
  have t2' : ∀ q ∈ ps.toList, 0 ≤ (pc : Int) + q.2 ∧ -2147483648 ≤ q.1 ∧ q.1 ≤ 2147483647 := fun q hq => by
    have := t2 q hq
    simp only [Bool.and_eq_true, decide_eq_true_eq] at this
    exact ⟨this.1.1, this.1.2, this.2⟩
  unfold am_lsw at hs
  split at hs
  · rename_i x rest
    cases hs
    intro lsC H locs hL hH hS
    rw [am_lsel_eq pc d x ps.toList (fun q hq => (t2' q hq).2)] at K
    refine lv_lookup hx hb hd t3 rfl (am_tgt ?_) (K lsC H locs hL hH hS)
    exact am_lk_off (P := fun o => decide (0 ≤ (pc : Int) + o) = true) t1 (fun q hq => decide_eq_true (t2' q hq).1)
  · cases hs
end AMS
