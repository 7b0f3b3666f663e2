/-! THE CLAIM OUT OF ONE WALK OF THE LAW'S BODY. Your part is whole_start (and what it stands on); all else here is the same for every law, but numbers. -/
def R_law : String := "LinkPressLaw"
def lw_P (b : Addr) (xs : List Int32) (args : Array Value) (s : State) : Prop := args = #[.ref b] ∧ s.IntsAt b xs ∧ xs.length ≤ 3072 ∧ (Jvm.Cond.and given_1 narrow_1).before args s = true
def lw_Q (_ : Array Value) (s : State) (o : Outcome) (t : State) : Prop := o = .returned (some (.int 1)) ∧ Framed s o t [] 600000 7302250
def lw_Z (below : List Frame) (a : Array Value) (s : State) : State → Prop := fun t => ∃ o, t.status = .running ∧ Ended t below o ∧ lw_Q a s o t
/-- the law's own end, with 1 on the stack, nothing written that was there before, its room as the claim has it -/
theorem lw_ret {p : Program} {l : Launch} {e : Env} {s : State} {m : MethodId} {below : List Frame} {meth : Method} {c : Code} {b : Nat} (hx : p.tables.exec = Jvm.exec) (hb : c.code = code) (hr : meth.sig.returnType = ret) (hlocks : meth.locks = false) {pc : Nat} {H : Heap} {ls : Array Slot} (hdg : decode code pc = .ok (.ireturn, 1)) : W p l e room_1 s m #[Value.ref b] below meth c H [] 600000 7302250 (lw_Z below #[Value.ref b] s) (F0 m pc ls [.int 1]) := by
  intro T hT X
  obtain ⟨fs, hret, hrun, hended, hW, hframe⟩ := X.leave (v := some (.int 1)) (hlocks := hlocks) (fun h => by rw [hr] at h; cases h)
  have hmeth' : T.vm.method? m = some meth := X.method'
  refine ⟨T.setFrames fs, ?_, .returned (some (.int 1)), hrun, hended, rfl, ⟨_, rfl⟩, hW, hframe⟩
  jvm_step X.here [X.here.top, hx, hb, hdg, hmeth', hr, ret, narrow_b1]
  (try refine ⟨rfl, ?_⟩); (try refine ⟨rfl, ?_⟩)
  first | (intro acts; rw [hret _ acts rfl rfl rfl]) | rw [hret _ _ rfl rfl rfl]
  exact Steps.refl _
/-- what holds at the law's entry: the machine, the code, the tables' words (any of lw_tbl by 'hts w (by decide +kernel)'), the script of L ints xs at the cell b, what the Statement gives of the start (any of its parts by flat_of_before) -/
def lw_At (p : Program) (s : State) (m : MethodId) (meth : Method) (c : Code) (b L : Nat) (xs : Nat → Int32) : Prop :=
  p.tables.exec = Jvm.exec ∧ c.code = code ∧ meth.sig.returnType = ret ∧ c.maxLocals = 4 ∧ s.vm.findClass R_law = some m.cls ∧ (∀ w ∈ lw_tbl, w.before #[Value.ref b] s = true) ∧ va_X b L xs s s.heap ∧ b < s.heap.size ∧ meth.locks = false ∧ (Jvm.Cond.and given_1 narrow_1).before #[Value.ref b] s = true
theorem am_el0 : ∀ k, k < 35 → Cond.eq (.elem (.static "LinkPress$Signs" "KIND_OF_A" "[I") (.int (Int32.ofNat k))) (.int (am_t0.getD k 0)) ∈ flatC (Jvm.Cond.and given_1 narrow_1) := by decide +kernel
theorem am_tab0 {args : Array Value} {s : State} {A : Nat → Prop} (hgv : (Jvm.Cond.and given_1 narrow_1).before args s = true) (hts : ∀ w ∈ lw_tbl, w.before args s = true) (hA : ∀ a : Nat, a < s.heap.size → ¬ A a) : ∃ t : Nat, va_T .int t 35 (fun k => .int (am_t0.getD k 0)) A s s.heap ∧ va_Z "LinkPress$Signs" "KIND_OF_A" "[I" (.ref t) A s s.heap := by
  have hs := flat_of_before _ hgv
  obtain ⟨t, h1, h2⟩ := va_Tof (tm := .static "LinkPress$Signs" "KIND_OF_A" "[I") (ty := .int) (N := 35) (f := fun k => .int (am_t0.getD k 0)) (A := A) (by decide) (hs _ (by decide +kernel)) (va_eqt (hs (.eq (.length (.static "LinkPress$Signs" "KIND_OF_A" "[I")) (.int (Int32.ofNat 35))) (by decide +kernel))) (fun k hk => va_eqt (hs _ (am_el0 k hk))) hA
  exact ⟨t, h2, va_Zref (hts (.laysStatic "LinkPress$Signs" "KIND_OF_A" "[I") (by decide +kernel)) (hts (.initialized "LinkPress$Signs") (by decide +kernel)) h1 hA⟩
theorem am_el1 : ∀ k, k < 35 → Cond.eq (.elem (.static "LinkPress$Signs" "KIND_OF_B" "[I") (.int (Int32.ofNat k))) (.int (am_t1.getD k 0)) ∈ flatC (Jvm.Cond.and given_1 narrow_1) := by decide +kernel
theorem am_tab1 {args : Array Value} {s : State} {A : Nat → Prop} (hgv : (Jvm.Cond.and given_1 narrow_1).before args s = true) (hts : ∀ w ∈ lw_tbl, w.before args s = true) (hA : ∀ a : Nat, a < s.heap.size → ¬ A a) : ∃ t : Nat, va_T .int t 35 (fun k => .int (am_t1.getD k 0)) A s s.heap ∧ va_Z "LinkPress$Signs" "KIND_OF_B" "[I" (.ref t) A s s.heap := by
  have hs := flat_of_before _ hgv
  obtain ⟨t, h1, h2⟩ := va_Tof (tm := .static "LinkPress$Signs" "KIND_OF_B" "[I") (ty := .int) (N := 35) (f := fun k => .int (am_t1.getD k 0)) (A := A) (by decide) (hs _ (by decide +kernel)) (va_eqt (hs (.eq (.length (.static "LinkPress$Signs" "KIND_OF_B" "[I")) (.int (Int32.ofNat 35))) (by decide +kernel))) (fun k hk => va_eqt (hs _ (am_el1 k hk))) hA
  exact ⟨t, h2, va_Zref (hts (.laysStatic "LinkPress$Signs" "KIND_OF_B" "[I") (by decide +kernel)) (hts (.initialized "LinkPress$Signs") (by decide +kernel)) h1 hA⟩
theorem am_el2 : ∀ k, k < 35 → Cond.eq (.elem (.static "LinkPress$Signs" "KIND_OF_C" "[I") (.int (Int32.ofNat k))) (.int (am_t2.getD k 0)) ∈ flatC (Jvm.Cond.and given_1 narrow_1) := by decide +kernel
theorem am_tab2 {args : Array Value} {s : State} {A : Nat → Prop} (hgv : (Jvm.Cond.and given_1 narrow_1).before args s = true) (hts : ∀ w ∈ lw_tbl, w.before args s = true) (hA : ∀ a : Nat, a < s.heap.size → ¬ A a) : ∃ t : Nat, va_T .int t 35 (fun k => .int (am_t2.getD k 0)) A s s.heap ∧ va_Z "LinkPress$Signs" "KIND_OF_C" "[I" (.ref t) A s s.heap := by
  have hs := flat_of_before _ hgv
  obtain ⟨t, h1, h2⟩ := va_Tof (tm := .static "LinkPress$Signs" "KIND_OF_C" "[I") (ty := .int) (N := 35) (f := fun k => .int (am_t2.getD k 0)) (A := A) (by decide) (hs _ (by decide +kernel)) (va_eqt (hs (.eq (.length (.static "LinkPress$Signs" "KIND_OF_C" "[I")) (.int (Int32.ofNat 35))) (by decide +kernel))) (fun k hk => va_eqt (hs _ (am_el2 k hk))) hA
  exact ⟨t, h2, va_Zref (hts (.laysStatic "LinkPress$Signs" "KIND_OF_C" "[I") (by decide +kernel)) (hts (.initialized "LinkPress$Signs") (by decide +kernel)) h1 hA⟩
theorem am_el3 : ∀ k, k < 28 → Cond.eq (.elem (.static "LinkPress$Rv32" "SELECTOR" "[I") (.int (Int32.ofNat k))) (.int (am_t3.getD k 0)) ∈ flatC (Jvm.Cond.and given_1 narrow_1) := by decide +kernel
theorem am_tab3 {args : Array Value} {s : State} {A : Nat → Prop} (hgv : (Jvm.Cond.and given_1 narrow_1).before args s = true) (hts : ∀ w ∈ lw_tbl, w.before args s = true) (hA : ∀ a : Nat, a < s.heap.size → ¬ A a) : ∃ t : Nat, va_T .int t 28 (fun k => .int (am_t3.getD k 0)) A s s.heap ∧ va_Z "LinkPress$Rv32" "SELECTOR" "[I" (.ref t) A s s.heap := by
  have hs := flat_of_before _ hgv
  obtain ⟨t, h1, h2⟩ := va_Tof (tm := .static "LinkPress$Rv32" "SELECTOR" "[I") (ty := .int) (N := 28) (f := fun k => .int (am_t3.getD k 0)) (A := A) (by decide) (hs _ (by decide +kernel)) (va_eqt (hs (.eq (.length (.static "LinkPress$Rv32" "SELECTOR" "[I")) (.int (Int32.ofNat 28))) (by decide +kernel))) (fun k hk => va_eqt (hs _ (am_el3 k hk))) hA
  exact ⟨t, h2, va_Zref (hts (.laysStatic "LinkPress$Rv32" "SELECTOR" "[I") (by decide +kernel)) (hts (.initialized "LinkPress$Rv32") (by decide +kernel)) h1 hA⟩
theorem am_el4 : ∀ k, k < 28 → Cond.eq (.elem (.static "LinkPress$Rv32" "OTHER" "[I") (.int (Int32.ofNat k))) (.int (am_t4.getD k 0)) ∈ flatC (Jvm.Cond.and given_1 narrow_1) := by decide +kernel
theorem am_tab4 {args : Array Value} {s : State} {A : Nat → Prop} (hgv : (Jvm.Cond.and given_1 narrow_1).before args s = true) (hts : ∀ w ∈ lw_tbl, w.before args s = true) (hA : ∀ a : Nat, a < s.heap.size → ¬ A a) : ∃ t : Nat, va_T .int t 28 (fun k => .int (am_t4.getD k 0)) A s s.heap ∧ va_Z "LinkPress$Rv32" "OTHER" "[I" (.ref t) A s s.heap := by
  have hs := flat_of_before _ hgv
  obtain ⟨t, h1, h2⟩ := va_Tof (tm := .static "LinkPress$Rv32" "OTHER" "[I") (ty := .int) (N := 28) (f := fun k => .int (am_t4.getD k 0)) (A := A) (by decide) (hs _ (by decide +kernel)) (va_eqt (hs (.eq (.length (.static "LinkPress$Rv32" "OTHER" "[I")) (.int (Int32.ofNat 28))) (by decide +kernel))) (fun k hk => va_eqt (hs _ (am_el4 k hk))) hA
  exact ⟨t, h2, va_Zref (hts (.laysStatic "LinkPress$Rv32" "OTHER" "[I") (by decide +kernel)) (hts (.initialized "LinkPress$Rv32") (by decide +kernel)) h1 hA⟩
theorem am_Kn {args : Array Value} {s : State} (hts : ∀ w ∈ lw_g, w.before args s = true) (ht2 : ∀ w ∈ lw_tbl, w.before args s = true) : ∃ (dC : Nat → ClassId) (dI : Nat → Nat → Nat), ∀ (k : Nat) (q : vw_C), vwCl[k]? = some q → u_Kn s q.1 q.2.1 q.2.2 (dC k) (dI k) := by
  have T : ∀ q ∈ vwCl, Cond.instantiable q.1 q.2.2 ∈ lw_tbl := by
    have T0 : (vwCl.map (fun q => Cond.instantiable q.1 q.2.2)).all (fun w => decide (w ∈ lw_tbl)) = true := by decide +kernel
    intro q hq
    exact of_decide_eq_true (List.all_eq_true.mp T0 _ (List.mem_map.mpr ⟨q, hq, rfl⟩))
  have H : ∀ k : Nat, ∃ z : ClassId × (Nat → Nat), ∀ q : vw_C, vwCl[k]? = some q → u_Kn s q.1 q.2.1 q.2.2 z.1 z.2 := by
    intro k
    cases hq : vwCl[k]? with
    | none => exact ⟨(default, fun _ => 0), fun q h => by cases h⟩
    | some q =>
      obtain ⟨cC, iS, h⟩ := u_known (C := q.1) (T := q.2.1) (N := q.2.2) (n := q.2.2) hts (am_cls hq).1 (ht2 _ (T q (List.mem_of_getElem? hq)))
      exact ⟨(cC, iS), fun r hr => by cases hr; exact h⟩
  obtain ⟨g, hg⟩ := Classical.axiomOfChoice H
  exact ⟨fun k => (g k).1, fun k => (g k).2, fun k q hq => hg k q hq⟩
theorem am_KI {args : Array Value} {s : State} (h : (Cond.arrayClass .int).before args s = true) : ∃ cA, ArrOfT s cA .int ∧ va_RA s cA .int := by
  obtain ⟨cA, kA, comp, h1, h2, h3⟩ := Cond.arrayClass_spec h
  exact ⟨cA, fun n z => ⟨fun k h => (by cases h), kA, h2, comp, h3⟩, h1⟩
theorem am_KZ {args : Array Value} {s : State} (h : (Cond.arrayClass .boolean).before args s = true) : ∃ cA, ArrOfT s cA .boolean ∧ va_RA s cA .boolean := by
  obtain ⟨cA, kA, comp, h1, h2, h3⟩ := Cond.arrayClass_spec h
  exact ⟨cA, fun n z => ⟨fun k h => (by cases h), kA, h2, comp, h3⟩, h1⟩
theorem am_KO {args : Array Value} {s : State} (h : (Cond.arrayOver (.array .int)).before args s = true) : ∃ cA, ArrOfT s cA (.array .int) ∧ va_RA s cA (.array .int) := by
  obtain ⟨comp, cA, kA, _, _, h2, h3, h1⟩ := Jvm.Stand.arrayOver_specB h
  exact ⟨cA, fun n z => ⟨fun k h => (by cases h), kA, h2, comp, h3⟩, h1⟩
set_option maxRecDepth 4000 in
theorem whole_start {p : Program} {e : Env} {s : State} {m : MethodId} {below : List Frame} {meth : Method} {c : Code} (l : Launch) {b L : Nat} {xs : Nat → Int32} (hL : L ≤ 3072) (hnm : meth.name = x.name) (C0 : lw_At p s m meth c b L xs) : W p l e room_1 s m #[Value.ref b] below meth c s.heap [] 0 0 (lw_Z below #[Value.ref b] s) (entryFrame m ([Value.ref b] : List Value).toArray 4) := by
  obtain ⟨hx, hb, hr, hml, hown, hts, hX, hbl, hlk, hgv⟩ := id C0
  have htg : ∀ w ∈ lw_g, w.before #[Value.ref b] s = true := fun w hw => hts w (List.mem_filter.mp hw).1
  obtain ⟨dC, dI, hKc⟩ := am_Kn htg hts
  obtain ⟨cI, kI1, kI2⟩ := am_KI (htg _ am_iaI)
  obtain ⟨cZ, kZ1, kZ2⟩ := am_KZ (htg _ am_iaZ)
  obtain ⟨cO, kO1, kO2⟩ := am_KO (htg _ am_iaO)
  have hA : ∀ a : Nat, a < s.heap.size → ¬ (fun q : Nat => s.heap.size ≤ q) a := fun a ha => Nat.not_le.mpr ha
  obtain ⟨t0, T0, Z0⟩ := am_tab0 (A := fun q : Nat => s.heap.size ≤ q) hgv hts hA
  obtain ⟨t1, T1, Z1⟩ := am_tab1 (A := fun q : Nat => s.heap.size ≤ q) hgv hts hA
  obtain ⟨t2, T2, Z2⟩ := am_tab2 (A := fun q : Nat => s.heap.size ≤ q) hgv hts hA
  obtain ⟨t3, T3, Z3⟩ := am_tab3 (A := fun q : Nat => s.heap.size ≤ q) hgv hts hA
  obtain ⟨t4, T4, Z4⟩ := am_tab4 (A := fun q : Nat => s.heap.size ≤ q) hgv hts hA
  obtain ⟨G, hG⟩ : ∃ G : am_G, G = ((dC, dI), (fun t => if t = 0 then cI else if t = 1 then cZ else cO), s.heap.size, fun j => if j = 0 then t0 else if j = 1 then t1 else if j = 2 then t2 else if j = 3 then t3 else if j = 4 then t4 else b) := ⟨_, rfl⟩
  have hK : va_K G.1 vwCl (am_tys G) s := by
    rw [hG]
    refine ⟨hKc, fun k q hq => ?_⟩
    match k, hq with
    | 0, hq => cases hq; exact ⟨kI1, kI2⟩
    | 1, hq => cases hq; exact ⟨kZ1, kZ2⟩
    | 2, hq => cases hq; exact ⟨kO1, kO2⟩
    | k + 3, hq => simp [am_tys] at hq
  have hT : am_T G (am_tb L xs) s := by
    rw [hG]
    refine ⟨fun j hj => ?_, fun j z hz => ?_⟩
    · match j, hj with
      | 0, _ => exact T0
      | 1, _ => exact T1
      | 2, _ => exact T2
      | 3, _ => exact T3
      | 4, _ => exact T4
      | 5, _ =>
        obtain ⟨scr, h1, h2, h3, h4, h5⟩ := hX
        exact ⟨scr, h1, h2, h3, by rw [h4]; exact Nat.le_refl _, by rw [h4]; rfl, h5, Nat.not_le.mpr hbl⟩
      | j + 6, hj => omega
    · match j, hz with
      | 0, hz => cases hz; exact Z0
      | 1, hz => cases hz; exact Z1
      | 2, hz => cases hz; exact Z2
      | 3, hz => cases hz; exact Z3
      | 4, hz => cases hz; exact Z4
      | j + 5, hz => simp [am_stn] at hz
  have hbase : G.2.2.1 = s.heap.size := by rw [hG]
  have htv : am_tv G (.retAddr 5) = .ref b := by rw [hG]; rfl
  have cx : am_Cx G mL_law (am_tb L xs) p s m #[Value.ref b] meth c := ⟨hx, hb, hr, hml, hown, htg, hlk, hnm, hK, hT, by rw [hbase]; exact Nat.le_refl _⟩
  have X0 := am_sound l _ (c_law0 (L := L) (xs := xs) (Q := fun r _ => r = some (.int 1)) hL (fun _ => rfl)) okL_law (Nat.le_refl _) (Nat.le_refl _) G (am_tb L xs) p e s m #[Value.ref b] below meth c rfl cx
  have hl := lv_entry ([Value.ref b] : List Value) (n := 4) (Nat.le_of_ble_eq_true rfl)
  rw [lg_entry_eq]
  have W0 := X0 _ s.heap [] ⟨hl.1, hl.2.1, rfl, fun i v hi hv => ?_⟩ ⟨by rw [hbase]; rfl, fun i hi => absurd hi (Nat.not_lt_zero _), fun _ _ => rfl, fun i t n h => by cases h⟩ va_S.rf
  · intro T hT0 Xs
    obtain ⟨t, hst, o, hrun, hend, ⟨⟨r, h1, ho, hq, _, _⟩, _⟩, Lc, ⟨f1, f2, f3⟩, hfree⟩ := W0 T hT0 Xs
    refine ⟨t, hst, o, hrun, hend, ?_, f1, f2, f3.weaken (fun y hy hlt => ?_) (Nat.le_refl _) (Nat.le_refl _)⟩
    · rw [ho, hq]; rfl
    · have := hfree y hy
      have h2 : G.2.2.1 ≤ y.base := this
      rw [hbase] at h2
      exact absurd hlt (Nat.not_lt.mpr h2)
  · match i, hi with
    | 0, hi =>
      cases hi
      rw [htv]
      exact hl.2.2 (0, .ref b) (List.mem_cons_self)
    | 1, hi => cases hi; cases hv
    | 2, hi => cases hi; cases hv
    | 3, hi => cases hi; cases hv
    | i + 4, hi => cases hi
set_option maxHeartbeats 4000000 in
theorem lw_walk (l : Launch) (b : Addr) (xs : List Int32) : MetFree l x (headSpec (Jvm.Cond.code x code maxLocals ret :: tables_1) room_1) (lw_P b xs) (fun _ _ _ _ _ => True) lw_Q := by
  refine MetFree.of_bodyS (code := code) (maxLocals := maxLocals) (ret := ret) (by decide) ?_ ?_
  · intro args s m h hn
    obtain ⟨meth, c, h1, h2, h3, h4, h5, h6, -, -⟩ := Cond.code_spec hn (atoms_spec (ws := Jvm.Cond.code x code maxLocals ret :: tables_1) h _ List.mem_cons_self)
    exact ⟨meth, c, h1, h2, h3, h4, h5, h6⟩
  · intro p e s m args below meth c s₁ B hml0 hP _
    obtain ⟨rfl, hx, hbd, hgv⟩ := hP
    obtain ⟨scr, harrAt, hlist, hof, hsmall⟩ := hx
    obtain ⟨hcb, hkn, -, -⟩ := State.arrayAt?_spec harrAt
    have hown : s.vm.findClass R_law = some m.cls := findClass_of_methodNamed B.named
    have hts0 : ∀ c ∈ (Jvm.Cond.code x code maxLocals ret :: tables_1), c.before #[Value.ref b] s = true := atoms_spec (ws := Jvm.Cond.code x code maxLocals ret :: tables_1) B.pre
    have hts : ∀ w ∈ lw_tbl, w.before #[Value.ref b] s = true := k2_hts_sels lw_privs (fun w hw => hts0 w (List.mem_cons_of_mem _ hw)) lw_privs_ok
    have hml : c.maxLocals = 4 := B.maxLocals_eq (hts0 _ List.mem_cons_self)
    have X₀ : Stand p l e room_1 s m #[Value.ref b] below meth c s₁ [] 0 0 := Stand.of_body B
    have hh0 : s₁.heap = s.heap := by rw [B.state]; rfl
    have hsz : scr.slots.size = xs.length := by rw [← Array.length_toList, hlist, List.length_map]
    have hval : ∀ j : Nat, j < xs.length → scr.slots[j]? = some (.int (xs.getD j 0)) := fun j hj => by
      rw [← Array.getElem?_toList, hlist]
      simp [hj]
    have hbl : b < s.heap.size := (Array.getElem?_eq_some_iff.mp hcb).1
    have hX : va_X b xs.length (fun j => xs.getD j 0) s s.heap := ⟨scr, hcb, hof, hkn, hsz, hval⟩
    have K : W p l e room_1 s m #[Value.ref b] below meth c s₁.heap [] 0 0 (lw_Z below #[Value.ref b] s) (entryFrame m ([Value.ref b] : List Value).toArray 4) := by
      rw [hh0]
      exact whole_start l hbd (name_of_methodNamed B.named B.method).1 ⟨B.exec, B.bytes, B.returns, hml, hown, hts, hX, hbl, B.notSynchronized, hgv⟩
    obtain ⟨t, a1, o, b1, b2, b3⟩ := K s₁ rfl X₀
    exact ⟨t, o, a1, b1, b2, b3⟩
theorem lw_pre_spec {args : Array Value} {s : State} (h : (Jvm.Cond.and given_1 narrow_1).before args s = true) (hr : rest_1_c.before args s = true) : ∃ (b : Addr) (xs : List Int32), lw_P b xs args s := by
  have hs := flat_of_before _ h
  have hq := flat_of_before _ hr
  have hc : (Cond.count 1).before args s = true := hs _ (by decide +kernel)
  have harr : (Cond.arrayOf (.arg 0) .int).before args s = true := hs _ (by decide +kernel)
  have hle : (Cond.le (.length (.arg 0)) (.int 3072)).before args s = true := hs _ (by decide +kernel)
  have hlen : (Cond.isInt (.length (.arg 0))).before args s = true := hq _ (by decide +kernel)
  have hall : (Cond.all (.arg 0) (.isInt (.elem (.arg 0) (.index 0)))).before args s = true := hq _ (by decide +kernel)
  obtain ⟨b, xs, hb, hx⟩ := State.ints_of_pre rfl harr hlen hall
  have hsm : xs.length < 2 ^ 31 := hx.choose_spec.2.2.2
  have hev : (Term.length (.arg 0)).eval args s none [] s = some (.int xs.length.toInt32) := hx.length_eval hb
  have hv := Cond.le_ints hev (show (Term.int 3072).eval args s none [] s = some (.int 3072) from rfl)
  have hd : xs.length.toInt32 ≤ 3072 := by
    simpa [Cond.before, Cond.holds, hv] using hle
  have hN : xs.length ≤ 3072 := (Int32.ofNat_le_ofNat hsm (by decide)).mp (show Int32.ofNat xs.length ≤ Int32.ofNat 3072 from hd)
  exact ⟨b, xs, Cond.one_arg hc (show args[0]? = some (.ref b) from hb), hx, hN, h⟩
theorem lw_comes (l : Launch) : Comes l x (Jvm.Cond.code x code maxLocals ret :: tables_1) room_1 (fun tb e args s => Calls_1 tb e args s ∧ rest_1 tb e args s ∧ Pre_1 tb e args s)
    (fun _ _ args s o t => lw_Q args s o t) := by
  intro p e ha hc hk s m args below hf hfit hheap happ hpre
  obtain ⟨b, xs, hP⟩ := lw_pre_spec hpre.2.2 hpre.2.1
  obtain ⟨k, o, h1, h2, h3, hQ⟩ := lw_walk l b xs p e ha hc hk s m args below hf ((Spec.applies_iff_loose hf).mp happ).1 hP trivial
  exact ⟨k, o, h1, h2, h3, hQ⟩
theorem lw_frame {s t : State} {o : Outcome} {args : Array Value} (h : Framed s o t [] 600000 7302250) :
    Framed s o t (fieldLocs frame_1_writes args s ++ arrayLocs frame_1_arrays args s ++ staticLocs frame_1_statics s) 600000 7302250 := h
theorem lw_limb (L : Cond) (hL : ∀ (args : Array Value) (s t : State), L.after args s (.returned (some (.int 1))) t = true) :
    ArmFor flags0 classFile x code maxLocals ret World_1 tables_1 room_1 Calls_1 rest_1 Pre_1
      (fun tb e a s o t => postC L tb e a s o t ∧ Framed s o t (fieldLocs frame_1_writes a s ++ arrayLocs frame_1_arrays a s ++ staticLocs frame_1_statics s) 600000 7302250) := by
  intro l _ _ _ p e ha hc hk s m args below hf hfit hheap happ hpre
  obtain ⟨k, o, h1, h2, h3, rfl, hF⟩ := lw_comes l p e ha hc hk s m args below hf hfit hheap happ hpre
  exact ⟨k, _, h1, h2, h3, hL args s _, lw_frame hF⟩
theorem i_vc : Claimed_1_1 ∧ Claimed_1_2 := ⟨lw_limb limb_1_1 (fun args s t => by simp [limb_1_1, Cond.after, Cond.holds, Cond.value]), lw_limb limb_1_2 (fun args s t => Cond.after_iff.mpr (by
  first | (rw [show limb_1_2 = Cond.eq .result (.int 1) from rfl, Cond.eq_ints (x := 1) (y := 1) rfl rfl]; simp; done) | (simp [limb_1_2, Cond.value, Term.eval]; done)))⟩
