/-! THE ABSTRACT MACHINE IS THE MACHINE: what 'am_Go' says of a method, 'Met' says -/
abbrev am_G : Type := va_G × (Nat → ClassId) × Nat × (Nat → Nat)
def am_b (G : am_G) : Nat := G.2.2.1
def am_tv (G : am_G) : Value → Value
  | .ref i => .ref (G.2.2.1 + i)
  | .retAddr j => .ref (G.2.2.2 j)
  | v => v
def am_A (G : am_G) : Nat → Prop := fun q => G.2.2.1 ≤ q
def am_tys (G : am_G) : List (ClassId × FieldType) := [(G.2.1 0, .int), (G.2.1 1, .boolean), (G.2.1 2, .array .int)]
def am_arrv (G : am_G) (h : am_H) (i t : Nat) : (Nat → Int32) ⊕ (Nat → Int64) ⊕ (Nat → UInt32) ⊕ (Nat → UInt64) ⊕ (Nat → Option Nat) := match Nat.beq t 2 with
  | true => .inr (.inr (.inr (.inr (fun j => (h.2.1 i j).map (fun q => G.2.2.1 + q)))))
  | false => .inl (h.2.2.1 i)
def am_cell (G : am_G) (h : am_H) (i : Nat) : va_E := match h.1 i with
  | .inl ci => .inr (ci, (List.range (am_kd.getD ci []).length).map (fun k => am_tv G (am_fv h i ci k)))
  | .inr q => .inl (G.2.1 q.1, q.2, am_arrv G h i q.1)
def am_Hp (G : am_G) (h : am_H) (H : Heap) : Prop := H.size = G.2.2.1 + h.2.2.2.1 ∧ (∀ i, i < h.2.2.2.1 → va_at G.1 vwCl (G.2.2.1 + i, am_cell G h i) H) ∧ (∀ i, h.2.2.2.1 ≤ i → h.1 i = .inl 999) ∧ (∀ i t n, h.1 i = .inr (t, n) → t < 3)
def am_Lo (G : am_G) (lsC : Array Slot) (nL : Nat) (ls : List Value) : Prop := lsC.size = nL ∧ lv_wf lsC ∧ ls.length = nL ∧ ∀ (i : Nat) (v : Value), ls[i]? = some v → v.category = 1 → lsC[i]? = some (Slot.val (am_tv G v))
def am_T (G : am_G) (tb : Nat → Nat × (Nat → Int32)) (s : State) : Prop := (∀ j, j < 6 → va_T .int (G.2.2.2 j) (tb j).1 (fun k => .int ((tb j).2 k)) (am_A G) s s.heap) ∧ (∀ (j : Nat) (z : String × String), am_stn[j]? = some z → va_Z z.1 z.2 "[I" (.ref (G.2.2.2 j)) (am_A G) s s.heap)
def am_Cx (G : am_G) (M : am_M) (tb : Nat → Nat × (Nat → Int32)) (p : Program) (s : State) (m : MethodId) (args : Array Value) (meth : Method) (c : Code) : Prop :=
  p.tables.exec = Jvm.exec ∧ c.code = am_cc M ∧ meth.sig.returnType = am_ret M ∧ c.maxLocals = am_ml M ∧ s.vm.findClass (am_own M) = some m.cls ∧ (∀ w ∈ lw_g, w.before args s = true) ∧ meth.locks = false ∧ meth.name = (am_y M).name ∧ va_K G.1 vwCl (am_tys G) s ∧ am_T G tb s ∧ G.2.2.1 ≤ s.heap.size
def am_W (l : Launch) (G : am_G) (p : Program) (e : Env) (R : Room) (s : State) (m : MethodId) (args : Array Value) (below : List Frame) (meth : Method) (c : Code) (Z : State → Prop) (M : am_M) (cells slots : Nat) (pc : Nat) (ls st : List Value) (h : am_H) : Prop :=
  ∀ (lsC : Array Slot) (H : Heap) (locs : List Loc), am_Lo G lsC (am_ml M) ls → am_Hp G h H → va_S (am_A G) s.heap H locs → W p l e R s m args below meth c H locs cells slots Z (F0 m pc lsC (st.map (am_tv G)))
/-! the words of the tables stay -/
theorem am_stay {w : Jvm.Cond} (hw : am_gw w = true) {args a' : Array Value} {s U : State} (hW : s.WarmedH U.vm) (h : w.before args s = true) : w.before a' U = true := by
  unfold am_gw at hw
  rw [Bool.or_eq_true] at hw
  rcases hw with hw | hw
  · exact word_at hW (good_of_word hw) h
  · split at hw
    · exact va_Nw.use rfl (va_Nw.warmD hW (va_Nw.of rfl h))
    · exact va_Nw.use rfl (va_Nw.warmM hW (va_Nw.of rfl h))
    · exact over_moved hW.alike h
    · cases hw
theorem am_stays {args a' : Array Value} {s U : State} (hW : s.WarmedH U.vm) (h : ∀ w ∈ lw_g, w.before args s = true) : ∀ w ∈ lw_g, w.before a' U = true := fun w hw => am_stay (List.mem_filter.mp hw).2 hW (h w hw)
theorem am_lays {C : String} {T : u_T} {N : Nat} (h : ∀ w ∈ u_ws C T N, w ∈ lw_tbl) (hg : (u_ws C T N).all am_gw = true) : ∀ w ∈ u_ws C T N, w ∈ lw_g := fun w hw => List.mem_filter.mpr ⟨h w hw, List.all_eq_true.mp hg w hw⟩
def am_ti : Nat → Nat → FieldType := fun c => match c with
  | 0 => tyX0
  | 1 => tyX1
  | 2 => tyX2
  | 3 => tyX3
  | 4 => tyX5
  | 5 => tyX6
  | 6 => tyX7
  | 7 => tyX10
  | 8 => tyX11
  | _ => tyX12
def am_kb (ci k : Nat) : Bool := match am_k ci k, am_ti ci k with
  | 0, .int => true
  | 1, .boolean => true
  | 2, .object _ => true
  | 2, .array _ => true
  | _, _ => false
theorem am_kb_of {ci k : Nat} (h : am_kb ci k = true) : (am_k ci k = 0 ∧ am_ti ci k = .int) ∨ (am_k ci k = 1 ∧ am_ti ci k = .boolean) ∨ (am_k ci k = 2 ∧ ((∃ n, am_ti ci k = .object n) ∨ ∃ n, am_ti ci k = .array n)) := by
  unfold am_kb at h
  split at h
  · rename_i h1 h2; exact Or.inl ⟨h1, h2⟩
  · rename_i h1 h2; exact Or.inr (Or.inl ⟨h1, h2⟩)
  · rename_i n h1 h2; exact Or.inr (Or.inr ⟨h1, Or.inl ⟨n, h2⟩⟩)
  · rename_i n h1 h2; exact Or.inr (Or.inr ⟨h1, Or.inr ⟨n, h2⟩⟩)
  · cases h
/-- what the tables say of each class -/
theorem am_cls {ci : Nat} {r : vw_C} (h : vwCl[ci]? = some r) : (∀ w ∈ u_ws r.1 r.2.1 r.2.2, w ∈ lw_g) ∧ (∀ k, k < r.2.2 → parseFieldDescriptor (r.2.1 k).2.2.1 = some (am_ti ci k)) ∧ (∀ a, a < r.2.2 → ∀ b, b < r.2.2 → a ≠ b → (r.2.1 a).2.1 ≠ (r.2.1 b).2.1) ∧ (am_kd.getD ci []).length = r.2.2 ∧ ∀ k, k < r.2.2 → am_kb ci k = true := by
  match ci, h with
  | 0, h => cases h; exact ⟨am_lays inX0 (by decide +kernel), tyX0_ok, nmX0, rfl, by decide +kernel⟩
  | 1, h => cases h; exact ⟨am_lays inX1 (by decide +kernel), tyX1_ok, nmX1, rfl, by decide +kernel⟩
  | 2, h => cases h; exact ⟨am_lays inX2 (by decide +kernel), tyX2_ok, nmX2, rfl, by decide +kernel⟩
  | 3, h => cases h; exact ⟨am_lays inX3 (by decide +kernel), tyX3_ok, nmX3, rfl, by decide +kernel⟩
  | 4, h => cases h; exact ⟨am_lays inX5 (by decide +kernel), tyX5_ok, nmX5, rfl, by decide +kernel⟩
  | 5, h => cases h; exact ⟨am_lays inX6 (by decide +kernel), tyX6_ok, nmX6, rfl, by decide +kernel⟩
  | 6, h => cases h; exact ⟨am_lays inX7 (by decide +kernel), tyX7_ok, nmX7, rfl, by decide +kernel⟩
  | 7, h => cases h; exact ⟨am_lays inX10 (by decide +kernel), tyX10_ok, nmX10, rfl, by decide +kernel⟩
  | 8, h => cases h; exact ⟨am_lays inX11 (by decide +kernel), tyX11_ok, nmX11, rfl, by decide +kernel⟩
  | 9, h => cases h; exact ⟨am_lays inX12 (by decide +kernel), tyX12_ok, nmX12, rfl, by decide +kernel⟩
  | k + 10, h => simp at h
/-! locals -/
theorem am_tv_cat (G : am_G) (v : Value) (h : v.category = 1) : (am_tv G v).category = 1 := by
  cases v <;> first | rfl | exact h
def am_ll (G : am_G) (ls : List Value) : List (Nat × Value) := (List.range ls.length).filterMap (fun i => match ls[i]? with
  | some v => if v.category = 1 then some (i, am_tv G v) else none
  | none => none)
theorem am_ll_mem {G : am_G} {ls : List Value} {i : Nat} {v : Value} (h : ls[i]? = some v) (hc : v.category = 1) : (i, am_tv G v) ∈ am_ll G ls := by
  refine List.mem_filterMap.mpr ⟨i, List.mem_range.mpr (List.getElem?_eq_some_iff.mp h).1, ?_⟩
  rw [h]
  simp [hc]
theorem am_Lo.has {G : am_G} {lsC : Array Slot} {nL : Nat} {ls : List Value} (h : am_Lo G lsC nL ls) : lv_has lsC nL (am_ll G ls) := by
  refine ⟨h.1, h.2.1, fun q hq => ?_⟩
  obtain ⟨i, -, hi⟩ := List.mem_filterMap.mp hq
  split at hi
  · rename_i v hv
    split at hi
    · rename_i hc
      cases hi
      exact h.2.2.2 i v hv hc
    · cases hi
  · cases hi
theorem am_Lo.set {G : am_G} {lsC lsC' : Array Slot} {nL : Nat} {ls : List Value} {i : Nat} {v : Value} (h : am_Lo G lsC nL ls) (hi : i < nL) (hc : v.category = 1) (hn : lv_has lsC' nL ((i, am_tv G v) :: (am_ll G ls).filter (fun q => !(q.1 == i) && !(q.1 + 1 == i && q.2.category == 2)))) : am_Lo G lsC' nL (ls.set i v) := by
  refine ⟨hn.1, hn.2.1, by rw [List.length_set]; exact h.2.2.1, fun j w hj hw => ?_⟩
  by_cases e : i = j
  · subst e
    rw [List.getElem?_set_self (by rw [h.2.2.1]; exact hi)] at hj
    cases hj
    exact hn.2.2 _ (List.mem_cons_self)
  · rw [List.getElem?_set_ne e] at hj
    refine hn.2.2 (j, am_tv G w) (List.mem_cons_of_mem _ (List.mem_filter.mpr ⟨am_ll_mem hj hw, ?_⟩))
    have h1 : (j == i) = false := by simp [Ne.symm e]
    have h2 : ((am_tv G w).category == 2) = false := by rw [am_tv_cat G w hw]; rfl
    simp [h1, h2]
/-! switches -/
theorem am_ofInt_eq {x : Int32} {k : Int} (h1 : -2147483648 ≤ k) (h2 : k ≤ 2147483647) : x = Int32.ofInt k ↔ x.toInt = k := by
  constructor
  · intro h
    rw [h, Int32.toInt_ofInt]
    have e : (Int32.size : Int) = 4294967296 := rfl
    exact Int.bmod_eq_of_le (by omega) (by omega)
  · intro h
    rw [← h, Int32.ofInt_toInt]
theorem am_tsel_eq (pc : Nat) (d : Int) (x : Int32) : ∀ (os : List Int) (k : Int), -2147483648 ≤ k → k + os.length ≤ 2147483648 → am_tsel pc d x k os = am_tg pc (if k ≤ x.toInt ∧ x.toInt < k + os.length then os.getD (x.toInt - k).toNat d else d)
  | [], k, _, _ => by
    simp only [List.getD_nil, ite_self]
    rfl
  | o :: r, k, h1, h2 => by
    simp only [List.length_cons] at h2 ⊢
    unfold am_tsel
    by_cases hx : x.toInt = k
    · rw [if_pos ((am_ofInt_eq h1 (by omega)).mpr hx), if_pos (by omega), hx]
      simp
    · rw [if_neg (fun q => hx ((am_ofInt_eq h1 (by omega)).mp q)), am_tsel_eq pc d x r (k + 1) (by omega) (by omega)]
      by_cases hr : k ≤ x.toInt ∧ x.toInt < k + ((r.length + 1 : Nat) : Int)
      · rw [if_pos (by omega), if_pos hr]
        congr 1
        have e1 : (x.toInt - k).toNat = (x.toInt - (k + 1)).toNat + 1 := by omega
        rw [e1]
        simp
      · rw [if_neg (by omega), if_neg hr]
theorem am_lsel_eq (pc : Nat) (d : Int) (x : Int32) : ∀ (ps : List (Int × Int)), (∀ q ∈ ps, -2147483648 ≤ q.1 ∧ q.1 ≤ 2147483647) → am_lsel pc d x ps = am_tg pc (Op.lookupswitch.offset ps d x.toInt)
  | [], _ => rfl
  | q :: r, h => by
    have hq := h q List.mem_cons_self
    unfold am_lsel
    rw [am_lsel_eq pc d x r (fun z hz => h z (List.mem_cons_of_mem _ hz))]
    obtain ⟨a, b⟩ := q
    by_cases hx : x.toInt = a
    · rw [if_pos ((am_ofInt_eq hq.1 hq.2).mpr hx)]
      simp [Op.lookupswitch.offset, hx]
    · rw [if_neg (fun z => hx ((am_ofInt_eq hq.1 hq.2).mp z))]
      simp [Op.lookupswitch.offset, Ne.symm hx]
