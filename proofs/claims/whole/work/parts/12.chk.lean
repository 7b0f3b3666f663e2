/-- what am_Mok asks, by program: the places of the words in lw_tbl are given -/
def am_fw (M : am_M) (q : Nat × Nat × List Nat) (i : Nat) : Bool := q.2.2.all (fun ci => match vwCl[ci]? with
  | some r => decide (q.2.1 < r.2.2) && decide (lw_tbl[i]? = some (.fieldLink (am_own M) q.1 (r.2.1 q.2.1).1 (r.2.1 q.2.1).2.1 (r.2.1 q.2.1).2.2.1))
  | none => false)
def am_z2 {α : Type} (f : α → Nat → Bool) : List α → List Nat → Bool
  | [], _ => true
  | a :: r, i :: s => f a i && am_z2 f r s
  | _ :: _, [] => false
theorem am_z2_of {α : Type} {f : α → Nat → Bool} : ∀ {l : List α} {s : List Nat}, am_z2 f l s = true → ∀ a ∈ l, ∃ i, f a i = true
  | [], _, _, _, ha => by cases ha
  | a :: r, i :: s, h, b, hb => by
    unfold am_z2 at h
    rw [Bool.and_eq_true] at h
    rcases List.mem_cons.mp hb with rfl | q
    · exact ⟨i, h.1⟩
    · exact am_z2_of h.2 b q
  | _ :: _, [], h, _, _ => by cases h
def am_mok (M : am_M) (fi ci si : List Nat) : Bool :=
  plainName (am_y M).cls && (am_code M).all (fun q => decide (decode (am_cc M) q.1 = .ok q.2) && am_chk1 M q.1 q.2.1 && (decide (am_elen q.2.1 = 0) || decide (q.2.2 = am_elen q.2.1))) &&
  am_z2 (am_fw M) (am_fls M) fi && am_z2 (fun q i => decide (lw_tbl[i]? = some (.constant (am_own M) q.1 q.2))) (am_cns M) ci &&
  am_z2 (fun q i => match am_stn[q.2]? with | some z => decide (lw_tbl[i]? = some (.fieldLink (am_own M) q.1 z.1 z.2 "[I")) | none => false) (am_sts M) si
theorem am_Mok.of {M : am_M} (fi ci si : List Nat) (h : am_mok M fi ci si = true) : am_Mok M := by
  unfold am_mok at h
  simp only [Bool.and_eq_true] at h
  obtain ⟨⟨⟨⟨h1, h2⟩, h3⟩, h4⟩, h5⟩ := h
  refine ⟨h1, trivial, fun q hq => ?_, fun q hq cc hcc => ?_, fun q hq => ?_, fun q hq => ?_⟩
  · have := List.all_eq_true.mp h2 q hq
    simp only [Bool.and_eq_true, Bool.or_eq_true, decide_eq_true_eq] at this
    exact ⟨this.1.1, this.1.2, this.2⟩
  · obtain ⟨i, hi⟩ := am_z2_of h3 q hq
    have := List.all_eq_true.mp hi cc hcc
    split at this
    · rename_i r hr
      simp only [Bool.and_eq_true, decide_eq_true_eq] at this
      exact ⟨r, hr, this.1, am_in.of i this.2 rfl⟩
    · cases this
  · obtain ⟨i, hi⟩ := am_z2_of h4 q hq
    exact am_in.of i (of_decide_eq_true hi) rfl
  · obtain ⟨i, hi⟩ := am_z2_of h5 q hq
    split at hi
    · rename_i z hz
      exact ⟨z, hz, am_in.of i (of_decide_eq_true hi) rfl⟩
    · cases hi
/-! calls, by program -/
def am_plb (s : String) : Bool := decide (s ≠ "java/lang/invoke/MethodHandle") && decide (s ≠ "java/lang/invoke/VarHandle")
theorem am_pl.of {s : String} (h : am_plb s = true) : am_pl s := by
  unfold am_plb at h
  simp only [Bool.and_eq_true, decide_eq_true_eq] at h
  exact h
def am_nmb (x : MethodName) (n : Nat) : Bool := decide ((parseMethodDescriptor x.desc).map (fun d => d.parameters.length) = some n)
theorem am_nm.of {x : MethodName} {n : Nat} (h : am_nmb x n = true) : am_nm x n := by unfold am_nmb at h; unfold am_nm; exact of_decide_eq_true h
def am_fitb (M M' : am_M) : Bool := decide ((am_rm M').frames + 1 ≤ (am_rm M).frames) && decide (8 + (am_ml M' + 11) + (am_rm M').locals ≤ (am_rm M).locals)
theorem am_fit.of {M M' : am_M} (h : am_fitb M M' = true) : am_fit M M' := by
  unfold am_fitb at h
  simp only [Bool.and_eq_true, decide_eq_true_eq] at h
  exact h
def am_cvb (M M' : am_M) (idx ci n i1 i2 i3 i4 i5 : Nat) : Bool := match vwCl[ci]? with
  | some r => decide ((am_y M').cls = r.1) && am_plb (am_y M').cls && am_nmb (am_y M') n && am_fitb M M' && decide (lw_tbl[i1]? = some (.methodLink (am_own M) idx (am_y M'))) && decide (lw_tbl[i2]? = some (.instanceMethod (am_y M'))) && decide (lw_tbl[i3]? = some (.selects r.1 (am_y M') (am_y M'))) && decide (lw_tbl[i4]? = some (.initialized r.1)) && decide (lw_tbl[i5]? = some (am_word M'))
  | none => false
theorem am_CV.of {M M' : am_M} {idx ci n : Nat} (i1 i2 i3 i4 i5 : Nat) (h : am_cvb M M' idx ci n i1 i2 i3 i4 i5 = true) : am_CV M M' idx ci n := by
  unfold am_cvb at h
  split at h
  · rename_i r hr
    simp only [Bool.and_eq_true, decide_eq_true_eq] at h
    obtain ⟨⟨⟨⟨⟨⟨⟨⟨h1, h2⟩, h3⟩, h4⟩, h5⟩, h6⟩, h7⟩, h8⟩, h9⟩ := h
    exact ⟨r, hr, h1, am_pl.of h2, am_nm.of h3, am_fit.of h4, am_in.of _ h5 rfl, am_in.of _ h6 rfl, am_in.of _ h7 rfl, am_in.of _ h8 rfl, am_in.of _ h9 rfl⟩
  · cases h
def am_cub (M M' : am_M) (idx ci n : Nat) (xc owner : String) (i1 i2 i3 i4 i5 i6 i7 : Nat) : Bool := match vwCl[ci]? with
  | some r => am_plb owner && am_nmb ⟨xc, (am_y M').name, (am_y M').desc⟩ n && am_fitb M M' && decide (lw_tbl[i1]? = some (.methodLink (am_own M) idx ⟨xc, (am_y M').name, (am_y M').desc⟩)) && decide (lw_tbl[i2]? = some (.sameMethod xc owner (am_y M').name (am_y M').desc)) && decide (lw_tbl[i3]? = some (.selects r.1 ⟨xc, (am_y M').name, (am_y M').desc⟩ (am_y M'))) && decide (lw_tbl[i4]? = some (.instanceMethod (am_y M'))) && decide (lw_tbl[i5]? = some (.initialized (am_y M').cls)) && decide (lw_tbl[i6]? = some (am_word M')) && (decide (am_y M' = ⟨owner, (am_y M').name, (am_y M').desc⟩) || decide (lw_tbl[i7]? = some (.declares ⟨owner, (am_y M').name, (am_y M').desc⟩)))
  | none => false
theorem am_CU.of {M M' : am_M} {idx ci n : Nat} (xc owner : String) (i1 i2 i3 i4 i5 i6 i7 : Nat) (h : am_cub M M' idx ci n xc owner i1 i2 i3 i4 i5 i6 i7 = true) : am_CU M M' idx ci n := by
  unfold am_cub at h
  split at h
  · rename_i r hr
    simp only [Bool.and_eq_true, Bool.or_eq_true, decide_eq_true_eq] at h
    obtain ⟨⟨⟨⟨⟨⟨⟨⟨⟨h1, h2⟩, h3⟩, h4⟩, h5⟩, h6⟩, h7⟩, h8⟩, h9⟩, h10⟩ := h
    refine ⟨r, ⟨xc, (am_y M').name, (am_y M').desc⟩, owner, hr, am_pl.of h1, am_nm.of h2, am_fit.of h3, am_in.of _ h4 rfl, am_in.of _ h5 rfl, am_in.of _ h6 rfl, am_in.of _ h7 rfl, am_in.of _ h8 rfl, am_in.of _ h9 rfl, ?_⟩
    rcases h10 with q | q
    · exact Or.inl q
    · exact Or.inr (am_in.of _ q rfl)
  · cases h
def am_csb (M M' : am_M) (idx n : Nat) (xc : String) (i1 i2 i3 i4 i5 : Nat) : Bool := am_plb (am_y M').cls && am_nmb (am_y M') n && am_fitb M M' && ((decide (xc = "") && decide (lw_tbl[i1]? = some (.methodLink (am_own M) idx (am_y M')))) || (am_plb xc && decide (lw_tbl[i1]? = some (.methodLink (am_own M) idx ⟨xc, (am_y M').name, (am_y M').desc⟩)) && decide (lw_tbl[i2]? = some (.sameMethod xc (am_y M').cls (am_y M').name (am_y M').desc)))) && decide (lw_tbl[i3]? = some (.static (am_y M'))) && decide (lw_tbl[i4]? = some (.initialized (am_y M').cls)) && decide (lw_tbl[i5]? = some (am_word M'))
theorem am_CS.of {M M' : am_M} {idx n : Nat} (xc : String) (i1 i2 i3 i4 i5 : Nat) (h : am_csb M M' idx n xc i1 i2 i3 i4 i5 = true) : am_CS M M' idx n := by
  unfold am_csb at h
  simp only [Bool.and_eq_true, Bool.or_eq_true, decide_eq_true_eq] at h
  obtain ⟨⟨⟨⟨⟨⟨h1, h2⟩, h3⟩, h4⟩, h5⟩, h6⟩, h7⟩ := h
  refine ⟨am_pl.of h1, am_nm.of h2, am_fit.of h3, ?_, am_in.of _ h5 rfl, am_in.of _ h6 rfl, am_in.of _ h7 rfl⟩
  rcases h4 with q | q
  · exact Or.inl (am_in.of _ q.2 rfl)
  · exact Or.inr ⟨xc, am_pl.of q.1.1, am_in.of _ q.1.2 rfl, am_in.of _ q.2 rfl⟩
def am_cib (M M' : am_M) (idx n : Nat) (host : String) (i1 i2 i3 i4 : Nat) : Bool := am_plb (am_y M').cls && am_nmb (am_y M') n && am_fitb M M' && ((decide (host = "") && decide (lw_tbl[i1]? = some (.methodLink (am_own M) idx (am_y M')))) || decide (lw_tbl[i1]? = some (.methodLinkNest (am_own M) idx (am_y M') host))) && decide (lw_tbl[i2]? = some (.instanceMethod (am_y M'))) && decide (lw_tbl[i3]? = some (.initialized (am_y M').cls)) && decide (lw_tbl[i4]? = some (am_word M')) && decide ((am_y M').name = "<init>") && decide (am_ret M' = none)
theorem am_CI.of {M M' : am_M} {idx n : Nat} (host : String) (i1 i2 i3 i4 : Nat) (h : am_cib M M' idx n host i1 i2 i3 i4 = true) : am_CI M M' idx n := by
  unfold am_cib at h
  simp only [Bool.and_eq_true, Bool.or_eq_true, decide_eq_true_eq] at h
  obtain ⟨⟨⟨⟨⟨⟨⟨⟨h1, h2⟩, h3⟩, h4⟩, h5⟩, h6⟩, h7⟩, h8⟩, h9⟩ := h
  refine ⟨am_pl.of h1, am_nm.of h2, am_fit.of h3, ?_, am_in.of _ h5 rfl, am_in.of _ h6 rfl, am_in.of _ h7 rfl, h8, h9⟩
  rcases h4 with q | q
  · exact Or.inl (am_in.of _ q.2 rfl)
  · exact Or.inr ⟨host, am_in.of _ q rfl⟩
/-! the rules of the abstract run, as they are used -/
section GO
variable {M : am_M} {pc kc ks : Nat} {ls st : List Value} {h : am_H} {Q : am_Q}
def am_run (M : am_M) : Nat → Nat → List Value → List Value → am_H → Option am_F
  | 0, pc, ls, st, h => some (pc, ls, st, h)
  | n + 1, pc, ls, st, h => match am_lk pc (am_code M) with
    | some (i, _) => match am_step M i pc ls st h with
      | some (pc', ls', st', h') => am_run M n pc' ls' st' h'
      | none => none
    | none => none
theorem go_s (n : Nat) {pc' : Nat} {ls' st' : List Value} {h' : am_H} (hr : am_run M n pc ls st h = some (pc', ls', st', h')) (g : am_Go (M, pc', ls', st', h', kc, ks, Q)) : am_Go (M, pc, ls, st, h, kc, ks, Q) := by
  induction n generalizing pc ls st h with
  | zero => cases hr; exact g
  | succ n ih =>
    unfold am_run at hr
    split at hr
    · rename_i i len hi
      split at hr
      · rename_i pc1 ls1 st1 h1 hs
        exact am_Go.intro ⟨i, len, hi, Or.inl ⟨pc1, ls1, st1, h1, hs, ih hr⟩⟩
      · cases hr
    · cases hr
theorem go_m {i : Instr} {len : Nat} {P : Prop} {pc' : Nat} {ls' st' : List Value} {h' : am_H} (hi : am_lk pc (am_code M) = some (i, len)) (hm : am_mem M i pc ls st h = some (P, pc', ls', st', h')) (hP : P) (g : am_Go (M, pc', ls', st', h', kc, ks, Q)) : am_Go (M, pc, ls, st, h, kc, ks, Q) :=
  am_Go.intro ⟨i, len, hi, Or.inr (Or.inl ⟨P, pc', ls', st', h', hm, hP, g⟩)⟩
theorem go_if {c : Prop} [Decidable c] {a b : Nat} (t : c → am_Go (M, a, ls, st, h, kc, ks, Q)) (f : ¬ c → am_Go (M, b, ls, st, h, kc, ks, Q)) : am_Go (M, (if c then a else b), ls, st, h, kc, ks, Q) := by
  by_cases q : c
  · rw [if_pos q]; exact t q
  · rw [if_neg q]; exact f q
theorem go_ret {len : Nat} {v : Int32} (hi : am_lk pc (am_code M) = some (.ireturn, len)) (hr : am_ret M = some .int) (q : Q (some (.int v)) h) : am_Go (M, pc, ls, [.int v], h, kc, ks, Q) :=
  am_Go.intro ⟨.ireturn, len, hi, Or.inr (Or.inr (Or.inl ⟨rfl, v, rfl, Or.inl hr, q⟩))⟩
theorem go_retz {len : Nat} {v : Int32} (hi : am_lk pc (am_code M) = some (.ireturn, len)) (hr : am_ret M = some .boolean) (hv : v = 0 ∨ v = 1) (q : Q (some (.int v)) h) : am_Go (M, pc, ls, [.int v], h, kc, ks, Q) :=
  am_Go.intro ⟨.ireturn, len, hi, Or.inr (Or.inr (Or.inl ⟨rfl, v, rfl, Or.inr ⟨hr, hv⟩, q⟩))⟩
theorem go_reta {len : Nat} {v : Value} {n : String} (hi : am_lk pc (am_code M) = some (.areturn, len)) (hr : am_ret M = some (.object n)) (hv : v = .null ∨ ∃ a, v = .ref a) (q : Q (some v) h) : am_Go (M, pc, ls, [v], h, kc, ks, Q) :=
  am_Go.intro ⟨.areturn, len, hi, Or.inr (Or.inr (Or.inr (Or.inl ⟨rfl, v, n, rfl, hv, hr, q⟩)))⟩
theorem go_retv {len : Nat} (hi : am_lk pc (am_code M) = some (.return_, len)) (hr : am_ret M = none) (q : Q none h) : am_Go (M, pc, ls, [], h, kc, ks, Q) :=
  am_Go.intro ⟨.return_, len, hi, Or.inr (Or.inr (Or.inr (Or.inr (Or.inl ⟨rfl, rfl, hr, q⟩))))⟩
def am_c1 (l : List Value) : Bool := l.all (fun v => match v with | .long _ => false | .double _ => false | _ => true)
theorem am_c1_of {l : List Value} (h : am_c1 l = true) : ∀ v ∈ l, v.category = 1 := fun v hv => by
  have := List.all_eq_true.mp h v hv
  cases v <;> first | rfl | cases this
theorem go_cv {idx len : Nat} {M' : am_M} (ci o : Nat) (as rest : List Value) (hi : am_lk pc (am_code M) = some (.invokevirtual idx, len)) (ho : h.1 o = .inl ci) (hc : am_CV M M' idx ci as.length) (hM : am_Mok M') (hb : (Nat.ble rest.length 8 && am_c1 rest && am_c1 as && Nat.ble (as.length + 1) (am_ml M')) = true) (h1 : (am_rm M').cells ≤ kc) (h2 : (am_rm M').slots ≤ ks)
    (g : am_Go (M', 0, am_ent M' (.ref o :: as), [], h, (am_rm M').cells, (am_rm M').slots, fun r h1 => am_Go (M, pc + 3, ls, r.toList ++ rest, h1, kc - (am_rm M').cells, ks - (am_rm M').slots, Q))) (hst : st = as.reverse ++ .ref o :: rest := by rfl) : am_Go (M, pc, ls, st, h, kc, ks, Q) := by
  simp only [Bool.and_eq_true] at hb
  obtain ⟨⟨⟨b1, b2⟩, b3⟩, b4⟩ := hb
  exact am_Go.intro ⟨.invokevirtual idx, len, hi, Or.inr (Or.inr (Or.inr (Or.inr (Or.inr (Or.inl ⟨idx, M', ci, o, as, rest, _, rfl, hst, ho, Or.inl hc, hM, Nat.le_of_ble_eq_true b1, am_c1_of b2, am_c1_of b3, Nat.le_of_ble_eq_true b4, h1, h2, g, fun r h1 q => q⟩)))))⟩
theorem go_cu {idx len : Nat} {M' : am_M} (ci o : Nat) (as rest : List Value) (hi : am_lk pc (am_code M) = some (.invokevirtual idx, len)) (ho : h.1 o = .inl ci) (hc : am_CU M M' idx ci as.length) (hM : am_Mok M') (hb : (Nat.ble rest.length 8 && am_c1 rest && am_c1 as && Nat.ble (as.length + 1) (am_ml M')) = true) (h1 : (am_rm M').cells ≤ kc) (h2 : (am_rm M').slots ≤ ks)
    (g : am_Go (M', 0, am_ent M' (.ref o :: as), [], h, (am_rm M').cells, (am_rm M').slots, fun r h1 => am_Go (M, pc + 3, ls, r.toList ++ rest, h1, kc - (am_rm M').cells, ks - (am_rm M').slots, Q))) (hst : st = as.reverse ++ .ref o :: rest := by rfl) : am_Go (M, pc, ls, st, h, kc, ks, Q) := by
  simp only [Bool.and_eq_true] at hb
  obtain ⟨⟨⟨b1, b2⟩, b3⟩, b4⟩ := hb
  exact am_Go.intro ⟨.invokevirtual idx, len, hi, Or.inr (Or.inr (Or.inr (Or.inr (Or.inr (Or.inl ⟨idx, M', ci, o, as, rest, _, rfl, hst, ho, Or.inr hc, hM, Nat.le_of_ble_eq_true b1, am_c1_of b2, am_c1_of b3, Nat.le_of_ble_eq_true b4, h1, h2, g, fun r h1 q => q⟩)))))⟩
theorem go_cs {idx len : Nat} {M' : am_M} (as rest : List Value) (hi : am_lk pc (am_code M) = some (.invokestatic idx, len)) (hc : am_CS M M' idx as.length) (hM : am_Mok M') (hb : (Nat.ble rest.length 8 && am_c1 rest && am_c1 as && Nat.ble as.length (am_ml M')) = true) (h1 : (am_rm M').cells ≤ kc) (h2 : (am_rm M').slots ≤ ks)
    (g : am_Go (M', 0, am_ent M' as, [], h, (am_rm M').cells, (am_rm M').slots, fun r h1 => am_Go (M, pc + 3, ls, r.toList ++ rest, h1, kc - (am_rm M').cells, ks - (am_rm M').slots, Q))) (hst : st = as.reverse ++ rest := by rfl) : am_Go (M, pc, ls, st, h, kc, ks, Q) := by
  simp only [Bool.and_eq_true] at hb
  obtain ⟨⟨⟨b1, b2⟩, b3⟩, b4⟩ := hb
  exact am_Go.intro ⟨.invokestatic idx, len, hi, Or.inr (Or.inr (Or.inr (Or.inr (Or.inr (Or.inr (Or.inl ⟨idx, M', as, rest, _, rfl, hst, hc, hM, Nat.le_of_ble_eq_true b1, am_c1_of b2, am_c1_of b3, Nat.le_of_ble_eq_true b4, h1, h2, g, fun r h1 q => q⟩))))))⟩
theorem go_ci {idx len : Nat} {M' : am_M} (o : Nat) (as rest : List Value) (hi : am_lk pc (am_code M) = some (.invokespecial idx, len)) (hc : am_CI M M' idx as.length) (hM : am_Mok M') (hb : (Nat.ble rest.length 8 && am_c1 rest && am_c1 as && Nat.ble (as.length + 1) (am_ml M')) = true) (h1 : (am_rm M').cells ≤ kc) (h2 : (am_rm M').slots ≤ ks)
    (g : am_Go (M', 0, am_ent M' (.ref o :: as), [], h, (am_rm M').cells, (am_rm M').slots, fun r h1 => am_Go (M, pc + 3, ls, r.toList ++ rest, h1, kc - (am_rm M').cells, ks - (am_rm M').slots, Q))) (hst : st = as.reverse ++ .ref o :: rest := by rfl) : am_Go (M, pc, ls, st, h, kc, ks, Q) := by
  simp only [Bool.and_eq_true] at hb
  obtain ⟨⟨⟨b1, b2⟩, b3⟩, b4⟩ := hb
  exact am_Go.intro ⟨.invokespecial idx, len, hi, Or.inr (Or.inr (Or.inr (Or.inr (Or.inr (Or.inr (Or.inr (Or.inl ⟨idx, M', o, as, rest, _, rfl, hst, hc, hM, Nat.le_of_ble_eq_true b1, am_c1_of b2, am_c1_of b3, Nat.le_of_ble_eq_true b4, h1, h2, g, fun r h1 q => q⟩)))))))⟩
theorem go_obj {idx len : Nat} (i : Nat) {o : Nat} {rest : List Value} (hi : am_lk pc (am_code M) = some (.invokespecial idx, len)) (hl : lw_tbl[i]? = some (.methodLink (am_own M) idx objectInit)) (hb : (Nat.ble 1 (am_rm M).frames && Nat.ble (rest.length + 12) (am_rm M).locals && am_c1 rest) = true)
    (g : am_Go (M, pc + 3, ls, rest, h, kc, ks, Q)) : am_Go (M, pc, ls, .ref o :: rest, h, kc, ks, Q) := by
  simp only [Bool.and_eq_true] at hb
  obtain ⟨⟨b1, b2⟩, b3⟩ := hb
  exact am_Go.intro ⟨.invokespecial idx, len, hi, Or.inr (Or.inr (Or.inr (Or.inr (Or.inr (Or.inr (Or.inr (Or.inr (Or.inl ⟨idx, o, rest, rfl, rfl, am_in.of i hl rfl, Nat.le_of_ble_eq_true b1, Nat.le_of_ble_eq_true b2, am_c1_of b3, g⟩))))))))⟩
theorem go_cpy {idx len : Nat} (i : Nat) {x dp sp : Int32} {o o0 n0 n1 : Nat} {rest : List Value} (hi : am_lk pc (am_code M) = some (.invokestatic idx, len)) (hl : lw_tbl[i]? = some (.methodLink (am_own M) idx arraycopyName)) (g0 : h.1 o0 = .inr (0, n0)) (g1 : h.1 o = .inr (0, n1)) (z1 : ¬ sp < 0) (z2 : ¬ dp < 0) (z3 : ¬ x < 0) (z4 : sp.toNatClampNeg + x.toNatClampNeg ≤ n0) (z5 : dp.toNatClampNeg + x.toNatClampNeg ≤ n1) (hb : (Nat.ble 1 (am_rm M).frames && Nat.ble (rest.length + 30) (am_rm M).locals && am_c1 rest) = true)
    (g : am_Go (M, pc + 3, ls, rest, (h.1, h.2.1, (fun i j => if i = o then va_cpy (h.2.2.1 o0) (h.2.2.1 o) sp.toNatClampNeg dp.toNatClampNeg x.toNatClampNeg j else h.2.2.1 i j), h.2.2.2), kc, ks, Q)) : am_Go (M, pc, ls, .int x :: .int dp :: .ref o :: .int sp :: .ref o0 :: rest, h, kc, ks, Q) := by
  simp only [Bool.and_eq_true] at hb
  obtain ⟨⟨b1, b2⟩, b3⟩ := hb
  exact am_Go.intro ⟨.invokestatic idx, len, hi, Or.inr (Or.inr (Or.inr (Or.inr (Or.inr (Or.inr (Or.inr (Or.inr (Or.inr (Or.inl ⟨idx, x, dp, o, sp, o0, rest, n0, n1, rfl, rfl, am_in.of i hl rfl, g0, g1, z1, z2, z3, z4, z5, Nat.le_of_ble_eq_true b1, Nat.le_of_ble_eq_true b2, am_c1_of b3, g⟩)))))))))⟩
theorem go_new {idx len : Nat} (ci i1 i2 i3 : Nat) {r : vw_C} (hi : am_lk pc (am_code M) = some (.new idx, len)) (hr : vwCl[ci]? = some r) (h1 : lw_tbl[i1]? = some (.classLink (am_own M) idx r.1)) (h2 : lw_tbl[i2]? = some (.instantiable r.1 r.2.2)) (h3 : lw_tbl[i3]? = some (.initialized r.1)) (hk1 : 1 ≤ kc) (hk2 : r.2.2 ≤ ks)
    (g : am_Go (M, pc + 3, ls, .ref h.2.2.2.1 :: st, am_new h (.inl ci), kc - 1, ks - r.2.2, Q)) : am_Go (M, pc, ls, st, h, kc, ks, Q) :=
  am_Go.intro ⟨.new idx, len, hi, Or.inr (Or.inr (Or.inr (Or.inr (Or.inr (Or.inr (Or.inr (Or.inr (Or.inr (Or.inr (Or.inl ⟨idx, ci, r, rfl, hr, am_in.of i1 h1 rfl, am_in.of i2 h2 rfl, am_in.of i3 h3 rfl, hk1, hk2, g⟩))))))))))⟩
theorem go_newa {len t : Nat} {at' : ArrayType} {x : Int32} {rest : List Value} (n : Nat) (hi : am_lk pc (am_code M) = some (.newarray at', len)) (ha : am_arr at' = some t) (hn : x = nI n) (hb : (Nat.ble n 100000 && Nat.ble 1 kc && Nat.ble n ks) = true)
    (g : am_Go (M, pc + 2, ls, .ref h.2.2.2.1 :: rest, am_new h (.inr (t, n)), kc - 1, ks - n, Q)) : am_Go (M, pc, ls, .int x :: rest, h, kc, ks, Q) := by
  simp only [Bool.and_eq_true] at hb
  obtain ⟨⟨b1, b2⟩, b3⟩ := hb
  have b1 := Nat.le_of_ble_eq_true b1
  have hc : x.toNatClampNeg = n := by rw [hn]; exact nI_clamp (by omega)
  refine am_Go.intro ⟨.newarray at', len, hi, Or.inr (Or.inr (Or.inr (Or.inr (Or.inr (Or.inr (Or.inr (Or.inr (Or.inr (Or.inr (Or.inr (Or.inl ⟨at', t, x, rest, rfl, ha, rfl, by rw [hn]; exact nI_pos (by omega), by rw [hc]; exact b1, Nat.le_of_ble_eq_true b2, by rw [hc]; exact Nat.le_of_ble_eq_true b3, ?_⟩)))))))))))⟩
  rw [hc]; exact g
theorem go_mna {idx len : Nat} (i : Nat) {x y : Int32} {rest : List Value} (n k : Nat) (hi : am_lk pc (am_code M) = some (.multianewarray idx 2, len)) (hl : lw_tbl[i]? = some (.classLink (am_own M) idx "[[I")) (hn : x = nI n) (hm : y = nI k) (hb : (Nat.ble n 10000 && Nat.ble k 10000 && Nat.ble (1 + n) kc && Nat.ble (n + n * k) ks) = true)
    (g : am_Go (M, pc + 4, ls, .ref h.2.2.2.1 :: rest, am_new2 h n k, kc - (1 + n), ks - (n + n * k), Q)) : am_Go (M, pc, ls, .int y :: .int x :: rest, h, kc, ks, Q) := by
  simp only [Bool.and_eq_true] at hb
  obtain ⟨⟨⟨b1, b2⟩, b3⟩, b4⟩ := hb
  have b1 := Nat.le_of_ble_eq_true b1
  have b2 := Nat.le_of_ble_eq_true b2
  have hc : x.toNatClampNeg = n := by rw [hn]; exact nI_clamp (by omega)
  have hd : y.toNatClampNeg = k := by rw [hm]; exact nI_clamp (by omega)
  refine am_Go.intro ⟨.multianewarray idx 2, len, hi, Or.inr (Or.inr (Or.inr (Or.inr (Or.inr (Or.inr (Or.inr (Or.inr (Or.inr (Or.inr (Or.inr (Or.inr (Or.inl ⟨idx, x, y, rest, rfl, rfl, by rw [hn]; exact nI_pos (by omega), by rw [hm]; exact nI_pos (by omega), by rw [hc]; exact b1, by rw [hd]; exact b2, am_in.of i hl rfl, by rw [hc]; exact Nat.le_of_ble_eq_true b3, by rw [hc, hd]; exact Nat.le_of_ble_eq_true b4, ?_⟩))))))))))))⟩
  rw [hc, hd]; exact g
theorem go_max {idx len : Nat} (i : Nat) {x y : Int32} {rest : List Value} (hi : am_lk pc (am_code M) = some (.invokestatic idx, len)) (hl : lw_tbl[i]? = some (.methodLink (am_own M) idx Lib.Math.max.name)) (hb : (Nat.ble 1 (am_rm M).frames && Nat.ble (rest.length + 13) (am_rm M).locals && am_c1 rest) = true)
    (g : am_Go (M, pc + 3, ls, .int (if x < y then y else x) :: rest, h, kc, ks, Q)) : am_Go (M, pc, ls, .int y :: .int x :: rest, h, kc, ks, Q) := by
  simp only [Bool.and_eq_true] at hb
  obtain ⟨⟨b1, b2⟩, b3⟩ := hb
  exact am_Go.intro ⟨.invokestatic idx, len, hi, Or.inr (Or.inr (Or.inr (Or.inr (Or.inr (Or.inr (Or.inr (Or.inr (Or.inr (Or.inr (Or.inr (Or.inr (Or.inr ⟨idx, x, y, _, rest, rfl, rfl, Or.inl ⟨am_in.of i hl rfl, rfl⟩, Nat.le_of_ble_eq_true b1, Nat.le_of_ble_eq_true b2, am_c1_of b3, g⟩))))))))))))⟩
theorem go_min {idx len : Nat} (i : Nat) {x y : Int32} {rest : List Value} (hi : am_lk pc (am_code M) = some (.invokestatic idx, len)) (hl : lw_tbl[i]? = some (.methodLink (am_own M) idx Lib.Math.min.name)) (hb : (Nat.ble 1 (am_rm M).frames && Nat.ble (rest.length + 13) (am_rm M).locals && am_c1 rest) = true)
    (g : am_Go (M, pc + 3, ls, .int (if y < x then y else x) :: rest, h, kc, ks, Q)) : am_Go (M, pc, ls, .int y :: .int x :: rest, h, kc, ks, Q) := by
  simp only [Bool.and_eq_true] at hb
  obtain ⟨⟨b1, b2⟩, b3⟩ := hb
  exact am_Go.intro ⟨.invokestatic idx, len, hi, Or.inr (Or.inr (Or.inr (Or.inr (Or.inr (Or.inr (Or.inr (Or.inr (Or.inr (Or.inr (Or.inr (Or.inr (Or.inr ⟨idx, x, y, _, rest, rfl, rfl, Or.inr ⟨am_in.of i hl rfl, rfl⟩, Nat.le_of_ble_eq_true b1, Nat.le_of_ble_eq_true b2, am_c1_of b3, g⟩))))))))))))⟩
end GO
