/-! the heap of a press and a model, made one behind the other -/
def am_sh0 : List am_S := [.inl 8, .inl 4, .inr (0, 300), .inr (0, 300), .inr (0, 300), .inr (0, 300), .inr (0, 25), .inl 0, .inr (1, 24), .inr (0, 24), .inr (0, 24), .inl 1, .inr (0, 600), .inr (0, 24), .inr (0, 24), .inl 6, .inr (0, 60), .inr (0, 60), .inr (0, 60), .inr (0, 60), .inr (0, 60), .inr (0, 150), .inr (0, 150), .inr (0, 150), .inr (0, 150), .inr (0, 300), .inl 5, .inr (1, 300), .inr (1, 300), .inr (0, 300), .inr (2, 21), .inr (0, 300), .inr (0, 300), .inr (0, 300), .inr (0, 300), .inr (0, 300), .inr (0, 300), .inr (0, 300), .inr (0, 300), .inr (0, 300), .inr (0, 300), .inr (0, 300), .inr (0, 300), .inr (0, 300), .inr (0, 300), .inr (0, 300), .inr (0, 300), .inr (0, 300), .inr (0, 300), .inr (0, 300), .inr (0, 300), .inr (0, 300), .inr (0, 300), .inr (0, 300), .inr (0, 300), .inr (0, 300), .inr (0, 300), .inl 3, .inr (0, 300), .inl 7, .inr (0, 200), .inr (0, 32), .inr (0, 32), .inr (0, 64), .inr (0, 64), .inl 2, .inr (0, 200), .inr (0, 32), .inr (0, 64), .inl 9, .inr (0, 24), .inr (0, 960), .inr (0, 960), .inr (0, 960), .inr (0, 960), .inr (0, 24), .inr (0, 24), .inr (0, 24), .inr (0, 24), .inr (0, 1000), .inr (0, 60), .inr (0, 60), .inr (0, 60), .inr (0, 60), .inr (0, 60), .inr (0, 9000), .inr (0, 9000), .inr (0, 960), .inr (0, 960), .inr (1, 960), .inr (1, 960), .inr (1, 960), .inr (0, 150), .inr (0, 2), .inr (0, 2), .inr (0, 2), .inr (0, 2), .inr (0, 2), .inr (2, 2), .inr (0, 200), .inr (0, 200), .inr (2, 2), .inr (0, 32), .inr (0, 32), .inr (2, 2), .inr (0, 64), .inr (0, 64), .inr (0, 32), .inr (0, 64)]
def am_rfl : List (List (Option Nat)) := [[some 1, some 7, some 11, some 15, some 26, some 57, some 59, some 65], [some 2, some 3, some 4, some 5, some 6, none, none, none], [], [], [], [], [], [some 1, some 8, some 9, some 10, none, none], [], [], [], [some 12, some 13, some 14, none, none], [], [], [], [some 16, some 17, some 18, some 19, some 20, some 21, some 22, some 23, some 24, some 25, none, none], [], [], [], [], [], [], [], [], [], [], [some 1, some 11, some 15, some 27, some 28, some 29, some 30, some 52, some 53, some 54, some 55, some 56, none, none, none, none, none], [], [], [], [some 31, some 32, some 33, some 34, some 35, some 36, some 37, some 38, some 39, some 40, some 41, some 42, some 43, some 44, some 45, some 46, some 47, some 48, some 49, some 50, some 51], [], [], [], [], [], [], [], [], [], [], [], [], [], [], [], [], [], [], [], [], [], [], [], [], [], [], [some 1, some 11, some 15, some 58], [], [some 60, none, none, none, none, some 1, some 61, some 62, some 63, some 64, none, none], [], [], [], [], [], [some 66, none, none, none, none, some 11, some 67, some 68, none], [], [], [], [none, none, none, some 70, some 71, some 72, some 73, some 74, some 75, some 76, none, none, none, none, some 77, some 78, some 79, some 80, some 81, some 82, some 83, some 84, some 85, some 86, some 87, some 88, some 89, some 90, some 91, some 92, some 93, some 94, some 95, some 96, some 97, some 98, some 101, some 104, some 107, some 108, none], [], [], [], [], [], [], [], [], [], [], [], [], [], [], [], [], [], [], [], [], [], [], [], [], [], [], [], [], [some 99, some 100], [], [], [some 102, some 103], [], [], [some 105, some 106], [], [], [], []]
def am_rf0 (i k : Nat) : Option Nat := (am_rfl.getD i []).getD k none
def am_t0 : List Int32 := [1, 1, 1, 1, 1, 1, 1, 1, 1, 1, 1, 1, 1, 1, 1, 1, 1, 1, 1, 1, 1, 1, 1, 1, 1, 1, 1, 1, 5, 6, 6, 0, 1, 1, 0]
def am_t1 : List Int32 := [1, 1, 1, 1, 1, 1, 1, 1, 1, 1, 1, 1, 1, 1, 1, 1, 1, 1, 1, 4, 1, 1, 1, 1, 1, 1, 1, 1, 0, 0, 0, 0, 6, 0, 0]
def am_t2 : List Int32 := [1, 1, 1, 1, 1, 1, 1, 1, 1, 1, 2, 2, 2, 2, 2, 2, 3, 3, 3, 0, 2, 2, 5, 5, 5, 5, 5, 5, 0, 0, 0, 0, 0, 0, 0]
def am_t3 : List Int32 := [0, 0, 7, 6, 4, 1, 5, 5, 2, 3, 0, 7, 6, 4, 2, 3, 1, 5, 5, 0, 2, 2, 0, 1, 4, 5, 6, 7]
def am_t4 : List Int32 := [0, 1, 0, 0, 0, 0, 0, 1, 0, 0, 0, 0, 0, 0, 0, 0, 0, 0, 1, 0, 0, 0, 0, 0, 0, 0, 0, 0]
def am_tb (L : Nat) (xs : Nat → Int32) : Nat → Nat × (Nat → Int32) := fun j => match j with
  | 0 => (35, fun k => am_t0.getD k 0)
  | 1 => (35, fun k => am_t1.getD k 0)
  | 2 => (35, fun k => am_t2.getD k 0)
  | 3 => (28, fun k => am_t3.getD k 0)
  | 4 => (28, fun k => am_t4.getD k 0)
  | _ => (L, xs)
/-- what doesn't matter to a method: the cells behind the first 109, how many there are, the script -/
abbrev am_E : Type := (Nat → am_S) × Nat × Nat × (Nat → Int32)
def hp (D : Nat → Nat → Int32) (e : am_E) : am_H := (fun i => am_sh0.getD i (e.1 i), am_rf0, D, e.2.1, am_tb e.2.2.1 e.2.2.2)
def zb (p : Prop) [Decidable p] : Int32 := if p then 1 else 0
theorem zb_t {p : Prop} [Decidable p] (h : p) : zb p = 1 := if_pos h
theorem zb_f {p : Prop} [Decidable p] (h : ¬ p) : zb p = 0 := if_neg h
theorem zb_0 {p : Prop} [Decidable p] : zb p = 0 ↔ ¬ p := by
  unfold zb; split <;> simp_all
theorem zb_01 {p : Prop} [Decidable p] : zb p = 0 ∨ zb p = 1 := by
  unfold zb; split <;> simp
theorem am_qi {Q : am_Q} {a b : Int32} {h h' : am_H} (q : Q (some (.int a)) h) (e1 : b = a) (e2 : h' = h) : Q (some (.int b)) h' := by
  subst e1; subst e2; exact q
theorem am_qv {Q : am_Q} {h h' : am_H} (q : Q none h) (e2 : h' = h) : Q none h' := by
  subst e2; exact q
theorem am_hD {D D' : Nat → Nat → Int32} {e : am_E} (h : D' = D) : hp D' e = hp D e := by rw [h]
/-- take n from the stack, the last first -/
def am_pops : Nat → List Value → List Value → Option (List Value × List Value)
  | 0, as, st => some (as, st)
  | n + 1, as, v :: st => am_pops n (v :: as) st
  | _ + 1, _, [] => none
theorem am_pops_eq : ∀ (n : Nat) (as st as' st' : List Value), am_pops n as st = some (as', st') → as.reverse ++ st = as'.reverse ++ st' ∧ as'.length = as.length + n
  | 0, as, st, as', st', h => by cases h; exact ⟨rfl, rfl⟩
  | n + 1, as, v :: st, as', st', h => by
    have := am_pops_eq n (v :: as) st as' st' h
    refine ⟨?_, by rw [this.2]; simp; omega⟩
    rw [← this.1]
    simp
  | _ + 1, _, [], _, _, h => by cases h
section GO2
variable {M M' : am_M} {pc kc ks idx len n ci o : Nat} {ls st as rest : List Value} {h : am_H} {Q : am_Q}
theorem go_v (hc : am_CV M M' idx ci n) (hM : am_Mok M') (hi : am_lk pc (am_code M) = some (.invokevirtual idx, len)) (hp : am_pops n [] st = some (as, .ref o :: rest)) (ho : h.1 o = .inl ci) (hb : (Nat.ble rest.length 8 && am_c1 rest && am_c1 as && Nat.ble (as.length + 1) (am_ml M')) = true) (h1 : (am_rm M').cells ≤ kc) (h2 : (am_rm M').slots ≤ ks)
    (g : am_Go (M', 0, am_ent M' (.ref o :: as), [], h, (am_rm M').cells, (am_rm M').slots, fun r h1 => am_Go (M, pc + 3, ls, r.toList ++ rest, h1, kc - (am_rm M').cells, ks - (am_rm M').slots, Q))) : am_Go (M, pc, ls, st, h, kc, ks, Q) := by
  obtain ⟨e1, e2⟩ := am_pops_eq n [] st as _ hp
  have e2 : as.length = n := by rw [e2]; simp
  exact go_cv ci o as rest hi ho (by rw [e2]; exact hc) hM hb h1 h2 g e1
theorem go_u (hc : am_CU M M' idx ci n) (hM : am_Mok M') (hi : am_lk pc (am_code M) = some (.invokevirtual idx, len)) (hp : am_pops n [] st = some (as, .ref o :: rest)) (ho : h.1 o = .inl ci) (hb : (Nat.ble rest.length 8 && am_c1 rest && am_c1 as && Nat.ble (as.length + 1) (am_ml M')) = true) (h1 : (am_rm M').cells ≤ kc) (h2 : (am_rm M').slots ≤ ks)
    (g : am_Go (M', 0, am_ent M' (.ref o :: as), [], h, (am_rm M').cells, (am_rm M').slots, fun r h1 => am_Go (M, pc + 3, ls, r.toList ++ rest, h1, kc - (am_rm M').cells, ks - (am_rm M').slots, Q))) : am_Go (M, pc, ls, st, h, kc, ks, Q) := by
  obtain ⟨e1, e2⟩ := am_pops_eq n [] st as _ hp
  have e2 : as.length = n := by rw [e2]; simp
  exact go_cu ci o as rest hi ho (by rw [e2]; exact hc) hM hb h1 h2 g e1
theorem go_st (hc : am_CS M M' idx n) (hM : am_Mok M') (hi : am_lk pc (am_code M) = some (.invokestatic idx, len)) (hp : am_pops n [] st = some (as, rest)) (hb : (Nat.ble rest.length 8 && am_c1 rest && am_c1 as && Nat.ble as.length (am_ml M')) = true) (h1 : (am_rm M').cells ≤ kc) (h2 : (am_rm M').slots ≤ ks)
    (g : am_Go (M', 0, am_ent M' as, [], h, (am_rm M').cells, (am_rm M').slots, fun r h1 => am_Go (M, pc + 3, ls, r.toList ++ rest, h1, kc - (am_rm M').cells, ks - (am_rm M').slots, Q))) : am_Go (M, pc, ls, st, h, kc, ks, Q) := by
  obtain ⟨e1, e2⟩ := am_pops_eq n [] st as _ hp
  have e2 : as.length = n := by rw [e2]; simp
  exact go_cs as rest hi (by rw [e2]; exact hc) hM hb h1 h2 g e1
theorem go_sp (hc : am_CI M M' idx n) (hM : am_Mok M') (hi : am_lk pc (am_code M) = some (.invokespecial idx, len)) (hp : am_pops n [] st = some (as, .ref o :: rest)) (hb : (Nat.ble rest.length 8 && am_c1 rest && am_c1 as && Nat.ble (as.length + 1) (am_ml M')) = true) (h1 : (am_rm M').cells ≤ kc) (h2 : (am_rm M').slots ≤ ks)
    (g : am_Go (M', 0, am_ent M' (.ref o :: as), [], h, (am_rm M').cells, (am_rm M').slots, fun r h1 => am_Go (M, pc + 3, ls, r.toList ++ rest, h1, kc - (am_rm M').cells, ks - (am_rm M').slots, Q))) : am_Go (M, pc, ls, st, h, kc, ks, Q) := by
  obtain ⟨e1, e2⟩ := am_pops_eq n [] st as _ hp
  have e2 : as.length = n := by rw [e2]; simp
  exact go_ci o as rest hi (by rw [e2]; exact hc) hM hb h1 h2 g e1
end GO2
