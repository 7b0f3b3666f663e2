/-! THE ABSTRACT MACHINE: cells by numbers, refs as numbers, ints as they are; one step a function; the whole run a least fixed point ('am_Go') -/
abbrev am_S : Type := Nat ⊕ (Nat × Nat)
/-- shapes (an object of a class | an array: tag, length), refs, ints, how many cells, the tables that nobody writes -/
abbrev am_H : Type := (Nat → am_S) × (Nat → Nat → Option Nat) × (Nat → Nat → Int32) × Nat × (Nat → Nat × (Nat → Int32))
/-- a method: name, bytes, locals, answer, code, fields by pool number (slot, classes), constants, static tables, room -/
abbrev am_M : Type := MethodName × ByteArray × Nat × Option FieldType × List (Nat × Instr × Nat) × List (Nat × Nat × List Nat) × List (Nat × Int32) × List (Nat × Nat) × Room
abbrev am_F : Type := Nat × List Value × List Value × am_H
abbrev am_Q : Type := Option Value → am_H → Prop
def am_y (M : am_M) : MethodName := M.1
def am_cc (M : am_M) : ByteArray := M.2.1
def am_ml (M : am_M) : Nat := M.2.2.1
def am_ret (M : am_M) : Option FieldType := M.2.2.2.1
def am_code (M : am_M) : List (Nat × Instr × Nat) := M.2.2.2.2.1
def am_fls (M : am_M) : List (Nat × Nat × List Nat) := M.2.2.2.2.2.1
def am_cns (M : am_M) : List (Nat × Int32) := M.2.2.2.2.2.2.1
def am_sts (M : am_M) : List (Nat × Nat) := M.2.2.2.2.2.2.2.1
def am_rm (M : am_M) : Room := M.2.2.2.2.2.2.2.2
/-- look up by number -/
def am_lk {α : Type} (i : Nat) : List (Nat × α) → Option α
  | [] => none
  | q :: r => match Nat.beq i q.1 with
    | true => some q.2
    | false => am_lk i r
def am_kd : List (List Nat) := [[2, 2, 2, 2, 0, 0], [2, 2, 2, 0, 0], [2, 1, 0, 0, 0, 2, 2, 2, 0], [2, 2, 2, 2], [2, 2, 2, 2, 2, 0, 0, 0], [2, 2, 2, 2, 2, 2, 2, 2, 2, 2, 2, 2, 0, 0, 0, 0, 0], [2, 2, 2, 2, 2, 2, 2, 2, 2, 2, 0, 0], [2, 1, 0, 0, 0, 2, 2, 2, 2, 2, 0, 0], [2, 2, 2, 2, 2, 2, 2, 2], [0, 0, 0, 2, 2, 2, 2, 2, 2, 2, 1, 0, 0, 0, 2, 2, 2, 2, 2, 2, 2, 2, 2, 2, 2, 2, 2, 2, 2, 2, 2, 2, 2, 2, 2, 2, 2, 2, 2, 2, 1]]
def am_k (ci k : Nat) : Nat := (am_kd.getD ci []).getD k 0
def am_u (D : Nat → Nat → Int32) (o k : Nat) (v : Int32) : Nat → Nat → Int32 := fun i j => if i = o ∧ j = k then v else D i j
def am_ur (D : Nat → Nat → Option Nat) (o k : Nat) (v : Option Nat) : Nat → Nat → Option Nat := fun i j => if i = o ∧ j = k then v else D i j
def am_us (D : Nat → am_S) (o : Nat) (v : am_S) : Nat → am_S := fun i => if i = o then v else D i
def am_vr (r : Option Nat) : Value := match r with
  | some i => .ref i
  | none => .null
def am_fv (h : am_H) (o ci k : Nat) : Value := match Nat.beq (am_k ci k) 2 with
  | true => am_vr (h.2.1 o k)
  | false => .int (h.2.2.1 o k)
def am_fl (M : am_M) (idx ci : Nat) : Option Nat := match am_lk idx (am_fls M) with
  | some (k, cs) => match cs.contains ci with
    | true => some k
    | false => none
  | none => none
def am_tg (pc : Nat) (off : Int) : Nat := ((pc : Int) + off).toNat
def am_il (i len pc : Nat) (ls st : List Value) (h : am_H) : Option am_F := match ls[i]? with
  | some (.int x) => some (pc + len, ls, .int x :: st, h)
  | _ => none
def am_al (i len pc : Nat) (ls st : List Value) (h : am_H) : Option am_F := match ls[i]? with
  | some (.ref x) => some (pc + len, ls, .ref x :: st, h)
  | some (.retAddr x) => some (pc + len, ls, .retAddr x :: st, h)
  | some .null => some (pc + len, ls, .null :: st, h)
  | _ => none
def am_is (i len pc : Nat) (ls st : List Value) (h : am_H) : Option am_F := match st with
  | .int x :: r => match Nat.ble (i + 1) ls.length with
    | true => some (pc + len, ls.set i (.int x), r, h)
    | false => none
  | _ => none
def am_as (i len pc : Nat) (ls st : List Value) (h : am_H) : Option am_F := match st with
  | .ref x :: r => match Nat.ble (i + 1) ls.length with
    | true => some (pc + len, ls.set i (.ref x), r, h)
    | false => none
  | .retAddr x :: r => match Nat.ble (i + 1) ls.length with
    | true => some (pc + len, ls.set i (.retAddr x), r, h)
    | false => none
  | .null :: r => match Nat.ble (i + 1) ls.length with
    | true => some (pc + len, ls.set i .null, r, h)
    | false => none
  | _ => none
def am_ii (i : Nat) (n : Int) (pc : Nat) (ls st : List Value) (h : am_H) : Option am_F := match ls[i]? with
  | some (.int x) => some (pc + 3, ls.set i (.int (x + Int32.ofInt n)), st, h)
  | _ => none
def am_bin (f : Int32 → Int32 → Int32) (pc : Nat) (ls st : List Value) (h : am_H) : Option am_F := match st with
  | .int y :: .int x :: r => some (pc + 1, ls, .int (f x y) :: r, h)
  | _ => none
def am_ldc (M : am_M) (k len pc : Nat) (ls st : List Value) (h : am_H) : Option am_F := match am_lk k (am_cns M) with
  | some v => some (pc + len, ls, .int v :: st, h)
  | none => none
def am_dup (pc : Nat) (ls st : List Value) (h : am_H) : Option am_F := match st with
  | .int v :: r => some (pc + 1, ls, .int v :: .int v :: r, h)
  | .ref v :: r => some (pc + 1, ls, .ref v :: .ref v :: r, h)
  | _ => none
def am_dup2 (pc : Nat) (ls st : List Value) (h : am_H) : Option am_F := match st with
  | .int v :: .ref w :: r => some (pc + 1, ls, .int v :: .ref w :: .int v :: .ref w :: r, h)
  | _ => none
def am_pop (pc : Nat) (ls st : List Value) (h : am_H) : Option am_F := match st with
  | .int _ :: r => some (pc + 1, ls, r, h)
  | .ref _ :: r => some (pc + 1, ls, r, h)
  | _ => none
def am_neg (pc : Nat) (ls st : List Value) (h : am_H) : Option am_F := match st with
  | .int x :: r => some (pc + 1, ls, .int (-x) :: r, h)
  | _ => none
def am_if (cond : Jvm.ClassFile.Cond) (off : Int) (pc : Nat) (ls st : List Value) (h : am_H) : Option am_F := match st with
  | .int x :: r => match cond with
    | .eq => some (if x = 0 then am_tg pc off else pc + 3, ls, r, h)
    | .ne => some (if x = 0 then pc + 3 else am_tg pc off, ls, r, h)
    | .lt => some (if x < 0 then am_tg pc off else pc + 3, ls, r, h)
    | .ge => some (if x < 0 then pc + 3 else am_tg pc off, ls, r, h)
    | .gt => some (if 0 < x then am_tg pc off else pc + 3, ls, r, h)
    | .le => some (if 0 < x then pc + 3 else am_tg pc off, ls, r, h)
  | _ => none
def am_ic (cond : Jvm.ClassFile.Cond) (off : Int) (pc : Nat) (ls st : List Value) (h : am_H) : Option am_F := match st with
  | .int y :: .int x :: r => match cond with
    | .eq => some (if x = y then am_tg pc off else pc + 3, ls, r, h)
    | .ne => some (if x = y then pc + 3 else am_tg pc off, ls, r, h)
    | .lt => some (if x < y then am_tg pc off else pc + 3, ls, r, h)
    | .ge => some (if x < y then pc + 3 else am_tg pc off, ls, r, h)
    | .gt => some (if y < x then am_tg pc off else pc + 3, ls, r, h)
    | .le => some (if y < x then pc + 3 else am_tg pc off, ls, r, h)
  | _ => none
def am_nn (isnull : Bool) (off : Int) (pc : Nat) (ls st : List Value) (h : am_H) : Option am_F := match st with
  | .ref _ :: r => some (match isnull with | true => pc + 3 | false => am_tg pc off, ls, r, h)
  | .null :: r => some (match isnull with | true => am_tg pc off | false => pc + 3, ls, r, h)
  | _ => none
def am_tsel (pc : Nat) (d : Int) (x : Int32) : Int → List Int → Nat
  | _, [] => am_tg pc d
  | k, o :: r => if x = Int32.ofInt k then am_tg pc o else am_tsel pc d x (k + 1) r
def am_lsel (pc : Nat) (d : Int) (x : Int32) : List (Int × Int) → Nat
  | [] => am_tg pc d
  | q :: r => if x = Int32.ofInt q.1 then am_tg pc q.2 else am_lsel pc d x r
def am_ts (d lo : Int) (offs : Array Int) (pc : Nat) (ls st : List Value) (h : am_H) : Option am_F := match st with
  | .int x :: r => some (am_tsel pc d x lo offs.toList, ls, r, h)
  | _ => none
def am_lsw (d : Int) (ps : Array (Int × Int)) (pc : Nat) (ls st : List Value) (h : am_H) : Option am_F := match st with
  | .int x :: r => some (am_lsel pc d x ps.toList, ls, r, h)
  | _ => none
def am_gf (M : am_M) (idx pc : Nat) (ls st : List Value) (h : am_H) : Option am_F := match st with
  | .ref o :: r => match h.1 o with
    | .inl ci => match am_fl M idx ci with
      | some k => some (pc + 3, ls, am_fv h o ci k :: r, h)
      | none => none
    | .inr _ => none
  | _ => none
def am_gs (M : am_M) (idx pc : Nat) (ls st : List Value) (h : am_H) : Option am_F := match am_lk idx (am_sts M) with
  | some j => some (pc + 3, ls, .retAddr j :: st, h)
  | none => none
def am_len (pc : Nat) (ls st : List Value) (h : am_H) : Option am_F := match st with
  | .ref o :: r => match h.1 o with
    | .inr q => some (pc + 1, ls, .int (Int32.ofNat q.2) :: r, h)
    | .inl _ => none
  | .retAddr j :: r => match Nat.ble (j + 1) 6 with
    | true => some (pc + 1, ls, .int (Int32.ofNat (h.2.2.2.2 j).1) :: r, h)
    | false => none
  | _ => none
def am_pf (M : am_M) (idx pc : Nat) (ls st : List Value) (h : am_H) : Option am_F := match st with
  | .int v :: .ref o :: r => match h.1 o with
    | .inl ci => match am_fl M idx ci with
      | some k => match am_k ci k with
        | 0 => some (pc + 3, ls, r, (h.1, h.2.1, am_u h.2.2.1 o k v, h.2.2.2))
        | _ => none
      | none => none
    | .inr _ => none
  | .ref v :: .ref o :: r => match h.1 o with
    | .inl ci => match am_fl M idx ci with
      | some k => match Nat.beq (am_k ci k) 2 with
        | true => some (pc + 3, ls, r, (h.1, am_ur h.2.1 o k (some v), h.2.2))
        | false => none
      | none => none
    | .inr _ => none
  | _ => none
/-- a step that asks nothing -/
def am_step (M : am_M) (i : Instr) (pc : Nat) (ls st : List Value) (h : am_H) : Option am_F := match i with
  | .iload_n k => am_il k.val 1 pc ls st h
  | .iload k => am_il k 2 pc ls st h
  | .aload_n k => am_al k.val 1 pc ls st h
  | .aload k => am_al k 2 pc ls st h
  | .istore_n k => am_is k.val 1 pc ls st h
  | .istore k => am_is k 2 pc ls st h
  | .astore_n k => am_as k.val 1 pc ls st h
  | .astore k => am_as k 2 pc ls st h
  | .iinc k n => am_ii k n pc ls st h
  | .iconst n => some (pc + 1, ls, .int (Int32.ofInt n) :: st, h)
  | .bipush n => some (pc + 2, ls, .int ((Int8.ofInt n).toInt32) :: st, h)
  | .sipush n => some (pc + 3, ls, .int ((Int16.ofInt n).toInt32) :: st, h)
  | .ldc k => am_ldc M k 2 pc ls st h
  | .ldc_w k => am_ldc M k 3 pc ls st h
  | .aconst_null => some (pc + 1, ls, .null :: st, h)
  | .dup => am_dup pc ls st h
  | .dup2 => am_dup2 pc ls st h
  | .pop => am_pop pc ls st h
  | .iadd => am_bin (fun x y => x + y) pc ls st h
  | .isub => am_bin (fun x y => x - y) pc ls st h
  | .imul => am_bin (fun x y => x * y) pc ls st h
  | .iand => am_bin (fun x y => x &&& y) pc ls st h
  | .ior => am_bin (fun x y => x ||| y) pc ls st h
  | .ixor => am_bin (fun x y => x ^^^ y) pc ls st h
  | .ishl => am_bin (fun x y => x <<< (y &&& 31)) pc ls st h
  | .ishr => am_bin (fun x y => x >>> (y &&& 31)) pc ls st h
  | .iushr => am_bin (fun x y => (x.toUInt32 >>> (y.toUInt32 &&& Int32.toUInt32 31)).toInt32) pc ls st h
  | .ineg => am_neg pc ls st h
  | .ifCond cd off => am_if cd off pc ls st h
  | .if_icmp cd off => am_ic cd off pc ls st h
  | .ifnull off => am_nn true off pc ls st h
  | .ifnonnull off => am_nn false off pc ls st h
  | .goto off => some (am_tg pc off, ls, st, h)
  | .tableswitch d lo _ offs => am_ts d lo offs pc ls st h
  | .lookupswitch d ps => am_lsw d ps pc ls st h
  | .getfield k => am_gf M k pc ls st h
  | .getstatic k => am_gs M k pc ls st h
  | .arraylength => am_len pc ls st h
  | .putfield k => am_pf M k pc ls st h
  | _ => none
/-- a step that asks something: an index in its row, a divisor that isn't 0, a boolean that is 0 or 1 -/
def am_mem (M : am_M) (i : Instr) (pc : Nat) (ls st : List Value) (h : am_H) : Option (Prop × am_F) := match i with
  | .iaload => match st with
    | .int x :: .ref o :: r => match h.1 o with
      | .inr (0, n) => some (vp_in x n, pc + 1, ls, .int (h.2.2.1 o x.toNatClampNeg) :: r, h)
      | _ => none
    | .int x :: .retAddr j :: r => match Nat.ble (j + 1) 6 with
      | true => some (vp_in x (h.2.2.2.2 j).1, pc + 1, ls, .int ((h.2.2.2.2 j).2 x.toNatClampNeg) :: r, h)
      | false => none
    | _ => none
  | .baload => match st with
    | .int x :: .ref o :: r => match h.1 o with
      | .inr (1, n) => some (vp_in x n, pc + 1, ls, .int (h.2.2.1 o x.toNatClampNeg) :: r, h)
      | _ => none
    | _ => none
  | .aaload => match st with
    | .int x :: .ref o :: r => match h.1 o with
      | .inr (2, n) => some (vp_in x n, pc + 1, ls, am_vr (h.2.1 o x.toNatClampNeg) :: r, h)
      | _ => none
    | _ => none
  | .iastore => match st with
    | .int v :: .int x :: .ref o :: r => match h.1 o with
      | .inr (0, n) => some (vp_in x n, pc + 1, ls, r, (h.1, h.2.1, am_u h.2.2.1 o x.toNatClampNeg v, h.2.2.2))
      | _ => none
    | _ => none
  | .bastore => match st with
    | .int v :: .int x :: .ref o :: r => match h.1 o with
      | .inr (1, n) => some (vp_in x n, pc + 1, ls, r, (h.1, h.2.1, am_u h.2.2.1 o x.toNatClampNeg (v &&& 1), h.2.2.2))
      | _ => none
    | _ => none
  | .idiv => match st with
    | .int y :: .int x :: r => some (¬ y = 0, pc + 1, ls, .int (x / y) :: r, h)
    | _ => none
  | .irem => match st with
    | .int y :: .int x :: r => some (¬ y = 0, pc + 1, ls, .int (x - x / y * y) :: r, h)
    | _ => none
  | .putfield idx => match st with
    | .int v :: .ref o :: r => match h.1 o with
      | .inl ci => match am_fl M idx ci with
        | some k => match am_k ci k with
          | 1 => some (v = 0 ∨ v = 1, pc + 3, ls, r, (h.1, h.2.1, am_u h.2.2.1 o k v, h.2.2.2))
          | _ => none
        | none => none
      | .inr _ => none
    | _ => none
  | _ => none
def am_ent (M : am_M) (as : List Value) : List Value := as ++ List.replicate (am_ml M - as.length) (.long 0)
/-- words of the tables: those that stay -/
def am_gw (w : Jvm.Cond) : Bool := goodWord w || (match w with
  | .declares _ => true
  | .methodLinkNest _ _ _ _ => true
  | .arrayOver (.array _) => true
  | _ => false)
def lw_g : List Jvm.Cond := lw_tbl.filter am_gw
def am_in (w : Jvm.Cond) : Prop := w ∈ lw_g
theorem am_in.of (i : Nat) {w : Jvm.Cond} (h : lw_tbl[i]? = some w) (hg : am_gw w = true) : am_in w := List.mem_filter.mpr ⟨List.mem_of_getElem? h, hg⟩
def am_own (M : am_M) : String := (am_y M).cls
def am_word (M : am_M) : Jvm.Cond := .code (am_y M) (am_cc M) (am_ml M) (am_ret M)
/-- the callee's room in the caller's -/
def am_fit (M M' : am_M) : Prop := (am_rm M').frames + 1 ≤ (am_rm M).frames ∧ 8 + (am_ml M' + 11) + (am_rm M').locals ≤ (am_rm M).locals
def am_nm (x : MethodName) (n : Nat) : Prop := (parseMethodDescriptor x.desc).map (fun d => d.parameters.length) = some n
def am_pl (s : String) : Prop := s ≠ "java/lang/invoke/MethodHandle" ∧ s ≠ "java/lang/invoke/VarHandle"
/-- a call by class: the method named is the one run -/
def am_CV (M M' : am_M) (idx ci n : Nat) : Prop := ∃ r : vw_C, vwCl[ci]? = some r ∧ (am_y M').cls = r.1 ∧ am_pl (am_y M').cls ∧ am_nm (am_y M') n ∧ am_fit M M' ∧ am_in (.methodLink (am_own M) idx (am_y M')) ∧ am_in (.instanceMethod (am_y M')) ∧ am_in (.selects r.1 (am_y M') (am_y M')) ∧ am_in (.initialized r.1) ∧ am_in (am_word M')
/-- a call of an inherited, an overriding or an abstract method -/
def am_CU (M M' : am_M) (idx ci n : Nat) : Prop := ∃ (r : vw_C) (x : MethodName) (owner : String), vwCl[ci]? = some r ∧ am_pl owner ∧ am_nm x n ∧ am_fit M M' ∧ am_in (.methodLink (am_own M) idx x) ∧ am_in (.sameMethod x.cls owner x.name x.desc) ∧ am_in (.selects r.1 x (am_y M')) ∧ am_in (.instanceMethod (am_y M')) ∧ am_in (.initialized (am_y M').cls) ∧ am_in (am_word M') ∧ (am_y M' = ⟨owner, x.name, x.desc⟩ ∨ am_in (.declares ⟨owner, x.name, x.desc⟩))
/-- a static call -/
def am_CS (M M' : am_M) (idx n : Nat) : Prop := am_pl (am_y M').cls ∧ am_nm (am_y M') n ∧ am_fit M M' ∧ (am_in (.methodLink (am_own M) idx (am_y M')) ∨ ∃ x : String, am_pl x ∧ am_in (.methodLink (am_own M) idx ⟨x, (am_y M').name, (am_y M').desc⟩) ∧ am_in (.sameMethod x (am_y M').cls (am_y M').name (am_y M').desc)) ∧ am_in (.static (am_y M')) ∧ am_in (.initialized (am_y M').cls) ∧ am_in (am_word M')
/-- a constructor's call -/
def am_CI (M M' : am_M) (idx n : Nat) : Prop := am_pl (am_y M').cls ∧ am_nm (am_y M') n ∧ am_fit M M' ∧ (am_in (.methodLink (am_own M) idx (am_y M')) ∨ ∃ host : String, am_in (.methodLinkNest (am_own M) idx (am_y M') host)) ∧ am_in (.instanceMethod (am_y M')) ∧ am_in (.initialized (am_y M').cls) ∧ am_in (am_word M') ∧ (am_y M').name = "<init>" ∧ am_ret M' = none
/-- what a method must be -/
def am_chk1 (M : am_M) (pc : Nat) (i : Instr) : Bool := match i with
  | .ifCond _ off => decide (0 ≤ (pc : Int) + off)
  | .if_icmp _ off => decide (0 ≤ (pc : Int) + off)
  | .ifnull off => decide (0 ≤ (pc : Int) + off)
  | .ifnonnull off => decide (0 ≤ (pc : Int) + off)
  | .goto off => decide (0 ≤ (pc : Int) + off)
  | .tableswitch d lo hi offs => decide (0 ≤ (pc : Int) + d) && offs.toList.all (fun o => decide (0 ≤ (pc : Int) + o)) && decide (lo + offs.toList.length = hi + 1) && decide (-2147483648 ≤ lo) && decide (hi ≤ 2147483647) && decide (lo ≤ hi)
  | .lookupswitch d ps => decide (0 ≤ (pc : Int) + d) && ps.toList.all (fun q => decide (0 ≤ (pc : Int) + q.2) && decide (-2147483648 ≤ q.1) && decide (q.1 ≤ 2147483647)) && (ps.toList.zip (ps.toList.drop 1)).all (fun (a, next) => a.1 < next.1)
  | .putfield idx => match am_lk idx (am_fls M) with
    | some (k, cs) => cs.all (fun ci => match vwCl[ci]? with
      | some r => !(r.2.1 k).2.2.2 || ((am_y M).name == "<init>" && (r.2.1 k).1 == (am_y M).cls)
      | none => false)
    | none => true
  | _ => true
def am_elen : Instr → Nat
  | .iload _ | .aload _ | .istore _ | .astore _ | .bipush _ | .ldc _ | .newarray _ => 2
  | .iinc _ _ | .sipush _ | .ldc_w _ | .getfield _ | .putfield _ | .getstatic _ | .ifCond _ _ | .if_icmp _ _ | .ifnull _ | .ifnonnull _ | .goto _ | .invokevirtual _ | .invokestatic _ | .invokespecial _ | .new _ => 3
  | .multianewarray _ _ => 4
  | .tableswitch _ _ _ _ | .lookupswitch _ _ => 0
  | _ => 1
def am_Fok (M : am_M) (idx k ci : Nat) : Prop := ∃ r : vw_C, vwCl[ci]? = some r ∧ k < r.2.2 ∧ am_in (.fieldLink (am_own M) idx (r.2.1 k).1 (r.2.1 k).2.1 (r.2.1 k).2.2.1)
def am_stn : List (String × String) := [("LinkPress$Signs", "KIND_OF_A"), ("LinkPress$Signs", "KIND_OF_B"), ("LinkPress$Signs", "KIND_OF_C"), ("LinkPress$Rv32", "SELECTOR"), ("LinkPress$Rv32", "OTHER")]
def am_Mok (M : am_M) : Prop :=
  plainName (am_y M).cls = true ∧ True ∧
  (∀ q ∈ am_code M, decode (am_cc M) q.1 = .ok q.2 ∧ am_chk1 M q.1 q.2.1 = true ∧ (am_elen q.2.1 = 0 ∨ q.2.2 = am_elen q.2.1)) ∧
  (∀ q ∈ am_fls M, ∀ ci ∈ q.2.2, am_Fok M q.1 q.2.1 ci) ∧
  (∀ q ∈ am_cns M, am_in (.constant (am_own M) q.1 q.2)) ∧
  (∀ q ∈ am_sts M, ∃ z, am_stn[q.2]? = some z ∧ am_in (.fieldLink (am_own M) q.1 z.1 z.2 "[I"))
/-- an object's fields at its start -/
def am_dz (D : Nat → Nat → Int32) (o : Nat) : Nat → Nat → Int32 := fun i j => if i = o then 0 else D i j
def am_rz (D : Nat → Nat → Option Nat) (o : Nat) : Nat → Nat → Option Nat := fun i j => if i = o then none else D i j
def am_new (h : am_H) (s : am_S) : am_H := (am_us h.1 h.2.2.2.1 s, am_rz h.2.1 h.2.2.2.1, am_dz h.2.2.1 h.2.2.2.1, h.2.2.2.1 + 1, h.2.2.2.2)
/-- new int[n][k] -/
def am_new2 (h : am_H) (n k : Nat) : am_H := (fun i => if i = h.2.2.2.1 then .inr (2, n) else if h.2.2.2.1 < i ∧ i ≤ h.2.2.2.1 + n then .inr (0, k) else h.1 i,
  fun i j => if i = h.2.2.2.1 then (if j < n then some (h.2.2.2.1 + 1 + j) else none) else h.2.1 i j,
  fun i j => if h.2.2.2.1 < i ∧ i ≤ h.2.2.2.1 + n then 0 else h.2.2.1 i j, h.2.2.2.1 + 1 + n, h.2.2.2.2)
abbrev am_K : Type := am_M × Nat × List Value × List Value × am_H × Nat × Nat × am_Q
def am_arr : ArrayType → Option Nat
  | .int => some 0
  | .boolean => some 1
  | _ => none
/-- one turn of the run -/
def am_Phi (X : am_K → Prop) : am_K → Prop := fun (M, pc, ls, st, h, kc, ks, Q) => ∃ (i : Instr) (len : Nat), am_lk pc (am_code M) = some (i, len) ∧
  ((∃ pc' ls' st' h', am_step M i pc ls st h = some (pc', ls', st', h') ∧ X (M, pc', ls', st', h', kc, ks, Q)) ∨
  (∃ P pc' ls' st' h', am_mem M i pc ls st h = some (P, pc', ls', st', h') ∧ P ∧ X (M, pc', ls', st', h', kc, ks, Q)) ∨
  (i = .ireturn ∧ ∃ v, st = [.int v] ∧ (am_ret M = some .int ∨ am_ret M = some .boolean ∧ (v = 0 ∨ v = 1)) ∧ Q (some (.int v)) h) ∨
  (i = .areturn ∧ ∃ v n, st = [v] ∧ (v = .null ∨ ∃ a, v = .ref a) ∧ am_ret M = some (.object n) ∧ Q (some v) h) ∨
  (i = .return_ ∧ st = [] ∧ am_ret M = none ∧ Q none h) ∨
  (∃ idx M' ci o as rest Q1, i = .invokevirtual idx ∧ st = as.reverse ++ .ref o :: rest ∧ h.1 o = .inl ci ∧ (am_CV M M' idx ci as.length ∨ am_CU M M' idx ci as.length) ∧ am_Mok M' ∧ rest.length ≤ 8 ∧ (∀ v ∈ rest, v.category = 1) ∧ (∀ v ∈ as, v.category = 1) ∧ as.length + 1 ≤ am_ml M' ∧ (am_rm M').cells ≤ kc ∧ (am_rm M').slots ≤ ks ∧
    X (M', 0, am_ent M' (.ref o :: as), [], h, (am_rm M').cells, (am_rm M').slots, Q1) ∧ ∀ r h1, Q1 r h1 → X (M, pc + 3, ls, r.toList ++ rest, h1, kc - (am_rm M').cells, ks - (am_rm M').slots, Q)) ∨
  (∃ idx M' as rest Q1, i = .invokestatic idx ∧ st = as.reverse ++ rest ∧ am_CS M M' idx as.length ∧ am_Mok M' ∧ rest.length ≤ 8 ∧ (∀ v ∈ rest, v.category = 1) ∧ (∀ v ∈ as, v.category = 1) ∧ as.length ≤ am_ml M' ∧ (am_rm M').cells ≤ kc ∧ (am_rm M').slots ≤ ks ∧
    X (M', 0, am_ent M' as, [], h, (am_rm M').cells, (am_rm M').slots, Q1) ∧ ∀ r h1, Q1 r h1 → X (M, pc + 3, ls, r.toList ++ rest, h1, kc - (am_rm M').cells, ks - (am_rm M').slots, Q)) ∨
  (∃ idx M' o as rest Q1, i = .invokespecial idx ∧ st = as.reverse ++ .ref o :: rest ∧ am_CI M M' idx as.length ∧ am_Mok M' ∧ rest.length ≤ 8 ∧ (∀ v ∈ rest, v.category = 1) ∧ (∀ v ∈ as, v.category = 1) ∧ as.length + 1 ≤ am_ml M' ∧ (am_rm M').cells ≤ kc ∧ (am_rm M').slots ≤ ks ∧
    X (M', 0, am_ent M' (.ref o :: as), [], h, (am_rm M').cells, (am_rm M').slots, Q1) ∧ ∀ r h1, Q1 r h1 → X (M, pc + 3, ls, r.toList ++ rest, h1, kc - (am_rm M').cells, ks - (am_rm M').slots, Q)) ∨
  (∃ idx o rest, i = .invokespecial idx ∧ st = .ref o :: rest ∧ am_in (.methodLink (am_own M) idx objectInit) ∧ 1 ≤ (am_rm M).frames ∧ rest.length + 12 ≤ (am_rm M).locals ∧ (∀ v ∈ rest, v.category = 1) ∧ X (M, pc + 3, ls, rest, h, kc, ks, Q)) ∨
  (∃ idx x dp o sp o0 rest n0 n1, i = .invokestatic idx ∧ st = .int x :: .int dp :: .ref o :: .int sp :: .ref o0 :: rest ∧ am_in (.methodLink (am_own M) idx arraycopyName) ∧ h.1 o0 = .inr (0, n0) ∧ h.1 o = .inr (0, n1) ∧ ¬ sp < 0 ∧ ¬ dp < 0 ∧ ¬ x < 0 ∧ sp.toNatClampNeg + x.toNatClampNeg ≤ n0 ∧ dp.toNatClampNeg + x.toNatClampNeg ≤ n1 ∧ 1 ≤ (am_rm M).frames ∧ rest.length + 30 ≤ (am_rm M).locals ∧ (∀ v ∈ rest, v.category = 1) ∧
    X (M, pc + 3, ls, rest, (h.1, h.2.1, (fun i j => if i = o then va_cpy (h.2.2.1 o0) (h.2.2.1 o) sp.toNatClampNeg dp.toNatClampNeg x.toNatClampNeg j else h.2.2.1 i j), h.2.2.2), kc, ks, Q)) ∨
  (∃ idx ci r, i = .new idx ∧ vwCl[ci]? = some r ∧ am_in (.classLink (am_own M) idx r.1) ∧ am_in (.instantiable r.1 r.2.2) ∧ am_in (.initialized r.1) ∧ 1 ≤ kc ∧ r.2.2 ≤ ks ∧ X (M, pc + 3, ls, .ref h.2.2.2.1 :: st, am_new h (.inl ci), kc - 1, ks - r.2.2, Q)) ∨
  (∃ at' t x rest, i = .newarray at' ∧ am_arr at' = some t ∧ st = .int x :: rest ∧ ¬ x < 0 ∧ x.toNatClampNeg ≤ 100000 ∧ 1 ≤ kc ∧ x.toNatClampNeg ≤ ks ∧ X (M, pc + 2, ls, .ref h.2.2.2.1 :: rest, am_new h (.inr (t, x.toNatClampNeg)), kc - 1, ks - x.toNatClampNeg, Q)) ∨
  (∃ idx x y rest, i = .multianewarray idx 2 ∧ st = .int y :: .int x :: rest ∧ ¬ x < 0 ∧ ¬ y < 0 ∧ x.toNatClampNeg ≤ 10000 ∧ y.toNatClampNeg ≤ 10000 ∧ am_in (.classLink (am_own M) idx "[[I") ∧ 1 + x.toNatClampNeg ≤ kc ∧ x.toNatClampNeg + x.toNatClampNeg * y.toNatClampNeg ≤ ks ∧
    X (M, pc + 4, ls, .ref h.2.2.2.1 :: rest, am_new2 h x.toNatClampNeg y.toNatClampNeg, kc - (1 + x.toNatClampNeg), ks - (x.toNatClampNeg + x.toNatClampNeg * y.toNatClampNeg), Q)) ∨
  (∃ idx x y z rest, i = .invokestatic idx ∧ st = .int y :: .int x :: rest ∧ ((am_in (.methodLink (am_own M) idx Lib.Math.max.name) ∧ z = if x < y then y else x) ∨ (am_in (.methodLink (am_own M) idx Lib.Math.min.name) ∧ z = if y < x then y else x)) ∧ 1 ≤ (am_rm M).frames ∧ rest.length + 13 ≤ (am_rm M).locals ∧ (∀ v ∈ rest, v.category = 1) ∧ X (M, pc + 3, ls, .int z :: rest, h, kc, ks, Q)))
/-- THE RUN COMES TO ITS END WITH Q -/
def am_Go (k : am_K) : Prop := ∀ X : am_K → Prop, (∀ k, am_Phi X k → X k) → X k
theorem am_Phi_mono {X Y : am_K → Prop} (h : ∀ k, X k → Y k) : ∀ k, am_Phi X k → am_Phi Y k := by
  rintro ⟨M, pc, ls, st, hh, kc, ks, Q⟩ ⟨i, len, hi, H⟩
  refine ⟨i, len, hi, ?_⟩
  rcases H with H | H | H | H | H | H | H | H | H | H | H | H | H | H
  · obtain ⟨a, b, c, d, e, f⟩ := H; exact Or.inl ⟨a, b, c, d, e, h _ f⟩
  · obtain ⟨a, b, c, d, e, f, g, z⟩ := H; exact Or.inr (Or.inl ⟨a, b, c, d, e, f, g, h _ z⟩)
  · exact Or.inr (Or.inr (Or.inl H))
  · exact Or.inr (Or.inr (Or.inr (Or.inl H)))
  · exact Or.inr (Or.inr (Or.inr (Or.inr (Or.inl H))))
  · obtain ⟨a1, a2, a3, a4, a5, a6, a7, b1, b2, b3, b4, b5, b6, b7, b8, b9, c1, c2, c3, c4⟩ := H
    exact Or.inr (Or.inr (Or.inr (Or.inr (Or.inr (Or.inl ⟨a1, a2, a3, a4, a5, a6, a7, b1, b2, b3, b4, b5, b6, b7, b8, b9, c1, c2, h _ c3, fun r h1 q => h _ (c4 r h1 q)⟩)))))
  · obtain ⟨a1, a2, a5, a6, a7, b1, b2, b4, b5, b6, b7, b8, b9, c1, c2, c3, c4⟩ := H
    exact Or.inr (Or.inr (Or.inr (Or.inr (Or.inr (Or.inr (Or.inl ⟨a1, a2, a5, a6, a7, b1, b2, b4, b5, b6, b7, b8, b9, c1, c2, h _ c3, fun r h1 q => h _ (c4 r h1 q)⟩))))))
  · obtain ⟨a1, a2, a3, a5, a6, a7, b1, b2, b4, b5, b6, b7, b8, b9, c1, c2, c3, c4⟩ := H
    exact Or.inr (Or.inr (Or.inr (Or.inr (Or.inr (Or.inr (Or.inr (Or.inl ⟨a1, a2, a3, a5, a6, a7, b1, b2, b4, b5, b6, b7, b8, b9, c1, c2, h _ c3, fun r h1 q => h _ (c4 r h1 q)⟩)))))))
  · obtain ⟨a1, a2, a3, a4, a5, a6, a7, a8, a9, b1⟩ := H
    exact Or.inr (Or.inr (Or.inr (Or.inr (Or.inr (Or.inr (Or.inr (Or.inr (Or.inl ⟨a1, a2, a3, a4, a5, a6, a7, a8, a9, h _ b1⟩))))))))
  · obtain ⟨a1, a2, a3, a4, a5, a6, a7, a8, a9, b1, b2, b3, b4, b5, b6, b7, b8, b9, c1, c2, c3, c4, c5⟩ := H
    exact Or.inr (Or.inr (Or.inr (Or.inr (Or.inr (Or.inr (Or.inr (Or.inr (Or.inr (Or.inl ⟨a1, a2, a3, a4, a5, a6, a7, a8, a9, b1, b2, b3, b4, b5, b6, b7, b8, b9, c1, c2, c3, c4, h _ c5⟩)))))))))
  · obtain ⟨a1, a2, a3, a4, a5, a6, a7, a8, a9, b1, b2⟩ := H
    exact Or.inr (Or.inr (Or.inr (Or.inr (Or.inr (Or.inr (Or.inr (Or.inr (Or.inr (Or.inr (Or.inl ⟨a1, a2, a3, a4, a5, a6, a7, a8, a9, b1, h _ b2⟩))))))))))
  · obtain ⟨a1, a2, a3, a4, a5, a6, a7, a8, a9, b1, b2, b3⟩ := H
    exact Or.inr (Or.inr (Or.inr (Or.inr (Or.inr (Or.inr (Or.inr (Or.inr (Or.inr (Or.inr (Or.inr (Or.inl ⟨a1, a2, a3, a4, a5, a6, a7, a8, a9, b1, b2, h _ b3⟩)))))))))))
  · obtain ⟨a1, a2, a3, a4, a5, a6, a7, a8, a9, b1, b2, b3, b4, b5⟩ := H
    exact Or.inr (Or.inr (Or.inr (Or.inr (Or.inr (Or.inr (Or.inr (Or.inr (Or.inr (Or.inr (Or.inr (Or.inr (Or.inl ⟨a1, a2, a3, a4, a5, a6, a7, a8, a9, b1, b2, b3, b4, h _ b5⟩))))))))))))
  · obtain ⟨a1, a2, a3, a4, a5, a6, a7, a8, a9, b1, b2, b3⟩ := H
    exact Or.inr (Or.inr (Or.inr (Or.inr (Or.inr (Or.inr (Or.inr (Or.inr (Or.inr (Or.inr (Or.inr (Or.inr (Or.inr ⟨a1, a2, a3, a4, a5, a6, a7, a8, a9, b1, b2, h _ b3⟩))))))))))))
theorem am_Go.intro {k : am_K} (h : am_Phi am_Go k) : am_Go k := fun X hX => hX k (am_Phi_mono (fun _ g => g X hX) k h)
theorem am_Go.ind {X : am_K → Prop} (hX : ∀ k, am_Phi X k → X k) {k : am_K} (h : am_Go k) : X k := h X hX
