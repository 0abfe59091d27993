/-! A SMALL MACHINE: the tables' program over cells that are numbered as they are made (0 to 11 are there before: nine rows of the class, ArrayList's empty row, a mirror, the script). A cell: its tag and its values. Tags below 50: objects by their class's place in vwCl; 50 int[], 51 long[], 52 boolean[], 53 Object[], 54 Treaty[]; 60, 63: int[], Object[] that nobody writes; 70: a reference that is only held. -/
abbrev am_C : Type := Nat × List Value
/-- the cells; how many numbers are given; how many slots were made at most -/
abbrev am_H : Type := (Nat → Option am_C) × Nat × Nat
/-- what a run ends with: a value or none; or an exception by its number -/
abbrev am_Res : Type := Option Value ⊕ Nat
def am_U : Value := .retAddr 0
def am_nl : Value → Bool
  | .long _ => false
  | .double _ => false
  | _ => true
def am_ix (i : Int32) : Option Nat := if i < 0 then none else some i.toNatClampNeg
def am_set (h : am_H) (k : Nat) (c : am_C) : am_H := (fun j => if j = k then some c else h.1 j, h.2)
def am_new (h : am_H) (c : am_C) (n : Nat) : am_H := (fun j => if j = h.2.1 then some c else h.1 j, h.2.1 + 1, h.2.2 + n)
def am_kv : Value → Nat
  | .int _ => 0
  | .long _ => 1
  | .ref _ => 2
  | .null => 2
  | _ => 9
def am_getf (h : am_H) (k t b : Nat) : Option Value := (h.1 k).bind fun c => if c.1 = t then c.2[b]? else none
def am_putf (h : am_H) (k t b d : Nat) (v : Value) : Option am_H := (h.1 k).bind fun c => if c.1 = t ∧ b < c.2.length ∧ am_kv v = d then some (am_set h k (t, c.2.set b v)) else none
def am_ald (h : am_H) (k : Nat) (ts : List Nat) (d : Nat) (i : Int32) : Option Value := (h.1 k).bind fun c => if c.1 ∈ ts then (am_ix i).bind fun j => (c.2[j]?).bind fun v => if am_kv v = d then some v else none else none
def am_ast (h : am_H) (k t d : Nat) (i : Int32) (v : Value) : Option am_H := (h.1 k).bind fun c => if c.1 = t ∧ am_kv v = d then (am_ix i).bind fun j => if j < c.2.length then some (am_set h k (t, c.2.set j v)) else none else none
/-- what a row of references of the tag t may hold -/
def am_fitq (h : am_H) (t : Nat) : Value → Bool
  | .null => true
  | .ref r => match h.1 r with
    | some c => (decide (t = 53) && decide (c.1 < 50)) || (decide (t = 54) && decide (c.1 = 7))
    | none => false
  | _ => false
def am_asq (h : am_H) (k : Nat) (i : Int32) (v : Value) : Option am_H := (h.1 k).bind fun c => if (c.1 = 53 ∨ c.1 = 54) ∧ am_fitq h c.1 v = true then (am_ix i).bind fun j => if j < c.2.length then some (am_set h k (c.1, c.2.set j v)) else none else none
def am_len (h : am_H) (k : Nat) : Option Int32 := (h.1 k).bind fun c => if 50 ≤ c.1 ∧ c.1 < 70 then some (Int32.ofNat c.2.length) else none
def am_dv (t : Nat) : Value := if t = 51 then .long 0 else if t = 53 ∨ t = 54 then .null else .int 0
def am_newa (h : am_H) (t : Nat) (n : Int32) : Option am_H := (am_ix n).bind fun N => if N ≤ 100000 then some (am_new h (t, List.replicate N (am_dv t)) N) else none
def am_acmp (h : am_H) : Value → Value → Option Bool
  | .null, .null => some true
  | .null, .ref _ => some false
  | .ref _, .null => some false
  | .ref i, .ref j => if i = j then some true else (h.1 i).bind fun c => (h.1 j).bind fun c' => if (c.1 < 60 ∧ c'.1 < 70) ∨ (c'.1 < 60 ∧ c.1 < 70) then some false else none
  | _, _ => none
def am_isa (h : am_H) (k t : Nat) : Bool := match h.1 k with
  | some c => decide (c.1 = t)
  | none => false
def am_copy (h : am_H) (k0 k1 : Nat) (sp dp n : Int32) : Option am_H := (h.1 k0).bind fun c0 => (h.1 k1).bind fun c1 => (am_ix sp).bind fun s => (am_ix dp).bind fun d => (am_ix n).bind fun m =>
  if (c0.1 = 53 ∨ c0.1 = 63) ∧ c1.1 = 53 ∧ s + m ≤ c0.2.length ∧ d + m ≤ c1.2.length ∧ ((c0.2.drop s).take m).all (am_fitq h 53) = true then some (am_set h k1 (53, c1.2.take d ++ (c0.2.drop s).take m ++ c1.2.drop (d + m))) else none
/-- the fields of a class by their types -/
noncomputable def am_fty (t k : Nat) : FieldType := match vwCl[t]? with
  | some q => (parseFieldDescriptor (q.2.1 k).2.2.1).getD .int
  | none => .int
noncomputable def am_def (t : Nat) : List Value := match vwCl[t]? with
  | some q => (List.range q.2.2).map fun k => defaultValue (am_fty t k)
  | none => []
def am_kill (ks : List Nat) (ls : List Value) : List Value := ks.foldl (fun l k => l.set k am_U) ls
/-- a store of a value of one slot -/
def am_st1 (ls : List Value) (i : Nat) (v : Value) : Option (List Value) := if i < ls.length then if i = 0 then some (ls.set 0 v) else if am_nl (ls.getD (i - 1) am_U) = true then some (ls.set i v) else none else none
def am_st2 (ls : List Value) (i : Nat) (v : Value) : Option (List Value) := if i + 1 < ls.length then if i = 0 then some ((ls.set 0 v).set 1 am_U) else if am_nl (ls.getD (i - 1) am_U) = true then some ((ls.set i v).set (i + 1) am_U) else none else none
def am_ldi (ls : List Value) (i : Nat) : Option Value := match ls[i]? with
  | some (.int x) => some (.int x)
  | _ => none
def am_ldl (ls : List Value) (i : Nat) : Option Value := match ls[i]? with
  | some (.long x) => some (.long x)
  | _ => none
def am_lda (ls : List Value) (i : Nat) : Option Value := match ls[i]? with
  | some (.ref x) => some (.ref x)
  | some .null => some .null
  | _ => none
def am_cmp (c : ClassFile.Cond) (x y : Int32) : Bool := match c with
  | .eq => decide (x = y)
  | .ne => decide (¬ x = y)
  | .lt => decide (x < y)
  | .ge => decide (y ≤ x)
  | .gt => decide (y < x)
  | .le => decide (x ≤ y)
/-- an instruction that neither calls nor ends: where it goes on, locals, stack, cells -/
noncomputable def am_op0 (r : am_Row) (pc : Nat) (ls st : List Value) (h : am_H) : Option (Nat × List Value × List Value × am_H) :=
  match r with
  | (ins, len, a, b, d, _, _) =>
    match ins with
    | .aconst_null => some (pc + len, ls, .null :: st, h)
    | .iconst n => some (pc + len, ls, .int (Int32.ofInt n) :: st, h)
    | .bipush n => some (pc + len, ls, .int (Int8.ofInt n).toInt32 :: st, h)
    | .sipush n => some (pc + len, ls, .int (Int16.ofInt n).toInt32 :: st, h)
    | .lconst n => some (pc + len, ls, .long (Int64.ofNat (n : Nat)) :: st, h)
    | .iload i => (am_ldi ls i).map fun v => (pc + len, ls, v :: st, h)
    | .iload_n i => (am_ldi ls i).map fun v => (pc + len, ls, v :: st, h)
    | .lload i => (am_ldl ls i).map fun v => (pc + len, ls, v :: st, h)
    | .lload_n i => (am_ldl ls i).map fun v => (pc + len, ls, v :: st, h)
    | .aload i => (am_lda ls i).map fun v => (pc + len, ls, v :: st, h)
    | .aload_n i => (am_lda ls i).map fun v => (pc + len, ls, v :: st, h)
    | .istore i => match st with
      | .int x :: s => (am_st1 ls i (.int x)).map fun l => (pc + len, l, s, h)
      | _ => none
    | .istore_n i => match st with
      | .int x :: s => (am_st1 ls i (.int x)).map fun l => (pc + len, l, s, h)
      | _ => none
    | .astore i => match st with
      | .ref x :: s => (am_st1 ls i (.ref x)).map fun l => (pc + len, l, s, h)
      | .null :: s => (am_st1 ls i .null).map fun l => (pc + len, l, s, h)
      | _ => none
    | .astore_n i => match st with
      | .ref x :: s => (am_st1 ls i (.ref x)).map fun l => (pc + len, l, s, h)
      | .null :: s => (am_st1 ls i .null).map fun l => (pc + len, l, s, h)
      | _ => none
    | .lstore i => match st with
      | .long x :: s => (am_st2 ls i (.long x)).map fun l => (pc + len, l, s, h)
      | _ => none
    | .lstore_n i => match st with
      | .long x :: s => (am_st2 ls i (.long x)).map fun l => (pc + len, l, s, h)
      | _ => none
    | .iinc i n => match ls[i]? with
      | some (.int x) => (am_st1 ls i (.int (x + Int32.ofInt n))).map fun l => (pc + len, l, st, h)
      | _ => none
    | .iadd => match st with
      | .int y :: .int x :: s => some (pc + len, ls, .int (x + y) :: s, h)
      | _ => none
    | .isub => match st with
      | .int y :: .int x :: s => some (pc + len, ls, .int (x - y) :: s, h)
      | _ => none
    | .imul => match st with
      | .int y :: .int x :: s => some (pc + len, ls, .int (x * y) :: s, h)
      | _ => none
    | .iand => match st with
      | .int y :: .int x :: s => some (pc + len, ls, .int (x &&& y) :: s, h)
      | _ => none
    | .ior => match st with
      | .int y :: .int x :: s => some (pc + len, ls, .int (x ||| y) :: s, h)
      | _ => none
    | .ixor => match st with
      | .int y :: .int x :: s => some (pc + len, ls, .int (x ^^^ y) :: s, h)
      | _ => none
    | .idiv => match st with
      | .int y :: .int x :: s => if y = 0 then none else some (pc + len, ls, .int (x / y) :: s, h)
      | _ => none
    | .irem => match st with
      | .int y :: .int x :: s => if y = 0 then none else some (pc + len, ls, .int (x - x / y * y) :: s, h)
      | _ => none
    | .ineg => match st with
      | .int x :: s => some (pc + len, ls, .int (-x) :: s, h)
      | _ => none
    | .ishl => match st with
      | .int y :: .int x :: s => some (pc + len, ls, .int (x <<< (y &&& 31)) :: s, h)
      | _ => none
    | .ishr => match st with
      | .int y :: .int x :: s => some (pc + len, ls, .int (x >>> (y &&& 31)) :: s, h)
      | _ => none
    | .iushr => match st with
      | .int y :: .int x :: s => some (pc + len, ls, .int (x.toUInt32 >>> (y.toUInt32 &&& Int32.toUInt32 31)).toInt32 :: s, h)
      | _ => none
    | .i2l => match st with
      | .int x :: s => some (pc + len, ls, .long x.toInt64 :: s, h)
      | _ => none
    | .ladd => match st with
      | .long y :: .long x :: s => some (pc + len, ls, .long (x + y) :: s, h)
      | _ => none
    | .land => match st with
      | .long y :: .long x :: s => some (pc + len, ls, .long (x &&& y) :: s, h)
      | _ => none
    | .lor => match st with
      | .long y :: .long x :: s => some (pc + len, ls, .long (x ||| y) :: s, h)
      | _ => none
    | .lshl => match st with
      | .int y :: .long x :: s => some (pc + len, ls, .long (x <<< (y.toInt64 &&& 63)) :: s, h)
      | _ => none
    | .lshr => match st with
      | .int y :: .long x :: s => some (pc + len, ls, .long (x >>> (y.toInt64 &&& 63)) :: s, h)
      | _ => none
    | .lcmp => match st with
      | .long y :: .long x :: s => some (pc + len, ls, .int (lg_cmp x y) :: s, h)
      | _ => none
    | .dup => match st with
      | v :: s => if am_nl v = true then some (pc + len, ls, v :: v :: s, h) else none
      | _ => none
    | .pop => match st with
      | v :: s => if am_nl v = true then some (pc + len, ls, s, h) else none
      | _ => none
    | .dup_x1 => match st with
      | v :: w :: s => if am_nl v = true ∧ am_nl w = true then some (pc + len, ls, v :: w :: v :: s, h) else none
      | _ => none
    | .dup2 => match st with
      | v :: w :: s => if am_nl v = true ∧ am_nl w = true then some (pc + len, ls, v :: w :: v :: w :: s, h) else none
      | _ => none
    | .goto _ => some (a, ls, st, h)
    | .ifCond c _ => match st with
      | .int x :: s => if am_cmp c x 0 = true then some (a, ls, s, h) else some (pc + len, ls, s, h)
      | _ => none
    | .if_icmp c _ => match st with
      | .int y :: .int x :: s => if am_cmp c x y = true then some (a, ls, s, h) else some (pc + len, ls, s, h)
      | _ => none
    | .if_acmp c _ => match st with
      | w :: v :: s => (am_acmp h v w).map fun z => if (z = true ∧ c = .eq) ∨ (z = false ∧ c = .ne) then (a, ls, s, h) else (pc + len, ls, s, h)
      | _ => none
    | .ifnull _ => match st with
      | .null :: s => some (a, ls, s, h)
      | .ref _ :: s => some (pc + len, ls, s, h)
      | _ => none
    | .ifnonnull _ => match st with
      | .null :: s => some (pc + len, ls, s, h)
      | .ref _ :: s => some (a, ls, s, h)
      | _ => none
    | .tableswitch dflt lo hi offs => match st with
      | .int x :: s => if x.toInt < lo ∨ hi < x.toInt then some (((pc : Int) + dflt).toNat, ls, s, h) else (offs[(x.toInt - lo).toNat]?).map fun o => (((pc : Int) + o).toNat, ls, s, h)
      | _ => none
    | .ldc _ => if d = 1 then some (pc + len, ls, .ref 10 :: st, h) else if d = 2 then some (pc + len, ls, .int (Int32.ofInt ((a : Int) - 2147483648)) :: st, h) else none
    | .ldc_w _ => if d = 2 then some (pc + len, ls, .int (Int32.ofInt ((a : Int) - 2147483648)) :: st, h) else none
    | .ldc2_w _ => some (pc + len, ls, .long (Int64.ofInt ((a : Int) - 9223372036854775808)) :: st, h)
    | .getfield _ => match st with
      | .ref k :: s => (am_getf h k a b).map fun v => (pc + len, ls, v :: s, h)
      | _ => none
    | .putfield _ => match st with
      | v :: .ref k :: s => (am_putf h k a b d v).map fun h' => (pc + len, ls, s, h')
      | _ => none
    | .getstatic _ => some (pc + len, ls, .ref a :: st, h)
    | .iaload => match st with
      | .int i :: .ref k :: s => (am_ald h k [50, 60] 0 i).map fun v => (pc + len, ls, v :: s, h)
      | _ => none
    | .laload => match st with
      | .int i :: .ref k :: s => (am_ald h k [51] 1 i).map fun v => (pc + len, ls, v :: s, h)
      | _ => none
    | .baload => match st with
      | .int i :: .ref k :: s => (am_ald h k [52] 0 i).map fun v => (pc + len, ls, v :: s, h)
      | _ => none
    | .aaload => match st with
      | .int i :: .ref k :: s => (am_ald h k [53, 54, 63] 2 i).map fun v => (pc + len, ls, v :: s, h)
      | _ => none
    | .iastore => match st with
      | .int x :: .int i :: .ref k :: s => (am_ast h k 50 0 i (.int x)).map fun h' => (pc + len, ls, s, h')
      | _ => none
    | .lastore => match st with
      | .long x :: .int i :: .ref k :: s => (am_ast h k 51 1 i (.long x)).map fun h' => (pc + len, ls, s, h')
      | _ => none
    | .bastore => match st with
      | .int x :: .int i :: .ref k :: s => (am_ast h k 52 0 i (.int (x &&& 1))).map fun h' => (pc + len, ls, s, h')
      | _ => none
    | .aastore => match st with
      | v :: .int i :: .ref k :: s => (am_asq h k i v).map fun h' => (pc + len, ls, s, h')
      | _ => none
    | .arraylength => match st with
      | .ref k :: s => (am_len h k).map fun n => (pc + len, ls, .int n :: s, h)
      | _ => none
    | .newarray _ => match st with
      | .int n :: s => (am_newa h a n).map fun h' => (pc + len, ls, .ref h.2.1 :: s, h')
      | _ => none
    | .anewarray _ => match st with
      | .int n :: s => (am_newa h a n).map fun h' => (pc + len, ls, .ref h.2.1 :: s, h')
      | _ => none
    | .new _ => if d = 0 then some (pc + len, ls, .ref h.2.1 :: st, am_new h (a, am_def a) b) else none
    | .checkcast _ => match st with
      | .null :: s => some (pc + len, ls, .null :: s, h)
      | .ref k :: s => if am_isa h k a = true then some (pc + len, ls, .ref k :: s, h) else none
      | _ => none
    | .invokestatic _ => match st with
      | .int y :: s1 => if d = 101 ∧ s1.length ≤ 4 then some (pc + len, ls, .int (if 0 ≤ y then y else 0 - y) :: s1, h) else match s1 with
        | .int x :: s => if d = 102 ∧ s.length ≤ 4 then some (pc + len, ls, .int (if x < y then y else x) :: s, h) else if d = 103 ∧ s.length ≤ 4 then some (pc + len, ls, .int (if y < x then y else x) :: s, h) else match s with
          | .ref k1 :: .int sp :: .ref k0 :: s0 => if d = 105 ∧ s0.length ≤ 4 then (am_copy h k0 k1 sp x y).map fun h' => (pc + len, ls, s0, h') else none
          | _ => none
        | _ => none
      | _ => none
    | .invokevirtual _ => match st with
      | .ref k :: s => if d = 106 ∧ s.length ≤ 4 ∧ am_isa h k 53 = true then some (pc + len, ls, .ref 10 :: s, h) else none
      | _ => none
    | .invokespecial _ => match st with
      | .ref _ :: s => if d = 104 ∧ s.length ≤ 4 then some (pc + len, ls, s, h) else none
      | _ => none
    | _ => none
noncomputable def am_op (r : am_Row) (pc : Nat) (ls st : List Value) (h : am_H) : Option (Nat × List Value × List Value × am_H) := (am_op0 r pc ls st h).map fun t => (t.1, am_kill r.2.2.2.2.2.1 t.2.1, t.2.2)
def am_ret (r : am_Row) (st : List Value) : Option (Option Value) :=
  match r.1 with
  | .ireturn => match st with
    | [.int x] => if r.2.2.2.2.1 = 1 ∧ ¬ (x = 0 ∨ x = 1) then none else some (some (.int x))
    | _ => none
  | .lreturn => match st with
    | [.long x] => some (some (.long x))
    | _ => none
  | .areturn => match st with
    | [.ref x] => some (some (.ref x))
    | [.null] => some (some .null)
    | _ => none
  | .return_ => match st with
    | [] => some none
    | _ => none
  | _ => none
def am_thr (r : am_Row) (st : List Value) : Option Nat :=
  match r.1 with
  | .new _ => if r.2.2.2.2.1 = 9 ∧ st.length ≤ 4 then some r.2.2.1 else none
  | _ => none
noncomputable def am_nL (mu : Nat) : Nat := ((am_M[mu]?).map fun q => q.2.2.1).getD 0
noncomputable def am_hh (mu : Nat) : List (Nat × Nat × Nat × Nat) := ((am_M[mu]?).map fun q => q.2.2.2.2.2.2).getD []
def am_args : List Value → List Value
  | [] => []
  | v :: vs => if am_nl v = true then v :: am_args vs else v :: am_U :: am_args vs
def am_ent (n : Nat) (as : List Value) : List Value := am_args as ++ List.replicate (n - (am_args as).length) am_U
/-- a call: the callee's number, its arguments, what stays on the stack -/
noncomputable def am_call (r : am_Row) (st : List Value) (h : am_H) : Option (Nat × List Value × List Value) :=
  match r with
  | (ins, _, a, b, d, _, _) =>
    match ins with
    | .invokestatic _ => if d < 4 ∧ b ≤ st.length ∧ st.length ≤ b + 4 ∧ (am_args (st.take b).reverse).length ≤ am_nL a then some (a, (st.take b).reverse, st.drop b) else none
    | .invokespecial _ => if (d = 4 ∨ d = 5) ∧ b ≤ st.length ∧ st.length ≤ b + 4 ∧ (am_args (st.take b).reverse).length ≤ am_nL a then match (st.take b).reverse with
      | .ref k :: as => some (a, .ref k :: as, st.drop b)
      | _ => none
      else none
    | .invokevirtual _ => if 1000 ≤ d ∧ b ≤ st.length ∧ st.length ≤ b + 4 ∧ (am_args (st.take b).reverse).length ≤ am_nL a then match (st.take b).reverse with
      | .ref k :: as => if am_isa h k ((d - 1000) / 2) = true then some (a, .ref k :: as, st.drop b) else none
      | _ => none
      else none
    | _ => none
/-- an exception by the law's pool -/
def am_ct (k : Nat) : Nat := if k = 13 then 0 else if k = 15 then 1 else if k = 28 then 2 else 9
noncomputable def am_hnd (mu pc E : Nat) : Option Nat := ((am_hh mu).find? fun q => decide (q.1 ≤ pc ∧ pc < q.2.1 ∧ am_ct q.2.2.2 = E)).map fun q => q.2.2.1
noncomputable def am_run : Nat → Nat → Nat → List Value → List Value → am_H → Option (am_Res × am_H)
  | 0, _, _, _, _, _ => none
  | n + 1, mu, pc, ls, st, h => (am_prog mu pc).bind fun r =>
    match am_ret r st with
    | some v => some (.inl v, h)
    | none => match am_thr r st with
      | some E => some (.inr E, (h.1, h.2.1 + 1, h.2.2 + 6))
      | none => match am_call r st h with
        | some q => (am_run n q.1 0 (am_ent (am_nL q.1) q.2.1) [] h).bind fun z => match z.1 with
          | .inl v => am_run n mu (pc + r.2.1) (am_kill r.2.2.2.2.2.1 ls) (v.toList ++ q.2.2) z.2
          | .inr E => match am_hnd mu pc E with
            | some t => am_run n mu t ls [.ref z.2.2.1] (am_new z.2 (70, []) 0)
            | none => some (.inr E, z.2)
        | none => (am_op r pc ls st h).bind fun t => am_run n mu t.1 t.2.1 t.2.2.1 t.2.2.2
theorem am_run_mono : ∀ (n mu pc : Nat) (ls st : List Value) (h : am_H) (z : am_Res × am_H), am_run n mu pc ls st h = some z → am_run (n + 1) mu pc ls st h = some z := by
  intro n
  induction n with
  | zero => intro mu pc ls st h z hz; cases hz
  | succ n ih =>
    intro mu pc ls st h z hz
    rw [am_run] at hz ⊢
    cases hp : am_prog mu pc with
    | none => rw [hp] at hz; cases hz
    | some r =>
      rw [hp] at hz
      simp only [Option.bind_some] at hz ⊢
      cases h1 : am_ret r st with
      | some v => rw [h1] at hz; exact hz
      | none =>
        rw [h1] at hz
        dsimp only at hz ⊢
        cases h2 : am_thr r st with
        | some E => rw [h2] at hz; exact hz
        | none =>
          rw [h2] at hz
          dsimp only at hz ⊢
          cases h3 : am_call r st h with
          | none =>
            rw [h3] at hz
            dsimp only at hz ⊢
            cases h4 : am_op r pc ls st h with
            | none => rw [h4] at hz; cases hz
            | some t =>
              rw [h4] at hz
              simp only [Option.bind_some] at hz ⊢
              exact ih _ _ _ _ _ _ hz
          | some q =>
            rw [h3] at hz
            dsimp only at hz ⊢
            cases h4 : am_run n q.1 0 (am_ent (am_nL q.1) q.2.1) [] h with
            | none => rw [h4] at hz; cases hz
            | some y =>
              rw [h4] at hz
              rw [ih _ _ _ _ _ _ h4]
              simp only [Option.bind_some] at hz ⊢
              obtain ⟨y1, y2⟩ := y
              cases y1 with
              | inl v => exact ih _ _ _ _ _ _ hz
              | inr E =>
                dsimp only at hz ⊢
                cases h5 : am_hnd mu pc E with
                | none => rw [h5] at hz; exact hz
                | some t => rw [h5] at hz; exact ih _ _ _ _ _ _ hz
theorem am_run_le {n k mu pc : Nat} {ls st : List Value} {h : am_H} {z : am_Res × am_H} (hn : n ≤ k) (hz : am_run n mu pc ls st h = some z) : am_run k mu pc ls st h = some z := by
  induction hn with
  | refl => exact hz
  | step _ ih => exact am_run_mono _ _ _ _ _ _ _ ih
theorem am_run_det {n k mu pc : Nat} {ls st : List Value} {h : am_H} {z y : am_Res × am_H} (hz : am_run n mu pc ls st h = some z) (hy : am_run k mu pc ls st h = some y) : z = y := by
  have h1 := am_run_le (Nat.le_max_left n k) hz
  have h2 := am_run_le (Nat.le_max_right n k) hy
  exact Option.some.inj (h1.symm.trans h2)
theorem am_lim (mu pc : Nat) (ls st : List Value) (h : am_H) : ∃ o : Option (am_Res × am_H), ∀ z, o = some z ↔ ∃ n, am_run n mu pc ls st h = some z := by
  rcases Classical.em (∃ (n : Nat) (z : am_Res × am_H), am_run n mu pc ls st h = some z) with ⟨n, z, hz⟩ | hno
  · exact ⟨some z, fun y => ⟨fun e => ⟨n, by rw [hz]; exact e⟩, fun ⟨k, hk⟩ => by rw [am_run_det hz hk]⟩⟩
  · exact ⟨none, fun y => ⟨fun e => (by cases e), fun ⟨k, hk⟩ => absurd ⟨k, y, hk⟩ hno⟩⟩
/-- what a run comes to, with as much fuel as it needs -/
noncomputable def am_exec (mu pc : Nat) (ls st : List Value) (h : am_H) : Option (am_Res × am_H) := Classical.choose (am_lim mu pc ls st h)
theorem am_exec_iff {mu pc : Nat} {ls st : List Value} {h : am_H} {z : am_Res × am_H} : am_exec mu pc ls st h = some z ↔ ∃ n, am_run n mu pc ls st h = some z := Classical.choose_spec (am_lim mu pc ls st h) z
/-- behind a call -/
noncomputable def am_back (mu pc : Nat) (ls : List Value) (o : Option (am_Res × am_H)) (f : Option Value → am_H → Option (am_Res × am_H)) : Option (am_Res × am_H) := o.bind fun z => match z.1 with
  | .inl v => f v z.2
  | .inr E => match am_hnd mu pc E with
    | some t => am_exec mu t ls [.ref z.2.2.1] (am_new z.2 (70, []) 0)
    | none => some (.inr E, z.2)
theorem am_exec_ret {mu pc : Nat} {ls st : List Value} {h : am_H} {r : am_Row} {v : Option Value} (hp : am_prog mu pc = some r) (h1 : am_ret r st = some v) : am_exec mu pc ls st h = some (.inl v, h) :=
  am_exec_iff.mpr ⟨1, by rw [am_run, hp, Option.bind_some, h1]⟩
theorem am_exec_thr {mu pc : Nat} {ls st : List Value} {h : am_H} {r : am_Row} {E : Nat} (hp : am_prog mu pc = some r) (h1 : am_ret r st = none) (h2 : am_thr r st = some E) : am_exec mu pc ls st h = some (.inr E, (h.1, h.2.1 + 1, h.2.2 + 6)) :=
  am_exec_iff.mpr ⟨1, by rw [am_run, hp, Option.bind_some, h1]; dsimp only; rw [h2]⟩
theorem am_opt_ext {α : Type} {o1 o2 : Option α} (h : ∀ z, o1 = some z ↔ o2 = some z) : o1 = o2 := by
  cases o2 with
  | some y => exact (h y).mpr rfl
  | none => cases o1 with
    | none => rfl
    | some z => exact absurd ((h z).mp rfl) (fun e => by cases e)
theorem am_exec_op {mu pc : Nat} {ls st : List Value} {h : am_H} {r : am_Row} (hp : am_prog mu pc = some r) (h1 : am_ret r st = none) (h2 : am_thr r st = none) (h3 : am_call r st h = none) :
    am_exec mu pc ls st h = (am_op r pc ls st h).bind fun t => am_exec mu t.1 t.2.1 t.2.2.1 t.2.2.2 := by
  refine am_opt_ext fun z => ⟨fun hz => ?_, fun hz => ?_⟩
  · obtain ⟨n, hn⟩ := am_exec_iff.mp hz
    cases n with
    | zero => cases hn
    | succ n =>
      rw [am_run, hp, Option.bind_some, h1] at hn
      dsimp only at hn
      rw [h2] at hn
      dsimp only at hn
      rw [h3] at hn
      dsimp only at hn
      cases h4 : am_op r pc ls st h with
      | none => rw [h4] at hn; cases hn
      | some t => rw [h4] at hn; exact am_exec_iff.mpr ⟨n, hn⟩
  · cases h4 : am_op r pc ls st h with
    | none => rw [h4] at hz; cases hz
    | some t =>
      rw [h4] at hz
      obtain ⟨n, hn⟩ := am_exec_iff.mp hz
      refine am_exec_iff.mpr ⟨n + 1, ?_⟩
      rw [am_run, hp, Option.bind_some, h1]
      dsimp only
      rw [h2]
      dsimp only
      rw [h3]
      dsimp only
      rw [h4]
      exact hn
theorem am_exec_call {mu pc : Nat} {ls st : List Value} {h : am_H} {r : am_Row} {q : Nat × List Value × List Value} (hp : am_prog mu pc = some r) (h1 : am_ret r st = none) (h2 : am_thr r st = none) (h3 : am_call r st h = some q) :
    am_exec mu pc ls st h = am_back mu pc ls (am_exec q.1 0 (am_ent (am_nL q.1) q.2.1) [] h) fun v h1 => am_exec mu (pc + r.2.1) (am_kill r.2.2.2.2.2.1 ls) (v.toList ++ q.2.2) h1 := by
  refine am_opt_ext fun z => ⟨fun hz => ?_, fun hz => ?_⟩
  · obtain ⟨n, hn⟩ := am_exec_iff.mp hz
    cases n with
    | zero => cases hn
    | succ n =>
      rw [am_run, hp, Option.bind_some, h1] at hn
      dsimp only at hn
      rw [h2] at hn
      dsimp only at hn
      rw [h3] at hn
      dsimp only at hn
      cases h4 : am_run n q.1 0 (am_ent (am_nL q.1) q.2.1) [] h with
      | none => rw [h4] at hn; cases hn
      | some y =>
        rw [h4, Option.bind_some] at hn
        rw [am_back, am_exec_iff.mpr ⟨n, h4⟩, Option.bind_some]
        obtain ⟨y1, y2⟩ := y
        cases y1 with
        | inl v => exact am_exec_iff.mpr ⟨n, hn⟩
        | inr E =>
          dsimp only at hn ⊢
          cases h5 : am_hnd mu pc E with
          | none => rw [h5] at hn; exact hn
          | some t => rw [h5] at hn; exact am_exec_iff.mpr ⟨n, hn⟩
  · rw [am_back] at hz
    cases h4 : am_exec q.1 0 (am_ent (am_nL q.1) q.2.1) [] h with
    | none => rw [h4] at hz; cases hz
    | some y =>
      rw [h4, Option.bind_some] at hz
      obtain ⟨n1, hn1⟩ := am_exec_iff.mp h4
      obtain ⟨y1, y2⟩ := y
      cases y1 with
      | inl v =>
        obtain ⟨n2, hn2⟩ := am_exec_iff.mp hz
        refine am_exec_iff.mpr ⟨max n1 n2 + 1, ?_⟩
        rw [am_run, hp, Option.bind_some, h1]
        dsimp only
        rw [h2]
        dsimp only
        rw [h3]
        dsimp only
        rw [am_run_le (Nat.le_max_left n1 n2) hn1, Option.bind_some]
        exact am_run_le (Nat.le_max_right n1 n2) hn2
      | inr E =>
        dsimp only at hz
        cases h5 : am_hnd mu pc E with
        | none =>
          rw [h5] at hz
          refine am_exec_iff.mpr ⟨n1 + 1, ?_⟩
          rw [am_run, hp, Option.bind_some, h1]
          dsimp only
          rw [h2]
          dsimp only
          rw [h3]
          dsimp only
          rw [hn1, Option.bind_some]
          dsimp only
          rw [h5]
          exact hz
        | some t =>
          rw [h5] at hz
          obtain ⟨n2, hn2⟩ := am_exec_iff.mp hz
          refine am_exec_iff.mpr ⟨max n1 n2 + 1, ?_⟩
          rw [am_run, hp, Option.bind_some, h1]
          dsimp only
          rw [h2]
          dsimp only
          rw [h3]
          dsimp only
          rw [am_run_le (Nat.le_max_left n1 n2) hn1, Option.bind_some]
          dsimp only
          rw [h5]
          exact am_run_le (Nat.le_max_right n1 n2) hn2
