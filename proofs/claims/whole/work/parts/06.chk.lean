/-! WHAT THE TABLES' ROWS REST ON: a check by evaluation of every row: its decoding, its words among the Statement's, the room of the calls -/
noncomputable def am_bc (mu : Nat) : ByteArray := ((am_M[mu]?).map fun q => q.2.1).getD ⟨#[]⟩
noncomputable def am_y (mu : Nat) : MethodName := ((am_M[mu]?).map fun q => q.1).getD yL_law
noncomputable def am_own (mu : Nat) : String := (am_y mu).cls
noncomputable def am_rt (mu : Nat) : Option FieldType := ((am_M[mu]?).map fun q => q.2.2.2.1).getD none
noncomputable def am_fr (mu : Nat) : Nat := ((am_M[mu]?).map fun q => q.2.2.2.2.1).getD 0
noncomputable def am_lo (mu : Nat) : Nat := ((am_M[mu]?).map fun q => q.2.2.2.2.2.1).getD 0
noncomputable def am_hasw (ps : List Nat) (w : Cond) : Bool := ps.any fun i => decide (lw_tbl[i]? = some w)
theorem am_hasw_mem {ps : List Nat} {w : Cond} (h : am_hasw ps w = true) : w ∈ lw_tbl := by
  obtain ⟨i, -, hi⟩ := List.any_eq_true.mp h
  exact List.mem_of_getElem? (of_decide_eq_true hi)
noncomputable def am_BIG : List Cond := lw_tbl.filter goodWord
theorem am_big {ps : List Nat} {w : Cond} (h : am_hasw ps w = true) (hg : goodWord w = true) : w ∈ am_BIG := List.mem_filter.mpr ⟨am_hasw_mem h, hg⟩
def am_il (i : Instr) (len : Nat) : Nat := match i with
  | .iload _ => 2
  | .lload _ => 2
  | .aload _ => 2
  | .istore _ => 2
  | .lstore _ => 2
  | .astore _ => 2
  | .bipush _ => 2
  | .ldc _ => 2
  | .newarray _ => 2
  | .sipush _ => 3
  | .iinc _ _ => 3
  | .goto _ => 3
  | .ifCond _ _ => 3
  | .if_icmp _ _ => 3
  | .if_acmp _ _ => 3
  | .ifnull _ => 3
  | .ifnonnull _ => 3
  | .getfield _ => 3
  | .putfield _ => 3
  | .getstatic _ => 3
  | .invokestatic _ => 3
  | .invokevirtual _ => 3
  | .invokespecial _ => 3
  | .new _ => 3
  | .checkcast _ => 3
  | .anewarray _ => 3
  | .ldc_w _ => 3
  | .ldc2_w _ => 3
  | .tableswitch _ _ _ _ => len
  | _ => 1
noncomputable def am_chf (mu i a b : Nat) (ps : List Nat) : Bool := match vwCl[a]? with
  | some z => decide (b < z.2.2) && (am_hasw ps (.fieldLink (am_own mu) i (z.2.1 b).1 (z.2.1 b).2.1 (z.2.1 b).2.2.1) || (am_hasw ps (.fieldLink (am_own mu) i z.1 (z.2.1 b).2.1 (z.2.1 b).2.2.1) && am_hasw ps (.sameField z.1 (z.2.1 b).1 (z.2.1 b).2.1 (z.2.1 b).2.2.1)))
  | none => false
def am_kty (t : FieldType) (d : Nat) : Bool := match t with
  | .int => decide (d = 0)
  | .long => decide (d = 1)
  | .object _ => decide (d = 2)
  | .array _ => decide (d = 2)
  | _ => false
noncomputable def am_chp (mu a b d : Nat) : Bool := match vwCl[a]? with
  | some z => am_kty (am_fty a b) d && (!(z.2.1 b).2.2.2 || (decide ((am_y mu).name = "<init>") && decide ((z.2.1 b).1 = am_own mu)))
  | none => false
/-- room for the callee, and its descriptor -/
noncomputable def am_chc (mu nu n : Nat) : Bool := decide (am_fr nu + 1 ≤ am_fr mu) && decide (8 + (am_nL nu + 11) + am_lo nu ≤ am_lo mu) && decide ((parseMethodDescriptor (am_y nu).desc).map (fun d => d.parameters.length) = some n) && decide (nu < 291)
def am_ExN : Nat → String
  | 0 => "java/lang/IllegalArgumentException"
  | 1 => "java/lang/IllegalStateException"
  | _ => "java/lang/IndexOutOfBoundsException"
def am_exs : List String := ["java/lang/RuntimeException", "java/lang/Exception"]
noncomputable def am_cht (mu pc i a b : Nat) (ks ps : List Nat) : Bool :=
  decide (a < 3) && decide (6 ≤ am_fr mu) && decide (90 ≤ am_lo mu) && decide (am_own mu = "EmpireTurns") && decide (am_hh mu = []) &&
  am_hasw ps (.classLink (am_own mu) i (am_ExN a)) && decide (decode (am_bc mu) (pc + 3) = .ok (.dup, 1)) &&
  match ks with
  | [ic, 0] => decide (decode (am_bc mu) (pc + 4) = .ok (.ldc b, 2)) && decide (decode (am_bc mu) (pc + 6) = .ok (.invokespecial ic, 3)) && decide (decode (am_bc mu) (pc + 9) = .ok (.athrow, 1)) && decide ((.methodLink (am_own mu) ic ⟨am_ExN a, "<init>", "(Ljava/lang/String;)V"⟩ : Cond) ∈ lw_tbl) && am_strs.any (fun z => decide (z.1 = am_own mu ∧ z.2.1 = b))
  | [ic, 1] => decide (decode (am_bc mu) (pc + 4) = .ok (.ldc_w b, 3)) && decide (decode (am_bc mu) (pc + 7) = .ok (.invokespecial ic, 3)) && decide (decode (am_bc mu) (pc + 10) = .ok (.athrow, 1)) && decide ((.methodLink (am_own mu) ic ⟨am_ExN a, "<init>", "(Ljava/lang/String;)V"⟩ : Cond) ∈ lw_tbl) && am_strs.any (fun z => decide (z.1 = am_own mu ∧ z.2.1 = b))
  | _ => false
noncomputable def am_chk (mu : Nat) (q : Nat × am_Row) : Bool :=
  match q with
  | (pc, (ins, len, a, b, d, ks, ps)) =>
    (decide (decode (am_bc mu) pc = .ok (ins, len)) && decide (len = am_il ins len)) &&
    match ins with
    | .goto off => decide ((pc : Int) + off = (a : Int))
    | .ifCond _ off => decide ((pc : Int) + off = (a : Int))
    | .if_icmp _ off => decide ((pc : Int) + off = (a : Int))
    | .if_acmp _ off => decide ((pc : Int) + off = (a : Int))
    | .ifnull off => decide ((pc : Int) + off = (a : Int))
    | .ifnonnull off => decide ((pc : Int) + off = (a : Int))
    | .tableswitch dflt _ _ offs => decide (0 ≤ (pc : Int) + dflt) && offs.all fun o => decide (0 ≤ (pc : Int) + o)
    | .ldc i => if d = 1 then am_hasw ps (.classLink (am_own mu) i "[Ljava/lang/Object;") else am_hasw ps (.constant (am_own mu) i (Int32.ofInt ((a : Int) - 2147483648)))
    | .ldc_w i => am_hasw ps (.constant (am_own mu) i (Int32.ofInt ((a : Int) - 2147483648)))
    | .ldc2_w i => am_hasw ps (.constantLong (am_own mu) i (Int64.ofInt ((a : Int) - 9223372036854775808)))
    | .getfield i => am_chf mu i a b ps
    | .putfield i => am_chf mu i a b ps && am_chp mu a b d
    | .getstatic i => match am_stat[a]? with
      | some z => if d = 1 then am_hasw ps (.fieldLinkNest (am_own mu) i z.1 z.2.1 z.2.2 "EmpireTurns") else am_hasw ps (.fieldLink (am_own mu) i z.1 z.2.1 z.2.2)
      | none => false
    | .new i => if d = 0 then match vwCl[a]? with
      | some z => am_hasw ps (.classLink (am_own mu) i z.1) && am_hasw ps (.instantiable z.1 z.2.2) && am_hasw ps (.initialized z.1) && decide (b = z.2.2)
      | none => false
      else am_cht mu pc i a b ks ps
    | .checkcast i => match vwCl[a]? with
      | some z => am_hasw ps (.classLink (am_own mu) i z.1)
      | none => false
    | .newarray t => decide ((t = .int ∧ a = 50) ∨ (t = .long ∧ a = 51) ∨ (t = .boolean ∧ a = 52))
    | .anewarray i => (decide (a = 53) && am_hasw ps (.classLink (am_own mu) i "java/lang/Object")) || (decide (a = 54) && am_hasw ps (.classLink (am_own mu) i "EmpireTurns$Treaty"))
    | .invokestatic i =>
      if d < 4 then (if d = 1 then am_hasw ps (.methodLinkNest (am_own mu) i (am_y a) "EmpireTurns") else am_hasw ps (.methodLink (am_own mu) i (am_y a))) && am_hasw ps (.static (am_y a)) && am_chc mu a b && (if d = 2 then decide (am_hh a ≠ []) else decide (d < 2) && decide (am_hh a = []))
      else decide (1 ≤ am_fr mu) && decide (38 ≤ am_lo mu ∨ (21 ≤ am_lo mu ∧ d ≠ 105)) &&
        (if d = 101 then am_hasw ps (.methodLink (am_own mu) i Lib.Math.abs.name) else if d = 102 then am_hasw ps (.methodLink (am_own mu) i Lib.Math.max.name) else if d = 103 then am_hasw ps (.methodLink (am_own mu) i Lib.Math.min.name) else decide (d = 105) && am_hasw ps (.methodLink (am_own mu) i arraycopyName))
    | .invokespecial i =>
      if d = 104 then am_hasw ps (.methodLink (am_own mu) i Lib.objectInit) && decide (1 ≤ am_fr mu) && decide (20 ≤ am_lo mu)
      else (if d = 5 then am_hasw ps (.methodLinkNest (am_own mu) i (am_y a) "EmpireTurns") else decide (d = 4) && am_hasw ps (.methodLink (am_own mu) i (am_y a))) && am_hasw ps (.instanceMethod (am_y a)) && am_chc mu a (b - 1) && decide (1 ≤ b) && decide ((am_y a).name = "<init>") && decide (am_rt a = none) && decide (am_hh a = [])
    | .invokevirtual i =>
      if d = 106 then am_hasw ps (.methodLink (am_own mu) i ⟨"java/lang/Object", "getClass", "()Ljava/lang/Class;"⟩) && decide (1 ≤ am_fr mu) && decide (22 ≤ am_lo mu)
      else match vwCl[(d - 1000) / 2]? with
        | some z => decide (1000 ≤ d) && decide (d % 2 = 0) && am_hasw ps (.methodLink (am_own mu) i (am_y a)) && am_hasw ps (.instanceMethod (am_y a)) && am_hasw ps (.selects z.1 (am_y a) (am_y a)) && am_chc mu a (b - 1) && decide (1 ≤ b) && decide (am_hh a = [])
        | none => false
    | .ireturn => decide ((am_rt mu = some .int ∧ d = 0) ∨ (am_rt mu = some .boolean ∧ d = 1))
    | .lreturn => decide (am_rt mu = some .long)
    | .areturn => match am_rt mu with
      | some (.object _) => true
      | some (.array _) => true
      | _ => false
    | .return_ => decide (am_rt mu = none)
    | _ => true
/-- what stands of a method that is called -/
def am_mok (q : am_Mt) : Prop := (plainName q.1.cls = true ∧ q.1.cls ≠ "java/lang/invoke/MethodHandle" ∧ q.1.cls ≠ "java/lang/invoke/VarHandle") ∧ (if q.2.2.2.2.2.2 = [] then (.code q.1 q.2.1 q.2.2.1 q.2.2.2.1 : Cond) else .codeWith q.1 q.2.1 q.2.2.1 q.2.2.2.1 q.2.2.2.2.2.2) ∈ lw_tbl ∧ (.initialized q.1.cls : Cond) ∈ lw_tbl
/-- what the checks of all rows and methods say (part 80) -/
def am_OK : Prop := (∀ (mu pc : Nat) (r : am_Row), am_prog mu pc = some r → am_chk mu (pc, r) = true) ∧ ∀ (mu : Nat) (q : am_Mt), am_M[mu]? = some q → mu < 291 → am_mok q
