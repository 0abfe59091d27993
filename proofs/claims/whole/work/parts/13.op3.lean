/-! STEPS THAT MAKE CELLS; CALLS OF THE LIBRARY THAT ARE ONE STEP HERE (printed by wip/gen/gen_op3.py) -/
set_option maxRecDepth 20000 in
theorem am_w_max_s : (.static Lib.Math.max.name : Cond) ∈ lw_tbl := List.mem_of_getElem? (i := 283) rfl
set_option maxRecDepth 20000 in
theorem am_w_max_c : (.code Lib.Math.max.name Lib.Math.max.code 2 (some .int) : Cond) ∈ lw_tbl := List.mem_of_getElem? (i := 284) rfl
set_option maxRecDepth 20000 in
theorem am_w_min_s : (.static Lib.Math.min.name : Cond) ∈ lw_tbl := List.mem_of_getElem? (i := 319) rfl
set_option maxRecDepth 20000 in
theorem am_w_min_c : (.code Lib.Math.min.name Lib.Math.min.code 2 (some .int) : Cond) ∈ lw_tbl := List.mem_of_getElem? (i := 320) rfl
set_option maxRecDepth 20000 in
theorem am_w_abs_s : (.static Lib.Math.abs.name : Cond) ∈ lw_tbl := List.mem_of_getElem? (i := 494) rfl
set_option maxRecDepth 20000 in
theorem am_w_abs_c : (.code Lib.Math.abs.name Lib.Math.abs.code 1 (some .int) : Cond) ∈ lw_tbl := List.mem_of_getElem? (i := 495) rfl
set_option maxRecDepth 20000 in
theorem am_w_math : (.initialized "java/lang/Math" : Cond) ∈ lw_tbl := List.mem_of_getElem? (i := 108) (by decide +kernel)
set_option maxRecDepth 20000 in
theorem am_w_oi : (.instanceMethod Lib.objectInit : Cond) ∈ lw_tbl := List.mem_of_getElem? (i := 132) rfl
set_option maxRecDepth 20000 in
theorem am_w_oc : (.code Lib.objectInit ⟨#[0xb1]⟩ 1 none : Cond) ∈ lw_tbl := List.mem_of_getElem? (i := 133) rfl
set_option maxRecDepth 20000 in
theorem am_w_an : (.native arraycopyName : Cond) ∈ lw_tbl := List.mem_of_getElem? (i := 323) rfl
set_option maxRecDepth 20000 in
theorem am_w_as : (.static arraycopyName : Cond) ∈ lw_tbl := List.mem_of_getElem? (i := 322) rfl
set_option maxRecDepth 20000 in
theorem am_w_ai : (.initialized "java/lang/System" : Cond) ∈ lw_tbl := List.mem_of_getElem? (i := 109) (by decide +kernel)
set_option maxRecDepth 20000 in
theorem am_w_gd : (.declares ⟨"java/lang/Object", "getClass", "()Ljava/lang/Class;"⟩ : Cond) ∈ lw_tbl := List.mem_of_getElem? (i := 2062) (by decide +kernel)
set_option maxRecDepth 20000 in
theorem am_w_gs : (.selects "[Ljava/lang/Object;" ⟨"java/lang/Object", "getClass", "()Ljava/lang/Class;"⟩ ⟨"java/lang/Object", "getClass", "()Ljava/lang/Class;"⟩ : Cond) ∈ lw_tbl := List.mem_of_getElem? (i := 2061) (by decide +kernel)
set_option maxRecDepth 20000 in
theorem am_w_gi : (.instanceMethod ⟨"java/lang/Object", "getClass", "()Ljava/lang/Class;"⟩ : Cond) ∈ lw_tbl := List.mem_of_getElem? (i := 293) (by decide +kernel)
set_option maxRecDepth 20000 in
theorem am_w_gn : (.native ⟨"java/lang/Object", "getClass", "()Ljava/lang/Class;"⟩ : Cond) ∈ lw_tbl := List.mem_of_getElem? (i := 311) (by decide +kernel)
set_option maxRecDepth 20000 in
theorem am_w_ac50 : (.arrayClass .int : Cond) ∈ lw_tbl := List.mem_of_getElem? (i := 165) (by decide +kernel)
set_option maxRecDepth 20000 in
theorem am_w_ac51 : (.arrayClass .long : Cond) ∈ lw_tbl := List.mem_of_getElem? (i := 392) (by decide +kernel)
set_option maxRecDepth 20000 in
theorem am_w_ac52 : (.arrayClass .boolean : Cond) ∈ lw_tbl := List.mem_of_getElem? (i := 1680) (by decide +kernel)
theorem am_cv_dv (al : Nat → Nat) (ty : FieldType) : am_cv al (defaultValue ty) = defaultValue ty := by cases ty <;> rfl
theorem am_vk_dv (n : Nat) (ty : FieldType) : am_vk n (defaultValue ty) := by cases ty <;> trivial
theorem am_arrV_list (cI : ClassId) (N : Nat) (v : Value) : (arrV cI N (fun _ => v)).slots.toList = List.replicate N v := by
  rw [← arrV_new]
  exact Array.toList_replicate
theorem am_cat8 {al : Nat → Nat} : ∀ {s : List Value} {n : Nat}, s.length ≤ n → ((s.map (am_cv al)).map fun v => v.category).sum ≤ 2 * n
  | [], _, _ => Nat.zero_le _
  | v :: s, 0, h => by simp at h
  | v :: s, n + 1, h => by
    have h1 := am_cat8 (al := al) (s := s) (n := n) (by simpa using h)
    have h2 : (am_cv al v).category ≤ 2 := by rcases lv_cat (am_cv al v) with e | e <;> omega
    simp only [List.map_cons, List.sum_cons]
    omega
section AMN
variable {D : va_G} {cA : Nat → ClassId} {base : Nat} {al0 : Nat → Nat} {n0 s0 mu N9 S9 : Nat} {p : Program} {l : Launch} {e : Env} {R : Room} {s : State} {m : MethodId} {args : Array Value} {below : List Frame} {meth : Method} {c : Code} {Q : State → Prop} {pc : Nat} {ls st : List Value} {h : am_H}
variable {len a b d : Nat} {ks ps : List Nat} {t : Nat × List Value × List Value × am_H}
/-- a point behind a new cell -/
theorem am_pt.new {al : Nat → Nat} {H H1 : Heap} {locs : List Loc} {cells slots n : Nat} {lsM : Array Slot} {st' : List Value} (C : am_ctx D cA base al0 l mu p R s m args meth c) (Z : am_pt D cA base al0 n0 s0 mu s ls st h al H locs cells slots lsM) (c1 : am_C)
    (hc : am_cell D cA (am_ext al h.2.1 H.size) s H1 H.size c1) (hv : ∀ v ∈ c1.2, am_vk (h.2.1 + 1) v) (hz : H1.size = H.size + 1) (ho : ∀ x, x < H.size → H1[x]? = H[x]?) (hst : am_vks (h.2.1 + 1) st') :
    am_pt D cA base al0 n0 s0 mu s ls st' (am_new h c1 n) (am_ext al h.2.1 H.size) H1 locs (cells + 1) (slots + n) lsM := by
  have hb : base ≤ H.size := Nat.le_trans C.2.2.2.2.2.2.2.2.2.2.2.2.1 Z.2.2.2.2.1.1
  refine ⟨Z.1.new c1 n H.size (Or.inr ⟨rfl, by omega, hb⟩) hc hv (by omega) ho, Z.2.1.to (m := h.2.1) (fun k hk => am_ext_lt hk) (am_vks_iff.mp Z.2.2.1), am_vks_mono (Nat.le_succ _) Z.2.2.1, hst,
    ⟨Nat.le_trans Z.2.2.2.2.1.1 (by omega), fun x h1 h2 => (ho x (Nat.lt_of_lt_of_le h1 Z.2.2.2.2.1.1)).trans (Z.2.2.2.2.1.2.1 x h1 h2), Z.2.2.2.2.1.2.2⟩, fun k hk => ?_, ?_, ?_⟩
  · have := Z.2.2.2.2.2.2.1
    rw [am_ext_lt (by omega)]
    exact Z.2.2.2.2.2.1 k hk
  · show cells + 1 + n0 ≤ h.2.1 + 1
    have := Z.2.2.2.2.2.2.1
    omega
  · show slots + n + s0 ≤ h.2.2 + n
    have := Z.2.2.2.2.2.2.2
    omega
theorem am_st_new {al : Nat → Nat} {q : Nat} {s9 : List Value} (hs : am_vks h.2.1 s9) : (Value.ref h.2.1 :: s9).map (am_cv (am_ext al h.2.1 q)) = .ref q :: s9.map (am_cv al) := by
  rw [List.map_cons, am_map_ext (am_vks_iff.mp hs)]
  show Value.ref (am_ext al h.2.1 q h.2.1) :: _ = _
  rw [am_ext_self]
theorem am_s_new {i : Nat} (C : am_ctx D cA base al0 l mu p R s m args meth c) (hdec : decode (am_bc mu) pc = .ok (.new i, len)) (hlen : len = 3) (hck : (if d = 0 then match vwCl[a]? with
      | some z => am_hasw ps (.classLink (am_own mu) i z.1) && am_hasw ps (.instantiable z.1 z.2.2) && am_hasw ps (.initialized z.1) && decide (b = z.2.2)
      | none => false
      else am_cht mu pc i a b ks ps) = true) (hN : N9 ≤ n0 + R.cells) (hS : S9 ≤ s0 + R.slots) (hn1 : t.2.2.2.2.1 ≤ N9) (hn2 : t.2.2.2.2.2 ≤ S9) (hop : am_op0 (.new i, len, a, b, d, ks, ps) pc ls st h = some t) (k : am_J D cA base al0 n0 s0 mu p l e R s m args below meth c Q t.1 t.2.1 t.2.2.1 t.2.2.2) : am_J D cA base al0 n0 s0 mu p l e R s m args below meth c Q pc ls st h := by
  subst hlen
  simp only [am_op0] at hop
  split at hop
  · next hd0 =>
    cases hop
    intro al H locs cells slots lsM Z
    rw [if_pos hd0] at hck
    cases hq : vwCl[a]? with
    | none => rw [hq] at hck; cases hck
    | some z =>
      rw [hq] at hck
      simp only [Bool.and_eq_true, decide_eq_true_eq] at hck
      obtain ⟨⟨⟨w1, w2⟩, w3⟩, rfl⟩ := hck
      have hKn := C.Phi.1 a z hq
      obtain ⟨hty, -, hdef⟩ := am_tcls hq
      have r1 := Z.2.2.2.2.2.2.1
      have r2 := Z.2.2.2.2.2.2.2
      have r3 : h.2.1 + 1 ≤ N9 := hn1
      have r4 : h.2.2 + z.2.2 ≤ S9 := hn2
      refine W.newcK C.1 C.2.1 C.own (C.w w1 rfl) (C.w w2 rfl) (C.w w3 rfl) rfl hdec (by omega) (by omega) hKn.2.1 rfl fun H1 kC hkC e1 z1 o1 => ?_
      have hgo := k (am_ext al h.2.1 H.size) H1 locs (cells + 1) (slots + z.2.2) lsM (Z.new C (a, am_def a) ⟨fun _ => ⟨⟨z, hq, ?_⟩, z, hq, ?_⟩, fun q => absurd q (by have := am_vwCl_lt hq; show ¬ 50 ≤ a; omega), fun q => absurd q (by have := am_vwCl_lt hq; show ¬ 50 ≤ a; omega)⟩ ?_ z1 o1 ⟨Nat.lt_succ_self _, am_vks_mono (Nat.le_succ _) Z.2.2.2.1⟩)
      · rw [am_st_new Z.2.2.2.1] at hgo
        exact hgo
      · refine (u_born (am_fty a) C.2.2.2.2.1 (am_ucls hq) hKn hkC e1 hty).to fun j hj => ?_
        show _ = ((am_def a).map (am_cv _)).getD j .null
        rw [hdef, List.map_map, List.getD_eq_getElem?_getD, List.getElem?_map, List.getElem?_range hj]
        exact (am_cv_dv _ _).symm
      · show (am_def a).length = _
        rw [hdef, List.length_map, List.length_range]
      · intro v hv
        rw [show (a, am_def a).2 = am_def a from rfl, hdef] at hv
        obtain ⟨j, -, rfl⟩ := List.mem_map.mp hv
        exact am_vk_dv _ _
  · cases hop
theorem am_newa_spec {t : Nat} {n : Int32} {h9 : am_H} (hv : am_newa h t n = some h9) : ¬ n < 0 ∧ n.toNatClampNeg ≤ 100000 ∧ h9 = am_new h (t, List.replicate n.toNatClampNeg (am_dv t)) n.toNatClampNeg := by
  unfold am_newa at hv
  obtain ⟨j, hj, hv⟩ := Option.bind_eq_some_iff.mp hv
  obtain ⟨g1, rfl⟩ := am_ix_some hj
  split at hv
  · next hle => cases hv; exact ⟨g1, hle, rfl⟩
  · cases hv
theorem am_newcell {al : Nat → Nat} {H1 : Heap} {q N t : Nat} {C9 : ClassId} (C : am_ctx D cA base al0 l mu p R s m args meth c) (h1 : 50 ≤ t) (h2 : t < 55) (hdv : defaultValue (am_ty t) = am_dv t) (e1 : H1[q]? = some (arrV C9 N (fun _ => am_dv t))) (hC : C9 = cA t) : am_cell D cA al s H1 q (t, List.replicate N (am_dv t)) := by
  subst hC
  obtain ⟨hAr, -⟩ := C.Phi.2.1 t h1 h2
  refine ⟨fun z => absurd z (by show ¬ t < 50; omega), fun _ _ => ⟨_, e1, hAr _ _, (fun z => by cases z), am_sl_of ?_⟩, fun _ _ => ⟨_, e1, rfl, rfl, ?_⟩⟩ <;> rw [am_arrV_list, List.map_replicate, ← hdv, am_cv_dv]
theorem am_rep_ok {n N t : Nat} : ∀ v ∈ List.replicate N (am_dv t), am_vk n v := by
  intro v hv
  rw [List.eq_of_mem_replicate hv]
  unfold am_dv
  split
  · trivial
  · split <;> trivial
theorem am_s_newarray {t9 : ArrayType} (C : am_ctx D cA base al0 l mu p R s m args meth c) (hdec : decode (am_bc mu) pc = .ok (.newarray t9, len)) (hlen : len = 2) (hck : (t9 = .int ∧ a = 50) ∨ (t9 = .long ∧ a = 51) ∨ (t9 = .boolean ∧ a = 52)) (hN : N9 ≤ n0 + R.cells) (hS : S9 ≤ s0 + R.slots) (hn1 : t.2.2.2.2.1 ≤ N9) (hn2 : t.2.2.2.2.2 ≤ S9) (hop : am_op0 (.newarray t9, len, a, b, d, ks, ps) pc ls st h = some t) (k : am_J D cA base al0 n0 s0 mu p l e R s m args below meth c Q t.1 t.2.1 t.2.2.1 t.2.2.2) : am_J D cA base al0 n0 s0 mu p l e R s m args below meth c Q pc ls st h := by
  subst hlen
  simp only [am_op0] at hop
  split at hop
  · next x9 s9 =>
    obtain ⟨h9, hv, e1⟩ := Option.map_eq_some_iff.mp hop
    cases e1
    intro al H locs cells slots lsM Z
    obtain ⟨g1, g2, rfl⟩ := am_newa_spec hv
    have r1 := Z.2.2.2.2.2.2.1
    have r2 := Z.2.2.2.2.2.2.2
    have r3 : h.2.1 + 1 ≤ N9 := hn1
    have r4 : h.2.2 + x9.toNatClampNeg ≤ S9 := hn2
    have key : ∀ ty : FieldType, newarray.typeOf t9 = ty → am_ty a = ty → 50 ≤ a → a < 55 → componentBytes ty ≤ 8 → defaultValue ty = am_dv a → (∀ (cc : ClassId), va_RA s cc ty → s.vm.findClass ("[" ++ ty.toString) = some cc) → (Cond.arrayClass ty).before args s = true → W p l e R s m args below meth c H locs cells slots Q (F0 m pc lsM ((.int x9 :: s9).map (am_cv al))) := by
      intro ty e1 e2 e3 e4 e5 e6 e7 e8
      subst e1
      refine va_newaK C.1 C.2.1 e8 rfl hdec rfl g1 rfl (Nat.le_trans (Nat.mul_le_mul g2 e5) (by decide)) (by omega) (by omega) rfl fun H' cA' f1 f2 f3 f4 f5 => ?_
      have hRA := (C.Phi.2.1 a e3 e4).2
      rw [e2] at hRA
      have hC : cA' = cA a := Option.some.inj (f5.symm.trans (e7 _ hRA))
      rw [e6] at f1
      have hgo := k (am_ext al h.2.1 H.size) H' locs (cells + 1) (slots + x9.toNatClampNeg) lsM (Z.new C (a, List.replicate x9.toNatClampNeg (am_dv a)) (am_newcell C e3 e4 (by rw [e2]; exact e6) f1 hC) am_rep_ok f2 f3 ⟨Nat.lt_succ_self _, am_vks_mono (Nat.le_succ _) Z.2.2.2.1.2⟩)
      rw [am_st_new Z.2.2.2.1.2] at hgo
      exact hgo
    rcases hck with ⟨rfl, rfl⟩ | ⟨rfl, rfl⟩ | ⟨rfl, rfl⟩
    · exact key .int rfl rfl (by decide) (by decide) (by decide) rfl (fun _ q => q) (C.w2 am_w_ac50 rfl)
    · exact key .long rfl rfl (by decide) (by decide) (by decide) rfl (fun _ q => q) (C.w2 am_w_ac51 rfl)
    · exact key .boolean rfl rfl (by decide) (by decide) (by decide) rfl (fun _ q => q) (C.w2 am_w_ac52 rfl)
  · cases hop
theorem am_s_anewarray {i : Nat} (C : am_ctx D cA base al0 l mu p R s m args meth c) (hdec : decode (am_bc mu) pc = .ok (.anewarray i, len)) (hlen : len = 3) (hck : (a = 53 ∧ am_hasw ps (.classLink (am_own mu) i "java/lang/Object") = true) ∨ (a = 54 ∧ am_hasw ps (.classLink (am_own mu) i "EmpireTurns$Treaty") = true)) (hN : N9 ≤ n0 + R.cells) (hS : S9 ≤ s0 + R.slots) (hn1 : t.2.2.2.2.1 ≤ N9) (hn2 : t.2.2.2.2.2 ≤ S9) (hop : am_op0 (.anewarray i, len, a, b, d, ks, ps) pc ls st h = some t) (k : am_J D cA base al0 n0 s0 mu p l e R s m args below meth c Q t.1 t.2.1 t.2.2.1 t.2.2.2) : am_J D cA base al0 n0 s0 mu p l e R s m args below meth c Q pc ls st h := by
  subst hlen
  simp only [am_op0] at hop
  split at hop
  · next x9 s9 =>
    obtain ⟨h9, hv, e1⟩ := Option.map_eq_some_iff.mp hop
    cases e1
    intro al H locs cells slots lsM Z
    obtain ⟨g1, g2, rfl⟩ := am_newa_spec hv
    have r1 := Z.2.2.2.2.2.2.1
    have r2 := Z.2.2.2.2.2.2.2
    have r3 : h.2.1 + 1 ≤ N9 := hn1
    have r4 : h.2.2 + x9.toNatClampNeg ≤ S9 := hn2
    have key : ∀ C9 : String, am_ty a = .object C9 → 50 ≤ a → a < 55 → .null = am_dv a → va_AO C9 s → (Cond.classLink (am_own mu) i C9).before args s = true → W p l e R s m args below meth c H locs cells slots Q (F0 m pc lsM ((.int x9 :: s9).map (am_cv al))) := by
      intro C9 e2 e3 e4 e6 e7 e8
      refine W.anew C.1 C.2.1 C.own e8 (va_AO.use e7) rfl hdec rfl g1 (Nat.le_trans (Nat.mul_le_mul g2 (Nat.le_refl 4)) (by decide)) (by omega) (by omega) fun cA' kA comp f1 f2 f3 f4 => ?_
      have hRA := (C.Phi.2.1 a e3 e4).2
      rw [e2] at hRA
      obtain ⟨kA', comp', m1, m2, m3, m4⟩ := hRA
      have hC : cA' = cA a := Option.some.inj (f1.symm.trans m4)
      have hgo := k (am_ext al h.2.1 H.size) (H.push { cls := cA', slots := Array.replicate x9.toNatClampNeg .null, vm := .none }) locs (cells + 1) (slots + x9.toNatClampNeg) lsM (Z.new C (a, List.replicate x9.toNatClampNeg (am_dv a)) (am_newcell C e3 e4 (by rw [e2]; exact e6) (by rw [Array.getElem?_push_size, ← e6, ← arrV_new]) hC) am_rep_ok (Array.size_push _) (fun x hx => by rw [Array.getElem?_push, if_neg (Nat.ne_of_lt hx)]) ⟨Nat.lt_succ_self _, am_vks_mono (Nat.le_succ _) Z.2.2.2.1.2⟩)
      rw [am_st_new Z.2.2.2.1.2] at hgo
      exact hgo
    rcases hck with ⟨rfl, w⟩ | ⟨rfl, w⟩
    · exact key "java/lang/Object" rfl (by decide) (by decide) rfl C.Phi.2.2.2.1.1 (C.w w rfl)
    · exact key "EmpireTurns$Treaty" rfl (by decide) (by decide) rfl C.Phi.2.2.2.1.2 (C.w w rfl)
  · cases hop
theorem am_s_checkcast {i : Nat} (C : am_ctx D cA base al0 l mu p R s m args meth c) (hdec : decode (am_bc mu) pc = .ok (.checkcast i, len)) (hlen : len = 3) (hck : (match vwCl[a]? with
      | some z => am_hasw ps (.classLink (am_own mu) i z.1)
      | none => false) = true) (hop : am_op0 (.checkcast i, len, a, b, d, ks, ps) pc ls st h = some t) (k : am_J D cA base al0 n0 s0 mu p l e R s m args below meth c Q t.1 t.2.1 t.2.2.1 t.2.2.2) : am_J D cA base al0 n0 s0 mu p l e R s m args below meth c Q pc ls st h := by
  subst hlen
  simp only [am_op0] at hop
  split at hop
  · cases hop
    intro al H locs cells slots lsM Z
    exact lv_castN C.1 C.2.1 hdec (k al H locs cells slots lsM Z)
  · next k9 s9 =>
    split at hop
    · next hi9 =>
      cases hop
      intro al H locs cells slots lsM Z
      unfold am_isa at hi9
      cases hc9 : h.1 k9 with
      | none => rw [hc9] at hi9; cases hi9
      | some c9 =>
        rw [hc9] at hi9
        have ht : c9.1 = a := of_decide_eq_true hi9
        cases hq : vwCl[a]? with
        | none => rw [hq] at hck; cases hck
        | some z =>
          rw [hq] at hck
          obtain ⟨z2, g1, g2, hP⟩ := am_objP Z.1 hc9 ht (by have := am_vwCl_lt hq; omega)
          exact va_castS C.1 C.2.1 C.own (C.w hck rfl) (C.Phi.1 a z hq).2 (va_recv (q0 := 0) C.Phi.K hP hq rfl) hdec (k al H locs cells slots lsM Z)
    · cases hop
  · cases hop
theorem am_s_ldc {i : Nat} (C : am_ctx D cA base al0 l mu p R s m args meth c) (hdec : decode (am_bc mu) pc = .ok (.ldc i, len)) (hlen : len = 2) (hck : (if d = 1 then am_hasw ps (.classLink (am_own mu) i "[Ljava/lang/Object;") else am_hasw ps (.constant (am_own mu) i (Int32.ofInt ((a : Int) - 2147483648)))) = true) (hn0 : 12 ≤ n0) (hop : am_op0 (.ldc i, len, a, b, d, ks, ps) pc ls st h = some t) (k : am_J D cA base al0 n0 s0 mu p l e R s m args below meth c Q t.1 t.2.1 t.2.2.1 t.2.2.2) : am_J D cA base al0 n0 s0 mu p l e R s m args below meth c Q pc ls st h := by
  subst hlen
  simp only [am_op0] at hop
  split at hop
  · next hd =>
    cases hop
    rw [if_pos hd] at hck
    intro al H locs cells slots lsM Z
    have e0 : al 10 = al0 10 := Z.2.2.2.2.2.1 10 (by omega)
    have hM := C.Phi.2.2.2.2.2.2.2.1
    rw [← e0] at hM
    exact va_ldcM C.1 C.2.1 C.own (C.w hck rfl) hM hdec (k al H locs cells slots lsM ⟨Z.1, Z.2.1, Z.2.2.1, ⟨by show 10 < h.2.1; have := Z.2.2.2.2.2.2.1; omega, Z.2.2.2.1⟩, Z.2.2.2.2⟩)
  · next hd =>
    rw [if_neg hd] at hck
    split at hop
    · cases hop
      intro al H locs cells slots lsM Z
      exact lv_ldc C.1 C.2.1 C.own (C.w hck rfl) hdec (k al H locs cells slots lsM ⟨Z.1, Z.2.1, Z.2.2.1, ⟨trivial, Z.2.2.2.1⟩, Z.2.2.2.2⟩)
    · cases hop
theorem am_s_ldc_w {i : Nat} (C : am_ctx D cA base al0 l mu p R s m args meth c) (hdec : decode (am_bc mu) pc = .ok (.ldc_w i, len)) (hlen : len = 3) (hck : am_hasw ps (.constant (am_own mu) i (Int32.ofInt ((a : Int) - 2147483648))) = true) (hop : am_op0 (.ldc_w i, len, a, b, d, ks, ps) pc ls st h = some t) (k : am_J D cA base al0 n0 s0 mu p l e R s m args below meth c Q t.1 t.2.1 t.2.2.1 t.2.2.2) : am_J D cA base al0 n0 s0 mu p l e R s m args below meth c Q pc ls st h := by
  subst hlen
  simp only [am_op0] at hop
  split at hop
  · cases hop
    intro al H locs cells slots lsM Z
    exact lv_ldcw C.1 C.2.1 C.own (C.w hck rfl) hdec (k al H locs cells slots lsM ⟨Z.1, Z.2.1, Z.2.2.1, ⟨trivial, Z.2.2.2.1⟩, Z.2.2.2.2⟩)
  · cases hop
theorem am_s_ldc2_w {i : Nat} (C : am_ctx D cA base al0 l mu p R s m args meth c) (hdec : decode (am_bc mu) pc = .ok (.ldc2_w i, len)) (hlen : len = 3) (hck : am_hasw ps (.constantLong (am_own mu) i (Int64.ofInt ((a : Int) - 9223372036854775808))) = true) (hop : am_op0 (.ldc2_w i, len, a, b, d, ks, ps) pc ls st h = some t) (k : am_J D cA base al0 n0 s0 mu p l e R s m args below meth c Q t.1 t.2.1 t.2.2.1 t.2.2.2) : am_J D cA base al0 n0 s0 mu p l e R s m args below meth c Q pc ls st h := by
  subst hlen
  simp only [am_op0] at hop
  cases hop
  intro al H locs cells slots lsM Z
  exact lv_ldc2 C.1 C.2.1 C.own (C.w hck rfl) hdec (k al H locs cells slots lsM ⟨Z.1, Z.2.1, Z.2.2.1, ⟨trivial, Z.2.2.2.1⟩, Z.2.2.2.2⟩)
theorem am_copyL {vs ws : List Value} {s d m : Nat} (h1 : s + m ≤ vs.length) (h2 : d + m ≤ ws.length) (j : Nat) : (ws.take d ++ (vs.drop s).take m ++ ws.drop (d + m))[j]? = if d ≤ j ∧ j < d + m then vs[s + (j - d)]? else ws[j]? := by
  have e1 : (ws.take d).length = d := by rw [List.length_take]; omega
  have e2 : ((vs.drop s).take m).length = m := by rw [List.length_take, List.length_drop]; omega
  by_cases c1 : j < d
  · rw [if_neg (by omega), List.append_assoc, List.getElem?_append_left (by omega), List.getElem?_take, if_pos c1]
  · by_cases c2 : j < d + m
    · rw [if_pos ⟨by omega, c2⟩, List.append_assoc, List.getElem?_append_right (by omega), List.getElem?_append_left (by omega), e1, List.getElem?_take, if_pos (by omega), List.getElem?_drop]
    · rw [if_neg (by omega), List.getElem?_append_right (by rw [List.length_append]; omega), List.length_append, e1, e2, List.getElem?_drop]
      congr 1
      omega
/-- System.arraycopy of references -/
theorem am_copyW {al : Nat → Nat} {H : Heap} {locs : List Loc} {cells slots i k0 k1 : Nat} {lsM : Array Slot} {sp dp n : Int32} {s7 : List Value} {c0 c1 : am_C} (C : am_ctx D cA base al0 l mu p R s m args meth c) (hN : N9 ≤ n0 + R.cells) (hS : S9 ≤ s0 + R.slots) (hdec : decode (am_bc mu) pc = .ok (.invokestatic i, 3)) (hlink : (Cond.methodLink (am_own mu) i arraycopyName).before args s = true)
    (hfr : 1 ≤ R.frames) (hlo : ((s7.map (am_cv al)).map fun v => v.category).sum + 30 ≤ R.locals) (Z : am_pt D cA base al0 n0 s0 mu s ls (.int n :: .int dp :: .ref k1 :: .int sp :: .ref k0 :: s7) h al H locs cells slots lsM)
    (hc0 : h.1 k0 = some c0) (hc1 : h.1 k1 = some c1) (a1 : c0.1 = 53 ∨ c0.1 = 63) (a2 : c1.1 = 53) (b1 : ¬ sp < 0) (b2 : ¬ dp < 0) (b3 : ¬ n < 0) (a3 : sp.toNatClampNeg + n.toNatClampNeg ≤ c0.2.length) (a4 : dp.toNatClampNeg + n.toNatClampNeg ≤ c1.2.length)
    (a5 : ((c0.2.drop sp.toNatClampNeg).take n.toNatClampNeg).all (am_fitq h 53) = true) (k : am_J D cA base al0 n0 s0 mu p l e R s m args below meth c Q (pc + 3) ls s7 (am_set h k1 (53, c1.2.take dp.toNatClampNeg ++ (c0.2.drop sp.toNatClampNeg).take n.toNatClampNeg ++ c1.2.drop (dp.toNatClampNeg + n.toNatClampNeg)))) :
    W p l e R s m args below meth c H locs cells slots Q (F0 m pc lsM ((.int n :: .int dp :: .ref k1 :: .int sp :: .ref k0 :: s7).map (am_cv al))) := by
  have nn : ∀ z : Int32, ¬ z < 0 → z.toInt = (z.toNatClampNeg : Int) := by
    intro z hz
    have hz0 : (0 : Int) ≤ z.toInt := by
      have := Int32.not_lt.mp hz
      simpa using Int32.le_iff_toInt_le.mp this
    show z.toInt = ((z.toInt.toNat : Nat) : Int)
    omega
  intro T hT X
  obtain ⟨cs, p1, p2, p3, p4⟩ := am_arrP Z.1 hc0 (by omega) (by omega)
  obtain ⟨cd, q1, q2, q3, q4'⟩ := am_arrP Z.1 hc1 (by omega) (by omega)
  obtain ⟨cd', q5, q6, q7, q4⟩ := (Z.1.1 k1 c1 hc1).2.2.1.2.2 (by omega) (by omega)
  cases q1.symm.trans q5
  have q8 : cd.slots.size = c1.2.length := by rw [← Array.length_toList, q4, List.length_map]
  have p8 := am_slots p4
  have hty0 : am_ty c0.1 = .object "java/lang/Object" := by unfold am_ty; rcases a1 with q | q <;> rw [q] <;> rfl
  have hty1 : am_ty c1.1 = .object "java/lang/Object" := by unfold am_ty; rw [a2]; rfl
  rw [hty0] at p2
  obtain ⟨po, kS, hkS, cmS, hkdS⟩ := p2
  obtain ⟨kA, comp, k1', k2', k3', -⟩ := (C.Phi.2.1 53 (by decide) (by decide)).2
  obtain ⟨kE, hkE, -⟩ := Vm.findClass_spec k3'
  have hcls : cd.cls = cA 53 := by rw [q6, a2]
  have hgetS : ∀ j, j < n.toNatClampNeg → ∃ v, c0.2[sp.toNatClampNeg + j]? = some v ∧ cs.slots[sp.toNatClampNeg + j]? = some (am_cv al v) ∧ am_fitq h 53 v = true := by
    intro j hj
    have hlt : sp.toNatClampNeg + j < c0.2.length := by omega
    refine ⟨c0.2[sp.toNatClampNeg + j], List.getElem?_eq_getElem hlt, am_slot p4 (List.getElem?_eq_getElem hlt), ?_⟩
    refine List.all_eq_true.mp a5 _ (List.mem_of_getElem? (i := j) ?_)
    rw [List.getElem?_take, if_pos hj, List.getElem?_drop]
    exact List.getElem?_eq_getElem hlt
  obtain ⟨vm', X', step⟩ := X.arraycopy C.1 C.own hlink (C.w2 am_w_an rfl) (C.w2 am_w_as rfl) (C.w2 am_w_ai rfl) (src := al k0) (dst := al k1) (cs := cs) (cd := cd) (srcPos := sp) (destPos := dp) (n := n) (by rw [hT]; exact p1) (by rw [hT]; exact q1)
    po q2.1 p3 q3 hkS (by rw [hcls]; exact k1') hkdS k2' rfl b1 b2 b3
    (by rw [nn sp b1, nn n b3]; omega) (by rw [nn dp b2, nn n b3, q8]; omega)
    (fun vm₁ hal j hj => by
      obtain ⟨v, g1, g2, g3⟩ := hgetS j hj
      have e : cs.slots.getD (sp.toNatClampNeg + j) .null = am_cv al v := by
        rw [Array.getD_eq_getD_getElem?, g2]
        rfl
      rw [e]
      cases v with
      | null => exact ⟨rfl, trivial⟩
      | ref r9 =>
        unfold am_fitq at g3
        dsimp only at g3
        cases hr9 : h.1 r9 with
        | none => rw [hr9] at g3; cases g3
        | some c8 =>
          rw [hr9] at g3
          simp only [Bool.or_eq_true, Bool.and_eq_true, decide_eq_true_eq] at g3
          obtain ⟨z, f1, f2, fP⟩ := am_objP Z.1 hr9 rfl (by omega)
          obtain ⟨r', hr', cellV, y1, y2, y3, -⟩ := fP 0 _ rfl
          have hcls9 := (C.Phi.1 c8.1 z f1).2
          obtain ⟨kC, hkC, hkd⟩ := hcls9.2
          have hw := va_Nw.use (A := args) rfl (C.Phi.2.2.1 _ (am_obj f1) rfl)
          obtain ⟨c3, c4, hc3, hc4, hag⟩ := Cond.castable_spec hw
          cases hc4.symm.trans k3'
          cases hc3.symm.trans hcls9.1
          obtain ⟨kC', hkC', -⟩ := hal.2.2 _ _ hkC
          obtain ⟨kE', hkE', -⟩ := hal.2.2 _ _ hkE
          refine ⟨rfl, cellV, (show T.heap[al r9]? = some cellV by rw [hT]; exact y1), (fun q hq => by rw [y3] at hq; cases hq), ⟨kC', by rw [y2]; exact hkC'⟩, ⟨kE', hkE'⟩, ?_⟩
          show vm₁.assignable _ _ = true
          rw [hal.assignable, y2]
          exact hag
      | _ => cases g3)
    (g := F0 m pc lsM ((.int n :: .int dp :: .ref k1 :: .int sp :: .ref k0 :: s7).map (am_cv al))) rfl (by rw [C.2.2.1]; exact Z.2.1.1) (rest := s7.map (am_cv al)) rfl (by rw [C.2.1]; exact hdec) hfr (by
      have h30 : nativeFrameWords "java/lang/System" "arraycopy" 5 + 11 ≤ 30 := by decide +kernel
      show 2 * 0 + _ + _ ≤ _
      omega)
  have hfacts := Cell.storeRun_facts cd dp.toNatClampNeg (cs.stretch sp.toNatClampNeg n.toNatClampNeg)
  have hl : al k1 < H.size := (Array.getElem?_eq_some_iff.mp q1).1
  have hheap : ((T.setVm vm').setCell (al k1) (copied cs cd sp dp n)).heap = H.setIfInBounds (al k1) (copied cs cd sp dp n) := by rw [← hT]; rfl
  have oq : ∀ q : Nat, q ≠ al k1 → (H.setIfInBounds (al k1) (copied cs cd sp dp n))[q]? = H[q]? := fun q hq => by simp [Array.getElem?_setIfInBounds, Ne.symm hq]
  have oe : (H.setIfInBounds (al k1) (copied cs cd sp dp n))[al k1]? = some (copied cs cd sp dp n) := by simp [Array.getElem?_setIfInBounds, hl]
  have hlist : (copied cs cd sp dp n).slots.toList = (c1.2.take dp.toNatClampNeg ++ (c0.2.drop sp.toNatClampNeg).take n.toNatClampNeg ++ c1.2.drop (dp.toNatClampNeg + n.toNatClampNeg)).map (am_cv al) := by
    refine List.ext_getElem? fun j => ?_
    rw [List.getElem?_map, am_copyL a3 a4, Array.getElem?_toList]
    show (cd.storeRun dp.toNatClampNeg (cs.stretch sp.toNatClampNeg n.toNatClampNeg)).slots[j]? = _
    rw [Cell.storeRun_get _ _ _ _ (by rw [Cell.stretch_length, q8]; exact a4), Cell.stretch_length]
    split
    · next hj =>
      obtain ⟨v, g1, g2, -⟩ := hgetS (j - dp.toNatClampNeg) (by omega)
      rw [g1]
      unfold Cell.stretch
      rw [List.getElem?_map, List.getElem?_range (by omega), Option.map_some, Array.getD_eq_getD_getElem?, g2]
      rfl
    · rw [← Array.getElem?_toList, q4, List.getElem?_map]
  have hvk : ∀ v ∈ c1.2.take dp.toNatClampNeg ++ (c0.2.drop sp.toNatClampNeg).take n.toNatClampNeg ++ c1.2.drop (dp.toNatClampNeg + n.toNatClampNeg), am_vk h.2.1 v := by
    intro v hv
    rcases List.mem_append.mp hv with hv | hv
    · rcases List.mem_append.mp hv with hv | hv
      · exact (Z.1.1 k1 c1 hc1).2.2.2.2 v (List.mem_of_mem_take hv)
      · exact (Z.1.1 k0 c0 hc0).2.2.2.2 v (List.mem_of_mem_drop (List.mem_of_mem_take hv))
    · exact (Z.1.1 k1 c1 hc1).2.2.2.2 v (List.mem_of_mem_drop hv)
  have hb9 := (Z.1.1 k1 c1 hc1).2.2.2.1 (by omega)
  obtain ⟨t9, u1, u2⟩ := k al (H.setIfInBounds (al k1) (copied cs cd sp dp n)) (locs ++ (cs.stretch sp.toNatClampNeg n.toNatClampNeg).zipIdx.map fun q => ⟨al k1, dp.toNatClampNeg + q.2⟩) cells slots lsM
    ⟨Z.1.set (c1 := (53, _)) hc1 a2.symm (by omega) ⟨fun z => absurd (show 53 < 50 from z) (by decide), fun _ _ => ⟨_, oe, ⟨fun q hq => q2.1 q (by rw [← hq]; exact hfacts.2.1.symm), by
        rw [show (copied cs cd sp dp n).cls = cd.cls from hfacts.1]
        rw [hty1] at q2
        exact q2.2⟩, by rw [show (copied cs cd sp dp n).vm = cd.vm from hfacts.2.1]; exact q3, am_sl_of hlist⟩, fun _ _ => ⟨_, oe, by rw [show (copied cs cd sp dp n).cls = cd.cls from hfacts.1]; exact hcls, by rw [show (copied cs cd sp dp n).vm = cd.vm from hfacts.2.1]; exact q7, hlist⟩⟩ hvk (by simp) oq,
     Z.2.1, Z.2.2.1, Z.2.2.2.1.2.2.2.2.2, ⟨by simp; exact Z.2.2.2.2.1.1, fun q g1 g2 => by
      rw [oq q (fun e9 => g2 (by rw [e9]; exact hb9))]
      exact Z.2.2.2.2.1.2.1 q g1 g2, fun q hq => by
      rcases List.mem_append.mp hq with h9 | h9
      · exact Z.2.2.2.2.1.2.2 q h9
      · obtain ⟨z, -, hz⟩ := List.mem_map.mp h9
        rw [← hz]
        exact hb9⟩, Z.2.2.2.2.2⟩ _ hheap X'
  exact ⟨t9, step t9 u1, u2⟩
theorem am_s_invokestatic {i : Nat} (C : am_ctx D cA base al0 l mu p R s m args meth c) (hdec : decode (am_bc mu) pc = .ok (.invokestatic i, len)) (hlen : len = 3) (hck : (if d < 4 then (if d = 1 then am_hasw ps (.methodLinkNest (am_own mu) i (am_y a) "EmpireTurns") else am_hasw ps (.methodLink (am_own mu) i (am_y a))) && am_hasw ps (.static (am_y a)) && am_chc mu a b && (if d = 2 then decide (am_hh a ≠ []) else decide (d < 2) && decide (am_hh a = []))
      else decide (1 ≤ am_fr mu) && decide (38 ≤ am_lo mu ∨ (21 ≤ am_lo mu ∧ d ≠ 105)) &&
        (if d = 101 then am_hasw ps (.methodLink (am_own mu) i Lib.Math.abs.name) else if d = 102 then am_hasw ps (.methodLink (am_own mu) i Lib.Math.max.name) else if d = 103 then am_hasw ps (.methodLink (am_own mu) i Lib.Math.min.name) else decide (d = 105) && am_hasw ps (.methodLink (am_own mu) i arraycopyName))) = true) (hN : N9 ≤ n0 + R.cells) (hS : S9 ≤ s0 + R.slots) (hn1 : t.2.2.2.2.1 ≤ N9) (hn2 : t.2.2.2.2.2 ≤ S9) (hd4 : ¬ d < 4) (hop : am_op0 (.invokestatic i, len, a, b, d, ks, ps) pc ls st h = some t) (k : am_J D cA base al0 n0 s0 mu p l e R s m args below meth c Q t.1 t.2.1 t.2.2.1 t.2.2.2) : am_J D cA base al0 n0 s0 mu p l e R s m args below meth c Q pc ls st h := by
  subst hlen
  simp only [am_op0] at hop
  simp only [if_neg hd4, Bool.and_eq_true, decide_eq_true_eq] at hck
  obtain ⟨⟨hf, hlo⟩, hck⟩ := hck
  have hfr : 1 ≤ R.frames := Nat.le_trans hf C.2.2.2.2.2.2.2.2.1
  have hlr := C.2.2.2.2.2.2.2.2.2.1
  split at hop
  · next y9 s9 =>
    split at hop
    · next hd =>
      cases hop
      rw [if_pos hd.1] at hck
      intro al H locs cells slots lsM Z
      have r1 := Z.2.2.2.2.2.2.1
      have r2 := Z.2.2.2.2.2.2.2
      have r3 : h.2.1 ≤ N9 := hn1
      have r4 : h.2.2 ≤ S9 := hn2
      have h8 := am_cat8 (al := al) hd.2
      exact va_mabs C.1 C.2.1 (by rw [C.2.2.1, Z.2.1.1]) C.own (C.w hck rfl) (C.w2 am_w_abs_s rfl) (C.w2 am_w_math rfl) (C.w2 am_w_abs_c rfl) hfr (by omega) (by omega) (by omega) hdec (k al H locs cells slots lsM ⟨Z.1, Z.2.1, Z.2.2.1, ⟨trivial, Z.2.2.2.1.2⟩, Z.2.2.2.2⟩)
    · next hd1 =>
      split at hop
      · next x9 s8 =>
        split at hop
        · next hd =>
          cases hop
          rw [if_neg (by omega), if_pos hd.1] at hck
          intro al H locs cells slots lsM Z
          have r1 := Z.2.2.2.2.2.2.1
          have r2 := Z.2.2.2.2.2.2.2
          have r3 : h.2.1 ≤ N9 := hn1
          have r4 : h.2.2 ≤ S9 := hn2
          have h8 := am_cat8 (al := al) hd.2
          exact va_mmax C.1 C.2.1 (by rw [C.2.2.1, Z.2.1.1]) C.own (C.w hck rfl) (C.w2 am_w_max_s rfl) (C.w2 am_w_math rfl) (C.w2 am_w_max_c rfl) hfr (by omega) (by omega) (by omega) hdec (k al H locs cells slots lsM ⟨Z.1, Z.2.1, Z.2.2.1, ⟨trivial, Z.2.2.2.1.2.2⟩, Z.2.2.2.2⟩)
        · next hd2 =>
          split at hop
          · next hd =>
            cases hop
            rw [if_neg (by omega), if_neg (by omega), if_pos hd.1] at hck
            intro al H locs cells slots lsM Z
            have r1 := Z.2.2.2.2.2.2.1
            have r2 := Z.2.2.2.2.2.2.2
            have r3 : h.2.1 ≤ N9 := hn1
            have r4 : h.2.2 ≤ S9 := hn2
            have h8 := am_cat8 (al := al) hd.2
            exact va_mmin C.1 C.2.1 (by rw [C.2.2.1, Z.2.1.1]) C.own (C.w hck rfl) (C.w2 am_w_min_s rfl) (C.w2 am_w_math rfl) (C.w2 am_w_min_c rfl) hfr (by omega) (by omega) (by omega) hdec (k al H locs cells slots lsM ⟨Z.1, Z.2.1, Z.2.2.1, ⟨trivial, Z.2.2.2.1.2.2⟩, Z.2.2.2.2⟩)
          · next hd3 =>
            split at hop
            · next k1 sp9 k0 s7 =>
              split at hop
              · next hd =>
                obtain ⟨h9, hv, e1⟩ := Option.map_eq_some_iff.mp hop
                cases e1
                rw [if_neg (by omega), if_neg (by omega), if_neg (by omega)] at hck
                simp only [Bool.and_eq_true, decide_eq_true_eq] at hck
                intro al H locs cells slots lsM Z
                have h8 := am_cat8 (al := al) hd.2
                have hl30 : 38 ≤ R.locals := by rcases hlo with q | q <;> omega
                unfold am_copy at hv
                obtain ⟨c0, hc0, hv⟩ := Option.bind_eq_some_iff.mp hv
                obtain ⟨c1, hc1, hv⟩ := Option.bind_eq_some_iff.mp hv
                obtain ⟨si, hsi, hv⟩ := Option.bind_eq_some_iff.mp hv
                obtain ⟨di, hdi, hv⟩ := Option.bind_eq_some_iff.mp hv
                obtain ⟨mi, hmi, hv⟩ := Option.bind_eq_some_iff.mp hv
                split at hv
                · next hall =>
                  cases hv
                  obtain ⟨a1, a2, a3, a4, a5⟩ := hall
                  obtain ⟨b1, rfl⟩ := am_ix_some hsi
                  obtain ⟨b2, rfl⟩ := am_ix_some hdi
                  obtain ⟨b3, rfl⟩ := am_ix_some hmi
                  exact am_copyW C hN hS hdec (C.w hck.2 rfl) hfr (by omega) Z hc0 hc1 a1 a2 b1 b2 b3 a3 a4 a5 k
                · cases hv
              · cases hop
            · cases hop
      · cases hop
  · cases hop
theorem am_s_invokespecial {i : Nat} (C : am_ctx D cA base al0 l mu p R s m args meth c) (hdec : decode (am_bc mu) pc = .ok (.invokespecial i, len)) (hlen : len = 3) (hck : (if d = 104 then am_hasw ps (.methodLink (am_own mu) i Lib.objectInit) && decide (1 ≤ am_fr mu) && decide (20 ≤ am_lo mu)
      else (if d = 5 then am_hasw ps (.methodLinkNest (am_own mu) i (am_y a) "EmpireTurns") else decide (d = 4) && am_hasw ps (.methodLink (am_own mu) i (am_y a))) && am_hasw ps (.instanceMethod (am_y a)) && am_chc mu a (b - 1) && decide (1 ≤ b) && decide ((am_y a).name = "<init>") && decide (am_rt a = none) && decide (am_hh a = [])) = true) (hop : am_op0 (.invokespecial i, len, a, b, d, ks, ps) pc ls st h = some t) (k : am_J D cA base al0 n0 s0 mu p l e R s m args below meth c Q t.1 t.2.1 t.2.2.1 t.2.2.2) : am_J D cA base al0 n0 s0 mu p l e R s m args below meth c Q pc ls st h := by
  subst hlen
  simp only [am_op0] at hop
  split at hop
  · next k9 s9 =>
    split at hop
    · next hd =>
      cases hop
      rw [if_pos hd.1] at hck
      simp only [Bool.and_eq_true, decide_eq_true_eq] at hck
      intro al H locs cells slots lsM Z
      have h8 := am_cat8 (al := al) hd.2
      have hfr := C.2.2.2.2.2.2.2.2.1
      have hlr := C.2.2.2.2.2.2.2.2.2.1
      exact W.objInit C.1 C.2.1 C.own (C.w hck.1.1 rfl) (C.w2 am_w_oi rfl) (C.w2 am_w_oc rfl) rfl (by rw [C.2.2.1]; exact Z.2.1.1) rfl hdec (by omega) (by show 2 * 0 + _ + 12 ≤ _; omega) (k al H locs cells slots lsM ⟨Z.1, Z.2.1, Z.2.2.1, Z.2.2.2.1.2, Z.2.2.2.2⟩)
    · cases hop
  · cases hop
theorem am_s_invokevirtual {i : Nat} (C : am_ctx D cA base al0 l mu p R s m args meth c) (hdec : decode (am_bc mu) pc = .ok (.invokevirtual i, len)) (hlen : len = 3) (hck : (if d = 106 then am_hasw ps (.methodLink (am_own mu) i ⟨"java/lang/Object", "getClass", "()Ljava/lang/Class;"⟩) && decide (1 ≤ am_fr mu) && decide (22 ≤ am_lo mu)
      else match vwCl[(d - 1000) / 2]? with
        | some z => decide (1000 ≤ d) && decide (d % 2 = 0) && am_hasw ps (.methodLink (am_own mu) i (am_y a)) && am_hasw ps (.instanceMethod (am_y a)) && am_hasw ps (.selects z.1 (am_y a) (am_y a)) && am_chc mu a (b - 1) && decide (1 ≤ b) && decide (am_hh a = [])
        | none => false) = true) (hn0 : 12 ≤ n0) (hop : am_op0 (.invokevirtual i, len, a, b, d, ks, ps) pc ls st h = some t) (k : am_J D cA base al0 n0 s0 mu p l e R s m args below meth c Q t.1 t.2.1 t.2.2.1 t.2.2.2) : am_J D cA base al0 n0 s0 mu p l e R s m args below meth c Q pc ls st h := by
  subst hlen
  simp only [am_op0] at hop
  split at hop
  · next k9 s9 =>
    split at hop
    · next hd =>
      cases hop
      rw [if_pos hd.1] at hck
      simp only [Bool.and_eq_true, decide_eq_true_eq] at hck
      intro al H locs cells slots lsM Z
      have h8 := am_cat8 (al := al) hd.2.1
      have hfr := C.2.2.2.2.2.2.2.2.1
      have hlr := C.2.2.2.2.2.2.2.2.2.1
      have hi9 := hd.2.2
      unfold am_isa at hi9
      cases hc9 : h.1 k9 with
      | none => rw [hc9] at hi9; cases hi9
      | some c9 =>
        rw [hc9] at hi9
        have ht : c9.1 = 53 := of_decide_eq_true hi9
        obtain ⟨cell, g5, g6, g7, -⟩ := (Z.1.1 k9 c9 hc9).2.2.1.2.2 (by omega) (by omega)
        obtain ⟨kA', comp', m1, m2, m3, m4⟩ := (C.Phi.2.1 53 (by decide) (by decide)).2
        have e0 : al 10 = al0 10 := Z.2.2.2.2.2.1 10 (by omega)
        have hM := C.Phi.2.2.2.2.2.2.2.1
        rw [← e0] at hM
        exact va_getC (C := "[Ljava/lang/Object;") C.1 C.2.1 (by rw [C.2.2.1, Z.2.1.1]) C.own (C.w hck.1.1 rfl) (va_Nw.use rfl (C.Phi.2.2.1 _ am_w_gd rfl)) (C.w2 am_w_gs rfl) (C.w2 am_w_gi rfl) (C.w2 am_w_gn rfl) hM ⟨cell, g5, by rw [g7]; rfl, by rw [g6, ht]; exact m4⟩ (by omega) (by omega) hdec (k al H locs cells slots lsM ⟨Z.1, Z.2.1, Z.2.2.1, ⟨by show 10 < h.2.1; have := Z.2.2.2.2.2.2.1; omega, Z.2.2.2.1.2⟩, Z.2.2.2.2⟩)
    · cases hop
  · cases hop
end AMN
