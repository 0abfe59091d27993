/-! ONE STEP OF THE SMALL MACHINE IS A STEP OF THE MACHINE (printed by wip/gen/gen_op.py) -/
def am_vks (n : Nat) : List Value → Prop
  | [] => True
  | v :: s => am_vk n v ∧ am_vks n s
theorem am_vks_iff {n : Nat} : ∀ {s : List Value}, am_vks n s ↔ ∀ v ∈ s, am_vk n v
  | [] => ⟨fun _ v h => (by cases h), fun _ => trivial⟩
  | w :: s => ⟨fun h v hv => (List.mem_cons.mp hv).elim (fun e => by rw [e]; exact h.1) (fun e => am_vks_iff.mp h.2 v e), fun h => ⟨h w List.mem_cons_self, am_vks_iff.mpr fun v hv => h v (List.mem_cons_of_mem _ hv)⟩⟩
theorem am_vks_mono {n k : Nat} (h : n ≤ k) {s : List Value} (hs : am_vks n s) : am_vks k s := am_vks_iff.mpr fun v hv => am_vk_mono h (am_vks_iff.mp hs v hv)
/-- what a method's walk stands on -/
def am_ctx (D : va_G) (cA : Nat → ClassId) (base : Nat) (al0 : Nat → Nat) (l : Launch) (mu : Nat) (p : Program) (R : Room) (s : State) (m : MethodId) (args : Array Value) (meth : Method) (c : Code) : Prop :=
  p.tables.exec = Jvm.exec ∧ c.code = am_bc mu ∧ c.maxLocals = am_nL mu ∧ s.vm.findClass (am_own mu) = some m.cls ∧ (∀ w ∈ am_BIG, w.before args s = true) ∧ meth.sig.returnType = am_rt mu ∧ meth.locks = false ∧ ((am_y mu).name = "<init>" → meth.name = "<init>") ∧
  am_fr mu ≤ R.frames ∧ am_lo mu ≤ R.locals ∧ (mu ≠ 291 → c.exceptionTable.toList = tableOf (am_hh mu)) ∧ l.stackTraces = false ∧ base ≤ s.heap.size ∧ am_Phi D cA base al0 s s.heap
/-- a point of a walk -/
def am_pt (D : va_G) (cA : Nat → ClassId) (base : Nat) (al0 : Nat → Nat) (n0 s0 mu : Nat) (s : State) (ls st : List Value) (h : am_H) (al : Nat → Nat) (H : Heap) (locs : List Loc) (cells slots : Nat) (lsM : Array Slot) : Prop :=
  am_rel D cA base al s H h ∧ am_loc al lsM (am_nL mu) ls ∧ am_vks h.2.1 ls ∧ am_vks h.2.1 st ∧ va_S (fun q => base ≤ q) s.heap H locs ∧ (∀ k, k < n0 → al k = al0 k) ∧ cells + n0 ≤ h.2.1 ∧ slots + s0 ≤ h.2.2
def am_J (D : va_G) (cA : Nat → ClassId) (base : Nat) (al0 : Nat → Nat) (n0 s0 mu : Nat) (p : Program) (l : Launch) (e : Env) (R : Room) (s : State) (m : MethodId) (args : Array Value) (below : List Frame) (meth : Method) (c : Code) (Q : State → Prop) (pc : Nat) (ls st : List Value) (h : am_H) : Prop :=
  ∀ (al : Nat → Nat) (H : Heap) (locs : List Loc) (cells slots : Nat) (lsM : Array Slot), am_pt D cA base al0 n0 s0 mu s ls st h al H locs cells slots lsM → W p l e R s m args below meth c H locs cells slots Q (F0 m pc lsM (st.map (am_cv al)))
section AMS
variable {D : va_G} {cA : Nat → ClassId} {base : Nat} {al0 : Nat → Nat} {n0 s0 mu : Nat} {p : Program} {l : Launch} {e : Env} {R : Room} {s : State} {m : MethodId} {args : Array Value} {below : List Frame} {meth : Method} {c : Code} {Q : State → Prop} {pc : Nat} {ls st : List Value} {h : am_H}
variable {len a b d : Nat} {ks ps : List Nat} {t : Nat × List Value × List Value × am_H}
theorem am_J.kill {ks : List Nat} (hk : am_J D cA base al0 n0 s0 mu p l e R s m args below meth c Q pc (am_kill ks ls) st h) : am_J D cA base al0 n0 s0 mu p l e R s m args below meth c Q pc ls st h := fun al H locs cells slots lsM Z =>
  hk al H locs cells slots lsM ⟨Z.1, Z.2.1.kill ks, am_vks_iff.mpr fun v hv => (am_kill_mem ks hv).elim (fun g => am_vks_iff.mp Z.2.2.1 v g) (fun g => by rw [g]; trivial), Z.2.2.2⟩
theorem am_s_aconst_null (C : am_ctx D cA base al0 l mu p R s m args meth c) (hdec : decode (am_bc mu) pc = .ok (.aconst_null, len)) (hlen : len = 1) (hop : am_op0 (.aconst_null, len, a, b, d, ks, ps) pc ls st h = some t) (k : am_J D cA base al0 n0 s0 mu p l e R s m args below meth c Q t.1 t.2.1 t.2.2.1 t.2.2.2) : am_J D cA base al0 n0 s0 mu p l e R s m args below meth c Q pc ls st h := by
  subst hlen
  simp only [am_op0] at hop
  cases hop
  intro al H locs cells slots lsM Z
  refine lv_null C.1 C.2.1 hdec ?_
  exact k al H locs cells slots lsM ⟨Z.1, Z.2.1, Z.2.2.1, ⟨trivial, Z.2.2.2.1⟩, Z.2.2.2.2⟩
theorem am_s_iconst {n : Int} (C : am_ctx D cA base al0 l mu p R s m args meth c) (hdec : decode (am_bc mu) pc = .ok (.iconst n, len)) (hlen : len = 1) (hop : am_op0 (.iconst n, len, a, b, d, ks, ps) pc ls st h = some t) (k : am_J D cA base al0 n0 s0 mu p l e R s m args below meth c Q t.1 t.2.1 t.2.2.1 t.2.2.2) : am_J D cA base al0 n0 s0 mu p l e R s m args below meth c Q pc ls st h := by
  subst hlen
  simp only [am_op0] at hop
  cases hop
  intro al H locs cells slots lsM Z
  refine lv_iconst C.1 C.2.1 hdec rfl ?_
  exact k al H locs cells slots lsM ⟨Z.1, Z.2.1, Z.2.2.1, ⟨trivial, Z.2.2.2.1⟩, Z.2.2.2.2⟩
theorem am_s_bipush {n : Int} (C : am_ctx D cA base al0 l mu p R s m args meth c) (hdec : decode (am_bc mu) pc = .ok (.bipush n, len)) (hlen : len = 2) (hop : am_op0 (.bipush n, len, a, b, d, ks, ps) pc ls st h = some t) (k : am_J D cA base al0 n0 s0 mu p l e R s m args below meth c Q t.1 t.2.1 t.2.2.1 t.2.2.2) : am_J D cA base al0 n0 s0 mu p l e R s m args below meth c Q pc ls st h := by
  subst hlen
  simp only [am_op0] at hop
  cases hop
  intro al H locs cells slots lsM Z
  refine lv_bipush C.1 C.2.1 hdec rfl ?_
  exact k al H locs cells slots lsM ⟨Z.1, Z.2.1, Z.2.2.1, ⟨trivial, Z.2.2.2.1⟩, Z.2.2.2.2⟩
theorem am_s_sipush {n : Int} (C : am_ctx D cA base al0 l mu p R s m args meth c) (hdec : decode (am_bc mu) pc = .ok (.sipush n, len)) (hlen : len = 3) (hop : am_op0 (.sipush n, len, a, b, d, ks, ps) pc ls st h = some t) (k : am_J D cA base al0 n0 s0 mu p l e R s m args below meth c Q t.1 t.2.1 t.2.2.1 t.2.2.2) : am_J D cA base al0 n0 s0 mu p l e R s m args below meth c Q pc ls st h := by
  subst hlen
  simp only [am_op0] at hop
  cases hop
  intro al H locs cells slots lsM Z
  refine lv_sipush C.1 C.2.1 hdec rfl ?_
  exact k al H locs cells slots lsM ⟨Z.1, Z.2.1, Z.2.2.1, ⟨trivial, Z.2.2.2.1⟩, Z.2.2.2.2⟩
theorem am_s_lconst {n : Fin 2} (C : am_ctx D cA base al0 l mu p R s m args meth c) (hdec : decode (am_bc mu) pc = .ok (.lconst n, len)) (hlen : len = 1) (hop : am_op0 (.lconst n, len, a, b, d, ks, ps) pc ls st h = some t) (k : am_J D cA base al0 n0 s0 mu p l e R s m args below meth c Q t.1 t.2.1 t.2.2.1 t.2.2.2) : am_J D cA base al0 n0 s0 mu p l e R s m args below meth c Q pc ls st h := by
  subst hlen
  simp only [am_op0] at hop
  cases hop
  intro al H locs cells slots lsM Z
  refine lv_lconst C.1 C.2.1 hdec rfl ?_
  exact k al H locs cells slots lsM ⟨Z.1, Z.2.1, Z.2.2.1, ⟨trivial, Z.2.2.2.1⟩, Z.2.2.2.2⟩
theorem am_s_iload {i : Nat} (C : am_ctx D cA base al0 l mu p R s m args meth c) (hdec : decode (am_bc mu) pc = .ok (.iload i, len)) (hlen : len = 2) (hop : am_op0 (.iload i, len, a, b, d, ks, ps) pc ls st h = some t) (k : am_J D cA base al0 n0 s0 mu p l e R s m args below meth c Q t.1 t.2.1 t.2.2.1 t.2.2.2) : am_J D cA base al0 n0 s0 mu p l e R s m args below meth c Q pc ls st h := by
  subst hlen
  simp only [am_op0] at hop
  unfold am_ldi at hop
  split at hop
  · next x hx =>
    cases hop
    intro al H locs cells slots lsM Z
    refine lv_iload C.1 C.2.1 hdec (Z.2.1.2.2.2 _ _ hx (by unfold am_U; simp)) ?_
    exact k al H locs cells slots lsM ⟨Z.1, Z.2.1, Z.2.2.1, ⟨trivial, Z.2.2.2.1⟩, Z.2.2.2.2⟩
  · cases hop
theorem am_s_iload_n {i : Fin 4} (C : am_ctx D cA base al0 l mu p R s m args meth c) (hdec : decode (am_bc mu) pc = .ok (.iload_n i, len)) (hlen : len = 1) (hop : am_op0 (.iload_n i, len, a, b, d, ks, ps) pc ls st h = some t) (k : am_J D cA base al0 n0 s0 mu p l e R s m args below meth c Q t.1 t.2.1 t.2.2.1 t.2.2.2) : am_J D cA base al0 n0 s0 mu p l e R s m args below meth c Q pc ls st h := by
  subst hlen
  simp only [am_op0] at hop
  unfold am_ldi at hop
  split at hop
  · next x hx =>
    cases hop
    intro al H locs cells slots lsM Z
    refine lv_iload_n C.1 C.2.1 hdec rfl (Z.2.1.2.2.2 _ _ hx (by unfold am_U; simp)) ?_
    exact k al H locs cells slots lsM ⟨Z.1, Z.2.1, Z.2.2.1, ⟨trivial, Z.2.2.2.1⟩, Z.2.2.2.2⟩
  · cases hop
theorem am_s_lload {i : Nat} (C : am_ctx D cA base al0 l mu p R s m args meth c) (hdec : decode (am_bc mu) pc = .ok (.lload i, len)) (hlen : len = 2) (hop : am_op0 (.lload i, len, a, b, d, ks, ps) pc ls st h = some t) (k : am_J D cA base al0 n0 s0 mu p l e R s m args below meth c Q t.1 t.2.1 t.2.2.1 t.2.2.2) : am_J D cA base al0 n0 s0 mu p l e R s m args below meth c Q pc ls st h := by
  subst hlen
  simp only [am_op0] at hop
  unfold am_ldl at hop
  split at hop
  · next x hx =>
    cases hop
    intro al H locs cells slots lsM Z
    refine lv_lload C.1 C.2.1 hdec (Z.2.1.2.2.2 _ _ hx (by unfold am_U; simp)) ?_
    exact k al H locs cells slots lsM ⟨Z.1, Z.2.1, Z.2.2.1, ⟨trivial, Z.2.2.2.1⟩, Z.2.2.2.2⟩
  · cases hop
theorem am_s_lload_n {i : Fin 4} (C : am_ctx D cA base al0 l mu p R s m args meth c) (hdec : decode (am_bc mu) pc = .ok (.lload_n i, len)) (hlen : len = 1) (hop : am_op0 (.lload_n i, len, a, b, d, ks, ps) pc ls st h = some t) (k : am_J D cA base al0 n0 s0 mu p l e R s m args below meth c Q t.1 t.2.1 t.2.2.1 t.2.2.2) : am_J D cA base al0 n0 s0 mu p l e R s m args below meth c Q pc ls st h := by
  subst hlen
  simp only [am_op0] at hop
  unfold am_ldl at hop
  split at hop
  · next x hx =>
    cases hop
    intro al H locs cells slots lsM Z
    refine lv_lload_n C.1 C.2.1 hdec rfl (Z.2.1.2.2.2 _ _ hx (by unfold am_U; simp)) ?_
    exact k al H locs cells slots lsM ⟨Z.1, Z.2.1, Z.2.2.1, ⟨trivial, Z.2.2.2.1⟩, Z.2.2.2.2⟩
  · cases hop
theorem am_s_aload {i : Nat} (C : am_ctx D cA base al0 l mu p R s m args meth c) (hdec : decode (am_bc mu) pc = .ok (.aload i, len)) (hlen : len = 2) (hop : am_op0 (.aload i, len, a, b, d, ks, ps) pc ls st h = some t) (k : am_J D cA base al0 n0 s0 mu p l e R s m args below meth c Q t.1 t.2.1 t.2.2.1 t.2.2.2) : am_J D cA base al0 n0 s0 mu p l e R s m args below meth c Q pc ls st h := by
  subst hlen
  simp only [am_op0] at hop
  unfold am_lda at hop
  split at hop
  · next x hx =>
    cases hop
    intro al H locs cells slots lsM Z
    refine lv_aload C.1 C.2.1 hdec (Z.2.1.2.2.2 _ _ hx (by unfold am_U; simp)) ?_
    exact k al H locs cells slots lsM ⟨Z.1, Z.2.1, Z.2.2.1, ⟨am_vks_iff.mp Z.2.2.1 _ (List.mem_of_getElem? hx), Z.2.2.2.1⟩, Z.2.2.2.2⟩
  · next hx =>
    cases hop
    intro al H locs cells slots lsM Z
    refine lv_aloadN C.1 C.2.1 hdec (Z.2.1.2.2.2 _ _ hx (by unfold am_U; simp)) ?_
    exact k al H locs cells slots lsM ⟨Z.1, Z.2.1, Z.2.2.1, ⟨trivial, Z.2.2.2.1⟩, Z.2.2.2.2⟩
  · cases hop
theorem am_s_aload_n {i : Fin 4} (C : am_ctx D cA base al0 l mu p R s m args meth c) (hdec : decode (am_bc mu) pc = .ok (.aload_n i, len)) (hlen : len = 1) (hop : am_op0 (.aload_n i, len, a, b, d, ks, ps) pc ls st h = some t) (k : am_J D cA base al0 n0 s0 mu p l e R s m args below meth c Q t.1 t.2.1 t.2.2.1 t.2.2.2) : am_J D cA base al0 n0 s0 mu p l e R s m args below meth c Q pc ls st h := by
  subst hlen
  simp only [am_op0] at hop
  unfold am_lda at hop
  split at hop
  · next x hx =>
    cases hop
    intro al H locs cells slots lsM Z
    refine lv_aload_n C.1 C.2.1 hdec rfl (Z.2.1.2.2.2 _ _ hx (by unfold am_U; simp)) ?_
    exact k al H locs cells slots lsM ⟨Z.1, Z.2.1, Z.2.2.1, ⟨am_vks_iff.mp Z.2.2.1 _ (List.mem_of_getElem? hx), Z.2.2.2.1⟩, Z.2.2.2.2⟩
  · next hx =>
    cases hop
    intro al H locs cells slots lsM Z
    refine lv_aload_nN C.1 C.2.1 hdec rfl (Z.2.1.2.2.2 _ _ hx (by unfold am_U; simp)) ?_
    exact k al H locs cells slots lsM ⟨Z.1, Z.2.1, Z.2.2.1, ⟨trivial, Z.2.2.2.1⟩, Z.2.2.2.2⟩
  · cases hop
theorem am_s_istore {i : Nat} (C : am_ctx D cA base al0 l mu p R s m args meth c) (hdec : decode (am_bc mu) pc = .ok (.istore i, len)) (hlen : len = 2) (hop : am_op0 (.istore i, len, a, b, d, ks, ps) pc ls st h = some t) (k : am_J D cA base al0 n0 s0 mu p l e R s m args below meth c Q t.1 t.2.1 t.2.2.1 t.2.2.2) : am_J D cA base al0 n0 s0 mu p l e R s m args below meth c Q pc ls st h := by
  subst hlen
  simp only [am_op0] at hop
  split at hop
  · obtain ⟨l1, hs, e1⟩ := Option.map_eq_some_iff.mp hop
    cases e1
    intro al H locs cells slots lsM Z
    refine lv_istore C.1 C.2.1 hdec Z.2.1.has (by have h9 := am_st1_lt hs; rw [Z.2.1.2.2.1] at h9; exact h9) rfl (fun ls1 hl1 => ?_)
    refine k al H locs cells slots ls1 ⟨Z.1, Z.2.1.st1 (v := .int _) hs hl1, am_vks_iff.mpr fun v hv => ?_, Z.2.2.2.1.2, Z.2.2.2.2⟩
    rcases am_st1_mem hs hv with g | g
    · exact am_vks_iff.mp Z.2.2.1 v g
    · rw [g]; exact Z.2.2.2.1.1
  · cases hop
theorem am_s_istore_n {i : Fin 4} (C : am_ctx D cA base al0 l mu p R s m args meth c) (hdec : decode (am_bc mu) pc = .ok (.istore_n i, len)) (hlen : len = 1) (hop : am_op0 (.istore_n i, len, a, b, d, ks, ps) pc ls st h = some t) (k : am_J D cA base al0 n0 s0 mu p l e R s m args below meth c Q t.1 t.2.1 t.2.2.1 t.2.2.2) : am_J D cA base al0 n0 s0 mu p l e R s m args below meth c Q pc ls st h := by
  subst hlen
  simp only [am_op0] at hop
  split at hop
  · obtain ⟨l1, hs, e1⟩ := Option.map_eq_some_iff.mp hop
    cases e1
    intro al H locs cells slots lsM Z
    refine lv_istore_n C.1 C.2.1 hdec rfl Z.2.1.has (by have h9 := am_st1_lt hs; rw [Z.2.1.2.2.1] at h9; exact h9) rfl (fun ls1 hl1 => ?_)
    refine k al H locs cells slots ls1 ⟨Z.1, Z.2.1.st1 (v := .int _) hs hl1, am_vks_iff.mpr fun v hv => ?_, Z.2.2.2.1.2, Z.2.2.2.2⟩
    rcases am_st1_mem hs hv with g | g
    · exact am_vks_iff.mp Z.2.2.1 v g
    · rw [g]; exact Z.2.2.2.1.1
  · cases hop
theorem am_s_lstore {i : Nat} (C : am_ctx D cA base al0 l mu p R s m args meth c) (hdec : decode (am_bc mu) pc = .ok (.lstore i, len)) (hlen : len = 2) (hop : am_op0 (.lstore i, len, a, b, d, ks, ps) pc ls st h = some t) (k : am_J D cA base al0 n0 s0 mu p l e R s m args below meth c Q t.1 t.2.1 t.2.2.1 t.2.2.2) : am_J D cA base al0 n0 s0 mu p l e R s m args below meth c Q pc ls st h := by
  subst hlen
  simp only [am_op0] at hop
  split at hop
  · obtain ⟨l1, hs, e1⟩ := Option.map_eq_some_iff.mp hop
    cases e1
    intro al H locs cells slots lsM Z
    refine lv_lstore C.1 C.2.1 hdec Z.2.1.has (by have h9 := am_st2_lt hs; rw [Z.2.1.2.2.1] at h9; exact h9) rfl (fun ls1 hl1 => ?_)
    refine k al H locs cells slots ls1 ⟨Z.1, Z.2.1.st2 (v := .long _) hs hl1, am_vks_iff.mpr fun v hv => ?_, Z.2.2.2.1.2, Z.2.2.2.2⟩
    rcases am_st2_mem hs hv with g | g | g
    · exact am_vks_iff.mp Z.2.2.1 v g
    · rw [g]; exact Z.2.2.2.1.1
    · rw [g]; trivial
  · cases hop
theorem am_s_lstore_n {i : Fin 4} (C : am_ctx D cA base al0 l mu p R s m args meth c) (hdec : decode (am_bc mu) pc = .ok (.lstore_n i, len)) (hlen : len = 1) (hop : am_op0 (.lstore_n i, len, a, b, d, ks, ps) pc ls st h = some t) (k : am_J D cA base al0 n0 s0 mu p l e R s m args below meth c Q t.1 t.2.1 t.2.2.1 t.2.2.2) : am_J D cA base al0 n0 s0 mu p l e R s m args below meth c Q pc ls st h := by
  subst hlen
  simp only [am_op0] at hop
  split at hop
  · obtain ⟨l1, hs, e1⟩ := Option.map_eq_some_iff.mp hop
    cases e1
    intro al H locs cells slots lsM Z
    refine lv_lstore_n C.1 C.2.1 hdec rfl Z.2.1.has (by have h9 := am_st2_lt hs; rw [Z.2.1.2.2.1] at h9; exact h9) rfl (fun ls1 hl1 => ?_)
    refine k al H locs cells slots ls1 ⟨Z.1, Z.2.1.st2 (v := .long _) hs hl1, am_vks_iff.mpr fun v hv => ?_, Z.2.2.2.1.2, Z.2.2.2.2⟩
    rcases am_st2_mem hs hv with g | g | g
    · exact am_vks_iff.mp Z.2.2.1 v g
    · rw [g]; exact Z.2.2.2.1.1
    · rw [g]; trivial
  · cases hop
theorem am_s_astore {i : Nat} (C : am_ctx D cA base al0 l mu p R s m args meth c) (hdec : decode (am_bc mu) pc = .ok (.astore i, len)) (hlen : len = 2) (hop : am_op0 (.astore i, len, a, b, d, ks, ps) pc ls st h = some t) (k : am_J D cA base al0 n0 s0 mu p l e R s m args below meth c Q t.1 t.2.1 t.2.2.1 t.2.2.2) : am_J D cA base al0 n0 s0 mu p l e R s m args below meth c Q pc ls st h := by
  subst hlen
  simp only [am_op0] at hop
  split at hop
  · obtain ⟨l1, hs, e1⟩ := Option.map_eq_some_iff.mp hop
    cases e1
    intro al H locs cells slots lsM Z
    refine lv_astore C.1 C.2.1 hdec Z.2.1.has (by have h9 := am_st1_lt hs; rw [Z.2.1.2.2.1] at h9; exact h9) rfl (fun ls1 hl1 => ?_)
    refine k al H locs cells slots ls1 ⟨Z.1, Z.2.1.st1 (v := .ref _) hs hl1, am_vks_iff.mpr fun v hv => ?_, Z.2.2.2.1.2, Z.2.2.2.2⟩
    rcases am_st1_mem hs hv with g | g
    · exact am_vks_iff.mp Z.2.2.1 v g
    · rw [g]; exact Z.2.2.2.1.1
  · obtain ⟨l1, hs, e1⟩ := Option.map_eq_some_iff.mp hop
    cases e1
    intro al H locs cells slots lsM Z
    refine lv_astoreN C.1 C.2.1 hdec Z.2.1.has (by have h9 := am_st1_lt hs; rw [Z.2.1.2.2.1] at h9; exact h9) rfl (fun ls1 hl1 => ?_)
    refine k al H locs cells slots ls1 ⟨Z.1, Z.2.1.st1 (v := .null) hs hl1, am_vks_iff.mpr fun v hv => ?_, Z.2.2.2.1.2, Z.2.2.2.2⟩
    rcases am_st1_mem hs hv with g | g
    · exact am_vks_iff.mp Z.2.2.1 v g
    · rw [g]; exact Z.2.2.2.1.1
  · cases hop
theorem am_s_astore_n {i : Fin 4} (C : am_ctx D cA base al0 l mu p R s m args meth c) (hdec : decode (am_bc mu) pc = .ok (.astore_n i, len)) (hlen : len = 1) (hop : am_op0 (.astore_n i, len, a, b, d, ks, ps) pc ls st h = some t) (k : am_J D cA base al0 n0 s0 mu p l e R s m args below meth c Q t.1 t.2.1 t.2.2.1 t.2.2.2) : am_J D cA base al0 n0 s0 mu p l e R s m args below meth c Q pc ls st h := by
  subst hlen
  simp only [am_op0] at hop
  split at hop
  · obtain ⟨l1, hs, e1⟩ := Option.map_eq_some_iff.mp hop
    cases e1
    intro al H locs cells slots lsM Z
    refine lv_astore_n C.1 C.2.1 hdec rfl Z.2.1.has (by have h9 := am_st1_lt hs; rw [Z.2.1.2.2.1] at h9; exact h9) rfl (fun ls1 hl1 => ?_)
    refine k al H locs cells slots ls1 ⟨Z.1, Z.2.1.st1 (v := .ref _) hs hl1, am_vks_iff.mpr fun v hv => ?_, Z.2.2.2.1.2, Z.2.2.2.2⟩
    rcases am_st1_mem hs hv with g | g
    · exact am_vks_iff.mp Z.2.2.1 v g
    · rw [g]; exact Z.2.2.2.1.1
  · obtain ⟨l1, hs, e1⟩ := Option.map_eq_some_iff.mp hop
    cases e1
    intro al H locs cells slots lsM Z
    refine lv_astore_nN C.1 C.2.1 hdec rfl Z.2.1.has (by have h9 := am_st1_lt hs; rw [Z.2.1.2.2.1] at h9; exact h9) rfl (fun ls1 hl1 => ?_)
    refine k al H locs cells slots ls1 ⟨Z.1, Z.2.1.st1 (v := .null) hs hl1, am_vks_iff.mpr fun v hv => ?_, Z.2.2.2.1.2, Z.2.2.2.2⟩
    rcases am_st1_mem hs hv with g | g
    · exact am_vks_iff.mp Z.2.2.1 v g
    · rw [g]; exact Z.2.2.2.1.1
  · cases hop
theorem am_s_iinc {i : Nat} {n : Int} (C : am_ctx D cA base al0 l mu p R s m args meth c) (hdec : decode (am_bc mu) pc = .ok (.iinc i n, len)) (hlen : len = 3) (hop : am_op0 (.iinc i n, len, a, b, d, ks, ps) pc ls st h = some t) (k : am_J D cA base al0 n0 s0 mu p l e R s m args below meth c Q t.1 t.2.1 t.2.2.1 t.2.2.2) : am_J D cA base al0 n0 s0 mu p l e R s m args below meth c Q pc ls st h := by
  subst hlen
  simp only [am_op0] at hop
  split at hop
  · next x hx =>
    obtain ⟨l1, hs, e1⟩ := Option.map_eq_some_iff.mp hop
    cases e1
    intro al H locs cells slots lsM Z
    obtain ⟨k9, hk9⟩ := List.getElem?_of_mem (am_prs_mem (al := al) hx (by unfold am_U; simp))
    refine lv_iinc (k := k9) (v := x + Int32.ofInt n) C.1 C.2.1 hdec Z.2.1.has hk9 rfl (by have h9 := am_st1_lt hs; rw [Z.2.1.2.2.1] at h9; exact h9) rfl (fun ls1 hl1 => ?_)
    refine k al H locs cells slots ls1 ⟨Z.1, Z.2.1.st1 (v := .int (x + Int32.ofInt n)) hs hl1, am_vks_iff.mpr fun v hv => ?_, Z.2.2.2⟩
    rcases am_st1_mem hs hv with g | g
    · exact am_vks_iff.mp Z.2.2.1 v g
    · rw [g]; trivial
  · cases hop
theorem am_s_iadd (C : am_ctx D cA base al0 l mu p R s m args meth c) (hdec : decode (am_bc mu) pc = .ok (.iadd, len)) (hlen : len = 1) (hop : am_op0 (.iadd, len, a, b, d, ks, ps) pc ls st h = some t) (k : am_J D cA base al0 n0 s0 mu p l e R s m args below meth c Q t.1 t.2.1 t.2.2.1 t.2.2.2) : am_J D cA base al0 n0 s0 mu p l e R s m args below meth c Q pc ls st h := by
  subst hlen
  simp only [am_op0] at hop
  split at hop
  · cases hop
    intro al H locs cells slots lsM Z
    refine lv_iadd C.1 C.2.1 hdec ?_
    exact k al H locs cells slots lsM ⟨Z.1, Z.2.1, Z.2.2.1, ⟨trivial, Z.2.2.2.1.2.2⟩, Z.2.2.2.2⟩
  · cases hop
theorem am_s_isub (C : am_ctx D cA base al0 l mu p R s m args meth c) (hdec : decode (am_bc mu) pc = .ok (.isub, len)) (hlen : len = 1) (hop : am_op0 (.isub, len, a, b, d, ks, ps) pc ls st h = some t) (k : am_J D cA base al0 n0 s0 mu p l e R s m args below meth c Q t.1 t.2.1 t.2.2.1 t.2.2.2) : am_J D cA base al0 n0 s0 mu p l e R s m args below meth c Q pc ls st h := by
  subst hlen
  simp only [am_op0] at hop
  split at hop
  · cases hop
    intro al H locs cells slots lsM Z
    refine lv_isub C.1 C.2.1 hdec ?_
    exact k al H locs cells slots lsM ⟨Z.1, Z.2.1, Z.2.2.1, ⟨trivial, Z.2.2.2.1.2.2⟩, Z.2.2.2.2⟩
  · cases hop
theorem am_s_imul (C : am_ctx D cA base al0 l mu p R s m args meth c) (hdec : decode (am_bc mu) pc = .ok (.imul, len)) (hlen : len = 1) (hop : am_op0 (.imul, len, a, b, d, ks, ps) pc ls st h = some t) (k : am_J D cA base al0 n0 s0 mu p l e R s m args below meth c Q t.1 t.2.1 t.2.2.1 t.2.2.2) : am_J D cA base al0 n0 s0 mu p l e R s m args below meth c Q pc ls st h := by
  subst hlen
  simp only [am_op0] at hop
  split at hop
  · cases hop
    intro al H locs cells slots lsM Z
    refine lv_imul C.1 C.2.1 hdec ?_
    exact k al H locs cells slots lsM ⟨Z.1, Z.2.1, Z.2.2.1, ⟨trivial, Z.2.2.2.1.2.2⟩, Z.2.2.2.2⟩
  · cases hop
theorem am_s_iand (C : am_ctx D cA base al0 l mu p R s m args meth c) (hdec : decode (am_bc mu) pc = .ok (.iand, len)) (hlen : len = 1) (hop : am_op0 (.iand, len, a, b, d, ks, ps) pc ls st h = some t) (k : am_J D cA base al0 n0 s0 mu p l e R s m args below meth c Q t.1 t.2.1 t.2.2.1 t.2.2.2) : am_J D cA base al0 n0 s0 mu p l e R s m args below meth c Q pc ls st h := by
  subst hlen
  simp only [am_op0] at hop
  split at hop
  · cases hop
    intro al H locs cells slots lsM Z
    refine lv_iand C.1 C.2.1 hdec ?_
    exact k al H locs cells slots lsM ⟨Z.1, Z.2.1, Z.2.2.1, ⟨trivial, Z.2.2.2.1.2.2⟩, Z.2.2.2.2⟩
  · cases hop
theorem am_s_ior (C : am_ctx D cA base al0 l mu p R s m args meth c) (hdec : decode (am_bc mu) pc = .ok (.ior, len)) (hlen : len = 1) (hop : am_op0 (.ior, len, a, b, d, ks, ps) pc ls st h = some t) (k : am_J D cA base al0 n0 s0 mu p l e R s m args below meth c Q t.1 t.2.1 t.2.2.1 t.2.2.2) : am_J D cA base al0 n0 s0 mu p l e R s m args below meth c Q pc ls st h := by
  subst hlen
  simp only [am_op0] at hop
  split at hop
  · cases hop
    intro al H locs cells slots lsM Z
    refine lv_ior C.1 C.2.1 hdec ?_
    exact k al H locs cells slots lsM ⟨Z.1, Z.2.1, Z.2.2.1, ⟨trivial, Z.2.2.2.1.2.2⟩, Z.2.2.2.2⟩
  · cases hop
theorem am_s_ixor (C : am_ctx D cA base al0 l mu p R s m args meth c) (hdec : decode (am_bc mu) pc = .ok (.ixor, len)) (hlen : len = 1) (hop : am_op0 (.ixor, len, a, b, d, ks, ps) pc ls st h = some t) (k : am_J D cA base al0 n0 s0 mu p l e R s m args below meth c Q t.1 t.2.1 t.2.2.1 t.2.2.2) : am_J D cA base al0 n0 s0 mu p l e R s m args below meth c Q pc ls st h := by
  subst hlen
  simp only [am_op0] at hop
  split at hop
  · cases hop
    intro al H locs cells slots lsM Z
    refine lv_ixor C.1 C.2.1 hdec ?_
    exact k al H locs cells slots lsM ⟨Z.1, Z.2.1, Z.2.2.1, ⟨trivial, Z.2.2.2.1.2.2⟩, Z.2.2.2.2⟩
  · cases hop
theorem am_s_ishl (C : am_ctx D cA base al0 l mu p R s m args meth c) (hdec : decode (am_bc mu) pc = .ok (.ishl, len)) (hlen : len = 1) (hop : am_op0 (.ishl, len, a, b, d, ks, ps) pc ls st h = some t) (k : am_J D cA base al0 n0 s0 mu p l e R s m args below meth c Q t.1 t.2.1 t.2.2.1 t.2.2.2) : am_J D cA base al0 n0 s0 mu p l e R s m args below meth c Q pc ls st h := by
  subst hlen
  simp only [am_op0] at hop
  split at hop
  · cases hop
    intro al H locs cells slots lsM Z
    refine lv_ishl C.1 C.2.1 hdec ?_
    exact k al H locs cells slots lsM ⟨Z.1, Z.2.1, Z.2.2.1, ⟨trivial, Z.2.2.2.1.2.2⟩, Z.2.2.2.2⟩
  · cases hop
theorem am_s_ishr (C : am_ctx D cA base al0 l mu p R s m args meth c) (hdec : decode (am_bc mu) pc = .ok (.ishr, len)) (hlen : len = 1) (hop : am_op0 (.ishr, len, a, b, d, ks, ps) pc ls st h = some t) (k : am_J D cA base al0 n0 s0 mu p l e R s m args below meth c Q t.1 t.2.1 t.2.2.1 t.2.2.2) : am_J D cA base al0 n0 s0 mu p l e R s m args below meth c Q pc ls st h := by
  subst hlen
  simp only [am_op0] at hop
  split at hop
  · cases hop
    intro al H locs cells slots lsM Z
    refine lv_ishr C.1 C.2.1 hdec ?_
    exact k al H locs cells slots lsM ⟨Z.1, Z.2.1, Z.2.2.1, ⟨trivial, Z.2.2.2.1.2.2⟩, Z.2.2.2.2⟩
  · cases hop
theorem am_s_ladd (C : am_ctx D cA base al0 l mu p R s m args meth c) (hdec : decode (am_bc mu) pc = .ok (.ladd, len)) (hlen : len = 1) (hop : am_op0 (.ladd, len, a, b, d, ks, ps) pc ls st h = some t) (k : am_J D cA base al0 n0 s0 mu p l e R s m args below meth c Q t.1 t.2.1 t.2.2.1 t.2.2.2) : am_J D cA base al0 n0 s0 mu p l e R s m args below meth c Q pc ls st h := by
  subst hlen
  simp only [am_op0] at hop
  split at hop
  · cases hop
    intro al H locs cells slots lsM Z
    refine lv_ladd C.1 C.2.1 hdec ?_
    exact k al H locs cells slots lsM ⟨Z.1, Z.2.1, Z.2.2.1, ⟨trivial, Z.2.2.2.1.2.2⟩, Z.2.2.2.2⟩
  · cases hop
theorem am_s_land (C : am_ctx D cA base al0 l mu p R s m args meth c) (hdec : decode (am_bc mu) pc = .ok (.land, len)) (hlen : len = 1) (hop : am_op0 (.land, len, a, b, d, ks, ps) pc ls st h = some t) (k : am_J D cA base al0 n0 s0 mu p l e R s m args below meth c Q t.1 t.2.1 t.2.2.1 t.2.2.2) : am_J D cA base al0 n0 s0 mu p l e R s m args below meth c Q pc ls st h := by
  subst hlen
  simp only [am_op0] at hop
  split at hop
  · cases hop
    intro al H locs cells slots lsM Z
    refine lv_land C.1 C.2.1 hdec ?_
    exact k al H locs cells slots lsM ⟨Z.1, Z.2.1, Z.2.2.1, ⟨trivial, Z.2.2.2.1.2.2⟩, Z.2.2.2.2⟩
  · cases hop
theorem am_s_lor (C : am_ctx D cA base al0 l mu p R s m args meth c) (hdec : decode (am_bc mu) pc = .ok (.lor, len)) (hlen : len = 1) (hop : am_op0 (.lor, len, a, b, d, ks, ps) pc ls st h = some t) (k : am_J D cA base al0 n0 s0 mu p l e R s m args below meth c Q t.1 t.2.1 t.2.2.1 t.2.2.2) : am_J D cA base al0 n0 s0 mu p l e R s m args below meth c Q pc ls st h := by
  subst hlen
  simp only [am_op0] at hop
  split at hop
  · cases hop
    intro al H locs cells slots lsM Z
    refine lv_lor C.1 C.2.1 hdec ?_
    exact k al H locs cells slots lsM ⟨Z.1, Z.2.1, Z.2.2.1, ⟨trivial, Z.2.2.2.1.2.2⟩, Z.2.2.2.2⟩
  · cases hop
theorem am_s_iushr (C : am_ctx D cA base al0 l mu p R s m args meth c) (hdec : decode (am_bc mu) pc = .ok (.iushr, len)) (hlen : len = 1) (hop : am_op0 (.iushr, len, a, b, d, ks, ps) pc ls st h = some t) (k : am_J D cA base al0 n0 s0 mu p l e R s m args below meth c Q t.1 t.2.1 t.2.2.1 t.2.2.2) : am_J D cA base al0 n0 s0 mu p l e R s m args below meth c Q pc ls st h := by
  subst hlen
  simp only [am_op0] at hop
  split at hop
  · cases hop
    intro al H locs cells slots lsM Z
    refine lv_iushr C.1 C.2.1 hdec rfl ?_
    exact k al H locs cells slots lsM ⟨Z.1, Z.2.1, Z.2.2.1, ⟨trivial, Z.2.2.2.1.2.2⟩, Z.2.2.2.2⟩
  · cases hop
theorem am_s_lshl (C : am_ctx D cA base al0 l mu p R s m args meth c) (hdec : decode (am_bc mu) pc = .ok (.lshl, len)) (hlen : len = 1) (hop : am_op0 (.lshl, len, a, b, d, ks, ps) pc ls st h = some t) (k : am_J D cA base al0 n0 s0 mu p l e R s m args below meth c Q t.1 t.2.1 t.2.2.1 t.2.2.2) : am_J D cA base al0 n0 s0 mu p l e R s m args below meth c Q pc ls st h := by
  subst hlen
  simp only [am_op0] at hop
  split at hop
  · cases hop
    intro al H locs cells slots lsM Z
    refine lv_lshl C.1 C.2.1 hdec rfl ?_
    exact k al H locs cells slots lsM ⟨Z.1, Z.2.1, Z.2.2.1, ⟨trivial, Z.2.2.2.1.2.2⟩, Z.2.2.2.2⟩
  · cases hop
theorem am_s_lshr (C : am_ctx D cA base al0 l mu p R s m args meth c) (hdec : decode (am_bc mu) pc = .ok (.lshr, len)) (hlen : len = 1) (hop : am_op0 (.lshr, len, a, b, d, ks, ps) pc ls st h = some t) (k : am_J D cA base al0 n0 s0 mu p l e R s m args below meth c Q t.1 t.2.1 t.2.2.1 t.2.2.2) : am_J D cA base al0 n0 s0 mu p l e R s m args below meth c Q pc ls st h := by
  subst hlen
  simp only [am_op0] at hop
  split at hop
  · cases hop
    intro al H locs cells slots lsM Z
    refine lv_lshr C.1 C.2.1 hdec rfl ?_
    exact k al H locs cells slots lsM ⟨Z.1, Z.2.1, Z.2.2.1, ⟨trivial, Z.2.2.2.1.2.2⟩, Z.2.2.2.2⟩
  · cases hop
theorem am_s_lcmp (C : am_ctx D cA base al0 l mu p R s m args meth c) (hdec : decode (am_bc mu) pc = .ok (.lcmp, len)) (hlen : len = 1) (hop : am_op0 (.lcmp, len, a, b, d, ks, ps) pc ls st h = some t) (k : am_J D cA base al0 n0 s0 mu p l e R s m args below meth c Q t.1 t.2.1 t.2.2.1 t.2.2.2) : am_J D cA base al0 n0 s0 mu p l e R s m args below meth c Q pc ls st h := by
  subst hlen
  simp only [am_op0] at hop
  split at hop
  · cases hop
    intro al H locs cells slots lsM Z
    refine W.lcmp C.1 C.2.1 hdec ?_
    exact k al H locs cells slots lsM ⟨Z.1, Z.2.1, Z.2.2.1, ⟨trivial, Z.2.2.2.1.2.2⟩, Z.2.2.2.2⟩
  · cases hop
theorem am_s_i2l (C : am_ctx D cA base al0 l mu p R s m args meth c) (hdec : decode (am_bc mu) pc = .ok (.i2l, len)) (hlen : len = 1) (hop : am_op0 (.i2l, len, a, b, d, ks, ps) pc ls st h = some t) (k : am_J D cA base al0 n0 s0 mu p l e R s m args below meth c Q t.1 t.2.1 t.2.2.1 t.2.2.2) : am_J D cA base al0 n0 s0 mu p l e R s m args below meth c Q pc ls st h := by
  subst hlen
  simp only [am_op0] at hop
  split at hop
  · cases hop
    intro al H locs cells slots lsM Z
    refine lv_i2l C.1 C.2.1 hdec rfl ?_
    exact k al H locs cells slots lsM ⟨Z.1, Z.2.1, Z.2.2.1, ⟨trivial, Z.2.2.2.1.2⟩, Z.2.2.2.2⟩
  · cases hop
theorem am_s_ineg (C : am_ctx D cA base al0 l mu p R s m args meth c) (hdec : decode (am_bc mu) pc = .ok (.ineg, len)) (hlen : len = 1) (hop : am_op0 (.ineg, len, a, b, d, ks, ps) pc ls st h = some t) (k : am_J D cA base al0 n0 s0 mu p l e R s m args below meth c Q t.1 t.2.1 t.2.2.1 t.2.2.2) : am_J D cA base al0 n0 s0 mu p l e R s m args below meth c Q pc ls st h := by
  subst hlen
  simp only [am_op0] at hop
  split at hop
  · cases hop
    intro al H locs cells slots lsM Z
    refine lv_ineg C.1 C.2.1 hdec ?_
    exact k al H locs cells slots lsM ⟨Z.1, Z.2.1, Z.2.2.1, ⟨trivial, Z.2.2.2.1.2⟩, Z.2.2.2.2⟩
  · cases hop
theorem am_s_idiv (C : am_ctx D cA base al0 l mu p R s m args meth c) (hdec : decode (am_bc mu) pc = .ok (.idiv, len)) (hlen : len = 1) (hop : am_op0 (.idiv, len, a, b, d, ks, ps) pc ls st h = some t) (k : am_J D cA base al0 n0 s0 mu p l e R s m args below meth c Q t.1 t.2.1 t.2.2.1 t.2.2.2) : am_J D cA base al0 n0 s0 mu p l e R s m args below meth c Q pc ls st h := by
  subst hlen
  simp only [am_op0] at hop
  split at hop
  · split at hop
    · cases hop
    · next hne =>
      cases hop
      intro al H locs cells slots lsM Z
      refine lv_idiv C.1 C.2.1 hdec hne ?_
      exact k al H locs cells slots lsM ⟨Z.1, Z.2.1, Z.2.2.1, ⟨trivial, Z.2.2.2.1.2.2⟩, Z.2.2.2.2⟩
  · cases hop
theorem am_s_irem (C : am_ctx D cA base al0 l mu p R s m args meth c) (hdec : decode (am_bc mu) pc = .ok (.irem, len)) (hlen : len = 1) (hop : am_op0 (.irem, len, a, b, d, ks, ps) pc ls st h = some t) (k : am_J D cA base al0 n0 s0 mu p l e R s m args below meth c Q t.1 t.2.1 t.2.2.1 t.2.2.2) : am_J D cA base al0 n0 s0 mu p l e R s m args below meth c Q pc ls st h := by
  subst hlen
  simp only [am_op0] at hop
  split at hop
  · split at hop
    · cases hop
    · next hne =>
      cases hop
      intro al H locs cells slots lsM Z
      refine lv_irem C.1 C.2.1 hdec hne ?_
      exact k al H locs cells slots lsM ⟨Z.1, Z.2.1, Z.2.2.1, ⟨trivial, Z.2.2.2.1.2.2⟩, Z.2.2.2.2⟩
  · cases hop
theorem am_s_dup (C : am_ctx D cA base al0 l mu p R s m args meth c) (hdec : decode (am_bc mu) pc = .ok (.dup, len)) (hlen : len = 1) (hop : am_op0 (.dup, len, a, b, d, ks, ps) pc ls st h = some t) (k : am_J D cA base al0 n0 s0 mu p l e R s m args below meth c Q t.1 t.2.1 t.2.2.1 t.2.2.2) : am_J D cA base al0 n0 s0 mu p l e R s m args below meth c Q pc ls st h := by
  subst hlen
  simp only [am_op0] at hop
  split at hop
  · split at hop
    · next hn =>
      cases hop
      intro al H locs cells slots lsM Z
      refine lv_dup C.1 C.2.1 hdec (by rw [am_cv_cat]; exact am_nl_cat hn) ?_
      exact k al H locs cells slots lsM ⟨Z.1, Z.2.1, Z.2.2.1, ⟨Z.2.2.2.1.1, Z.2.2.2.1⟩, Z.2.2.2.2⟩
    · cases hop
  · cases hop
theorem am_s_pop (C : am_ctx D cA base al0 l mu p R s m args meth c) (hdec : decode (am_bc mu) pc = .ok (.pop, len)) (hlen : len = 1) (hop : am_op0 (.pop, len, a, b, d, ks, ps) pc ls st h = some t) (k : am_J D cA base al0 n0 s0 mu p l e R s m args below meth c Q t.1 t.2.1 t.2.2.1 t.2.2.2) : am_J D cA base al0 n0 s0 mu p l e R s m args below meth c Q pc ls st h := by
  subst hlen
  simp only [am_op0] at hop
  split at hop
  · split at hop
    · next hn =>
      cases hop
      intro al H locs cells slots lsM Z
      refine lv_pop C.1 C.2.1 hdec (by rw [am_cv_cat]; exact am_nl_cat hn) ?_
      exact k al H locs cells slots lsM ⟨Z.1, Z.2.1, Z.2.2.1, Z.2.2.2.1.2, Z.2.2.2.2⟩
    · cases hop
  · cases hop
theorem am_s_dup_x1 (C : am_ctx D cA base al0 l mu p R s m args meth c) (hdec : decode (am_bc mu) pc = .ok (.dup_x1, len)) (hlen : len = 1) (hop : am_op0 (.dup_x1, len, a, b, d, ks, ps) pc ls st h = some t) (k : am_J D cA base al0 n0 s0 mu p l e R s m args below meth c Q t.1 t.2.1 t.2.2.1 t.2.2.2) : am_J D cA base al0 n0 s0 mu p l e R s m args below meth c Q pc ls st h := by
  subst hlen
  simp only [am_op0] at hop
  split at hop
  · split at hop
    · next hn =>
      cases hop
      intro al H locs cells slots lsM Z
      refine lv_dup_x1 C.1 C.2.1 hdec (by rw [am_cv_cat]; exact am_nl_cat hn.1) (by rw [am_cv_cat]; exact am_nl_cat hn.2) ?_
      exact k al H locs cells slots lsM ⟨Z.1, Z.2.1, Z.2.2.1, ⟨Z.2.2.2.1.1, Z.2.2.2.1.2.1, Z.2.2.2.1.1, Z.2.2.2.1.2.2⟩, Z.2.2.2.2⟩
    · cases hop
  · cases hop
theorem am_s_dup2 (C : am_ctx D cA base al0 l mu p R s m args meth c) (hdec : decode (am_bc mu) pc = .ok (.dup2, len)) (hlen : len = 1) (hop : am_op0 (.dup2, len, a, b, d, ks, ps) pc ls st h = some t) (k : am_J D cA base al0 n0 s0 mu p l e R s m args below meth c Q t.1 t.2.1 t.2.2.1 t.2.2.2) : am_J D cA base al0 n0 s0 mu p l e R s m args below meth c Q pc ls st h := by
  subst hlen
  simp only [am_op0] at hop
  split at hop
  · split at hop
    · next hn =>
      cases hop
      intro al H locs cells slots lsM Z
      refine lv_dup2_11 C.1 C.2.1 hdec (by rw [am_cv_cat]; exact am_nl_cat hn.1) (by rw [am_cv_cat]; exact am_nl_cat hn.2) ?_
      exact k al H locs cells slots lsM ⟨Z.1, Z.2.1, Z.2.2.1, ⟨Z.2.2.2.1.1, Z.2.2.2.1.2.1, Z.2.2.2.1⟩, Z.2.2.2.2⟩
    · cases hop
  · cases hop
theorem am_s_goto {off : Int} (C : am_ctx D cA base al0 l mu p R s m args meth c) (hdec : decode (am_bc mu) pc = .ok (.goto off, len)) (hlen : len = 3) (hck : (pc : Int) + off = (a : Int)) (hop : am_op0 (.goto off, len, a, b, d, ks, ps) pc ls st h = some t) (k : am_J D cA base al0 n0 s0 mu p l e R s m args below meth c Q t.1 t.2.1 t.2.2.1 t.2.2.2) : am_J D cA base al0 n0 s0 mu p l e R s m args below meth c Q pc ls st h := by
  subst hlen
  simp only [am_op0] at hop
  cases hop
  intro al H locs cells slots lsM Z
  refine lv_goto C.1 C.2.1 hdec hck ?_
  exact k al H locs cells slots lsM Z
theorem am_s_ifCond {cc9 : ClassFile.Cond} {off : Int} (C : am_ctx D cA base al0 l mu p R s m args meth c) (hdec : decode (am_bc mu) pc = .ok (.ifCond cc9 off, len)) (hlen : len = 3) (hck : (pc : Int) + off = (a : Int)) (hop : am_op0 (.ifCond cc9 off, len, a, b, d, ks, ps) pc ls st h = some t) (k : am_J D cA base al0 n0 s0 mu p l e R s m args below meth c Q t.1 t.2.1 t.2.2.1 t.2.2.2) : am_J D cA base al0 n0 s0 mu p l e R s m args below meth c Q pc ls st h := by
  subst hlen
  simp only [am_op0] at hop
  split at hop
  · next x9 s9 =>
    intro al H locs cells slots lsM Z
    cases cc9
    · refine lv_if_eq C.1 C.2.1 hdec hck (fun z => ?_) (fun z => ?_)
      · rw [if_pos (show am_cmp .eq x9 0 = true from decide_eq_true z)] at hop
        cases hop
        exact k al H locs cells slots lsM ⟨Z.1, Z.2.1, Z.2.2.1, Z.2.2.2.1.2, Z.2.2.2.2⟩
      · rw [if_neg (show ¬ am_cmp .eq x9 0 = true from fun q => z (of_decide_eq_true q))] at hop
        cases hop
        exact k al H locs cells slots lsM ⟨Z.1, Z.2.1, Z.2.2.1, Z.2.2.2.1.2, Z.2.2.2.2⟩
    · refine lv_if_ne C.1 C.2.1 hdec hck (fun z => ?_) (fun z => ?_)
      · rw [if_pos (show am_cmp .ne x9 0 = true from decide_eq_true z)] at hop
        cases hop
        exact k al H locs cells slots lsM ⟨Z.1, Z.2.1, Z.2.2.1, Z.2.2.2.1.2, Z.2.2.2.2⟩
      · rw [if_neg (show ¬ am_cmp .ne x9 0 = true from fun q => (of_decide_eq_true q) z)] at hop
        cases hop
        exact k al H locs cells slots lsM ⟨Z.1, Z.2.1, Z.2.2.1, Z.2.2.2.1.2, Z.2.2.2.2⟩
    · refine lv_if_lt C.1 C.2.1 hdec hck (fun z => ?_) (fun z => ?_)
      · rw [if_pos (show am_cmp .lt x9 0 = true from decide_eq_true z)] at hop
        cases hop
        exact k al H locs cells slots lsM ⟨Z.1, Z.2.1, Z.2.2.1, Z.2.2.2.1.2, Z.2.2.2.2⟩
      · rw [if_neg (show ¬ am_cmp .lt x9 0 = true from fun q => z (of_decide_eq_true q))] at hop
        cases hop
        exact k al H locs cells slots lsM ⟨Z.1, Z.2.1, Z.2.2.1, Z.2.2.2.1.2, Z.2.2.2.2⟩
    · refine lv_if_ge C.1 C.2.1 hdec hck (fun z => ?_) (fun z => ?_)
      · rw [if_pos (show am_cmp .ge x9 0 = true from decide_eq_true z)] at hop
        cases hop
        exact k al H locs cells slots lsM ⟨Z.1, Z.2.1, Z.2.2.1, Z.2.2.2.1.2, Z.2.2.2.2⟩
      · rw [if_neg (show ¬ am_cmp .ge x9 0 = true from fun q => z (of_decide_eq_true q))] at hop
        cases hop
        exact k al H locs cells slots lsM ⟨Z.1, Z.2.1, Z.2.2.1, Z.2.2.2.1.2, Z.2.2.2.2⟩
    · refine lv_if_gt C.1 C.2.1 hdec hck (fun z => ?_) (fun z => ?_)
      · rw [if_pos (show am_cmp .gt x9 0 = true from decide_eq_true z)] at hop
        cases hop
        exact k al H locs cells slots lsM ⟨Z.1, Z.2.1, Z.2.2.1, Z.2.2.2.1.2, Z.2.2.2.2⟩
      · rw [if_neg (show ¬ am_cmp .gt x9 0 = true from fun q => z (of_decide_eq_true q))] at hop
        cases hop
        exact k al H locs cells slots lsM ⟨Z.1, Z.2.1, Z.2.2.1, Z.2.2.2.1.2, Z.2.2.2.2⟩
    · refine lv_if_le C.1 C.2.1 hdec hck (fun z => ?_) (fun z => ?_)
      · rw [if_pos (show am_cmp .le x9 0 = true from decide_eq_true z)] at hop
        cases hop
        exact k al H locs cells slots lsM ⟨Z.1, Z.2.1, Z.2.2.1, Z.2.2.2.1.2, Z.2.2.2.2⟩
      · rw [if_neg (show ¬ am_cmp .le x9 0 = true from fun q => z (of_decide_eq_true q))] at hop
        cases hop
        exact k al H locs cells slots lsM ⟨Z.1, Z.2.1, Z.2.2.1, Z.2.2.2.1.2, Z.2.2.2.2⟩
  · cases hop
theorem am_s_if_icmp {cc9 : ClassFile.Cond} {off : Int} (C : am_ctx D cA base al0 l mu p R s m args meth c) (hdec : decode (am_bc mu) pc = .ok (.if_icmp cc9 off, len)) (hlen : len = 3) (hck : (pc : Int) + off = (a : Int)) (hop : am_op0 (.if_icmp cc9 off, len, a, b, d, ks, ps) pc ls st h = some t) (k : am_J D cA base al0 n0 s0 mu p l e R s m args below meth c Q t.1 t.2.1 t.2.2.1 t.2.2.2) : am_J D cA base al0 n0 s0 mu p l e R s m args below meth c Q pc ls st h := by
  subst hlen
  simp only [am_op0] at hop
  split at hop
  · next y9 x9 s9 =>
    intro al H locs cells slots lsM Z
    cases cc9
    · refine lv_icmp_eq C.1 C.2.1 hdec hck (fun z => ?_) (fun z => ?_)
      · rw [if_pos (show am_cmp .eq x9 y9 = true from decide_eq_true z)] at hop
        cases hop
        exact k al H locs cells slots lsM ⟨Z.1, Z.2.1, Z.2.2.1, Z.2.2.2.1.2.2, Z.2.2.2.2⟩
      · rw [if_neg (show ¬ am_cmp .eq x9 y9 = true from fun q => z (of_decide_eq_true q))] at hop
        cases hop
        exact k al H locs cells slots lsM ⟨Z.1, Z.2.1, Z.2.2.1, Z.2.2.2.1.2.2, Z.2.2.2.2⟩
    · refine lv_icmp_ne C.1 C.2.1 hdec hck (fun z => ?_) (fun z => ?_)
      · rw [if_pos (show am_cmp .ne x9 y9 = true from decide_eq_true z)] at hop
        cases hop
        exact k al H locs cells slots lsM ⟨Z.1, Z.2.1, Z.2.2.1, Z.2.2.2.1.2.2, Z.2.2.2.2⟩
      · rw [if_neg (show ¬ am_cmp .ne x9 y9 = true from fun q => (of_decide_eq_true q) z)] at hop
        cases hop
        exact k al H locs cells slots lsM ⟨Z.1, Z.2.1, Z.2.2.1, Z.2.2.2.1.2.2, Z.2.2.2.2⟩
    · refine lv_icmp_lt C.1 C.2.1 hdec hck (fun z => ?_) (fun z => ?_)
      · rw [if_pos (show am_cmp .lt x9 y9 = true from decide_eq_true z)] at hop
        cases hop
        exact k al H locs cells slots lsM ⟨Z.1, Z.2.1, Z.2.2.1, Z.2.2.2.1.2.2, Z.2.2.2.2⟩
      · rw [if_neg (show ¬ am_cmp .lt x9 y9 = true from fun q => z (of_decide_eq_true q))] at hop
        cases hop
        exact k al H locs cells slots lsM ⟨Z.1, Z.2.1, Z.2.2.1, Z.2.2.2.1.2.2, Z.2.2.2.2⟩
    · refine lv_icmp_ge C.1 C.2.1 hdec hck (fun z => ?_) (fun z => ?_)
      · rw [if_pos (show am_cmp .ge x9 y9 = true from decide_eq_true z)] at hop
        cases hop
        exact k al H locs cells slots lsM ⟨Z.1, Z.2.1, Z.2.2.1, Z.2.2.2.1.2.2, Z.2.2.2.2⟩
      · rw [if_neg (show ¬ am_cmp .ge x9 y9 = true from fun q => z (of_decide_eq_true q))] at hop
        cases hop
        exact k al H locs cells slots lsM ⟨Z.1, Z.2.1, Z.2.2.1, Z.2.2.2.1.2.2, Z.2.2.2.2⟩
    · refine lv_icmp_gt C.1 C.2.1 hdec hck (fun z => ?_) (fun z => ?_)
      · rw [if_pos (show am_cmp .gt x9 y9 = true from decide_eq_true z)] at hop
        cases hop
        exact k al H locs cells slots lsM ⟨Z.1, Z.2.1, Z.2.2.1, Z.2.2.2.1.2.2, Z.2.2.2.2⟩
      · rw [if_neg (show ¬ am_cmp .gt x9 y9 = true from fun q => z (of_decide_eq_true q))] at hop
        cases hop
        exact k al H locs cells slots lsM ⟨Z.1, Z.2.1, Z.2.2.1, Z.2.2.2.1.2.2, Z.2.2.2.2⟩
    · refine lv_icmp_le C.1 C.2.1 hdec hck (fun z => ?_) (fun z => ?_)
      · rw [if_pos (show am_cmp .le x9 y9 = true from decide_eq_true z)] at hop
        cases hop
        exact k al H locs cells slots lsM ⟨Z.1, Z.2.1, Z.2.2.1, Z.2.2.2.1.2.2, Z.2.2.2.2⟩
      · rw [if_neg (show ¬ am_cmp .le x9 y9 = true from fun q => z (of_decide_eq_true q))] at hop
        cases hop
        exact k al H locs cells slots lsM ⟨Z.1, Z.2.1, Z.2.2.1, Z.2.2.2.1.2.2, Z.2.2.2.2⟩
  · cases hop
theorem am_s_ifnull {off : Int} (C : am_ctx D cA base al0 l mu p R s m args meth c) (hdec : decode (am_bc mu) pc = .ok (.ifnull off, len)) (hlen : len = 3) (hck : (pc : Int) + off = (a : Int)) (hop : am_op0 (.ifnull off, len, a, b, d, ks, ps) pc ls st h = some t) (k : am_J D cA base al0 n0 s0 mu p l e R s m args below meth c Q t.1 t.2.1 t.2.2.1 t.2.2.2) : am_J D cA base al0 n0 s0 mu p l e R s m args below meth c Q pc ls st h := by
  subst hlen
  simp only [am_op0] at hop
  split at hop
  · cases hop
    intro al H locs cells slots lsM Z
    refine lv_ifnullN C.1 C.2.1 hdec hck ?_
    exact k al H locs cells slots lsM ⟨Z.1, Z.2.1, Z.2.2.1, Z.2.2.2.1.2, Z.2.2.2.2⟩
  · cases hop
    intro al H locs cells slots lsM Z
    refine lv_ifnull C.1 C.2.1 hdec ?_
    exact k al H locs cells slots lsM ⟨Z.1, Z.2.1, Z.2.2.1, Z.2.2.2.1.2, Z.2.2.2.2⟩
  · cases hop
theorem am_s_ifnonnull {off : Int} (C : am_ctx D cA base al0 l mu p R s m args meth c) (hdec : decode (am_bc mu) pc = .ok (.ifnonnull off, len)) (hlen : len = 3) (hck : (pc : Int) + off = (a : Int)) (hop : am_op0 (.ifnonnull off, len, a, b, d, ks, ps) pc ls st h = some t) (k : am_J D cA base al0 n0 s0 mu p l e R s m args below meth c Q t.1 t.2.1 t.2.2.1 t.2.2.2) : am_J D cA base al0 n0 s0 mu p l e R s m args below meth c Q pc ls st h := by
  subst hlen
  simp only [am_op0] at hop
  split at hop
  · cases hop
    intro al H locs cells slots lsM Z
    refine lv_ifnonnullN C.1 C.2.1 hdec ?_
    exact k al H locs cells slots lsM ⟨Z.1, Z.2.1, Z.2.2.1, Z.2.2.2.1.2, Z.2.2.2.2⟩
  · cases hop
    intro al H locs cells slots lsM Z
    refine lv_ifnonnull C.1 C.2.1 hdec hck ?_
    exact k al H locs cells slots lsM ⟨Z.1, Z.2.1, Z.2.2.1, Z.2.2.2.1.2, Z.2.2.2.2⟩
  · cases hop
theorem am_s_tableswitch {dflt lo hi : Int} {offs : Array Int} (C : am_ctx D cA base al0 l mu p R s m args meth c) (hdec : decode (am_bc mu) pc = .ok (.tableswitch dflt lo hi offs, len)) (hlen : len = len) (hck : 0 ≤ (pc : Int) + dflt ∧ ∀ o : Int, ∀ {i : Nat}, offs[i]? = some o → 0 ≤ (pc : Int) + o) (hop : am_op0 (.tableswitch dflt lo hi offs, len, a, b, d, ks, ps) pc ls st h = some t) (k : am_J D cA base al0 n0 s0 mu p l e R s m args below meth c Q t.1 t.2.1 t.2.2.1 t.2.2.2) : am_J D cA base al0 n0 s0 mu p l e R s m args below meth c Q pc ls st h := by
  simp only [am_op0] at hop
  split at hop
  · next x s9 =>
    split at hop
    · next hout =>
      cases hop
      intro al H locs cells slots lsM Z
      refine lv_tableOut C.1 C.2.1 hdec hout (tgt := ((pc : Int) + dflt).toNat) (by rw [Int.toNat_of_nonneg hck.1]) ?_
      exact k al H locs cells slots lsM ⟨Z.1, Z.2.1, Z.2.2.1, Z.2.2.2.1.2, Z.2.2.2.2⟩
    · next hin =>
      obtain ⟨o9, ho, e1⟩ := Option.map_eq_some_iff.mp hop
      cases e1
      intro al H locs cells slots lsM Z
      refine lv_tableIn C.1 C.2.1 hdec (fun z => hin (Or.inl z)) (fun z => hin (Or.inr z)) ho (tgt := ((pc : Int) + o9).toNat) (by rw [Int.toNat_of_nonneg (hck.2 o9 ho)]) ?_
      exact k al H locs cells slots lsM ⟨Z.1, Z.2.1, Z.2.2.1, Z.2.2.2.1.2, Z.2.2.2.2⟩
  · cases hop
end AMS
