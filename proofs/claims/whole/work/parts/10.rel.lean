/-! HOW THE SMALL MACHINE'S CELLS LIE IN THE HEAP -/
def am_cv (al : Nat → Nat) : Value → Value
  | .ref k => .ref (al k)
  | v => v
theorem am_cv_cat (al : Nat → Nat) (v : Value) : (am_cv al v).category = v.category := by cases v <;> rfl
theorem am_nl_cat {v : Value} (h : am_nl v = true) : v.category = 1 := by cases v <;> first | rfl | (simp [am_nl] at h)
def am_ty (t : Nat) : FieldType := if t = 50 ∨ t = 60 then .int else if t = 51 then .long else if t = 52 then .boolean else if t = 54 then .object "EmpireTurns$Treaty" else .object "java/lang/Object"
def am_vk (n : Nat) : Value → Prop
  | .ref k => k < n
  | _ => True
theorem am_vk_mono {n m : Nat} (h : n ≤ m) {v : Value} (hv : am_vk n v) : am_vk m v := by
  cases v <;> first | exact Nat.lt_of_lt_of_le hv h | trivial
def am_ext (al : Nat → Nat) (n q : Nat) : Nat → Nat := fun j => if j = n then q else al j
theorem am_ext_lt {al : Nat → Nat} {n q k : Nat} (h : k < n) : am_ext al n q k = al k := if_neg (Nat.ne_of_lt h)
theorem am_ext_self {al : Nat → Nat} {n q : Nat} : am_ext al n q n = q := if_pos rfl
theorem am_cv_ext {al : Nat → Nat} {n q : Nat} {v : Value} (h : am_vk n v) : am_cv (am_ext al n q) v = am_cv al v := by
  cases v <;> first | (show Value.ref _ = Value.ref _; rw [am_ext_lt h]) | rfl
theorem am_map_ext {al : Nat → Nat} {n q : Nat} {l : List Value} (h : ∀ v ∈ l, am_vk n v) : l.map (am_cv (am_ext al n q)) = l.map (am_cv al) := List.map_congr_left fun v hv => am_cv_ext (h v hv)
theorem am_map_agree {al be : Nat → Nat} {n : Nat} {l : List Value} (hab : ∀ k, k < n → be k = al k) (h : ∀ v ∈ l, am_vk n v) : l.map (am_cv be) = l.map (am_cv al) := by
  refine List.map_congr_left fun v hv => ?_
  have h1 := h v hv
  cases v <;> first | (show Value.ref _ = Value.ref _; rw [hab _ h1]) | rfl
/-- the values of a row (and no more, as far as its length tells) -/
def am_sl (cell : Cell) (ws : List Value) : Prop := (∀ (j : Nat) (w : Value), ws[j]? = some w → cell.slots[j]? = some w) ∧ ws.length ≤ cell.slots.size ∧ cell.slots.size.toInt32 = Int32.ofNat ws.length
theorem am_sl_of {cell : Cell} {ws : List Value} (h : cell.slots.toList = ws) : am_sl cell ws := by
  have hz : cell.slots.size = ws.length := by rw [← Array.length_toList, h]
  exact ⟨fun j w hw => by rw [← Array.getElem?_toList, h]; exact hw, Nat.le_of_eq hz.symm, by rw [hz]⟩
/-- how a cell lies in the heap -/
def am_cell (D : va_G) (cA : Nat → ClassId) (al : Nat → Nat) (s : State) (H : Heap) (a : Nat) (c : am_C) : Prop :=
  (c.1 < 50 → va_at D vwCl (a, .inr (c.1, c.2.map (am_cv al))) H ∧ ∃ q : vw_C, vwCl[c.1]? = some q ∧ c.2.length = q.2.2) ∧
  (50 ≤ c.1 → c.1 < 70 → ∃ cell : Cell, H[a]? = some cell ∧ s.isArrayOf cell (am_ty c.1) ∧ cell.vm ≠ .unknown ∧ am_sl cell (c.2.map (am_cv al))) ∧
  (50 ≤ c.1 → c.1 < 60 → ∃ cell : Cell, H[a]? = some cell ∧ cell.cls = cA c.1 ∧ cell.vm = .none ∧ cell.slots.toList = c.2.map (am_cv al))
def am_rel (D : va_G) (cA : Nat → ClassId) (base : Nat) (al : Nat → Nat) (s : State) (H : Heap) (h : am_H) : Prop :=
  (∀ k c, h.1 k = some c → k < h.2.1 ∧ (c.1 < 70 → al k < H.size) ∧ am_cell D cA al s H (al k) c ∧ (c.1 < 60 → base ≤ al k) ∧ ∀ v ∈ c.2, am_vk h.2.1 v) ∧
  ∀ i j ci cj, h.1 i = some ci → h.1 j = some cj → ci.1 < 60 → cj.1 < 70 → al i = al j → i = j
theorem am_cell.kept {D : va_G} {cA : Nat → ClassId} {al : Nat → Nat} {s : State} {H H1 : Heap} {a : Nat} {c : am_C} (h : am_cell D cA al s H a c) (hq : c.1 < 70 → H1[a]? = H[a]?) : am_cell D cA al s H1 a c := by
  obtain ⟨h1, h2, h3⟩ := h
  refine ⟨fun z => ⟨(h1 z).1.kept (hq (by omega)), (h1 z).2⟩, fun z z2 => ?_, fun z z2 => ?_⟩
  · rw [hq z2]; exact h2 z z2
  · rw [hq (by omega)]; exact h3 z z2
theorem am_cell.to {D : va_G} {cA : Nat → ClassId} {al be : Nat → Nat} {s : State} {H : Heap} {a : Nat} {c : am_C} (h : am_cell D cA al s H a c) (hm : c.2.map (am_cv be) = c.2.map (am_cv al)) : am_cell D cA be s H a c := by
  unfold am_cell at h ⊢
  rw [hm]
  exact h
theorem am_cell.moved {D : va_G} {cA : Nat → ClassId} {al : Nat → Nat} {s U : State} {H : Heap} {a : Nat} {c : am_C} (hvm : s.vm.Alike U.vm) (h : am_cell D cA al s H a c) : am_cell D cA al U H a c := by
  obtain ⟨h1, h2, h3⟩ := h
  refine ⟨h1, fun z z2 => ?_, h3⟩
  obtain ⟨cell, e1, e2, e3, e4⟩ := h2 z z2
  exact ⟨cell, e1, State.isArrayOf_alike hvm e2, e3, e4⟩
theorem am_rel.moved {D : va_G} {cA : Nat → ClassId} {base : Nat} {al : Nat → Nat} {s U : State} {H : Heap} {h : am_H} (hvm : s.vm.Alike U.vm) (hr : am_rel D cA base al s H h) : am_rel D cA base al U H h :=
  ⟨fun k c hk => ⟨(hr.1 k c hk).1, (hr.1 k c hk).2.1, (hr.1 k c hk).2.2.1.moved hvm, (hr.1 k c hk).2.2.2⟩, hr.2⟩
/-- a cell is written -/
theorem am_rel.set {D : va_G} {cA : Nat → ClassId} {base : Nat} {al : Nat → Nat} {s : State} {H H1 : Heap} {h : am_H} (hr : am_rel D cA base al s H h) {k : Nat} {c c1 : am_C} (hk : h.1 k = some c) (ht : c1.1 = c.1) (hw : c.1 < 60)
    (hc : am_cell D cA al s H1 (al k) c1) (hv : ∀ v ∈ c1.2, am_vk h.2.1 v) (hz : H1.size = H.size) (ho : ∀ q, q ≠ al k → H1[q]? = H[q]?) : am_rel D cA base al s H1 (am_set h k c1) := by
  have key : ∀ j cj, (am_set h k c1).1 j = some cj → ∃ c0, h.1 j = some c0 ∧ c0.1 = cj.1 ∧ (j = k ∧ cj = c1 ∨ j ≠ k ∧ cj = c0) := by
    intro j cj hj
    by_cases e : j = k
    · subst e
      have e1 : (am_set h j c1).1 j = some c1 := if_pos rfl
      rw [e1] at hj
      cases hj
      exact ⟨c, hk, ht.symm, Or.inl ⟨rfl, rfl⟩⟩
    · have e1 : (am_set h k c1).1 j = h.1 j := if_neg e
      rw [e1] at hj
      exact ⟨cj, hj, rfl, Or.inr ⟨e, rfl⟩⟩
  refine ⟨fun j cj hj => ?_, fun i j ci cj hi hj h1 h2 h3 => ?_⟩
  · obtain ⟨c0, h0, e0, ⟨rfl, rfl⟩ | ⟨hne, rfl⟩⟩ := key j cj hj
    · obtain ⟨g1, g2, g3, g4, g5⟩ := hr.1 j c0 h0
      cases hk.symm.trans h0
      exact ⟨g1, fun z => by rw [hz]; exact g2 (by omega), hc, fun z => g4 (by omega), hv⟩
    · obtain ⟨g1, g2, g3, g4, g5⟩ := hr.1 j cj h0
      exact ⟨g1, fun z => by rw [hz]; exact g2 z, g3.kept fun z => ho _ fun e => hne (hr.2 k j c cj hk h0 hw z e.symm).symm, g4, g5⟩
  · obtain ⟨a0, b0, e0, -⟩ := key i ci hi
    obtain ⟨a1, b1, e1, -⟩ := key j cj hj
    exact hr.2 i j a0 a1 b0 b1 (by omega) (by omega) h3
/-- a cell is made -/
theorem am_rel.new {D : va_G} {cA : Nat → ClassId} {base : Nat} {al : Nat → Nat} {s : State} {H H1 : Heap} {h : am_H} (hr : am_rel D cA base al s H h) (c1 : am_C) (n q : Nat) (hq : 70 ≤ c1.1 ∨ (q = H.size ∧ q < H1.size ∧ base ≤ q))
    (hc : am_cell D cA (am_ext al h.2.1 q) s H1 q c1) (hv : ∀ v ∈ c1.2, am_vk (h.2.1 + 1) v) (hz : H.size ≤ H1.size) (ho : ∀ x, x < H.size → H1[x]? = H[x]?) : am_rel D cA base (am_ext al h.2.1 q) s H1 (am_new h c1 n) := by
  have key : ∀ j cj, (am_new h c1 n).1 j = some cj → (j = h.2.1 ∧ cj = c1) ∨ (j < h.2.1 ∧ h.1 j = some cj) := by
    intro j cj hj
    by_cases e : j = h.2.1
    · subst e
      have e1 : (am_new h c1 n).1 h.2.1 = some c1 := if_pos rfl
      rw [e1] at hj
      cases hj
      exact Or.inl ⟨rfl, rfl⟩
    · have e1 : (am_new h c1 n).1 j = h.1 j := if_neg e
      rw [e1] at hj
      exact Or.inr ⟨(hr.1 j cj hj).1, hj⟩
  refine ⟨fun j cj hj => ?_, fun i j ci cj hi hj h1 h2 h3 => ?_⟩
  · rcases key j cj hj with ⟨rfl, rfl⟩ | ⟨hlt, h0⟩
    · rw [am_ext_self]
      refine ⟨Nat.lt_succ_self _, fun z => ?_, hc, fun z => ?_, hv⟩
      · rcases hq with g | g
        · omega
        · exact g.2.1
      · rcases hq with g | g
        · omega
        · exact g.2.2
    · obtain ⟨g1, g2, g3, g4, g5⟩ := hr.1 j cj h0
      rw [am_ext_lt hlt]
      exact ⟨Nat.lt_succ_of_lt hlt, fun z => Nat.lt_of_lt_of_le (g2 z) hz, (g3.kept fun z => ho _ (g2 z)).to (am_map_ext g5), g4, fun v hv1 => am_vk_mono (Nat.le_succ _) (g5 v hv1)⟩
  · rcases key i ci hi with ⟨rfl, rfl⟩ | ⟨hl1, b1⟩
    · rcases key j cj hj with ⟨rfl, rfl⟩ | ⟨hl2, b2⟩
      · rfl
      · rw [am_ext_self, am_ext_lt hl2] at h3
        rcases hq with g | g
        · omega
        · have := (hr.1 j cj b2).2.1 h2
          omega
    · rcases key j cj hj with ⟨rfl, rfl⟩ | ⟨hl2, b2⟩
      · rw [am_ext_self, am_ext_lt hl1] at h3
        rcases hq with g | g
        · omega
        · have := (hr.1 i ci b1).2.1 (by omega)
          omega
      · rw [am_ext_lt hl1, am_ext_lt hl2] at h3
        exact hr.2 i j ci cj b1 b2 h1 h2 h3
/-- the locals -/
def am_loc (al : Nat → Nat) (lsM : Array Slot) (n : Nat) (ls : List Value) : Prop := lsM.size = n ∧ lv_wf lsM ∧ ls.length = n ∧ ∀ (i : Nat) (v : Value), ls[i]? = some v → v ≠ am_U → lsM[i]? = some (Slot.val (am_cv al v))
def am_prs (al : Nat → Nat) (ls : List Value) : List (Nat × Value) := (List.range ls.length).filterMap fun i => (ls[i]?).bind fun v => if v = am_U then none else some (i, am_cv al v)
theorem am_prs_mem {al : Nat → Nat} {ls : List Value} {i : Nat} {v : Value} (h : ls[i]? = some v) (hv : v ≠ am_U) : (i, am_cv al v) ∈ am_prs al ls := by
  refine List.mem_filterMap.mpr ⟨i, List.mem_range.mpr (List.getElem?_eq_some_iff.mp h).1, ?_⟩
  rw [h, Option.bind_some, if_neg hv]
theorem am_prs_of {al : Nat → Nat} {ls : List Value} {q : Nat × Value} (h : q ∈ am_prs al ls) : ∃ v, ls[q.1]? = some v ∧ v ≠ am_U ∧ q.2 = am_cv al v := by
  obtain ⟨i, -, hi⟩ := List.mem_filterMap.mp h
  cases hl : ls[i]? with
  | none => rw [hl] at hi; cases hi
  | some v =>
    rw [hl, Option.bind_some] at hi
    split at hi
    · cases hi
    · next hne => cases hi; exact ⟨v, hl, hne, rfl⟩
theorem am_loc.has {al : Nat → Nat} {lsM : Array Slot} {n : Nat} {ls : List Value} (h : am_loc al lsM n ls) : lv_has lsM n (am_prs al ls) := by
  refine ⟨h.1, h.2.1, fun q hq => ?_⟩
  obtain ⟨v, h1, h2, h3⟩ := am_prs_of hq
  rw [h3]
  exact h.2.2.2 _ _ h1 h2
theorem am_loc.kill {al : Nat → Nat} {lsM : Array Slot} {n : Nat} : ∀ (ks : List Nat) {ls : List Value}, am_loc al lsM n ls → am_loc al lsM n (am_kill ks ls)
  | [], _, h => h
  | k :: ks, ls, h => by
    refine am_loc.kill ks (ls := ls.set k am_U) ⟨h.1, h.2.1, by rw [List.length_set]; exact h.2.2.1, fun i v hi hv => ?_⟩
    by_cases e : k = i
    · subst e
      rw [List.getElem?_set] at hi
      simp only [if_true] at hi
      split at hi
      · cases hi; exact absurd rfl hv
      · cases hi
    · rw [List.getElem?_set_ne e] at hi
      exact h.2.2.2 i v hi hv
theorem am_kill_mem : ∀ (ks : List Nat) {ls : List Value} {v : Value}, v ∈ am_kill ks ls → v ∈ ls ∨ v = am_U
  | [], _, _, h => Or.inl h
  | k :: ks, ls, v, h => by
    rcases am_kill_mem ks (ls := ls.set k am_U) h with h1 | h1
    · exact (List.mem_or_eq_of_mem_set h1)
    · exact Or.inr h1
theorem am_loc.to {al be : Nat → Nat} {lsM : Array Slot} {n m : Nat} {ls : List Value} (h : am_loc al lsM n ls) (hab : ∀ k, k < m → be k = al k) (hv : ∀ v ∈ ls, am_vk m v) : am_loc be lsM n ls := by
  refine ⟨h.1, h.2.1, h.2.2.1, fun i v hi hne => ?_⟩
  have e : am_cv be v = am_cv al v := by
    have h1 := hv v (List.mem_of_getElem? hi)
    cases v <;> first | (show Value.ref _ = Value.ref _; rw [hab _ h1]) | rfl
  rw [e]
  exact h.2.2.2 i v hi hne
/-- a store of one slot, by the list that the kit's rows ask for -/
theorem am_loc.st1 {al : Nat → Nat} {lsM ls' : Array Slot} {n : Nat} {ls l1 : List Value} {i : Nat} {v : Value} (h : am_loc al lsM n ls) (hs : am_st1 ls i v = some l1)
    (h' : lv_has ls' n ((i, am_cv al v) :: (am_prs al ls).filter (fun q => !(q.1 == i) && !(q.1 + 1 == i && q.2.category == 2)))) : am_loc al ls' n l1 := by
  unfold am_st1 at hs
  split at hs
  · next hlt =>
    have key : l1 = ls.set i v ∧ (i = 0 ∨ am_nl (ls.getD (i - 1) am_U) = true) := by
      split at hs
      · next e => subst e; cases hs; exact ⟨rfl, Or.inl rfl⟩
      · split at hs
        · next e => cases hs; exact ⟨rfl, Or.inr e⟩
        · cases hs
    obtain ⟨rfl, hp⟩ := key
    refine ⟨h'.1, h'.2.1, by rw [List.length_set]; exact h.2.2.1, fun j w hj hw => ?_⟩
    by_cases e : i = j
    · subst e
      rw [List.getElem?_set] at hj
      simp only [if_true] at hj
      split at hj
      · cases hj; exact h'.2.2 (i, am_cv al v) List.mem_cons_self
      · next hnl => exact absurd hlt hnl
    · rw [List.getElem?_set_ne e] at hj
      refine h'.2.2 (j, am_cv al w) (List.mem_cons_of_mem _ (List.mem_filter.mpr ⟨am_prs_mem hj hw, ?_⟩))
      have e1 : (j == i) = false := by simpa using fun z => e z.symm
      have e2 : (j + 1 == i && (am_cv al w).category == 2) = false := by
        by_cases e3 : j + 1 = i
        · rcases hp with hp | hp
          · omega
          · rw [show i - 1 = j by omega, List.getD_eq_getElem?_getD, hj] at hp
            have h5 := am_nl_cat hp
            rw [am_cv_cat]
            simp only [Option.getD_some] at h5
            rw [h5]
            simp
        · simp [e3]
      simp only [e1, e2]
      rfl
  · cases hs
theorem am_loc.st2 {al : Nat → Nat} {lsM ls' : Array Slot} {n : Nat} {ls l1 : List Value} {i : Nat} {v : Value} (h : am_loc al lsM n ls) (hs : am_st2 ls i v = some l1)
    (h' : lv_has ls' n ((i, am_cv al v) :: (am_prs al ls).filter (fun q => !(q.1 == i) && (!(q.1 == i + 1) && !(q.1 + 1 == i && q.2.category == 2))))) : am_loc al ls' n l1 := by
  unfold am_st2 at hs
  split at hs
  · next hlt =>
    have key : l1 = (ls.set i v).set (i + 1) am_U ∧ (i = 0 ∨ am_nl (ls.getD (i - 1) am_U) = true) := by
      split at hs
      · next e => subst e; cases hs; exact ⟨rfl, Or.inl rfl⟩
      · split at hs
        · next e => cases hs; exact ⟨rfl, Or.inr e⟩
        · cases hs
    obtain ⟨rfl, hp⟩ := key
    refine ⟨h'.1, h'.2.1, by rw [List.length_set, List.length_set]; exact h.2.2.1, fun j w hj hw => ?_⟩
    by_cases e0 : i + 1 = j
    · subst e0
      rw [List.getElem?_set] at hj
      simp only [if_true] at hj
      split at hj
      · cases hj; exact absurd rfl hw
      · cases hj
    rw [List.getElem?_set_ne e0] at hj
    by_cases e : i = j
    · subst e
      rw [List.getElem?_set] at hj
      simp only [if_true] at hj
      split at hj
      · cases hj; exact h'.2.2 (i, am_cv al v) List.mem_cons_self
      · cases hj
    · rw [List.getElem?_set_ne e] at hj
      refine h'.2.2 (j, am_cv al w) (List.mem_cons_of_mem _ (List.mem_filter.mpr ⟨am_prs_mem hj hw, ?_⟩))
      have e1 : (j == i) = false := by simpa using fun z => e z.symm
      have e4 : (j == i + 1) = false := by simpa using fun z => e0 z.symm
      have e2 : (j + 1 == i && (am_cv al w).category == 2) = false := by
        by_cases e3 : j + 1 = i
        · rcases hp with hp | hp
          · omega
          · rw [show i - 1 = j by omega, List.getD_eq_getElem?_getD, hj] at hp
            have h5 := am_nl_cat hp
            rw [am_cv_cat]
            simp only [Option.getD_some] at h5
            rw [h5]
            simp
        · simp [e3]
      simp only [e1, e2, e4]
      rfl
  · cases hs
theorem am_st1_mem {ls l1 : List Value} {i : Nat} {v w : Value} (hs : am_st1 ls i v = some l1) (hw : w ∈ l1) : w ∈ ls ∨ w = v := by
  unfold am_st1 at hs
  split at hs
  · split at hs
    · cases hs; exact List.mem_or_eq_of_mem_set hw
    · split at hs
      · cases hs; exact List.mem_or_eq_of_mem_set hw
      · cases hs
  · cases hs
theorem am_st2_mem {ls l1 : List Value} {i : Nat} {v w : Value} (hs : am_st2 ls i v = some l1) (hw : w ∈ l1) : w ∈ ls ∨ w = v ∨ w = am_U := by
  have key : ∀ k, w ∈ (ls.set k v).set (k + 1) am_U → w ∈ ls ∨ w = v ∨ w = am_U := fun k hk => by
    rcases List.mem_or_eq_of_mem_set hk with h1 | h1
    · rcases List.mem_or_eq_of_mem_set h1 with h2 | h2
      · exact Or.inl h2
      · exact Or.inr (Or.inl h2)
    · exact Or.inr (Or.inr h1)
  unfold am_st2 at hs
  split at hs
  · split at hs
    · cases hs; exact key 0 hw
    · split at hs
      · cases hs; exact key i hw
      · cases hs
  · cases hs
theorem am_st1_lt {ls l1 : List Value} {i : Nat} {v : Value} (hs : am_st1 ls i v = some l1) : i < ls.length := by
  unfold am_st1 at hs
  split at hs
  · assumption
  · cases hs
theorem am_st2_lt {ls l1 : List Value} {i : Nat} {v : Value} (hs : am_st2 ls i v = some l1) : i + 1 < ls.length := by
  unfold am_st2 at hs
  split at hs
  · assumption
  · cases hs
/-- what stands of the start beside the cells -/
def am_nw : Cond → Bool
  | .fieldLinkNest .. => true
  | .methodLinkNest .. => true
  | .castable .. => true
  | .declares _ => true
  | _ => false
theorem am_nw_warm {w : Cond} {s U : State} (hn : am_nw w = true) (hW : s.WarmedH U.vm) (h : va_Nw w s) : va_Nw w U := by
  cases w <;> first | exact va_Nw.warmF hW h | exact va_Nw.warmM hW h | exact va_Nw.warmC hW h | exact va_Nw.warmD hW h | (simp [am_nw] at hn)
def am_Phi (D : va_G) (cA : Nat → ClassId) (base : Nat) (al : Nat → Nat) (s : State) (H : Heap) : Prop :=
  (∀ (c : Nat) (q : vw_C), vwCl[c]? = some q → u_Kn s q.1 q.2.1 q.2.2 (D.1 c) (D.2 c)) ∧
  (∀ t, 50 ≤ t → t < 55 → ArrOfT s (cA t) (am_ty t) ∧ va_RA s (cA t) (am_ty t)) ∧
  (∀ w ∈ lw_tbl, am_nw w = true → va_Nw w s) ∧
  (va_AO "java/lang/Object" s ∧ va_AO "EmpireTurns$Treaty" s) ∧
  (∀ k z, am_stat[k]? = some z → va_Z z.1 z.2.1 z.2.2 (.ref (al k)) (fun q => base ≤ q) s H) ∧
  (vx_Zq Bundle.tN "UNASSIGNED_STACK" Bundle.steD (fun q => base ≤ q) s H ∧ vx_Zq Bundle.tN "SUPPRESSED_SENTINEL" Bundle.listD (fun q => base ≤ q) s H) ∧
  (∀ z ∈ am_strs, ∃ a, vk_R z.1 z.2.1 z.2.2 a s) ∧
  va_Mi "[Ljava/lang/Object;" (al 10) s ∧
  ∀ E F, E < 3 → F < 3 → E ≠ F → va_Nc (am_ExN E) (am_ExN F) s
theorem am_Phi.moved {D : va_G} {cA : Nat → ClassId} {base : Nat} {al : Nat → Nat} {s U : State} {H : Heap} (hW : s.WarmedH U.vm) (h : am_Phi D cA base al s H) : am_Phi D cA base al U H := by
  obtain ⟨h1, h2, h3, h4, h5, h6, h7, h8, h9⟩ := h
  have hv := hW.alike
  exact ⟨fun c q hq => u_Kn_moved hv (h1 c q hq), fun t z z2 => ⟨arrOfT_moved hv (h2 t z z2).1, (h2 t z z2).2.moved hv⟩, fun w hw hn => am_nw_warm hn hW (h3 w hw hn), ⟨h4.1.moved hv, h4.2.moved hv⟩, fun k z hz => (h5 k z hz).moved hv, ⟨h6.1.moved hv, h6.2.moved hv⟩,
    fun z hz => by obtain ⟨a, ha⟩ := h7 z hz; exact ⟨a, ha.warm hW⟩, h8.moved hv, fun E F a b c => (h9 E F a b c).moved hv⟩
theorem am_Phi.kept {D : va_G} {cA : Nat → ClassId} {base : Nat} {al : Nat → Nat} {s : State} {H H1 : Heap} (hq : ∀ q : Nat, q < H.size → ¬ base ≤ q → H1[q]? = H[q]?) (h : am_Phi D cA base al s H) : am_Phi D cA base al s H1 := by
  obtain ⟨h1, h2, h3, h4, h5, h6, h7, h8, h9⟩ := h
  exact ⟨h1, h2, h3, h4, fun k z hz => (h5 k z hz).kept hq, ⟨h6.1.kept hq, h6.2.kept hq⟩, h7, h8, h9⟩
theorem am_Phi.to {D : va_G} {cA : Nat → ClassId} {base : Nat} {al be : Nat → Nat} {s : State} {H : Heap} (hab : ∀ k, k < 12 → be k = al k) (h : am_Phi D cA base al s H) : am_Phi D cA base be s H := by
  obtain ⟨h1, h2, h3, h4, h5, h6, h7, h8, h9⟩ := h
  refine ⟨h1, h2, h3, h4, fun k z hz => ?_, h6, h7, ?_, h9⟩
  · have hk : k < 10 := (List.getElem?_eq_some_iff.mp hz).1
    rw [hab k (by omega)]
    exact h5 k z hz
  · rw [hab 10 (by omega)]
    exact h8
theorem am_Phi.K {D : va_G} {cA : Nat → ClassId} {base : Nat} {al : Nat → Nat} {s : State} {H : Heap} (h : am_Phi D cA base al s H) : va_K D vwCl [] s := ⟨h.1, fun k q hq => by simp at hq⟩
