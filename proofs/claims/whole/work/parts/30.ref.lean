/-! THE REFERENCE'S CELLS as a function of a state: G f k is the k-th of the row of the field f (a field that is an int: G f 0), L k the k-th of plans (printed by wip/gen/gen_ref.py) -/
abbrev am_G : Type := Nat → Nat → Int32
def am_I (i : Int32) (n : Nat) : Prop := ¬ i < 0 ∧ i.toNatClampNeg < n
theorem am_I.ix {i : Int32} {n : Nat} (h : am_I i n) : am_ix i = some i.toNatClampNeg := if_neg h.1
theorem am_I.mono {i : Int32} {n m : Nat} (h : am_I i n) (hn : n ≤ m) : am_I i m := ⟨h.1, Nat.lt_of_lt_of_le h.2 hn⟩
theorem am_I.nat {k n : Nat} (h : k < n) (hn : n ≤ 100000) : am_I (Int32.ofNat k) n := by
  have h9 : k < 2 ^ 31 := by omega
  refine ⟨?_, by rw [Int32.toNatClampNeg_ofNat_of_lt h9]; exact h⟩
  rw [Int32.not_lt]
  exact Int32.zero_le_ofNat_of_lt h9
def am_row (n : Nat) (g : Nat → Int32) : List Value := (List.range n).map fun k => .int (g k)
def am_rowl (n : Nat) (g : Nat → Int64) : List Value := (List.range n).map fun k => .long (g k)
def am_upd {α : Type} (g : Nat → α) (k : Nat) (v : α) : Nat → α := fun j => if j = k then v else g j
def am_up (G : am_G) (a k : Nat) (v : Int32) : am_G := fun b => if b = a then am_upd (G a) k v else G b
theorem am_row_get {n : Nat} {g : Nat → Int32} {k : Nat} (h : k < n) : (am_row n g)[k]? = some (.int (g k)) := by
  unfold am_row
  rw [List.getElem?_map, List.getElem?_range h]
  rfl
theorem am_rowl_get {n : Nat} {g : Nat → Int64} {k : Nat} (h : k < n) : (am_rowl n g)[k]? = some (.long (g k)) := by
  unfold am_rowl
  rw [List.getElem?_map, List.getElem?_range h]
  rfl
theorem am_row_len {n : Nat} {g : Nat → Int32} : (am_row n g).length = n := by
  unfold am_row
  rw [List.length_map, List.length_range]
theorem am_rowl_len {n : Nat} {g : Nat → Int64} : (am_rowl n g).length = n := by
  unfold am_rowl
  rw [List.length_map, List.length_range]
theorem am_map_set {α β : Type} {n : Nat} {g : Nat → α} {F : α → β} {k : Nat} {v : α} : ((List.range n).map fun j => F (g j)).set k (F v) = (List.range n).map fun j => F (am_upd g k v j) := by
  refine List.ext_getElem? fun j => ?_
  rw [List.getElem?_set, List.getElem?_map, List.getElem?_map, List.length_map, List.length_range]
  rcases Nat.lt_or_ge j n with hj | hj
  · rw [List.getElem?_range hj]
    by_cases e : k = j
    · subst e
      rw [if_pos rfl, if_pos hj]
      exact congrArg some (congrArg F (if_pos rfl).symm)
    · rw [if_neg e]
      exact congrArg some (congrArg F (if_neg (fun q => e q.symm)).symm)
  · have e0 : (List.range n)[j]? = none := List.getElem?_eq_none (by rw [List.length_range]; exact hj)
    rw [e0]
    by_cases e : k = j
    · subst e
      rw [if_pos rfl, if_neg (Nat.not_lt.mpr hj)]
      rfl
    · rw [if_neg e]
      rfl
theorem am_row_set {n : Nat} {g : Nat → Int32} {k : Nat} {v : Int32} : (am_row n g).set k (.int v) = am_row n (am_upd g k v) := am_map_set
theorem am_rowl_set {n : Nat} {g : Nat → Int64} {k : Nat} {v : Int64} : (am_rowl n g).set k (.long v) = am_rowl n (am_upd g k v) := am_map_set
theorem am_ald_row {h : am_H} {k t n : Nat} {g : Nat → Int32} {ts : List Nat} {i : Int32} (h0 : h.1 k = some (t, am_row n g)) (ht : t ∈ ts) (hi : am_I i n) : am_ald h k ts 0 i = some (.int (g i.toNatClampNeg)) := by
  unfold am_ald
  rw [h0, Option.bind_some]
  dsimp only
  rw [if_pos ht, hi.ix, Option.bind_some, am_row_get hi.2]
  rfl
theorem am_ald_rowl {h : am_H} {k t n : Nat} {g : Nat → Int64} {ts : List Nat} {i : Int32} (h0 : h.1 k = some (t, am_rowl n g)) (ht : t ∈ ts) (hi : am_I i n) : am_ald h k ts 1 i = some (.long (g i.toNatClampNeg)) := by
  unfold am_ald
  rw [h0, Option.bind_some]
  dsimp only
  rw [if_pos ht, hi.ix, Option.bind_some, am_rowl_get hi.2]
  rfl
theorem am_ast_row {h : am_H} {k t n : Nat} {g : Nat → Int32} {i v : Int32} (h0 : h.1 k = some (t, am_row n g)) (hi : am_I i n) : am_ast h k t 0 i (.int v) = some (am_set h k (t, am_row n (am_upd g i.toNatClampNeg v))) := by
  unfold am_ast
  rw [h0, Option.bind_some]
  dsimp only
  rw [if_pos ⟨rfl, rfl⟩, hi.ix, Option.bind_some, am_row_len, if_pos hi.2, am_row_set]
theorem am_ast_rowl {h : am_H} {k t n : Nat} {g : Nat → Int64} {i : Int32} {v : Int64} (h0 : h.1 k = some (t, am_rowl n g)) (hi : am_I i n) : am_ast h k t 1 i (.long v) = some (am_set h k (t, am_rowl n (am_upd g i.toNatClampNeg v))) := by
  unfold am_ast
  rw [h0, Option.bind_some]
  dsimp only
  rw [if_pos ⟨rfl, rfl⟩, hi.ix, Option.bind_some, am_rowl_len, if_pos hi.2, am_rowl_set]
/-- what cell 41 + j holds: its tag, its field, its length -/
def am_ci : List (Nat × Nat × Nat) := [(50, 2, 64), (50, 3, 64), (50, 4, 64), (50, 5, 64), (52, 7, 12), (50, 8, 12), (50, 9, 12), (50, 10, 12), (50, 11, 12), (50, 12, 12), (50, 13, 12), (50, 14, 12), (50, 15, 36), (50, 16, 72), (50, 17, 12), (51, 18, 12), (50, 20, 24), (50, 21, 24), (50, 22, 24), (50, 23, 62500), (50, 26, 41), (50, 27, 41), (50, 28, 41), (50, 29, 41), (50, 30, 41), (50, 31, 41), (50, 32, 41), (50, 33, 41), (50, 34, 4), (50, 35, 4), (50, 36, 4), (50, 37, 4), (50, 38, 4), (50, 39, 4), (50, 40, 32), (50, 41, 10), (50, 42, 16), (50, 43, 16), (50, 44, 16), (50, 46, 40), (50, 47, 40), (50, 48, 40), (50, 49, 40), (50, 50, 40), (50, 51, 40), (50, 52, 40)]
def am_mo (G : am_G) : List Value := [.int (G 0 0), .int (G 1 0), .ref 41, .ref 42, .ref 43, .ref 44, .int (G 6 0), .ref 45, .ref 46, .ref 47, .ref 48, .ref 49, .ref 50, .ref 51, .ref 52, .ref 53, .ref 54, .ref 55, .ref 56, .int (G 19 0), .ref 57, .ref 58, .ref 59, .ref 60, .int (G 24 0), .int (G 25 0), .ref 61, .ref 62, .ref 63, .ref 64, .ref 65, .ref 66, .ref 67, .ref 68, .ref 69, .ref 70, .ref 71, .ref 72, .ref 73, .ref 74, .ref 75, .ref 76, .ref 77, .ref 78, .ref 79, .int (G 45 0), .ref 80, .ref 81, .ref 82, .ref 83, .ref 84, .ref 85, .ref 86]
def am_rc (G : am_G) (L : Nat → Int64) (q : Nat × Nat × Nat) : am_C := (q.1, if q.1 = 51 then am_rowl q.2.2 L else am_row q.2.2 (G q.2.1))
def am_ov (G : am_G) (L : Nat → Int64) (r : am_H) : am_H := (fun k => if k = 40 then some (12, am_mo G) else if 40 < k ∧ k ≤ 86 then (am_ci[k - 41]?).map (am_rc G L) else r.1 k, r.2)
theorem am_ov_set {G G' : am_G} {L L' : Nat → Int64} {r : am_H} {k : Nat} {c : am_C} (h0 : (am_ov G' L' r).1 k = some c) (h1 : ∀ j, ¬ j = k → (am_ov G' L' r).1 j = (am_ov G L r).1 j) : am_set (am_ov G L r) k c = am_ov G' L' r := by
  refine Prod.ext (funext fun j => ?_) rfl
  show (if j = k then some c else (am_ov G L r).1 j) = _
  by_cases e : j = k
  · subst e
    rw [if_pos rfl, h0]
  · rw [if_neg e, h1 j e]
theorem am_ov_ne {G G' : am_G} {L L' : Nat → Int64} {r : am_H} {k : Nat} (hm : am_mo G' = am_mo G ∨ k = 40) (hc : ∀ j q, am_ci[j]? = some q → 41 + j = k ∨ am_rc G' L' q = am_rc G L q) : ∀ j, ¬ j = k → (am_ov G' L' r).1 j = (am_ov G L r).1 j := by
  intro j hj
  show (if j = 40 then some (12, am_mo G') else if 40 < j ∧ j ≤ 86 then (am_ci[j - 41]?).map (am_rc G' L') else r.1 j) = (if j = 40 then some (12, am_mo G) else if 40 < j ∧ j ≤ 86 then (am_ci[j - 41]?).map (am_rc G L) else r.1 j)
  by_cases e : j = 40
  · rw [if_pos e, if_pos e]
    rcases hm with hm | hm
    · rw [hm]
    · exact absurd (e.trans hm.symm) hj
  · rw [if_neg e, if_neg e]
    by_cases e2 : 40 < j ∧ j ≤ 86
    · rw [if_pos e2, if_pos e2]
      cases hq : am_ci[j - 41]? with
      | none => rfl
      | some q =>
        rcases hc _ q hq with h9 | h9
        · omega
        · exact congrArg some h9
    · rw [if_neg e2, if_neg e2]
theorem am_ci_sc : ∀ q ∈ am_ci, ¬ q.2.1 = 0 ∧ ¬ q.2.1 = 1 ∧ ¬ q.2.1 = 6 ∧ ¬ q.2.1 = 19 ∧ ¬ q.2.1 = 24 ∧ ¬ q.2.1 = 25 ∧ ¬ q.2.1 = 45 := by decide
theorem am_ci_inj : ∀ j < 46, ∀ k < 46, (am_ci.getD j (0, 0, 0)).2.1 = (am_ci.getD k (0, 0, 0)).2.1 → j = k := by decide +kernel
theorem am_rc_up {G : am_G} {L : Nat → Int64} {q : Nat × Nat × Nat} {f k : Nat} {v : Int32} (h : ¬ q.2.1 = f) : am_rc (am_up G f k v) L q = am_rc G L q := by
  unfold am_rc am_up
  rw [if_neg h]
theorem am_ov_row {G : am_G} {L : Nat → Int64} {r : am_H} {f k c n t : Nat} {v : Int32} (hc : 40 < c ∧ c ≤ 86) (hq : am_ci[c - 41]? = some (t, f, n)) (ht : ¬ t = 51) (hf : am_mo (am_up G f k v) = am_mo G) : am_set (am_ov G L r) c (t, am_row n (am_upd (G f) k v)) = am_ov (am_up G f k v) L r := by
  refine am_ov_set ?_ (am_ov_ne (Or.inl hf) fun j q hj => ?_)
  · show (if c = 40 then _ else if 40 < c ∧ c ≤ 86 then (am_ci[c - 41]?).map (am_rc (am_up G f k v) L) else r.1 c) = _
    rw [if_neg (by omega), if_pos hc, hq]
    show some (am_rc (am_up G f k v) L (t, f, n)) = _
    unfold am_rc am_up
    rw [if_neg ht, if_pos rfl]
  · by_cases e : q.2.1 = f
    · left
      have h1 := (List.getElem?_eq_some_iff.mp hj).1
      have h2 := (List.getElem?_eq_some_iff.mp hq).1
      have h3 : am_ci.length = 46 := rfl
      have h4 := am_ci_inj j (by omega) (c - 41) (by omega) (by rw [List.getD_eq_getElem?_getD, List.getD_eq_getElem?_getD, hj, hq]; exact e)
      omega
    · exact Or.inr (am_rc_up e)
theorem am_ov_sc {G : am_G} {L : Nat → Int64} {r : am_H} {f : Nat} {v : Int32} (hs : ∀ q ∈ am_ci, ¬ q.2.1 = f) : am_set (am_ov G L r) 40 (12, am_mo (am_up G f 0 v)) = am_ov (am_up G f 0 v) L r :=
  am_ov_set rfl (am_ov_ne (Or.inr rfl) fun j q hj => Or.inr (am_rc_up (hs q (List.mem_of_getElem? hj))))
theorem am_ov_pl {G : am_G} {L : Nat → Int64} {r : am_H} {k : Nat} {v : Int64} : am_set (am_ov G L r) 56 (51, am_rowl 12 (am_upd L k v)) = am_ov G (am_upd L k v) r := by
  refine am_ov_set rfl (am_ov_ne (Or.inl rfl) fun j q hj => ?_)
  by_cases e : j = 15
  · left; omega
  · right
    have h5 : ∀ j < 46, ¬ j = 15 → ¬ (am_ci.getD j (0, 0, 0)).1 = 51 := by decide
    have h1 := (List.getElem?_eq_some_iff.mp hj).1
    have h3 : am_ci.length = 46 := rfl
    have h6 := h5 j (by omega) e
    rw [List.getD_eq_getElem?_getD, hj] at h6
    have h6 : ¬ q.1 = 51 := h6
    unfold am_rc
    rw [if_neg h6, if_neg h6]
theorem am_gM0 {G : am_G} {L : Nat → Int64} {r : am_H} : am_getf (am_ov G L r) 40 12 0 = some (.int (G 0 0)) := rfl
theorem am_pM0 {G : am_G} {L : Nat → Int64} {r : am_H} {v : Int32} : am_putf (am_ov G L r) 40 12 0 0 (.int v) = some (am_ov (am_up G 0 0 v) L r) := by
  rw [← am_ov_sc (fun q hq => (am_ci_sc q hq).1)]
  rfl
theorem am_gM1 {G : am_G} {L : Nat → Int64} {r : am_H} : am_getf (am_ov G L r) 40 12 1 = some (.int (G 1 0)) := rfl
theorem am_pM1 {G : am_G} {L : Nat → Int64} {r : am_H} {v : Int32} : am_putf (am_ov G L r) 40 12 1 0 (.int v) = some (am_ov (am_up G 1 0 v) L r) := by
  rw [← am_ov_sc (fun q hq => (am_ci_sc q hq).2.1)]
  rfl
theorem am_gM2 {G : am_G} {L : Nat → Int64} {r : am_H} : am_getf (am_ov G L r) 40 12 2 = some (.ref 41) := rfl
theorem am_lM2 {G : am_G} {L : Nat → Int64} {r : am_H} {i : Int32} (hi : am_I i 64) : am_ald (am_ov G L r) 41 [50, 60] 0 i = some (.int (G 2 i.toNatClampNeg)) := am_ald_row (n := 64) rfl (by decide) hi
theorem am_sM2 {G : am_G} {L : Nat → Int64} {r : am_H} {i v : Int32} (hi : am_I i 64) : am_ast (am_ov G L r) 41 50 0 i (.int v) = some (am_ov (am_up G 2 i.toNatClampNeg v) L r) := by
  rw [am_ast_row (n := 64) (g := G 2) rfl hi, am_ov_row (by decide) rfl (by decide) rfl]
theorem am_gM3 {G : am_G} {L : Nat → Int64} {r : am_H} : am_getf (am_ov G L r) 40 12 3 = some (.ref 42) := rfl
theorem am_lM3 {G : am_G} {L : Nat → Int64} {r : am_H} {i : Int32} (hi : am_I i 64) : am_ald (am_ov G L r) 42 [50, 60] 0 i = some (.int (G 3 i.toNatClampNeg)) := am_ald_row (n := 64) rfl (by decide) hi
theorem am_sM3 {G : am_G} {L : Nat → Int64} {r : am_H} {i v : Int32} (hi : am_I i 64) : am_ast (am_ov G L r) 42 50 0 i (.int v) = some (am_ov (am_up G 3 i.toNatClampNeg v) L r) := by
  rw [am_ast_row (n := 64) (g := G 3) rfl hi, am_ov_row (by decide) rfl (by decide) rfl]
theorem am_gM4 {G : am_G} {L : Nat → Int64} {r : am_H} : am_getf (am_ov G L r) 40 12 4 = some (.ref 43) := rfl
theorem am_lM4 {G : am_G} {L : Nat → Int64} {r : am_H} {i : Int32} (hi : am_I i 64) : am_ald (am_ov G L r) 43 [50, 60] 0 i = some (.int (G 4 i.toNatClampNeg)) := am_ald_row (n := 64) rfl (by decide) hi
theorem am_sM4 {G : am_G} {L : Nat → Int64} {r : am_H} {i v : Int32} (hi : am_I i 64) : am_ast (am_ov G L r) 43 50 0 i (.int v) = some (am_ov (am_up G 4 i.toNatClampNeg v) L r) := by
  rw [am_ast_row (n := 64) (g := G 4) rfl hi, am_ov_row (by decide) rfl (by decide) rfl]
theorem am_gM5 {G : am_G} {L : Nat → Int64} {r : am_H} : am_getf (am_ov G L r) 40 12 5 = some (.ref 44) := rfl
theorem am_lM5 {G : am_G} {L : Nat → Int64} {r : am_H} {i : Int32} (hi : am_I i 64) : am_ald (am_ov G L r) 44 [50, 60] 0 i = some (.int (G 5 i.toNatClampNeg)) := am_ald_row (n := 64) rfl (by decide) hi
theorem am_sM5 {G : am_G} {L : Nat → Int64} {r : am_H} {i v : Int32} (hi : am_I i 64) : am_ast (am_ov G L r) 44 50 0 i (.int v) = some (am_ov (am_up G 5 i.toNatClampNeg v) L r) := by
  rw [am_ast_row (n := 64) (g := G 5) rfl hi, am_ov_row (by decide) rfl (by decide) rfl]
theorem am_gM6 {G : am_G} {L : Nat → Int64} {r : am_H} : am_getf (am_ov G L r) 40 12 6 = some (.int (G 6 0)) := rfl
theorem am_pM6 {G : am_G} {L : Nat → Int64} {r : am_H} {v : Int32} : am_putf (am_ov G L r) 40 12 6 0 (.int v) = some (am_ov (am_up G 6 0 v) L r) := by
  rw [← am_ov_sc (fun q hq => (am_ci_sc q hq).2.2.1)]
  rfl
theorem am_gM7 {G : am_G} {L : Nat → Int64} {r : am_H} : am_getf (am_ov G L r) 40 12 7 = some (.ref 45) := rfl
theorem am_lM7 {G : am_G} {L : Nat → Int64} {r : am_H} {i : Int32} (hi : am_I i 12) : am_ald (am_ov G L r) 45 [52] 0 i = some (.int (G 7 i.toNatClampNeg)) := am_ald_row (n := 12) rfl (by decide) hi
theorem am_sM7 {G : am_G} {L : Nat → Int64} {r : am_H} {i v : Int32} (hi : am_I i 12) : am_ast (am_ov G L r) 45 52 0 i (.int v) = some (am_ov (am_up G 7 i.toNatClampNeg v) L r) := by
  rw [am_ast_row (n := 12) (g := G 7) rfl hi, am_ov_row (by decide) rfl (by decide) rfl]
theorem am_gM8 {G : am_G} {L : Nat → Int64} {r : am_H} : am_getf (am_ov G L r) 40 12 8 = some (.ref 46) := rfl
theorem am_lM8 {G : am_G} {L : Nat → Int64} {r : am_H} {i : Int32} (hi : am_I i 12) : am_ald (am_ov G L r) 46 [50, 60] 0 i = some (.int (G 8 i.toNatClampNeg)) := am_ald_row (n := 12) rfl (by decide) hi
theorem am_sM8 {G : am_G} {L : Nat → Int64} {r : am_H} {i v : Int32} (hi : am_I i 12) : am_ast (am_ov G L r) 46 50 0 i (.int v) = some (am_ov (am_up G 8 i.toNatClampNeg v) L r) := by
  rw [am_ast_row (n := 12) (g := G 8) rfl hi, am_ov_row (by decide) rfl (by decide) rfl]
theorem am_gM9 {G : am_G} {L : Nat → Int64} {r : am_H} : am_getf (am_ov G L r) 40 12 9 = some (.ref 47) := rfl
theorem am_lM9 {G : am_G} {L : Nat → Int64} {r : am_H} {i : Int32} (hi : am_I i 12) : am_ald (am_ov G L r) 47 [50, 60] 0 i = some (.int (G 9 i.toNatClampNeg)) := am_ald_row (n := 12) rfl (by decide) hi
theorem am_sM9 {G : am_G} {L : Nat → Int64} {r : am_H} {i v : Int32} (hi : am_I i 12) : am_ast (am_ov G L r) 47 50 0 i (.int v) = some (am_ov (am_up G 9 i.toNatClampNeg v) L r) := by
  rw [am_ast_row (n := 12) (g := G 9) rfl hi, am_ov_row (by decide) rfl (by decide) rfl]
theorem am_gM10 {G : am_G} {L : Nat → Int64} {r : am_H} : am_getf (am_ov G L r) 40 12 10 = some (.ref 48) := rfl
theorem am_lM10 {G : am_G} {L : Nat → Int64} {r : am_H} {i : Int32} (hi : am_I i 12) : am_ald (am_ov G L r) 48 [50, 60] 0 i = some (.int (G 10 i.toNatClampNeg)) := am_ald_row (n := 12) rfl (by decide) hi
theorem am_sM10 {G : am_G} {L : Nat → Int64} {r : am_H} {i v : Int32} (hi : am_I i 12) : am_ast (am_ov G L r) 48 50 0 i (.int v) = some (am_ov (am_up G 10 i.toNatClampNeg v) L r) := by
  rw [am_ast_row (n := 12) (g := G 10) rfl hi, am_ov_row (by decide) rfl (by decide) rfl]
theorem am_gM11 {G : am_G} {L : Nat → Int64} {r : am_H} : am_getf (am_ov G L r) 40 12 11 = some (.ref 49) := rfl
theorem am_lM11 {G : am_G} {L : Nat → Int64} {r : am_H} {i : Int32} (hi : am_I i 12) : am_ald (am_ov G L r) 49 [50, 60] 0 i = some (.int (G 11 i.toNatClampNeg)) := am_ald_row (n := 12) rfl (by decide) hi
theorem am_sM11 {G : am_G} {L : Nat → Int64} {r : am_H} {i v : Int32} (hi : am_I i 12) : am_ast (am_ov G L r) 49 50 0 i (.int v) = some (am_ov (am_up G 11 i.toNatClampNeg v) L r) := by
  rw [am_ast_row (n := 12) (g := G 11) rfl hi, am_ov_row (by decide) rfl (by decide) rfl]
theorem am_gM12 {G : am_G} {L : Nat → Int64} {r : am_H} : am_getf (am_ov G L r) 40 12 12 = some (.ref 50) := rfl
theorem am_lM12 {G : am_G} {L : Nat → Int64} {r : am_H} {i : Int32} (hi : am_I i 12) : am_ald (am_ov G L r) 50 [50, 60] 0 i = some (.int (G 12 i.toNatClampNeg)) := am_ald_row (n := 12) rfl (by decide) hi
theorem am_sM12 {G : am_G} {L : Nat → Int64} {r : am_H} {i v : Int32} (hi : am_I i 12) : am_ast (am_ov G L r) 50 50 0 i (.int v) = some (am_ov (am_up G 12 i.toNatClampNeg v) L r) := by
  rw [am_ast_row (n := 12) (g := G 12) rfl hi, am_ov_row (by decide) rfl (by decide) rfl]
theorem am_gM13 {G : am_G} {L : Nat → Int64} {r : am_H} : am_getf (am_ov G L r) 40 12 13 = some (.ref 51) := rfl
theorem am_lM13 {G : am_G} {L : Nat → Int64} {r : am_H} {i : Int32} (hi : am_I i 12) : am_ald (am_ov G L r) 51 [50, 60] 0 i = some (.int (G 13 i.toNatClampNeg)) := am_ald_row (n := 12) rfl (by decide) hi
theorem am_sM13 {G : am_G} {L : Nat → Int64} {r : am_H} {i v : Int32} (hi : am_I i 12) : am_ast (am_ov G L r) 51 50 0 i (.int v) = some (am_ov (am_up G 13 i.toNatClampNeg v) L r) := by
  rw [am_ast_row (n := 12) (g := G 13) rfl hi, am_ov_row (by decide) rfl (by decide) rfl]
theorem am_gM14 {G : am_G} {L : Nat → Int64} {r : am_H} : am_getf (am_ov G L r) 40 12 14 = some (.ref 52) := rfl
theorem am_lM14 {G : am_G} {L : Nat → Int64} {r : am_H} {i : Int32} (hi : am_I i 12) : am_ald (am_ov G L r) 52 [50, 60] 0 i = some (.int (G 14 i.toNatClampNeg)) := am_ald_row (n := 12) rfl (by decide) hi
theorem am_sM14 {G : am_G} {L : Nat → Int64} {r : am_H} {i v : Int32} (hi : am_I i 12) : am_ast (am_ov G L r) 52 50 0 i (.int v) = some (am_ov (am_up G 14 i.toNatClampNeg v) L r) := by
  rw [am_ast_row (n := 12) (g := G 14) rfl hi, am_ov_row (by decide) rfl (by decide) rfl]
theorem am_gM15 {G : am_G} {L : Nat → Int64} {r : am_H} : am_getf (am_ov G L r) 40 12 15 = some (.ref 53) := rfl
theorem am_lM15 {G : am_G} {L : Nat → Int64} {r : am_H} {i : Int32} (hi : am_I i 36) : am_ald (am_ov G L r) 53 [50, 60] 0 i = some (.int (G 15 i.toNatClampNeg)) := am_ald_row (n := 36) rfl (by decide) hi
theorem am_sM15 {G : am_G} {L : Nat → Int64} {r : am_H} {i v : Int32} (hi : am_I i 36) : am_ast (am_ov G L r) 53 50 0 i (.int v) = some (am_ov (am_up G 15 i.toNatClampNeg v) L r) := by
  rw [am_ast_row (n := 36) (g := G 15) rfl hi, am_ov_row (by decide) rfl (by decide) rfl]
theorem am_gM16 {G : am_G} {L : Nat → Int64} {r : am_H} : am_getf (am_ov G L r) 40 12 16 = some (.ref 54) := rfl
theorem am_lM16 {G : am_G} {L : Nat → Int64} {r : am_H} {i : Int32} (hi : am_I i 72) : am_ald (am_ov G L r) 54 [50, 60] 0 i = some (.int (G 16 i.toNatClampNeg)) := am_ald_row (n := 72) rfl (by decide) hi
theorem am_sM16 {G : am_G} {L : Nat → Int64} {r : am_H} {i v : Int32} (hi : am_I i 72) : am_ast (am_ov G L r) 54 50 0 i (.int v) = some (am_ov (am_up G 16 i.toNatClampNeg v) L r) := by
  rw [am_ast_row (n := 72) (g := G 16) rfl hi, am_ov_row (by decide) rfl (by decide) rfl]
theorem am_gM17 {G : am_G} {L : Nat → Int64} {r : am_H} : am_getf (am_ov G L r) 40 12 17 = some (.ref 55) := rfl
theorem am_lM17 {G : am_G} {L : Nat → Int64} {r : am_H} {i : Int32} (hi : am_I i 12) : am_ald (am_ov G L r) 55 [50, 60] 0 i = some (.int (G 17 i.toNatClampNeg)) := am_ald_row (n := 12) rfl (by decide) hi
theorem am_sM17 {G : am_G} {L : Nat → Int64} {r : am_H} {i v : Int32} (hi : am_I i 12) : am_ast (am_ov G L r) 55 50 0 i (.int v) = some (am_ov (am_up G 17 i.toNatClampNeg v) L r) := by
  rw [am_ast_row (n := 12) (g := G 17) rfl hi, am_ov_row (by decide) rfl (by decide) rfl]
theorem am_gM18 {G : am_G} {L : Nat → Int64} {r : am_H} : am_getf (am_ov G L r) 40 12 18 = some (.ref 56) := rfl
theorem am_lM18 {G : am_G} {L : Nat → Int64} {r : am_H} {i : Int32} (hi : am_I i 12) : am_ald (am_ov G L r) 56 [51] 1 i = some (.long (L i.toNatClampNeg)) := am_ald_rowl (n := 12) rfl (by decide) hi
theorem am_sM18 {G : am_G} {L : Nat → Int64} {r : am_H} {i : Int32} {v : Int64} (hi : am_I i 12) : am_ast (am_ov G L r) 56 51 1 i (.long v) = some (am_ov G (am_upd L i.toNatClampNeg v) r) := by
  rw [am_ast_rowl (n := 12) (g := L) rfl hi, am_ov_pl]
theorem am_gM19 {G : am_G} {L : Nat → Int64} {r : am_H} : am_getf (am_ov G L r) 40 12 19 = some (.int (G 19 0)) := rfl
theorem am_pM19 {G : am_G} {L : Nat → Int64} {r : am_H} {v : Int32} : am_putf (am_ov G L r) 40 12 19 0 (.int v) = some (am_ov (am_up G 19 0 v) L r) := by
  rw [← am_ov_sc (fun q hq => (am_ci_sc q hq).2.2.2.1)]
  rfl
theorem am_gM20 {G : am_G} {L : Nat → Int64} {r : am_H} : am_getf (am_ov G L r) 40 12 20 = some (.ref 57) := rfl
theorem am_lM20 {G : am_G} {L : Nat → Int64} {r : am_H} {i : Int32} (hi : am_I i 24) : am_ald (am_ov G L r) 57 [50, 60] 0 i = some (.int (G 20 i.toNatClampNeg)) := am_ald_row (n := 24) rfl (by decide) hi
theorem am_sM20 {G : am_G} {L : Nat → Int64} {r : am_H} {i v : Int32} (hi : am_I i 24) : am_ast (am_ov G L r) 57 50 0 i (.int v) = some (am_ov (am_up G 20 i.toNatClampNeg v) L r) := by
  rw [am_ast_row (n := 24) (g := G 20) rfl hi, am_ov_row (by decide) rfl (by decide) rfl]
theorem am_gM21 {G : am_G} {L : Nat → Int64} {r : am_H} : am_getf (am_ov G L r) 40 12 21 = some (.ref 58) := rfl
theorem am_lM21 {G : am_G} {L : Nat → Int64} {r : am_H} {i : Int32} (hi : am_I i 24) : am_ald (am_ov G L r) 58 [50, 60] 0 i = some (.int (G 21 i.toNatClampNeg)) := am_ald_row (n := 24) rfl (by decide) hi
theorem am_sM21 {G : am_G} {L : Nat → Int64} {r : am_H} {i v : Int32} (hi : am_I i 24) : am_ast (am_ov G L r) 58 50 0 i (.int v) = some (am_ov (am_up G 21 i.toNatClampNeg v) L r) := by
  rw [am_ast_row (n := 24) (g := G 21) rfl hi, am_ov_row (by decide) rfl (by decide) rfl]
theorem am_gM22 {G : am_G} {L : Nat → Int64} {r : am_H} : am_getf (am_ov G L r) 40 12 22 = some (.ref 59) := rfl
theorem am_lM22 {G : am_G} {L : Nat → Int64} {r : am_H} {i : Int32} (hi : am_I i 24) : am_ald (am_ov G L r) 59 [50, 60] 0 i = some (.int (G 22 i.toNatClampNeg)) := am_ald_row (n := 24) rfl (by decide) hi
theorem am_sM22 {G : am_G} {L : Nat → Int64} {r : am_H} {i v : Int32} (hi : am_I i 24) : am_ast (am_ov G L r) 59 50 0 i (.int v) = some (am_ov (am_up G 22 i.toNatClampNeg v) L r) := by
  rw [am_ast_row (n := 24) (g := G 22) rfl hi, am_ov_row (by decide) rfl (by decide) rfl]
theorem am_gM23 {G : am_G} {L : Nat → Int64} {r : am_H} : am_getf (am_ov G L r) 40 12 23 = some (.ref 60) := rfl
theorem am_lM23 {G : am_G} {L : Nat → Int64} {r : am_H} {i : Int32} (hi : am_I i 62500) : am_ald (am_ov G L r) 60 [50, 60] 0 i = some (.int (G 23 i.toNatClampNeg)) := am_ald_row (n := 62500) rfl (by decide) hi
theorem am_sM23 {G : am_G} {L : Nat → Int64} {r : am_H} {i v : Int32} (hi : am_I i 62500) : am_ast (am_ov G L r) 60 50 0 i (.int v) = some (am_ov (am_up G 23 i.toNatClampNeg v) L r) := by
  rw [am_ast_row (n := 62500) (g := G 23) rfl hi, am_ov_row (by decide) rfl (by decide) rfl]
theorem am_gM24 {G : am_G} {L : Nat → Int64} {r : am_H} : am_getf (am_ov G L r) 40 12 24 = some (.int (G 24 0)) := rfl
theorem am_pM24 {G : am_G} {L : Nat → Int64} {r : am_H} {v : Int32} : am_putf (am_ov G L r) 40 12 24 0 (.int v) = some (am_ov (am_up G 24 0 v) L r) := by
  rw [← am_ov_sc (fun q hq => (am_ci_sc q hq).2.2.2.2.1)]
  rfl
theorem am_gM25 {G : am_G} {L : Nat → Int64} {r : am_H} : am_getf (am_ov G L r) 40 12 25 = some (.int (G 25 0)) := rfl
theorem am_pM25 {G : am_G} {L : Nat → Int64} {r : am_H} {v : Int32} : am_putf (am_ov G L r) 40 12 25 0 (.int v) = some (am_ov (am_up G 25 0 v) L r) := by
  rw [← am_ov_sc (fun q hq => (am_ci_sc q hq).2.2.2.2.2.1)]
  rfl
theorem am_gM26 {G : am_G} {L : Nat → Int64} {r : am_H} : am_getf (am_ov G L r) 40 12 26 = some (.ref 61) := rfl
theorem am_lM26 {G : am_G} {L : Nat → Int64} {r : am_H} {i : Int32} (hi : am_I i 41) : am_ald (am_ov G L r) 61 [50, 60] 0 i = some (.int (G 26 i.toNatClampNeg)) := am_ald_row (n := 41) rfl (by decide) hi
theorem am_sM26 {G : am_G} {L : Nat → Int64} {r : am_H} {i v : Int32} (hi : am_I i 41) : am_ast (am_ov G L r) 61 50 0 i (.int v) = some (am_ov (am_up G 26 i.toNatClampNeg v) L r) := by
  rw [am_ast_row (n := 41) (g := G 26) rfl hi, am_ov_row (by decide) rfl (by decide) rfl]
theorem am_gM27 {G : am_G} {L : Nat → Int64} {r : am_H} : am_getf (am_ov G L r) 40 12 27 = some (.ref 62) := rfl
theorem am_lM27 {G : am_G} {L : Nat → Int64} {r : am_H} {i : Int32} (hi : am_I i 41) : am_ald (am_ov G L r) 62 [50, 60] 0 i = some (.int (G 27 i.toNatClampNeg)) := am_ald_row (n := 41) rfl (by decide) hi
theorem am_sM27 {G : am_G} {L : Nat → Int64} {r : am_H} {i v : Int32} (hi : am_I i 41) : am_ast (am_ov G L r) 62 50 0 i (.int v) = some (am_ov (am_up G 27 i.toNatClampNeg v) L r) := by
  rw [am_ast_row (n := 41) (g := G 27) rfl hi, am_ov_row (by decide) rfl (by decide) rfl]
theorem am_gM28 {G : am_G} {L : Nat → Int64} {r : am_H} : am_getf (am_ov G L r) 40 12 28 = some (.ref 63) := rfl
theorem am_lM28 {G : am_G} {L : Nat → Int64} {r : am_H} {i : Int32} (hi : am_I i 41) : am_ald (am_ov G L r) 63 [50, 60] 0 i = some (.int (G 28 i.toNatClampNeg)) := am_ald_row (n := 41) rfl (by decide) hi
theorem am_sM28 {G : am_G} {L : Nat → Int64} {r : am_H} {i v : Int32} (hi : am_I i 41) : am_ast (am_ov G L r) 63 50 0 i (.int v) = some (am_ov (am_up G 28 i.toNatClampNeg v) L r) := by
  rw [am_ast_row (n := 41) (g := G 28) rfl hi, am_ov_row (by decide) rfl (by decide) rfl]
theorem am_gM29 {G : am_G} {L : Nat → Int64} {r : am_H} : am_getf (am_ov G L r) 40 12 29 = some (.ref 64) := rfl
theorem am_lM29 {G : am_G} {L : Nat → Int64} {r : am_H} {i : Int32} (hi : am_I i 41) : am_ald (am_ov G L r) 64 [50, 60] 0 i = some (.int (G 29 i.toNatClampNeg)) := am_ald_row (n := 41) rfl (by decide) hi
theorem am_sM29 {G : am_G} {L : Nat → Int64} {r : am_H} {i v : Int32} (hi : am_I i 41) : am_ast (am_ov G L r) 64 50 0 i (.int v) = some (am_ov (am_up G 29 i.toNatClampNeg v) L r) := by
  rw [am_ast_row (n := 41) (g := G 29) rfl hi, am_ov_row (by decide) rfl (by decide) rfl]
theorem am_gM30 {G : am_G} {L : Nat → Int64} {r : am_H} : am_getf (am_ov G L r) 40 12 30 = some (.ref 65) := rfl
theorem am_lM30 {G : am_G} {L : Nat → Int64} {r : am_H} {i : Int32} (hi : am_I i 41) : am_ald (am_ov G L r) 65 [50, 60] 0 i = some (.int (G 30 i.toNatClampNeg)) := am_ald_row (n := 41) rfl (by decide) hi
theorem am_sM30 {G : am_G} {L : Nat → Int64} {r : am_H} {i v : Int32} (hi : am_I i 41) : am_ast (am_ov G L r) 65 50 0 i (.int v) = some (am_ov (am_up G 30 i.toNatClampNeg v) L r) := by
  rw [am_ast_row (n := 41) (g := G 30) rfl hi, am_ov_row (by decide) rfl (by decide) rfl]
theorem am_gM31 {G : am_G} {L : Nat → Int64} {r : am_H} : am_getf (am_ov G L r) 40 12 31 = some (.ref 66) := rfl
theorem am_lM31 {G : am_G} {L : Nat → Int64} {r : am_H} {i : Int32} (hi : am_I i 41) : am_ald (am_ov G L r) 66 [50, 60] 0 i = some (.int (G 31 i.toNatClampNeg)) := am_ald_row (n := 41) rfl (by decide) hi
theorem am_sM31 {G : am_G} {L : Nat → Int64} {r : am_H} {i v : Int32} (hi : am_I i 41) : am_ast (am_ov G L r) 66 50 0 i (.int v) = some (am_ov (am_up G 31 i.toNatClampNeg v) L r) := by
  rw [am_ast_row (n := 41) (g := G 31) rfl hi, am_ov_row (by decide) rfl (by decide) rfl]
theorem am_gM32 {G : am_G} {L : Nat → Int64} {r : am_H} : am_getf (am_ov G L r) 40 12 32 = some (.ref 67) := rfl
theorem am_lM32 {G : am_G} {L : Nat → Int64} {r : am_H} {i : Int32} (hi : am_I i 41) : am_ald (am_ov G L r) 67 [50, 60] 0 i = some (.int (G 32 i.toNatClampNeg)) := am_ald_row (n := 41) rfl (by decide) hi
theorem am_sM32 {G : am_G} {L : Nat → Int64} {r : am_H} {i v : Int32} (hi : am_I i 41) : am_ast (am_ov G L r) 67 50 0 i (.int v) = some (am_ov (am_up G 32 i.toNatClampNeg v) L r) := by
  rw [am_ast_row (n := 41) (g := G 32) rfl hi, am_ov_row (by decide) rfl (by decide) rfl]
theorem am_gM33 {G : am_G} {L : Nat → Int64} {r : am_H} : am_getf (am_ov G L r) 40 12 33 = some (.ref 68) := rfl
theorem am_lM33 {G : am_G} {L : Nat → Int64} {r : am_H} {i : Int32} (hi : am_I i 41) : am_ald (am_ov G L r) 68 [50, 60] 0 i = some (.int (G 33 i.toNatClampNeg)) := am_ald_row (n := 41) rfl (by decide) hi
theorem am_sM33 {G : am_G} {L : Nat → Int64} {r : am_H} {i v : Int32} (hi : am_I i 41) : am_ast (am_ov G L r) 68 50 0 i (.int v) = some (am_ov (am_up G 33 i.toNatClampNeg v) L r) := by
  rw [am_ast_row (n := 41) (g := G 33) rfl hi, am_ov_row (by decide) rfl (by decide) rfl]
theorem am_gM34 {G : am_G} {L : Nat → Int64} {r : am_H} : am_getf (am_ov G L r) 40 12 34 = some (.ref 69) := rfl
theorem am_lM34 {G : am_G} {L : Nat → Int64} {r : am_H} {i : Int32} (hi : am_I i 4) : am_ald (am_ov G L r) 69 [50, 60] 0 i = some (.int (G 34 i.toNatClampNeg)) := am_ald_row (n := 4) rfl (by decide) hi
theorem am_sM34 {G : am_G} {L : Nat → Int64} {r : am_H} {i v : Int32} (hi : am_I i 4) : am_ast (am_ov G L r) 69 50 0 i (.int v) = some (am_ov (am_up G 34 i.toNatClampNeg v) L r) := by
  rw [am_ast_row (n := 4) (g := G 34) rfl hi, am_ov_row (by decide) rfl (by decide) rfl]
theorem am_gM35 {G : am_G} {L : Nat → Int64} {r : am_H} : am_getf (am_ov G L r) 40 12 35 = some (.ref 70) := rfl
theorem am_lM35 {G : am_G} {L : Nat → Int64} {r : am_H} {i : Int32} (hi : am_I i 4) : am_ald (am_ov G L r) 70 [50, 60] 0 i = some (.int (G 35 i.toNatClampNeg)) := am_ald_row (n := 4) rfl (by decide) hi
theorem am_sM35 {G : am_G} {L : Nat → Int64} {r : am_H} {i v : Int32} (hi : am_I i 4) : am_ast (am_ov G L r) 70 50 0 i (.int v) = some (am_ov (am_up G 35 i.toNatClampNeg v) L r) := by
  rw [am_ast_row (n := 4) (g := G 35) rfl hi, am_ov_row (by decide) rfl (by decide) rfl]
theorem am_gM36 {G : am_G} {L : Nat → Int64} {r : am_H} : am_getf (am_ov G L r) 40 12 36 = some (.ref 71) := rfl
theorem am_lM36 {G : am_G} {L : Nat → Int64} {r : am_H} {i : Int32} (hi : am_I i 4) : am_ald (am_ov G L r) 71 [50, 60] 0 i = some (.int (G 36 i.toNatClampNeg)) := am_ald_row (n := 4) rfl (by decide) hi
theorem am_sM36 {G : am_G} {L : Nat → Int64} {r : am_H} {i v : Int32} (hi : am_I i 4) : am_ast (am_ov G L r) 71 50 0 i (.int v) = some (am_ov (am_up G 36 i.toNatClampNeg v) L r) := by
  rw [am_ast_row (n := 4) (g := G 36) rfl hi, am_ov_row (by decide) rfl (by decide) rfl]
theorem am_gM37 {G : am_G} {L : Nat → Int64} {r : am_H} : am_getf (am_ov G L r) 40 12 37 = some (.ref 72) := rfl
theorem am_lM37 {G : am_G} {L : Nat → Int64} {r : am_H} {i : Int32} (hi : am_I i 4) : am_ald (am_ov G L r) 72 [50, 60] 0 i = some (.int (G 37 i.toNatClampNeg)) := am_ald_row (n := 4) rfl (by decide) hi
theorem am_sM37 {G : am_G} {L : Nat → Int64} {r : am_H} {i v : Int32} (hi : am_I i 4) : am_ast (am_ov G L r) 72 50 0 i (.int v) = some (am_ov (am_up G 37 i.toNatClampNeg v) L r) := by
  rw [am_ast_row (n := 4) (g := G 37) rfl hi, am_ov_row (by decide) rfl (by decide) rfl]
theorem am_gM38 {G : am_G} {L : Nat → Int64} {r : am_H} : am_getf (am_ov G L r) 40 12 38 = some (.ref 73) := rfl
theorem am_lM38 {G : am_G} {L : Nat → Int64} {r : am_H} {i : Int32} (hi : am_I i 4) : am_ald (am_ov G L r) 73 [50, 60] 0 i = some (.int (G 38 i.toNatClampNeg)) := am_ald_row (n := 4) rfl (by decide) hi
theorem am_sM38 {G : am_G} {L : Nat → Int64} {r : am_H} {i v : Int32} (hi : am_I i 4) : am_ast (am_ov G L r) 73 50 0 i (.int v) = some (am_ov (am_up G 38 i.toNatClampNeg v) L r) := by
  rw [am_ast_row (n := 4) (g := G 38) rfl hi, am_ov_row (by decide) rfl (by decide) rfl]
theorem am_gM39 {G : am_G} {L : Nat → Int64} {r : am_H} : am_getf (am_ov G L r) 40 12 39 = some (.ref 74) := rfl
theorem am_lM39 {G : am_G} {L : Nat → Int64} {r : am_H} {i : Int32} (hi : am_I i 4) : am_ald (am_ov G L r) 74 [50, 60] 0 i = some (.int (G 39 i.toNatClampNeg)) := am_ald_row (n := 4) rfl (by decide) hi
theorem am_sM39 {G : am_G} {L : Nat → Int64} {r : am_H} {i v : Int32} (hi : am_I i 4) : am_ast (am_ov G L r) 74 50 0 i (.int v) = some (am_ov (am_up G 39 i.toNatClampNeg v) L r) := by
  rw [am_ast_row (n := 4) (g := G 39) rfl hi, am_ov_row (by decide) rfl (by decide) rfl]
theorem am_gM40 {G : am_G} {L : Nat → Int64} {r : am_H} : am_getf (am_ov G L r) 40 12 40 = some (.ref 75) := rfl
theorem am_lM40 {G : am_G} {L : Nat → Int64} {r : am_H} {i : Int32} (hi : am_I i 32) : am_ald (am_ov G L r) 75 [50, 60] 0 i = some (.int (G 40 i.toNatClampNeg)) := am_ald_row (n := 32) rfl (by decide) hi
theorem am_sM40 {G : am_G} {L : Nat → Int64} {r : am_H} {i v : Int32} (hi : am_I i 32) : am_ast (am_ov G L r) 75 50 0 i (.int v) = some (am_ov (am_up G 40 i.toNatClampNeg v) L r) := by
  rw [am_ast_row (n := 32) (g := G 40) rfl hi, am_ov_row (by decide) rfl (by decide) rfl]
theorem am_gM41 {G : am_G} {L : Nat → Int64} {r : am_H} : am_getf (am_ov G L r) 40 12 41 = some (.ref 76) := rfl
theorem am_lM41 {G : am_G} {L : Nat → Int64} {r : am_H} {i : Int32} (hi : am_I i 10) : am_ald (am_ov G L r) 76 [50, 60] 0 i = some (.int (G 41 i.toNatClampNeg)) := am_ald_row (n := 10) rfl (by decide) hi
theorem am_sM41 {G : am_G} {L : Nat → Int64} {r : am_H} {i v : Int32} (hi : am_I i 10) : am_ast (am_ov G L r) 76 50 0 i (.int v) = some (am_ov (am_up G 41 i.toNatClampNeg v) L r) := by
  rw [am_ast_row (n := 10) (g := G 41) rfl hi, am_ov_row (by decide) rfl (by decide) rfl]
theorem am_gM42 {G : am_G} {L : Nat → Int64} {r : am_H} : am_getf (am_ov G L r) 40 12 42 = some (.ref 77) := rfl
theorem am_lM42 {G : am_G} {L : Nat → Int64} {r : am_H} {i : Int32} (hi : am_I i 16) : am_ald (am_ov G L r) 77 [50, 60] 0 i = some (.int (G 42 i.toNatClampNeg)) := am_ald_row (n := 16) rfl (by decide) hi
theorem am_sM42 {G : am_G} {L : Nat → Int64} {r : am_H} {i v : Int32} (hi : am_I i 16) : am_ast (am_ov G L r) 77 50 0 i (.int v) = some (am_ov (am_up G 42 i.toNatClampNeg v) L r) := by
  rw [am_ast_row (n := 16) (g := G 42) rfl hi, am_ov_row (by decide) rfl (by decide) rfl]
theorem am_gM43 {G : am_G} {L : Nat → Int64} {r : am_H} : am_getf (am_ov G L r) 40 12 43 = some (.ref 78) := rfl
theorem am_lM43 {G : am_G} {L : Nat → Int64} {r : am_H} {i : Int32} (hi : am_I i 16) : am_ald (am_ov G L r) 78 [50, 60] 0 i = some (.int (G 43 i.toNatClampNeg)) := am_ald_row (n := 16) rfl (by decide) hi
theorem am_sM43 {G : am_G} {L : Nat → Int64} {r : am_H} {i v : Int32} (hi : am_I i 16) : am_ast (am_ov G L r) 78 50 0 i (.int v) = some (am_ov (am_up G 43 i.toNatClampNeg v) L r) := by
  rw [am_ast_row (n := 16) (g := G 43) rfl hi, am_ov_row (by decide) rfl (by decide) rfl]
theorem am_gM44 {G : am_G} {L : Nat → Int64} {r : am_H} : am_getf (am_ov G L r) 40 12 44 = some (.ref 79) := rfl
theorem am_lM44 {G : am_G} {L : Nat → Int64} {r : am_H} {i : Int32} (hi : am_I i 16) : am_ald (am_ov G L r) 79 [50, 60] 0 i = some (.int (G 44 i.toNatClampNeg)) := am_ald_row (n := 16) rfl (by decide) hi
theorem am_sM44 {G : am_G} {L : Nat → Int64} {r : am_H} {i v : Int32} (hi : am_I i 16) : am_ast (am_ov G L r) 79 50 0 i (.int v) = some (am_ov (am_up G 44 i.toNatClampNeg v) L r) := by
  rw [am_ast_row (n := 16) (g := G 44) rfl hi, am_ov_row (by decide) rfl (by decide) rfl]
theorem am_gM45 {G : am_G} {L : Nat → Int64} {r : am_H} : am_getf (am_ov G L r) 40 12 45 = some (.int (G 45 0)) := rfl
theorem am_pM45 {G : am_G} {L : Nat → Int64} {r : am_H} {v : Int32} : am_putf (am_ov G L r) 40 12 45 0 (.int v) = some (am_ov (am_up G 45 0 v) L r) := by
  rw [← am_ov_sc (fun q hq => (am_ci_sc q hq).2.2.2.2.2.2)]
  rfl
theorem am_gM46 {G : am_G} {L : Nat → Int64} {r : am_H} : am_getf (am_ov G L r) 40 12 46 = some (.ref 80) := rfl
theorem am_lM46 {G : am_G} {L : Nat → Int64} {r : am_H} {i : Int32} (hi : am_I i 40) : am_ald (am_ov G L r) 80 [50, 60] 0 i = some (.int (G 46 i.toNatClampNeg)) := am_ald_row (n := 40) rfl (by decide) hi
theorem am_sM46 {G : am_G} {L : Nat → Int64} {r : am_H} {i v : Int32} (hi : am_I i 40) : am_ast (am_ov G L r) 80 50 0 i (.int v) = some (am_ov (am_up G 46 i.toNatClampNeg v) L r) := by
  rw [am_ast_row (n := 40) (g := G 46) rfl hi, am_ov_row (by decide) rfl (by decide) rfl]
theorem am_gM47 {G : am_G} {L : Nat → Int64} {r : am_H} : am_getf (am_ov G L r) 40 12 47 = some (.ref 81) := rfl
theorem am_lM47 {G : am_G} {L : Nat → Int64} {r : am_H} {i : Int32} (hi : am_I i 40) : am_ald (am_ov G L r) 81 [50, 60] 0 i = some (.int (G 47 i.toNatClampNeg)) := am_ald_row (n := 40) rfl (by decide) hi
theorem am_sM47 {G : am_G} {L : Nat → Int64} {r : am_H} {i v : Int32} (hi : am_I i 40) : am_ast (am_ov G L r) 81 50 0 i (.int v) = some (am_ov (am_up G 47 i.toNatClampNeg v) L r) := by
  rw [am_ast_row (n := 40) (g := G 47) rfl hi, am_ov_row (by decide) rfl (by decide) rfl]
theorem am_gM48 {G : am_G} {L : Nat → Int64} {r : am_H} : am_getf (am_ov G L r) 40 12 48 = some (.ref 82) := rfl
theorem am_lM48 {G : am_G} {L : Nat → Int64} {r : am_H} {i : Int32} (hi : am_I i 40) : am_ald (am_ov G L r) 82 [50, 60] 0 i = some (.int (G 48 i.toNatClampNeg)) := am_ald_row (n := 40) rfl (by decide) hi
theorem am_sM48 {G : am_G} {L : Nat → Int64} {r : am_H} {i v : Int32} (hi : am_I i 40) : am_ast (am_ov G L r) 82 50 0 i (.int v) = some (am_ov (am_up G 48 i.toNatClampNeg v) L r) := by
  rw [am_ast_row (n := 40) (g := G 48) rfl hi, am_ov_row (by decide) rfl (by decide) rfl]
theorem am_gM49 {G : am_G} {L : Nat → Int64} {r : am_H} : am_getf (am_ov G L r) 40 12 49 = some (.ref 83) := rfl
theorem am_lM49 {G : am_G} {L : Nat → Int64} {r : am_H} {i : Int32} (hi : am_I i 40) : am_ald (am_ov G L r) 83 [50, 60] 0 i = some (.int (G 49 i.toNatClampNeg)) := am_ald_row (n := 40) rfl (by decide) hi
theorem am_sM49 {G : am_G} {L : Nat → Int64} {r : am_H} {i v : Int32} (hi : am_I i 40) : am_ast (am_ov G L r) 83 50 0 i (.int v) = some (am_ov (am_up G 49 i.toNatClampNeg v) L r) := by
  rw [am_ast_row (n := 40) (g := G 49) rfl hi, am_ov_row (by decide) rfl (by decide) rfl]
theorem am_gM50 {G : am_G} {L : Nat → Int64} {r : am_H} : am_getf (am_ov G L r) 40 12 50 = some (.ref 84) := rfl
theorem am_lM50 {G : am_G} {L : Nat → Int64} {r : am_H} {i : Int32} (hi : am_I i 40) : am_ald (am_ov G L r) 84 [50, 60] 0 i = some (.int (G 50 i.toNatClampNeg)) := am_ald_row (n := 40) rfl (by decide) hi
theorem am_sM50 {G : am_G} {L : Nat → Int64} {r : am_H} {i v : Int32} (hi : am_I i 40) : am_ast (am_ov G L r) 84 50 0 i (.int v) = some (am_ov (am_up G 50 i.toNatClampNeg v) L r) := by
  rw [am_ast_row (n := 40) (g := G 50) rfl hi, am_ov_row (by decide) rfl (by decide) rfl]
theorem am_gM51 {G : am_G} {L : Nat → Int64} {r : am_H} : am_getf (am_ov G L r) 40 12 51 = some (.ref 85) := rfl
theorem am_lM51 {G : am_G} {L : Nat → Int64} {r : am_H} {i : Int32} (hi : am_I i 40) : am_ald (am_ov G L r) 85 [50, 60] 0 i = some (.int (G 51 i.toNatClampNeg)) := am_ald_row (n := 40) rfl (by decide) hi
theorem am_sM51 {G : am_G} {L : Nat → Int64} {r : am_H} {i v : Int32} (hi : am_I i 40) : am_ast (am_ov G L r) 85 50 0 i (.int v) = some (am_ov (am_up G 51 i.toNatClampNeg v) L r) := by
  rw [am_ast_row (n := 40) (g := G 51) rfl hi, am_ov_row (by decide) rfl (by decide) rfl]
theorem am_gM52 {G : am_G} {L : Nat → Int64} {r : am_H} : am_getf (am_ov G L r) 40 12 52 = some (.ref 86) := rfl
theorem am_lM52 {G : am_G} {L : Nat → Int64} {r : am_H} {i : Int32} (hi : am_I i 40) : am_ald (am_ov G L r) 86 [50, 60] 0 i = some (.int (G 52 i.toNatClampNeg)) := am_ald_row (n := 40) rfl (by decide) hi
theorem am_sM52 {G : am_G} {L : Nat → Int64} {r : am_H} {i v : Int32} (hi : am_I i 40) : am_ast (am_ov G L r) 86 50 0 i (.int v) = some (am_ov (am_up G 52 i.toNatClampNeg v) L r) := by
  rw [am_ast_row (n := 40) (g := G 52) rfl hi, am_ov_row (by decide) rfl (by decide) rfl]
