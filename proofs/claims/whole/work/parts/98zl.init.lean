/-! THE CONSTRUCTORS: a heap as a list of cells behind the first twelve numbers -/
def al_h (b : am_H) (l : List am_C) (s : Nat) : am_H := (fun k => if k < 12 then b.1 k else l[k - 12]?, 12 + l.length, s)
section
variable {b : am_H} {l : List am_C} {s a t f d : Nat} {v : Value}
theorem al_h1 (h : ¬ a < 12) : (al_h b l s).1 a = l[a - 12]? := if_neg h
theorem al_h0 (h : a < 12) : (al_h b l s).1 a = b.1 a := if_pos h
theorem al_hn : (al_h b l s).2.1 = 12 + l.length := rfl
theorem al_hw {c : am_C} {N : Nat} : am_new (al_h b l s) c N = al_h b (l ++ [c]) (s + N) := by
  refine Prod.ext (funext fun k => ?_) (Prod.ext ?_ rfl)
  · show (if k = 12 + l.length then some c else if k < 12 then b.1 k else l[k - 12]?) = if k < 12 then b.1 k else (l ++ [c])[k - 12]?
    by_cases e : k = 12 + l.length
    · rw [if_pos e, if_neg (by omega), e, Nat.add_sub_cancel_left, List.getElem?_append_right (Nat.le_refl _), Nat.sub_self]
      rfl
    · rw [if_neg e]
      by_cases e2 : k < 12
      · rw [if_pos e2, if_pos e2]
      · rw [if_neg e2, if_neg e2]
        rcases Nat.lt_or_ge (k - 12) l.length with q | q
        · rw [List.getElem?_append_left q]
        · rw [List.getElem?_eq_none q, List.getElem?_eq_none]
          rw [List.length_append]
          show l.length + 1 ≤ k - 12
          omega
  · show 12 + l.length + 1 = 12 + (l ++ [c]).length
    rw [List.length_append]
    rfl
theorem al_hs {c : am_C} (h : ¬ a < 12) (h2 : a - 12 < l.length) : am_set (al_h b l s) a c = al_h b (l.set (a - 12) c) s := by
  refine Prod.ext (funext fun k => ?_) (Prod.ext ?_ rfl)
  · show (if k = a then some c else if k < 12 then b.1 k else l[k - 12]?) = if k < 12 then b.1 k else (l.set (a - 12) c)[k - 12]?
    by_cases e : k = a
    · rw [if_pos e, e, if_neg h, List.getElem?_set_self h2]
    · rw [if_neg e]
      by_cases e2 : k < 12
      · rw [if_pos e2, if_pos e2]
      · rw [if_neg e2, if_neg e2, List.getElem?_set_ne (by omega)]
  · show 12 + l.length = 12 + (l.set (a - 12) c).length
    rw [List.length_set]
theorem al_hg (h : ¬ a < 12) : am_getf (al_h b l s) a t f = (l[a - 12]?).bind fun c => if c.1 = t then c.2[f]? else none := by
  unfold am_getf
  rw [al_h1 h]
theorem al_hp (h : ¬ a < 12) : am_putf (al_h b l s) a t f d v = (l[a - 12]?).bind fun c => if c.1 = t ∧ f < c.2.length ∧ am_kv v = d then some (al_h b (l.set (a - 12) (t, c.2.set f v)) s) else none := by
  unfold am_putf
  rw [al_h1 h]
  rcases e : l[a - 12]? with _ | c
  · rfl
  · rw [Option.bind_some, Option.bind_some]
    have h2 : a - 12 < l.length := by
      rcases Nat.lt_or_ge (a - 12) l.length with q | q
      · exact q
      · rw [List.getElem?_eq_none q] at e
        cases e
    rw [al_hs h h2]
theorem al_hna {n : Int32} : am_newa (al_h b l s) t n = (am_ix n).bind fun N => if N ≤ 100000 then some (al_h b (l ++ [(t, List.replicate N (am_dv t))]) (s + N)) else none := by
  unfold am_newa
  simp only [al_hw]
theorem al_hi (h : ¬ a < 12) : am_isa (al_h b l s) a t = ((l[a - 12]?).elim false fun c => decide (c.1 = t)) := by
  unfold am_isa
  rw [al_h1 h]
  cases l[a - 12]? <;> rfl
theorem al_hl (h : ¬ a < 12) : am_len (al_h b l s) a = (l[a - 12]?).bind fun c => if 50 ≤ c.1 ∧ c.1 < 70 then some (Int32.ofNat c.2.length) else none := by
  unfold am_len
  rw [al_h1 h]
theorem al_hq {i : Int32} (h : ¬ a < 12) : am_asq (al_h b l s) a i v = (l[a - 12]?).bind fun c => if (c.1 = 53 ∨ c.1 = 54) ∧ am_fitq (al_h b l s) c.1 v = true then (am_ix i).bind fun j => if j < c.2.length then some (al_h b (l.set (a - 12) (c.1, c.2.set j v)) s) else none else none := by
  unfold am_asq
  rw [al_h1 h]
  rcases e : l[a - 12]? with _ | c
  · rfl
  · rw [Option.bind_some, Option.bind_some]
    have h2 : a - 12 < l.length := by
      rcases Nat.lt_or_ge (a - 12) l.length with q | q
      · exact q
      · rw [List.getElem?_eq_none q] at e
        cases e
    simp only [al_hs h h2]
theorem al_hf {r : Nat} (h : ¬ r < 12) : am_fitq (al_h b l s) 53 (.ref r) = ((l[r - 12]?).elim false fun c => decide (c.1 < 50)) := by
  unfold am_fitq
  dsimp only
  rw [al_h1 h]
  cases l[r - 12]? with
  | none => rfl
  | some c =>
    show ((decide (53 = 53) && decide (c.1 < 50)) || (decide (53 = 54) && decide (c.1 = 7))) = decide (c.1 < 50)
    rw [show decide (53 = 53) = true from rfl, show decide (53 = 54) = false from rfl, Bool.true_and, Bool.false_and, Bool.or_false]
end
theorem al_d0 : am_def 0 = [.int 0, .null, .int 0] := rfl
theorem al_d1 : am_def 1 = [.null, .null, .null] := rfl
theorem al_d3 : am_def 3 = [.null] := rfl
theorem al_d4 : am_def 4 = [.null, .null] := rfl
theorem al_d5 : am_def 5 = [.null, .null, .null, .null, .int 0, .int 0] := rfl
theorem al_d6 : am_def 6 = [.int 0, .int 0, .int 0, .int 0, .int 0, .int 0, .int 0, .null] := rfl
theorem al_d8 : am_def 8 = [.null] := rfl
theorem al_d10 : am_def 10 = [.null, .null, .null, .null, .null, .null, .int 0, .int 0] := rfl
theorem al_d11 : am_def 11 = [.null, .null, .null, .null, .int 0] := rfl
/-- a row is filled -/
theorem al_fill {h : am_H} {a n : Nat} {x : Int32} (hn : n ≤ 100) : ∀ (m k : Nat) (vs : List Value), k + m = n → vs.length = n → am_exec 258 5 [.ref a, .int x, .int (Int32.ofNat k), .int (Int32.ofNat n)] [] (am_set h a (50, (List.range n).map fun j => if j < k then .int x else vs.getD j .null)) = some (.inl none, am_set h a (50, (List.range n).map fun _ => .int x)) := by
  intro m
  induction m with
  | zero =>
    intro k vs hk hl
    have e : k = n := by omega
    subst e
    rw [am_e258_5, if_pos (Int32.le_refl _), am_e258_20]
    congr 4
    exact List.map_congr_left fun j hj => if_pos (List.mem_range.mp hj)
  | succ m ih =>
    intro k vs hk hl
    have c : ¬ Int32.ofNat n ≤ Int32.ofNat k := fun q => by
      rw [am_le_nat (by omega) (by omega)] at q
      omega
    rw [am_e258_5, if_neg c, am_e258_10]
    have hs : am_ast (am_set h a (50, (List.range n).map fun j => if j < k then .int x else vs.getD j .null)) a 50 0 (Int32.ofNat k) (.int x) = some (am_set h a (50, (List.range n).map fun j => if j < k + 1 then .int x else vs.getD j .null)) := by
      unfold am_ast
      rw [aw_seta, Option.bind_some, if_pos ⟨rfl, rfl⟩]
      have h1 : am_ix (Int32.ofNat k) = some k := by
        unfold am_ix
        rw [if_neg (am_Ik (show k < 100 by omega) (by decide)).1, am_tcn (by omega)]
      rw [h1, Option.bind_some, if_pos (by rw [List.length_map, List.length_range]; omega), aw_set2]
      congr 3
      refine List.ext_getElem? fun j => ?_
      rcases Nat.lt_or_ge j n with q | q
      · by_cases e : j = k
        · rw [e, List.getElem?_set_self (by rw [List.length_map, List.length_range]; omega), List.getElem?_map, List.getElem?_range (by omega)]
          show _ = some (if k < k + 1 then _ else _)
          rw [if_pos (Nat.lt_succ_self k)]
        · rw [List.getElem?_set_ne (fun z => e z.symm), List.getElem?_map, List.getElem?_map, List.getElem?_range q]
          show some (if j < k then _ else _) = some (if j < k + 1 then _ else _)
          by_cases e2 : j < k
          · rw [if_pos e2, if_pos (by omega)]
          · rw [if_neg e2, if_neg (by omega)]
      · rw [List.getElem?_eq_none (by rw [List.length_set, List.length_map, List.length_range]; exact q), List.getElem?_eq_none (by rw [List.length_map, List.length_range]; exact q)]
    rw [hs, Option.bind_some, am_e258_14 rfl, am_succ]
    exact ih (k + 1) vs (by omega) hl
theorem mc258 {h : am_H} {a n : Nat} {x : Int32} {vs : List Value} (hn : n ≤ 100) (h0 : h.1 a = some (50, vs)) (hl : vs.length = n) : am_exec 258 0 [.ref a, .int x, am_U, am_U] [] h = some (.inl none, am_set h a (50, List.replicate n (.int x))) := by
  have key := al_fill (h := h) (a := a) (x := x) hn n 0 vs (Nat.zero_add n) hl
  have e0 : am_set h a (50, (List.range n).map fun j => if j < 0 then Value.int x else vs.getD j .null) = h := by
    refine Prod.ext (funext fun k => ?_) rfl
    show (if k = a then _ else h.1 k) = h.1 k
    by_cases e : k = a
    · rw [if_pos e, e, h0]
      congr 2
      refine List.ext_getElem? fun j => ?_
      rcases Nat.lt_or_ge j n with q | q
      · rw [List.getElem?_map, List.getElem?_range q]
        show some (if j < 0 then _ else _) = _
        rw [if_neg (Nat.not_lt_zero j), List.getD_eq_getElem?_getD, List.getElem?_eq_getElem (by omega)]
        rfl
      · rw [List.getElem?_eq_none (by rw [List.length_map, List.length_range]; exact q), List.getElem?_eq_none (by omega)]
    · rw [if_neg e]
  rw [e0] at key
  rw [am_e258_0 rfl, aw_len h0 (by decide), Option.bind_some, hl, am_e258_4 rfl]
  refine key.trans ?_
  congr 4
  refine List.ext_getElem? fun j => ?_
  rcases Nat.lt_or_ge j n with q | q
  · rw [List.getElem?_map, List.getElem?_range q, List.getElem?_replicate, if_pos q]
    rfl
  · rw [List.getElem?_eq_none (by rw [List.length_map, List.length_range]; exact q), List.getElem?_eq_none (by rw [List.length_replicate]; exact q)]
