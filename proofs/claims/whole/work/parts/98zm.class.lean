/-! the class's constructors -/
theorem al_x64 : am_ix 64 = some 64 := rfl
theorem al_x16 : am_ix 16 = some 16 := rfl
theorem al_x10 : am_ix 10 = some 10 := rfl
theorem al_x24 : am_ix 24 = some 24 := rfl
theorem al_x3 : am_ix 3 = some 3 := rfl
theorem al_x8 : am_ix 8 = some 8 := rfl
theorem al_x0 : am_ix 0 = some 0 := rfl
theorem al_x1 : am_ix 1 = some 1 := rfl
theorem al_x2 : am_ix 2 = some 2 := rfl
theorem al_x2425 : am_ix 2425 = some 2425 := rfl
theorem al_kr {a : Nat} : am_kv (.ref a) = 2 := rfl
theorem al_ki {x : Int32} : am_kv (.int x) = 0 := rfl
theorem al_v50 : am_dv 50 = .int 0 := rfl
theorem al_v51 : am_dv 51 = .long 0 := rfl
theorem al_v53 : am_dv 53 = .null := rfl
theorem al_v54 : am_dv 54 = .null := rfl
section
variable {b : am_H} {s : Nat}
theorem al_258 {l : List am_C} {a n : Nat} {x y : Int32} (h : ¬ a < 12) (h2 : l[a - 12]? = some (50, List.replicate n (.int y))) (hn : n ≤ 100) : am_exec 258 0 [.ref a, .int x, am_U, am_U] [] (al_h b l s) = some (.inl none, al_h b (l.set (a - 12) (50, List.replicate n (.int x))) s) := by
  have hl : a - 12 < l.length := by
    rcases Nat.lt_or_ge (a - 12) l.length with q | q
    · exact q
    · rw [List.getElem?_eq_none q] at h2
      cases h2
  rw [mc258 (n := n) hn (by rw [al_h1 h, h2]) (List.length_replicate), al_hs h hl]
theorem mi0 {c0 c1 : am_C} : am_exec 0 0 [.ref 14] [] (al_h b [c0, c1, (1, [.null, .null, .null])] s) = some (.inl none, al_h b [c0, c1, (1, [.ref 15, .ref 16, .ref 17]), (50, List.replicate 64 (.int 1)), (50, List.replicate 64 (.int 0)), (50, List.replicate 64 (.int (-1)))] (s + 64 + 64 + 64)) := by
  have f1 := al_258 (b := b) (s := s + 64 + 64 + 64) (l := [c0, c1, (1, [.ref 15, .ref 16, .ref 17]), (50, List.replicate 64 (.int 0)), (50, List.replicate 64 (.int 0)), (50, List.replicate 64 (.int 0))]) (a := 15) (x := 1) (n := 64) (y := 0) (by decide) rfl (by decide)
  have f2 := al_258 (b := b) (s := s + 64 + 64 + 64) (l := [c0, c1, (1, [.ref 15, .ref 16, .ref 17]), (50, List.replicate 64 (.int 1)), (50, List.replicate 64 (.int 0)), (50, List.replicate 64 (.int 0))]) (a := 17) (x := -1) (n := 64) (y := 0) (by decide) rfl (by decide)
  simp only [Nat.reduceSub, List.set_cons_zero, List.set_cons_succ] at f1 f2
  simp only [am_e0_0, am_e0_9, am_e0_12, am_e0_17, am_e0_20, am_e0_25, am_e0_28, am_e0_32, am_e0_36, am_e0_40, am_e0_44, am_bk, am_pu1, am_pu0, Option.bind_some, eq_self, am_nli, am_nlr, am_nln, am_nlu, if_true, if_false, not_true_eq_false, not_false_eq_true, am_10, am_01, al_hn, al_hw, al_hg, al_hp, al_hna, al_hi, al_hl, al_hq, al_hf, List.length_cons, List.length_nil, List.length_replicate, List.cons_append, List.nil_append, List.getElem?_cons_zero, List.getElem?_cons_succ, List.set_cons_zero, List.set_cons_succ, Option.elim_some, Nat.reduceAdd, Nat.reduceSub, Nat.reduceLT, Nat.reduceLeDiff, Nat.reduceEqDiff, al_x64, al_x16, al_x10, al_x24, al_x3, al_x8, al_x0, al_x1, al_x2, al_x2425, al_kr, al_ki, al_v50, al_v51, al_v53, al_v54, al_d0, al_d1, al_d3, al_d4, al_d5, al_d6, al_d8, al_d10, al_d11, and_self, and_true, true_and, true_or, or_true, decide_true, Int32.reduceAdd, Int32.reduceLE, f1, f2]
theorem mi30 {c0 c1 c2 c3 c4 c5 : am_C} : am_exec 30 0 [.ref 18] [] (al_h b [c0, c1, c2, c3, c4, c5, (4, [.null, .null])] s) = some (.inl none, al_h b [c0, c1, c2, c3, c4, c5, (4, [.ref 19, .ref 20]), (0, [.int 0, .ref 9, .int 0]), (54, List.replicate 16 .null)] (s + 3 + 16)) := by
  simp only [am_e30_0, am_e30_8, am_e30_12, am_e30_15, am_e30_21, am_e30_24, am_e248_0, am_e248_4, am_e248_11, am_e247_0, am_e247_4, am_e247_9, am_e246_0, am_bk, am_pu1, am_pu0, Option.bind_some, eq_self, am_nli, am_nlr, am_nln, am_nlu, if_true, if_false, not_true_eq_false, not_false_eq_true, am_10, am_01, al_hn, al_hw, al_hg, al_hp, al_hna, al_hi, al_hl, al_hq, al_hf, List.length_cons, List.length_nil, List.length_replicate, List.cons_append, List.nil_append, List.getElem?_cons_zero, List.getElem?_cons_succ, List.set_cons_zero, List.set_cons_succ, Option.elim_some, Nat.reduceAdd, Nat.reduceSub, Nat.reduceLT, Nat.reduceLeDiff, Nat.reduceEqDiff, al_x64, al_x16, al_x10, al_x24, al_x3, al_x8, al_x0, al_x1, al_x2, al_x2425, al_kr, al_ki, al_v50, al_v51, al_v53, al_v54, al_d0, al_d1, al_d3, al_d4, al_d5, al_d6, al_d8, al_d10, al_d11, and_self, and_true, true_and, true_or, or_true, decide_true, Int32.reduceAdd, Int32.reduceLE]
theorem mi248 {l : List am_C} {a : Nat} (h : ¬ a < 12) (h2 : l[a - 12]? = some (0, [.int 0, .null, .int 0])) : am_exec 248 0 [.ref a] [] (al_h b l s) = some (.inl none, al_h b (l.set (a - 12) (0, [.int 0, .ref 9, .int 0])) s) := by
  have hl : a - 12 < l.length := by
    rcases Nat.lt_or_ge (a - 12) l.length with q | q
    · exact q
    · rw [List.getElem?_eq_none q] at h2
      cases h2
  simp only [am_e248_0, am_e248_4, am_e248_11, am_e247_0, am_e247_4, am_e247_9, am_e246_0, am_bk, am_pu1, am_pu0, Option.bind_some, eq_self, am_nli, am_nlr, am_nln, am_nlu, if_true, if_false, not_true_eq_false, not_false_eq_true, am_10, am_01, al_hp h, h2, List.getElem?_set_self hl, Option.bind_some, List.length_cons, List.length_nil, Nat.reduceAdd, Nat.reduceLT, al_kr, al_ki, and_self, if_true, List.set_cons_zero, List.set_cons_succ, List.set_set]
end
