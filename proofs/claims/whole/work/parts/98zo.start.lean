/-! all of the class's constructors, and its heap at the start -/
def al_c : List am_C := [(11, [.ref 13, .ref 34, .ref 38, .ref 39, .int 0]), (10, [.ref 14, .ref 18, .ref 21, .ref 22, .ref 23, .ref 24, .int 0, .int 0]), (1, [.ref 15, .ref 16, .ref 17]), (50, List.replicate 64 (.int 1)), (50, List.replicate 64 (.int 0)), (50, List.replicate 64 (.int (-1))), (4, [.ref 19, .ref 20]), (0, [.int 0, .ref 9, .int 0]), (54, List.replicate 16 .null), (0, [.int 4, .ref 27, .int 4]), (0, [.int 0, .ref 9, .int 0]), (0, [.int 0, .ref 9, .int 0]), (50, List.replicate 10 (.int 0)), (6, [.int 0, .int 0, .int 0, .int (-1), .int 0, .int 50, .int 0, .ref 26]), (50, List.replicate 8 (.int 0)), (53, [.ref 25, .ref 28, .ref 30, .ref 32, .null, .null, .null, .null, .null, .null]), (6, [.int 1, .int 0, .int 0, .int (-1), .int 0, .int 50, .int 0, .ref 29]), (50, List.replicate 8 (.int 0)), (6, [.int 2, .int 0, .int 0, .int (-1), .int 0, .int 50, .int 0, .ref 31]), (50, List.replicate 8 (.int 0)), (6, [.int 3, .int 0, .int 0, .int (-1), .int 0, .int 50, .int 0, .ref 33]), (50, List.replicate 8 (.int 0)), (5, [.ref 13, .ref 35, .ref 36, .ref 37, .int 0, .int 1]), (50, List.replicate 24 (.int 0)), (50, List.replicate 3 (.int 0)), (51, List.replicate 2425 (.long 0)), (3, [.ref 13]), (8, [.ref 13])]
section
variable {b : am_H} {s : Nat}
theorem mi109 (hb : b.1 9 = some (63, [])) : am_exec 109 0 [.ref 12] [] (al_h b [(11, [.null, .null, .null, .null, .int 0])] s) = some (.inl none, al_h b al_c (s + 8 + 3 + 64 + 64 + 64 + 2 + 3 + 16 + 3 + 3 + 3 + 10 + 8 + 8 + 10 + 8 + 8 + 8 + 8 + 8 + 8 + 6 + 24 + 3 + 2425 + 1 + 1)) := by
  unfold al_c
  simp only [am_e109_0, am_e109_8, am_e109_12, am_e109_15, am_e109_19, am_e109_24, am_e109_27, am_e109_30, am_e109_34, am_e109_39, am_e109_42, am_e109_45, am_e109_49, am_e109_54, am_e109_57, am_e109_60, am_e109_65, am_e38_0, am_e38_9, am_e38_12, am_e38_16, am_e38_19, am_e38_25, am_e38_28, am_e38_33, am_e38_38, am_e38_43, am_e15_0, am_e15_9, am_e64_0, am_e64_9, am_bk, am_pu1, am_pu0, Option.bind_some, eq_self, am_nli, am_nlr, am_nln, am_nlu, if_true, if_false, not_true_eq_false, not_false_eq_true, am_10, am_01, al_hn, al_hw, al_hg, al_hp, al_hna, al_hi, al_hl, al_hq, al_hf, List.length_cons, List.length_nil, List.length_replicate, List.cons_append, List.nil_append, List.getElem?_cons_zero, List.getElem?_cons_succ, List.set_cons_zero, List.set_cons_succ, Option.elim_some, Nat.reduceAdd, Nat.reduceSub, Nat.reduceLT, Nat.reduceLeDiff, Nat.reduceEqDiff, al_x64, al_x16, al_x10, al_x24, al_x3, al_x8, al_x0, al_x1, al_x2, al_x2425, al_kr, al_ki, al_v50, al_v51, al_v53, al_v54, al_d0, al_d1, al_d3, al_d4, al_d5, al_d6, al_d8, al_d10, al_d11, and_self, and_true, true_and, true_or, or_true, decide_true, Int32.reduceAdd, Int32.reduceLE, mi87 hb]
/-- the class's state at the start -/
def al_g (k q : Nat) : am_G := fun f j => if f = 2 then (if j < k then 1 else 0) else if f = 4 ∨ f = 5 then (if j < k then -1 else 0) else if f = 36 then (if j < q then -1 else 0) else if f = 39 then (if j < q then 50 else 0) else 0
abbrev al_G : am_G := al_g 64 4
def al_Q : am_G := fun f k => if f = 4 ∧ k = 1 then 1 else 0
def al_A : aw_A := fun f i => if f = 5 then 9 else 0
def al_Kk : aw_K := fun a => if a = 25 then (7, 0) else if a = 28 then (7, 1) else if a = 30 then (7, 2) else if a = 32 then (7, 3) else if a = 26 then (8, 0) else if a = 29 then (8, 1) else if a = 31 then (8, 2) else if a = 33 then (8, 3) else (0, 0)
theorem al_row {n : Nat} {x : Int32} {g : Nat → Int32} (h : ∀ k, k < n → g k = x) : List.replicate n (Value.int x) = am_row n g := by
  unfold am_row
  refine List.ext_getElem? fun j => ?_
  rcases Nat.lt_or_ge j n with q | q
  · rw [List.getElem?_replicate, if_pos q, List.getElem?_map, List.getElem?_range q]
    show _ = some (Value.int (g j))
    rw [h j q]
  · rw [List.getElem?_eq_none (by rw [List.length_replicate]; exact q), List.getElem?_eq_none (by rw [List.length_map, List.length_range]; exact q)]
theorem al_rowl {n : Nat} {x : Int64} {g : Nat → Int64} (h : ∀ k, k < n → g k = x) : List.replicate n (Value.long x) = am_rowl n g := by
  unfold am_rowl
  refine List.ext_getElem? fun j => ?_
  rcases Nat.lt_or_ge j n with q | q
  · rw [List.getElem?_replicate, if_pos q, List.getElem?_map, List.getElem?_range q]
    show _ = some (Value.long (g j))
    rw [h j q]
  · rw [List.getElem?_eq_none (by rw [List.length_replicate]; exact q), List.getElem?_eq_none (by rw [List.length_map, List.length_range]; exact q)]
theorem aw_fx_none40 {A : aw_A} {G Q : am_G} {M : aw_M} {a : Nat} (h : ¬ a < 40) : aw_fx A G Q M a = none := by
  unfold aw_fx
  repeat rw [if_neg (by omega)]
theorem al_H : al_h b al_c s = aw_H al_Kk al_A al_G al_Q (fun _ _ => 0) (fun k => if k < 12 then b.1 k else none, 40, s) := by
  refine Prod.ext (funext fun k => ?_) rfl
  by_cases hk : k < 12
  · show (if k < 12 then b.1 k else al_c[k - 12]?) = (aw_fx _ _ _ _ k).or ((aw_dy _ _ _ _ (al_Kk k)).or (if k < 12 then b.1 k else none))
    rw [al_fx (Or.inl hk), if_pos hk, if_pos hk]
    have : al_Kk k = (0, 0) := by
      unfold al_Kk
      repeat rw [if_neg (by omega)]
    rw [this]
    rfl
  · by_cases h2 : k < 40
    · show (if k < 12 then b.1 k else al_c[k - 12]?) = (aw_fx _ _ _ _ k).or ((aw_dy _ _ _ _ (al_Kk k)).or (if k < 12 then b.1 k else none))
      rw [if_neg hk, if_neg hk]
      unfold al_c
      rw [al_row (n := 64) (x := 1) (g := al_G 2) (fun _ h => if_pos h), al_row (n := 64) (x := 0) (g := al_G 3) (fun _ _ => rfl), al_row (n := 64) (x := -1) (g := al_G 4) (fun _ h => if_pos h), al_row (n := 10) (x := 0) (g := al_G 41) (fun _ _ => rfl), al_row (n := 24) (x := 0) (g := al_Q 5) (fun _ _ => rfl), al_row (n := 3) (x := 0) (g := al_Q 6) (fun _ _ => rfl), al_rowl (n := 2425) (x := 0) (g := fun _ => 0) (fun _ _ => rfl), al_row (n := 8) (x := 0) (g := fun j => al_G 40 (8 * 0 + j)) (fun _ _ => rfl)]
      obtain ⟨j, rfl⟩ : ∃ j, k = 12 + j := ⟨k - 12, by omega⟩
      match j, h2 with
      | 0, _ => rfl
      | 1, _ => rfl
      | 2, _ => rfl
      | 3, _ => rfl
      | 4, _ => rfl
      | 5, _ => rfl
      | 6, _ => rfl
      | 7, _ => rfl
      | 8, _ => rfl
      | 9, _ => rfl
      | 10, _ => rfl
      | 11, _ => rfl
      | 12, _ => rfl
      | 13, _ => rfl
      | 14, _ => rfl
      | 15, _ => rfl
      | 16, _ => rfl
      | 17, _ => rfl
      | 18, _ => rfl
      | 19, _ => rfl
      | 20, _ => rfl
      | 21, _ => rfl
      | 22, _ => rfl
      | 23, _ => rfl
      | 24, _ => rfl
      | 25, _ => rfl
      | 26, _ => rfl
      | 27, _ => rfl
      | j + 28, h2 => exact absurd h2 (by omega)
    · show (if k < 12 then b.1 k else al_c[k - 12]?) = (aw_fx _ _ _ _ k).or ((aw_dy _ _ _ _ (al_Kk k)).or (if k < 12 then b.1 k else none))
      have : al_Kk k = (0, 0) := by
        unfold al_Kk
        repeat rw [if_neg (by omega)]
      rw [if_neg hk, if_neg hk, this, aw_fx_none40 h2, List.getElem?_eq_none (show 28 ≤ k - 12 by omega)]
      rfl
end
