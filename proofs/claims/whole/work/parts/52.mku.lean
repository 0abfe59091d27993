/-! A UNIT IS MADE -/
theorem am_def9 : (am_def 9).length = 8 := rfl
theorem aw_st4 : am_iv (am_sv 4) = am_row 5 (am_tb 4) := rfl
theorem aw_tb4 {i : Int32} (hi : am_I i 5) : am_tb 4 i.toNatClampNeg = am_mv i := by
  obtain ⟨k, hk, rfl⟩ := hi.cases
  match k, hk with
  | 0, _ | 1, _ | 2, _ | 3, _ | 4, _ => rfl
theorem aw_l8 {vs : List Value} (h : vs.length = 8) : ∃ a b c d e f g i, vs = [a, b, c, d, e, f, g, i] := by
  match vs, h with
  | [a, b, c, d, e, f, g, i], _ => exact ⟨a, b, c, d, e, f, g, i, rfl⟩
theorem mc83 {h : am_H} {u p : Nat} {num k t : Int32} {vs : List Value} (h0 : h.1 u = some (9, vs)) (hl : vs.length = 8) (h4 : h.1 4 = some (60, am_iv (am_sv 4))) (hu : ¬ 4 = u) (hk : am_I k 5) : am_exec 83 0 [.ref u, .int num, .ref p, .int k, .int t] [] h = some (.inl none, am_set h u (9, [.int num, .ref p, .int k, .int t, .int 10, .int (am_mv k), .int 0, .int 0])) := by
  obtain ⟨a, b, c, d, e, f, g, i, rfl⟩ := aw_l8 hl
  have q : ∀ {h' : am_H} {x y z w v s m l : Value} {j : Nat} {dd : Nat} {V : Value}, h'.1 u = some (9, [x, y, z, w, v, s, m, l]) → j < 8 → am_kv V = dd → am_putf h' u 9 j dd V = some (am_set h' u (9, [x, y, z, w, v, s, m, l].set j V)) := fun e1 e2 e3 => aw_putf e1 e2 e3
  have st : am_exec 147 0 [.ref 4, .int k] [] (am_set h u (9, [.int num, .ref p, .int k, .int t, .int 10, f, .int 0, .int 0])) = some (.inl (some (.int (am_mv k))), am_set h u (9, [.int num, .ref p, .int k, .int t, .int 10, f, .int 0, .int 0])) := by
    rw [mc147 (n := 5) (t := 60) (g := am_tb 4) (by rw [aw_setn hu, h4, aw_st4]) (Or.inr rfl) (by decide) hk, aw_tb4 hk]
  have e1 := q (j := 4) (dd := 0) (V := .int 10) h0 (by decide) rfl
  have e2 := q (h' := am_set h u (9, [a, b, c, d, .int 10, f, g, i])) (j := 6) (dd := 0) (V := .int 0) aw_seta (by decide) rfl
  have e3 := q (h' := am_set h u (9, [a, b, c, d, .int 10, f, .int 0, i])) (j := 7) (dd := 0) (V := .int 0) aw_seta (by decide) rfl
  have e4 := q (h' := am_set h u (9, [a, b, c, d, .int 10, f, .int 0, .int 0])) (j := 0) (dd := 0) (V := .int num) aw_seta (by decide) rfl
  have e5 := q (h' := am_set h u (9, [.int num, b, c, d, .int 10, f, .int 0, .int 0])) (j := 1) (dd := 2) (V := .ref p) aw_seta (by decide) rfl
  have e6 := q (h' := am_set h u (9, [.int num, .ref p, c, d, .int 10, f, .int 0, .int 0])) (j := 2) (dd := 0) (V := .int k) aw_seta (by decide) rfl
  have e7 := q (h' := am_set h u (9, [.int num, .ref p, .int k, d, .int 10, f, .int 0, .int 0])) (j := 3) (dd := 0) (V := .int t) aw_seta (by decide) rfl
  have e8 := q (h' := am_set h u (9, [.int num, .ref p, .int k, .int t, .int 10, f, .int 0, .int 0])) (j := 5) (dd := 0) (V := .int (am_mv k)) aw_seta (by decide) rfl
  rw [aw_set2] at e2 e3 e4 e5 e6 e7 e8
  simp only [List.set] at e1 e2 e3 e4 e5 e6 e7 e8
  simp only [am_e83_0, am_e83_10, am_e83_15, am_e83_20, am_e83_25, am_e83_30, am_e83_35, am_e83_41, am_e83_49, am_e83_52, am_bk, am_pu1, am_pu0, Option.bind_some, eq_self, am_nli, am_nlr, am_nln, am_nlu, if_true, if_false, not_true_eq_false, not_false_eq_true, am_10, am_01, e1, e2, e3, e4, e5, e6, e7, st, e8]
/-- how the rest may have changed: the rows of the class and of the reference stand; how many numbers and slots went -/
def aw_R (r r' : am_H) (a b : Nat) : Prop := (∀ x, x < 12 ∨ 40 ≤ x ∧ x ≤ 87 → r'.1 x = r.1 x) ∧ r.2.1 ≤ r'.2.1 ∧ r'.2.1 ≤ r.2.1 + a ∧ r'.2.2 ≤ r.2.2 + b
theorem aw_R.rfl' {r : am_H} {a b : Nat} : aw_R r r a b := ⟨fun _ _ => rfl, Nat.le_refl _, Nat.le_add_right _ _, Nat.le_add_right _ _⟩
theorem aw_R.tr {r r' r'' : am_H} {a b a' b' : Nat} (h1 : aw_R r r' a b) (h2 : aw_R r' r'' a' b') : aw_R r r'' (a + a') (b + b') := by
  obtain ⟨x1, x2, x3, x4⟩ := h1
  obtain ⟨y1, y2, y3, y4⟩ := h2
  exact ⟨fun x hx => by rw [y1 x hx, x1 x hx], by omega, by omega, by omega⟩
theorem aw_R.mono {r r' : am_H} {a b a' b' : Nat} (h : aw_R r r' a b) (ha : a ≤ a') (hb : b ≤ b') : aw_R r r' a' b' := by
  obtain ⟨x1, x2, x3, x4⟩ := h
  exact ⟨x1, x2, by omega, by omega⟩
theorem aw_R.S {r r' : am_H} {a b : Nat} (h : aw_R r r' a b) (hS : aw_S r) : aw_S r' := ⟨fun k hk => by rw [h.1 k (Or.inl (by omega))]; exact hS.1 k hk, by rw [h.1 9 (Or.inl (by decide))]; exact hS.2.1, by rw [h.1 10 (Or.inl (by decide))]; exact hS.2.2⟩
theorem aw_R.set {r : am_H} {k : Nat} {c : am_C} (h1 : 12 ≤ k) (h2 : ¬ (40 ≤ k ∧ k ≤ 87)) {a b : Nat} : aw_R r (am_set r k c) a b := ⟨fun x hx => aw_setn (by omega), Nat.le_refl _, Nat.le_add_right _ _, Nat.le_add_right _ _⟩
theorem aw_R.x {r : am_H} : aw_R r (aw_x r) 1 6 := ⟨fun _ _ => rfl, Nat.le_succ _, Nat.le_refl _, Nat.le_refl _⟩
/-- numbers not given yet hold nothing -/
def aw_N (K : aw_K) (r : am_H) : Prop := 88 ≤ r.2.1 ∧ ∀ a, r.2.1 ≤ a → K a = (0, 0)
section
variable {K : aw_K} {A : aw_A} {G Q : am_G} {M : aw_M} {r : am_H} {n F T : Nat}
theorem aw_N.lt (hN : aw_N K r) {a : Nat} (h : 1 ≤ (K a).1) : a < r.2.1 := by
  rcases Nat.lt_or_ge a r.2.1 with e | e
  · exact e
  · rw [hN.2 a e] at h; exact absurd h (by decide)
theorem aw_Hnew {c : am_C} {N : Nat} (hN : aw_N K r) : am_new (aw_H K A G Q M r) c N = aw_H K A G Q M (am_new r c N) := by
  refine Prod.ext (funext fun b => ?_) rfl
  show (if b = r.2.1 then some c else (aw_H K A G Q M r).1 b) = (aw_fx A G Q M b).or ((aw_dy A G Q M (K b)).or (if b = r.2.1 then some c else r.1 b))
  by_cases e : b = r.2.1
  · subst e
    have h1 : ¬ aw_fa r.2.1 := by have := hN.1; unfold aw_fa; omega
    rw [if_pos rfl, if_pos rfl, aw_fx_none h1, hN.2 _ (Nat.le_refl _)]
    rfl
  · rw [if_neg e, if_neg e]
    rfl
theorem aw_Hset {c : am_C} {a : Nat} (h1 : ¬ aw_fa a) (h2 : (K a).1 = 0) : am_set (aw_H K A G Q M r) a c = aw_H K A G Q M (am_set r a c) := by
  refine Prod.ext (funext fun b => ?_) rfl
  show (if b = a then some c else (aw_H K A G Q M r).1 b) = (aw_fx A G Q M b).or ((aw_dy A G Q M (K b)).or (if b = a then some c else r.1 b))
  by_cases e : b = a
  · subst e
    rw [if_pos rfl, if_pos rfl, aw_fx_none h1]
    unfold aw_dy
    rw [h2]
    rfl
  · rw [if_neg e, if_neg e]
    rfl
theorem am_new_set {c c' : am_C} {N : Nat} : am_set (am_new r c N) r.2.1 c' = am_new r c' N := by
  refine Prod.ext (funext fun b => ?_) rfl
  show (if b = r.2.1 then some c' else if b = r.2.1 then some c else r.1 b) = if b = r.2.1 then some c' else r.1 b
  by_cases e : b = r.2.1
  · rw [if_pos e, if_pos e]
  · rw [if_neg e, if_neg e, if_neg e]
theorem aw_N.new (hN : aw_N K r) {c : am_C} {N : Nat} : aw_N K (am_new r c N) := ⟨Nat.le_succ_of_le hN.1, fun a ha => hN.2 a (by have : r.2.1 + 1 ≤ a := ha; omega)⟩
theorem aw_N.mono {K' : aw_K} {r' : am_H} (hN : aw_N K r) (h1 : ∀ a, K a = (0, 0) → K' a = (0, 0)) (h2 : r.2.1 ≤ r'.2.1) : aw_N K' r' := ⟨Nat.le_trans hN.1 h2, fun a ha => h1 a (hN.2 a (by omega))⟩
end
