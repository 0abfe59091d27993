/-! THE CLASS'S CELLS as a function of a state. K a: what lies at the address a (0: nothing of this; 1 unit, 2 city, 3 a city's works, 4 treaty, 5 offer, 6 a list's row (0 treaties, 1 cities, 2 units), 7 player, 8 ledger; and its number). A 0 unit, 1 city, 2 its works, 3 treaty, 4 offer: where they lie; A 5 i the row of the list i, A 6 i its length, A 7 i the city at the place i of the list, A 8 0 how many cities there are. G: the reference's rows. Q 0 1 2 food, work, trade got by a city; Q 3 the lists' modCount; Q 4 opened, width; Q 5 open, Q 6 picked; M 0 a city's plan, M 1 best (printed by wip/gen/gen_cls.py) -/
abbrev aw_K : Type := Nat → Nat × Nat
abbrev aw_A : Type := Nat → Nat → Nat
abbrev aw_M : Type := Nat → Nat → Int64
def aw_pa (p : Int32) : Nat := if p = 0 then 25 else if p = 1 then 28 else if p = 2 then 30 else 32
def aw_la (p : Nat) : Nat := if p = 0 then 26 else if p = 1 then 29 else if p = 2 then 31 else 33
def aw_n (G : am_G) (f : Nat) : Nat := (G f 0).toNatClampNeg
def aw_sz (A : aw_A) (G : am_G) (i : Nat) : Nat := if i = 0 then aw_n G 45 else if i = 1 then A 8 0 else aw_n G 24
def aw_el (A : aw_A) (i j : Nat) : Nat := if i = 0 then A 3 j else if i = 1 then A 1 (A 7 j) else A 0 j
def aw_un (G : am_G) (k : Nat) : List Value := [.int (G 26 k), .ref (aw_pa (G 27 k)), .int (G 28 k), .int (G 29 k), .int (G 30 k), .int (G 31 k), .int (G 32 k), .int (G 33 k)]
def aw_cc (A : aw_A) (G Q : am_G) (M : aw_M) (c : Nat) : List Value := [.int (Int32.ofNat c), .int (G 9 c), .ref (aw_pa (G 8 c)), .int (G 10 c), .int (G 11 c), .int (G 12 c), .int (G 13 c), .int (G 14 c), .ref (A 2 c), .int (G 17 c), .int (G 15 (3 * c)), .int (G 15 (3 * c + 1)), .int (G 15 (3 * c + 2)), .long (M 0 c), .int (Q 0 c), .int (Q 1 c), .int (Q 2 c)]
def aw_wo (G : am_G) (c : Nat) : List Value := am_row 6 fun j => G 16 (6 * c + j)
def aw_tr (G : am_G) (k : Nat) : List Value := [.int (G 46 k), .int (G 47 k), .int (G 48 k), .int (G 52 k), .int (G 49 k), .int (G 50 k), .int (G 51 k)]
def aw_of (G : am_G) (j : Nat) : List Value := [.int (G 42 j - 1), .int (Int32.ofNat (j / 4)), .int (Int32.ofNat (j % 4)), .int (G 44 j), .int (G 43 j), .int 0, .int (-1)]
def aw_ba (A : aw_A) (G : am_G) (i : Nat) : List Value := (List.range (A 6 i)).map fun j => if j < aw_sz A G i then .ref (aw_el A i j) else .null
def aw_pl (G : am_G) (p : Nat) : List Value := [.int (Int32.ofNat p), .int (G 34 p), .int (G 35 p), .int (G 36 p), .int (G 37 p), .int (G 39 p), .int (G 38 p), .ref (aw_la p)]
def aw_le (G : am_G) (p : Nat) : List Value := am_row 8 fun j => G 40 (8 * p + j)
def aw_os (A : aw_A) (G : am_G) : List Value := (List.range 16).map fun j => if G 42 j = 0 then .null else .ref (A 4 j)
def aw_dy (A : aw_A) (G Q : am_G) (M : aw_M) (q : Nat × Nat) : Option am_C := if q.1 = 1 then some (9, aw_un G q.2) else if q.1 = 2 then some (2, aw_cc A G Q M q.2) else if q.1 = 3 then some (50, aw_wo G q.2) else if q.1 = 4 then some (7, aw_tr G q.2) else if q.1 = 5 then some (7, aw_of G q.2) else if q.1 = 6 then some (53, aw_ba A G q.2) else if q.1 = 7 then some (6, aw_pl G q.2) else if q.1 = 8 then some (50, aw_le G q.2) else none
def aw_fx (A : aw_A) (G Q : am_G) (M : aw_M) (a : Nat) : Option am_C := if a = 12 then some (11, [.ref 13, .ref 34, .ref 38, .ref 39, .int (G 1 0)]) else if a = 13 then some (10, [.ref 14, .ref 18, .ref 21, .ref 22, .ref 23, .ref 24, .int (G 6 0), .int (G 25 0)]) else if a = 14 then some (1, [.ref 15, .ref 16, .ref 17]) else if a = 15 then some (50, am_row 64 (G 2)) else if a = 16 then some (50, am_row 64 (G 3)) else if a = 17 then some (50, am_row 64 (G 4)) else if a = 18 then some (4, [.ref 19, .ref 20]) else if a = 19 then some (0, [.int (Q 3 0), .ref (A 5 0), .int (G 45 0)]) else if a = 20 then some (54, aw_os A G) else if a = 21 then some (0, [.int 4, .ref 27, .int 4]) else if a = 22 then some (0, [.int (Q 3 1), .ref (A 5 1), .int (Int32.ofNat (A 8 0))]) else if a = 23 then some (0, [.int (Q 3 2), .ref (A 5 2), .int (G 24 0)]) else if a = 24 then some (50, am_row 10 (G 41)) else if a = 27 then some (53, [.ref 25, .ref 28, .ref 30, .ref 32, .null, .null, .null, .null, .null, .null]) else if a = 34 then some (5, [.ref 13, .ref 35, .ref 36, .ref 37, .int (Q 4 0), .int (Q 4 1)]) else if a = 35 then some (50, am_row 24 (Q 5)) else if a = 36 then some (50, am_row 3 (Q 6)) else if a = 37 then some (51, am_rowl 2425 (M 1)) else if a = 38 then some (3, [.ref 13]) else if a = 39 then some (8, [.ref 13]) else none
def aw_fa (a : Nat) : Prop := a < 25 ∨ a = 27 ∨ 34 ≤ a ∧ a ≤ 87
def aw_V (K : aw_K) : Prop := (∀ a, 1 ≤ (K a).1 → ¬ aw_fa a) ∧ (∀ a b, 1 ≤ (K a).1 → K b = K a → b = a) ∧ (K 25 = (7, 0) ∧ K 28 = (7, 1) ∧ K 30 = (7, 2) ∧ K 32 = (7, 3)) ∧ (K 26 = (8, 0) ∧ K 29 = (8, 1) ∧ K 31 = (8, 2) ∧ K 33 = (8, 3))
def aw_P (p : Int32) : Prop := 0 ≤ p ∧ p ≤ 3
theorem aw_P4 {p : Int32} (hp : aw_P p) : p = 0 ∨ p = 1 ∨ p = 2 ∨ p = 3 := by
  obtain ⟨a1, a2⟩ := hp
  have := Int32.le_iff_toInt_le.mp a1
  have := Int32.le_iff_toInt_le.mp a2
  have e0 : (0 : Int32).toInt = 0 := rfl
  have e3 : (3 : Int32).toInt = 3 := rfl
  have h : p.toInt = 0 ∨ p.toInt = 1 ∨ p.toInt = 2 ∨ p.toInt = 3 := by omega
  rcases h with h | h | h | h
  · exact Or.inl (Int32.toInt_inj.mp h)
  · exact Or.inr (Or.inl (Int32.toInt_inj.mp h))
  · exact Or.inr (Or.inr (Or.inl (Int32.toInt_inj.mp h)))
  · exact Or.inr (Or.inr (Or.inr (Int32.toInt_inj.mp h)))
theorem aw_kp {K : aw_K} {p : Int32} (hV : aw_V K) (hp : aw_P p) : K (aw_pa p) = (7, p.toNatClampNeg) := by
  obtain ⟨-, -, ⟨h0, h1, h2, h3⟩, -⟩ := hV
  rcases aw_P4 hp with rfl | rfl | rfl | rfl
  · exact h0
  · exact h1
  · exact h2
  · exact h3
theorem aw_kl {K : aw_K} {p : Int32} (hV : aw_V K) (hp : aw_P p) : K (aw_la p.toNatClampNeg) = (8, p.toNatClampNeg) := by
  obtain ⟨-, -, -, h0, h1, h2, h3⟩ := hV
  rcases aw_P4 hp with rfl | rfl | rfl | rfl
  · exact h0
  · exact h1
  · exact h2
  · exact h3
theorem aw_P.I {p : Int32} (hp : aw_P p) : am_I p 4 := by
  rcases aw_P4 hp with rfl | rfl | rfl | rfl <;> exact ⟨by decide, by decide⟩
theorem aw_P.no {p : Int32} (hp : aw_P p) : Int32.ofNat p.toNatClampNeg = p := by
  rcases aw_P4 hp with rfl | rfl | rfl | rfl <;> rfl
def aw_H (K : aw_K) (A : aw_A) (G Q : am_G) (M : aw_M) (r : am_H) : am_H := (fun a => (aw_fx A G Q M a).or ((aw_dy A G Q M (K a)).or (r.1 a)), r.2)
section
variable {K : aw_K} {A A' : aw_A} {G G' Q Q' : am_G} {M M' : aw_M} {r : am_H} {a : Nat}
theorem aw_fx_none (h : ¬ aw_fa a) : aw_fx A G Q M a = none := by
  unfold aw_fa at h
  unfold aw_fx
  repeat rw [if_neg (by omega)]
theorem aw_dyn {c : am_C} (hV : aw_V K) (hK : 1 ≤ (K a).1) (hc : aw_dy A G Q M (K a) = some c) : (aw_H K A G Q M r).1 a = some c := by
  show (aw_fx A G Q M a).or ((aw_dy A G Q M (K a)).or (r.1 a)) = _
  rw [aw_fx_none (hV.1 a hK), hc]
  rfl
theorem aw_fix {c : am_C} (hc : aw_fx A G Q M a = some c) : (aw_H K A G Q M r).1 a = some c := by
  show (aw_fx A G Q M a).or ((aw_dy A G Q M (K a)).or (r.1 a)) = _
  rw [hc]
  rfl
theorem aw_rest (h1 : ¬ aw_fa a) (h2 : (K a).1 = 0) : (aw_H K A G Q M r).1 a = r.1 a := by
  show (aw_fx A G Q M a).or ((aw_dy A G Q M (K a)).or (r.1 a)) = _
  rw [aw_fx_none h1]
  unfold aw_dy
  rw [h2]
  rfl
theorem aw_setd {c : am_C} (hV : aw_V K) (hK : 1 ≤ (K a).1) (h1 : aw_dy A' G' Q' M' (K a) = some c) (h2 : ∀ b, aw_fx A' G' Q' M' b = aw_fx A G Q M b) (h3 : ∀ q, ¬ q = K a → aw_dy A' G' Q' M' q = aw_dy A G Q M q) : am_set (aw_H K A G Q M r) a c = aw_H K A' G' Q' M' r := by
  refine Prod.ext (funext fun b => ?_) rfl
  show (if b = a then some c else (aw_H K A G Q M r).1 b) = (aw_H K A' G' Q' M' r).1 b
  by_cases e : b = a
  · subst e
    rw [if_pos rfl, aw_dyn hV hK h1]
  · rw [if_neg e]
    show (aw_fx A G Q M b).or ((aw_dy A G Q M (K b)).or (r.1 b)) = (aw_fx A' G' Q' M' b).or ((aw_dy A' G' Q' M' (K b)).or (r.1 b))
    rw [h2, h3 (K b) (fun q => e (hV.2.1 a b hK q))]
theorem aw_setf {c : am_C} (h1 : aw_fx A' G' Q' M' a = some c) (h2 : ∀ b, ¬ b = a → aw_fx A' G' Q' M' b = aw_fx A G Q M b) (h3 : ∀ q, aw_dy A' G' Q' M' q = aw_dy A G Q M q) : am_set (aw_H K A G Q M r) a c = aw_H K A' G' Q' M' r := by
  refine Prod.ext (funext fun b => ?_) rfl
  show (if b = a then some c else (aw_H K A G Q M r).1 b) = (aw_H K A' G' Q' M' r).1 b
  by_cases e : b = a
  · subst e
    rw [if_pos rfl, aw_fix h1]
  · rw [if_neg e]
    show (aw_fx A G Q M b).or ((aw_dy A G Q M (K b)).or (r.1 b)) = (aw_fx A' G' Q' M' b).or ((aw_dy A' G' Q' M' (K b)).or (r.1 b))
    rw [h2 b e, h3]
theorem aw_getf {h : am_H} {t b : Nat} {vs : List Value} {v : Value} (h0 : h.1 a = some (t, vs)) (h1 : vs[b]? = some v) : am_getf h a t b = some v := by
  unfold am_getf
  rw [h0, Option.bind_some, if_pos rfl]
  exact h1
theorem aw_putf {h : am_H} {t b d : Nat} {vs : List Value} {v : Value} (h0 : h.1 a = some (t, vs)) (h1 : b < vs.length) (h2 : am_kv v = d) : am_putf h a t b d v = some (am_set h a (t, vs.set b v)) := by
  unfold am_putf
  rw [h0, Option.bind_some, if_pos ⟨rfl, h1, h2⟩]
theorem aw_isa {h : am_H} {t : Nat} {vs : List Value} (h0 : h.1 a = some (t, vs)) : am_isa h a t = true := by
  unfold am_isa
  rw [h0]
  exact decide_eq_true rfl
theorem aw_dy1 {q : Nat × Nat} (h : q.1 = 1) : aw_dy A G Q M q = some (9, aw_un G q.2) := by
  unfold aw_dy
  rw [if_pos h]
theorem aw_dy2 {q : Nat × Nat} (h : q.1 = 2) : aw_dy A G Q M q = some (2, aw_cc A G Q M q.2) := by
  unfold aw_dy
  rw [if_neg (by omega), if_pos h]
theorem aw_dy3 {q : Nat × Nat} (h : q.1 = 3) : aw_dy A G Q M q = some (50, aw_wo G q.2) := by
  unfold aw_dy
  rw [if_neg (by omega), if_neg (by omega), if_pos h]
theorem aw_dy4 {q : Nat × Nat} (h : q.1 = 4) : aw_dy A G Q M q = some (7, aw_tr G q.2) := by
  unfold aw_dy
  rw [if_neg (by omega), if_neg (by omega), if_neg (by omega), if_pos h]
theorem aw_dy5 {q : Nat × Nat} (h : q.1 = 5) : aw_dy A G Q M q = some (7, aw_of G q.2) := by
  unfold aw_dy
  rw [if_neg (by omega), if_neg (by omega), if_neg (by omega), if_neg (by omega), if_pos h]
theorem aw_dy6 {q : Nat × Nat} (h : q.1 = 6) : aw_dy A G Q M q = some (53, aw_ba A G q.2) := by
  unfold aw_dy
  rw [if_neg (by omega), if_neg (by omega), if_neg (by omega), if_neg (by omega), if_neg (by omega), if_pos h]
theorem aw_dy7 {q : Nat × Nat} (h : q.1 = 7) : aw_dy A G Q M q = some (6, aw_pl G q.2) := by
  unfold aw_dy
  rw [if_neg (by omega), if_neg (by omega), if_neg (by omega), if_neg (by omega), if_neg (by omega), if_neg (by omega), if_pos h]
theorem aw_dy8 {q : Nat × Nat} (h : q.1 = 8) : aw_dy A G Q M q = some (50, aw_le G q.2) := by
  unfold aw_dy
  rw [if_neg (by omega), if_neg (by omega), if_neg (by omega), if_neg (by omega), if_neg (by omega), if_neg (by omega), if_neg (by omega), if_pos h]
theorem am_upd_ne' {α : Type} {g : Nat → α} {k j : Nat} {v : α} (h : ¬ j = k) : am_upd g k v j = g j := if_neg h
def aw_mu (M : aw_M) (a k : Nat) (v : Int64) : aw_M := fun b => if b = a then am_upd (M a) k v else M b
theorem aw_mu_ne {a k b : Nat} {v : Int64} (h : ¬ b = a) : aw_mu M a k v b = M b := if_neg h
theorem aw_mu_eq {a k : Nat} {v : Int64} : aw_mu M a k v a = am_upd (M a) k v := if_pos (Eq.refl a)
theorem aw_upA {k : Nat} : (k = k + 1) = False ∧ (k + 1 = k) = False := ⟨eq_false (by omega), eq_false (by omega)⟩
theorem aw_gU0 (hV : aw_V K) (hK : (K a).1 = 1) : am_getf (aw_H K A G Q M r) a 9 0 = some (.int (G 26 (K a).2)) := aw_getf (aw_dyn hV (by omega) (aw_dy1 hK)) rfl
theorem aw_pU0 {v : Int32} (hV : aw_V K) (hK : (K a).1 = 1) : am_putf (aw_H K A G Q M r) a 9 0 0 (.int v) = some (aw_H K A (am_up G 26 (K a).2 v) Q M r) := by
  refine (aw_putf (aw_dyn hV (by omega) (aw_dy1 hK)) (Nat.le_of_ble_eq_true rfl) rfl).trans ?_
  refine congrArg some (aw_setd hV (by omega) ?_ (fun _ => rfl) ?_)
  · rw [aw_dy1 hK]
    simp only [aw_un, am_upd_eq, am_upd_ne, aw_upA, List.set, am_up_eq, am_up_ne, am_upd_eq, Nat.reduceEqDiff, not_false_eq_true]
  · intro q hq
    by_cases h9 : q.1 = 1
    · rw [aw_dy1 h9, aw_dy1 h9]
      have hj : ¬ q.2 = (K a).2 := fun e => hq (Prod.ext (h9.trans hK.symm) e)
      simp only [aw_un, am_upd_ne hj, am_up_eq, am_up_ne, am_upd_eq, Nat.reduceEqDiff, not_false_eq_true]
    · unfold aw_dy
      rw [if_neg h9, if_neg h9]
      try rfl
theorem aw_gU1 (hV : aw_V K) (hK : (K a).1 = 1) : am_getf (aw_H K A G Q M r) a 9 1 = some (.ref (aw_pa (G 27 (K a).2))) := aw_getf (aw_dyn hV (by omega) (aw_dy1 hK)) rfl
theorem aw_gU2 (hV : aw_V K) (hK : (K a).1 = 1) : am_getf (aw_H K A G Q M r) a 9 2 = some (.int (G 28 (K a).2)) := aw_getf (aw_dyn hV (by omega) (aw_dy1 hK)) rfl
theorem aw_pU2 {v : Int32} (hV : aw_V K) (hK : (K a).1 = 1) : am_putf (aw_H K A G Q M r) a 9 2 0 (.int v) = some (aw_H K A (am_up G 28 (K a).2 v) Q M r) := by
  refine (aw_putf (aw_dyn hV (by omega) (aw_dy1 hK)) (Nat.le_of_ble_eq_true rfl) rfl).trans ?_
  refine congrArg some (aw_setd hV (by omega) ?_ (fun _ => rfl) ?_)
  · rw [aw_dy1 hK]
    simp only [aw_un, am_upd_eq, am_upd_ne, aw_upA, List.set, am_up_eq, am_up_ne, am_upd_eq, Nat.reduceEqDiff, not_false_eq_true]
  · intro q hq
    by_cases h9 : q.1 = 1
    · rw [aw_dy1 h9, aw_dy1 h9]
      have hj : ¬ q.2 = (K a).2 := fun e => hq (Prod.ext (h9.trans hK.symm) e)
      simp only [aw_un, am_upd_ne hj, am_up_eq, am_up_ne, am_upd_eq, Nat.reduceEqDiff, not_false_eq_true]
    · unfold aw_dy
      rw [if_neg h9, if_neg h9]
      try rfl
theorem aw_gU3 (hV : aw_V K) (hK : (K a).1 = 1) : am_getf (aw_H K A G Q M r) a 9 3 = some (.int (G 29 (K a).2)) := aw_getf (aw_dyn hV (by omega) (aw_dy1 hK)) rfl
theorem aw_pU3 {v : Int32} (hV : aw_V K) (hK : (K a).1 = 1) : am_putf (aw_H K A G Q M r) a 9 3 0 (.int v) = some (aw_H K A (am_up G 29 (K a).2 v) Q M r) := by
  refine (aw_putf (aw_dyn hV (by omega) (aw_dy1 hK)) (Nat.le_of_ble_eq_true rfl) rfl).trans ?_
  refine congrArg some (aw_setd hV (by omega) ?_ (fun _ => rfl) ?_)
  · rw [aw_dy1 hK]
    simp only [aw_un, am_upd_eq, am_upd_ne, aw_upA, List.set, am_up_eq, am_up_ne, am_upd_eq, Nat.reduceEqDiff, not_false_eq_true]
  · intro q hq
    by_cases h9 : q.1 = 1
    · rw [aw_dy1 h9, aw_dy1 h9]
      have hj : ¬ q.2 = (K a).2 := fun e => hq (Prod.ext (h9.trans hK.symm) e)
      simp only [aw_un, am_upd_ne hj, am_up_eq, am_up_ne, am_upd_eq, Nat.reduceEqDiff, not_false_eq_true]
    · unfold aw_dy
      rw [if_neg h9, if_neg h9]
      try rfl
theorem aw_gU4 (hV : aw_V K) (hK : (K a).1 = 1) : am_getf (aw_H K A G Q M r) a 9 4 = some (.int (G 30 (K a).2)) := aw_getf (aw_dyn hV (by omega) (aw_dy1 hK)) rfl
theorem aw_pU4 {v : Int32} (hV : aw_V K) (hK : (K a).1 = 1) : am_putf (aw_H K A G Q M r) a 9 4 0 (.int v) = some (aw_H K A (am_up G 30 (K a).2 v) Q M r) := by
  refine (aw_putf (aw_dyn hV (by omega) (aw_dy1 hK)) (Nat.le_of_ble_eq_true rfl) rfl).trans ?_
  refine congrArg some (aw_setd hV (by omega) ?_ (fun _ => rfl) ?_)
  · rw [aw_dy1 hK]
    simp only [aw_un, am_upd_eq, am_upd_ne, aw_upA, List.set, am_up_eq, am_up_ne, am_upd_eq, Nat.reduceEqDiff, not_false_eq_true]
  · intro q hq
    by_cases h9 : q.1 = 1
    · rw [aw_dy1 h9, aw_dy1 h9]
      have hj : ¬ q.2 = (K a).2 := fun e => hq (Prod.ext (h9.trans hK.symm) e)
      simp only [aw_un, am_upd_ne hj, am_up_eq, am_up_ne, am_upd_eq, Nat.reduceEqDiff, not_false_eq_true]
    · unfold aw_dy
      rw [if_neg h9, if_neg h9]
      try rfl
theorem aw_gU5 (hV : aw_V K) (hK : (K a).1 = 1) : am_getf (aw_H K A G Q M r) a 9 5 = some (.int (G 31 (K a).2)) := aw_getf (aw_dyn hV (by omega) (aw_dy1 hK)) rfl
theorem aw_pU5 {v : Int32} (hV : aw_V K) (hK : (K a).1 = 1) : am_putf (aw_H K A G Q M r) a 9 5 0 (.int v) = some (aw_H K A (am_up G 31 (K a).2 v) Q M r) := by
  refine (aw_putf (aw_dyn hV (by omega) (aw_dy1 hK)) (Nat.le_of_ble_eq_true rfl) rfl).trans ?_
  refine congrArg some (aw_setd hV (by omega) ?_ (fun _ => rfl) ?_)
  · rw [aw_dy1 hK]
    simp only [aw_un, am_upd_eq, am_upd_ne, aw_upA, List.set, am_up_eq, am_up_ne, am_upd_eq, Nat.reduceEqDiff, not_false_eq_true]
  · intro q hq
    by_cases h9 : q.1 = 1
    · rw [aw_dy1 h9, aw_dy1 h9]
      have hj : ¬ q.2 = (K a).2 := fun e => hq (Prod.ext (h9.trans hK.symm) e)
      simp only [aw_un, am_upd_ne hj, am_up_eq, am_up_ne, am_upd_eq, Nat.reduceEqDiff, not_false_eq_true]
    · unfold aw_dy
      rw [if_neg h9, if_neg h9]
      try rfl
theorem aw_gU6 (hV : aw_V K) (hK : (K a).1 = 1) : am_getf (aw_H K A G Q M r) a 9 6 = some (.int (G 32 (K a).2)) := aw_getf (aw_dyn hV (by omega) (aw_dy1 hK)) rfl
theorem aw_pU6 {v : Int32} (hV : aw_V K) (hK : (K a).1 = 1) : am_putf (aw_H K A G Q M r) a 9 6 0 (.int v) = some (aw_H K A (am_up G 32 (K a).2 v) Q M r) := by
  refine (aw_putf (aw_dyn hV (by omega) (aw_dy1 hK)) (Nat.le_of_ble_eq_true rfl) rfl).trans ?_
  refine congrArg some (aw_setd hV (by omega) ?_ (fun _ => rfl) ?_)
  · rw [aw_dy1 hK]
    simp only [aw_un, am_upd_eq, am_upd_ne, aw_upA, List.set, am_up_eq, am_up_ne, am_upd_eq, Nat.reduceEqDiff, not_false_eq_true]
  · intro q hq
    by_cases h9 : q.1 = 1
    · rw [aw_dy1 h9, aw_dy1 h9]
      have hj : ¬ q.2 = (K a).2 := fun e => hq (Prod.ext (h9.trans hK.symm) e)
      simp only [aw_un, am_upd_ne hj, am_up_eq, am_up_ne, am_upd_eq, Nat.reduceEqDiff, not_false_eq_true]
    · unfold aw_dy
      rw [if_neg h9, if_neg h9]
      try rfl
theorem aw_gU7 (hV : aw_V K) (hK : (K a).1 = 1) : am_getf (aw_H K A G Q M r) a 9 7 = some (.int (G 33 (K a).2)) := aw_getf (aw_dyn hV (by omega) (aw_dy1 hK)) rfl
theorem aw_pU7 {v : Int32} (hV : aw_V K) (hK : (K a).1 = 1) : am_putf (aw_H K A G Q M r) a 9 7 0 (.int v) = some (aw_H K A (am_up G 33 (K a).2 v) Q M r) := by
  refine (aw_putf (aw_dyn hV (by omega) (aw_dy1 hK)) (Nat.le_of_ble_eq_true rfl) rfl).trans ?_
  refine congrArg some (aw_setd hV (by omega) ?_ (fun _ => rfl) ?_)
  · rw [aw_dy1 hK]
    simp only [aw_un, am_upd_eq, am_upd_ne, aw_upA, List.set, am_up_eq, am_up_ne, am_upd_eq, Nat.reduceEqDiff, not_false_eq_true]
  · intro q hq
    by_cases h9 : q.1 = 1
    · rw [aw_dy1 h9, aw_dy1 h9]
      have hj : ¬ q.2 = (K a).2 := fun e => hq (Prod.ext (h9.trans hK.symm) e)
      simp only [aw_un, am_upd_ne hj, am_up_eq, am_up_ne, am_upd_eq, Nat.reduceEqDiff, not_false_eq_true]
    · unfold aw_dy
      rw [if_neg h9, if_neg h9]
      try rfl
theorem aw_isU (hV : aw_V K) (hK : (K a).1 = 1) : am_isa (aw_H K A G Q M r) a 9 = true := aw_isa (aw_dyn hV (by omega) (aw_dy1 hK))
theorem aw_gC1 (hV : aw_V K) (hK : (K a).1 = 2) : am_getf (aw_H K A G Q M r) a 2 1 = some (.int (G 9 (K a).2)) := aw_getf (aw_dyn hV (by omega) (aw_dy2 hK)) rfl
theorem aw_gC2 (hV : aw_V K) (hK : (K a).1 = 2) : am_getf (aw_H K A G Q M r) a 2 2 = some (.ref (aw_pa (G 8 (K a).2))) := aw_getf (aw_dyn hV (by omega) (aw_dy2 hK)) rfl
theorem aw_pC2 {v : Int32} (hV : aw_V K) (hK : (K a).1 = 2) : am_putf (aw_H K A G Q M r) a 2 2 2 (.ref (aw_pa v)) = some (aw_H K A (am_up G 8 (K a).2 v) Q M r) := by
  refine (aw_putf (aw_dyn hV (by omega) (aw_dy2 hK)) (Nat.le_of_ble_eq_true rfl) rfl).trans ?_
  refine congrArg some (aw_setd hV (by omega) ?_ (fun _ => rfl) ?_)
  · rw [aw_dy2 hK]
    simp only [aw_cc, am_upd_eq, am_upd_ne, aw_upA, List.set, am_up_eq, am_up_ne, am_upd_eq, Nat.reduceEqDiff, not_false_eq_true]
  · intro q hq
    by_cases h9 : q.1 = 2
    · rw [aw_dy2 h9, aw_dy2 h9]
      have hj : ¬ q.2 = (K a).2 := fun e => hq (Prod.ext (h9.trans hK.symm) e)
      simp only [aw_cc, am_upd_ne hj, am_up_eq, am_up_ne, am_upd_eq, Nat.reduceEqDiff, not_false_eq_true]
    · unfold aw_dy
      simp only [if_neg h9]
      try rfl
theorem aw_gC3 (hV : aw_V K) (hK : (K a).1 = 2) : am_getf (aw_H K A G Q M r) a 2 3 = some (.int (G 10 (K a).2)) := aw_getf (aw_dyn hV (by omega) (aw_dy2 hK)) rfl
theorem aw_pC3 {v : Int32} (hV : aw_V K) (hK : (K a).1 = 2) : am_putf (aw_H K A G Q M r) a 2 3 0 (.int v) = some (aw_H K A (am_up G 10 (K a).2 v) Q M r) := by
  refine (aw_putf (aw_dyn hV (by omega) (aw_dy2 hK)) (Nat.le_of_ble_eq_true rfl) rfl).trans ?_
  refine congrArg some (aw_setd hV (by omega) ?_ (fun _ => rfl) ?_)
  · rw [aw_dy2 hK]
    simp only [aw_cc, am_upd_eq, am_upd_ne, aw_upA, List.set, am_up_eq, am_up_ne, am_upd_eq, Nat.reduceEqDiff, not_false_eq_true]
  · intro q hq
    by_cases h9 : q.1 = 2
    · rw [aw_dy2 h9, aw_dy2 h9]
      have hj : ¬ q.2 = (K a).2 := fun e => hq (Prod.ext (h9.trans hK.symm) e)
      simp only [aw_cc, am_upd_ne hj, am_up_eq, am_up_ne, am_upd_eq, Nat.reduceEqDiff, not_false_eq_true]
    · unfold aw_dy
      simp only [if_neg h9]
      try rfl
theorem aw_gC4 (hV : aw_V K) (hK : (K a).1 = 2) : am_getf (aw_H K A G Q M r) a 2 4 = some (.int (G 11 (K a).2)) := aw_getf (aw_dyn hV (by omega) (aw_dy2 hK)) rfl
theorem aw_pC4 {v : Int32} (hV : aw_V K) (hK : (K a).1 = 2) : am_putf (aw_H K A G Q M r) a 2 4 0 (.int v) = some (aw_H K A (am_up G 11 (K a).2 v) Q M r) := by
  refine (aw_putf (aw_dyn hV (by omega) (aw_dy2 hK)) (Nat.le_of_ble_eq_true rfl) rfl).trans ?_
  refine congrArg some (aw_setd hV (by omega) ?_ (fun _ => rfl) ?_)
  · rw [aw_dy2 hK]
    simp only [aw_cc, am_upd_eq, am_upd_ne, aw_upA, List.set, am_up_eq, am_up_ne, am_upd_eq, Nat.reduceEqDiff, not_false_eq_true]
  · intro q hq
    by_cases h9 : q.1 = 2
    · rw [aw_dy2 h9, aw_dy2 h9]
      have hj : ¬ q.2 = (K a).2 := fun e => hq (Prod.ext (h9.trans hK.symm) e)
      simp only [aw_cc, am_upd_ne hj, am_up_eq, am_up_ne, am_upd_eq, Nat.reduceEqDiff, not_false_eq_true]
    · unfold aw_dy
      simp only [if_neg h9]
      try rfl
theorem aw_gC5 (hV : aw_V K) (hK : (K a).1 = 2) : am_getf (aw_H K A G Q M r) a 2 5 = some (.int (G 12 (K a).2)) := aw_getf (aw_dyn hV (by omega) (aw_dy2 hK)) rfl
theorem aw_pC5 {v : Int32} (hV : aw_V K) (hK : (K a).1 = 2) : am_putf (aw_H K A G Q M r) a 2 5 0 (.int v) = some (aw_H K A (am_up G 12 (K a).2 v) Q M r) := by
  refine (aw_putf (aw_dyn hV (by omega) (aw_dy2 hK)) (Nat.le_of_ble_eq_true rfl) rfl).trans ?_
  refine congrArg some (aw_setd hV (by omega) ?_ (fun _ => rfl) ?_)
  · rw [aw_dy2 hK]
    simp only [aw_cc, am_upd_eq, am_upd_ne, aw_upA, List.set, am_up_eq, am_up_ne, am_upd_eq, Nat.reduceEqDiff, not_false_eq_true]
  · intro q hq
    by_cases h9 : q.1 = 2
    · rw [aw_dy2 h9, aw_dy2 h9]
      have hj : ¬ q.2 = (K a).2 := fun e => hq (Prod.ext (h9.trans hK.symm) e)
      simp only [aw_cc, am_upd_ne hj, am_up_eq, am_up_ne, am_upd_eq, Nat.reduceEqDiff, not_false_eq_true]
    · unfold aw_dy
      simp only [if_neg h9]
      try rfl
theorem aw_gC6 (hV : aw_V K) (hK : (K a).1 = 2) : am_getf (aw_H K A G Q M r) a 2 6 = some (.int (G 13 (K a).2)) := aw_getf (aw_dyn hV (by omega) (aw_dy2 hK)) rfl
theorem aw_pC6 {v : Int32} (hV : aw_V K) (hK : (K a).1 = 2) : am_putf (aw_H K A G Q M r) a 2 6 0 (.int v) = some (aw_H K A (am_up G 13 (K a).2 v) Q M r) := by
  refine (aw_putf (aw_dyn hV (by omega) (aw_dy2 hK)) (Nat.le_of_ble_eq_true rfl) rfl).trans ?_
  refine congrArg some (aw_setd hV (by omega) ?_ (fun _ => rfl) ?_)
  · rw [aw_dy2 hK]
    simp only [aw_cc, am_upd_eq, am_upd_ne, aw_upA, List.set, am_up_eq, am_up_ne, am_upd_eq, Nat.reduceEqDiff, not_false_eq_true]
  · intro q hq
    by_cases h9 : q.1 = 2
    · rw [aw_dy2 h9, aw_dy2 h9]
      have hj : ¬ q.2 = (K a).2 := fun e => hq (Prod.ext (h9.trans hK.symm) e)
      simp only [aw_cc, am_upd_ne hj, am_up_eq, am_up_ne, am_upd_eq, Nat.reduceEqDiff, not_false_eq_true]
    · unfold aw_dy
      simp only [if_neg h9]
      try rfl
theorem aw_gC7 (hV : aw_V K) (hK : (K a).1 = 2) : am_getf (aw_H K A G Q M r) a 2 7 = some (.int (G 14 (K a).2)) := aw_getf (aw_dyn hV (by omega) (aw_dy2 hK)) rfl
theorem aw_pC7 {v : Int32} (hV : aw_V K) (hK : (K a).1 = 2) : am_putf (aw_H K A G Q M r) a 2 7 0 (.int v) = some (aw_H K A (am_up G 14 (K a).2 v) Q M r) := by
  refine (aw_putf (aw_dyn hV (by omega) (aw_dy2 hK)) (Nat.le_of_ble_eq_true rfl) rfl).trans ?_
  refine congrArg some (aw_setd hV (by omega) ?_ (fun _ => rfl) ?_)
  · rw [aw_dy2 hK]
    simp only [aw_cc, am_upd_eq, am_upd_ne, aw_upA, List.set, am_up_eq, am_up_ne, am_upd_eq, Nat.reduceEqDiff, not_false_eq_true]
  · intro q hq
    by_cases h9 : q.1 = 2
    · rw [aw_dy2 h9, aw_dy2 h9]
      have hj : ¬ q.2 = (K a).2 := fun e => hq (Prod.ext (h9.trans hK.symm) e)
      simp only [aw_cc, am_upd_ne hj, am_up_eq, am_up_ne, am_upd_eq, Nat.reduceEqDiff, not_false_eq_true]
    · unfold aw_dy
      simp only [if_neg h9]
      try rfl
theorem aw_gC9 (hV : aw_V K) (hK : (K a).1 = 2) : am_getf (aw_H K A G Q M r) a 2 9 = some (.int (G 17 (K a).2)) := aw_getf (aw_dyn hV (by omega) (aw_dy2 hK)) rfl
theorem aw_pC9 {v : Int32} (hV : aw_V K) (hK : (K a).1 = 2) : am_putf (aw_H K A G Q M r) a 2 9 0 (.int v) = some (aw_H K A (am_up G 17 (K a).2 v) Q M r) := by
  refine (aw_putf (aw_dyn hV (by omega) (aw_dy2 hK)) (Nat.le_of_ble_eq_true rfl) rfl).trans ?_
  refine congrArg some (aw_setd hV (by omega) ?_ (fun _ => rfl) ?_)
  · rw [aw_dy2 hK]
    simp only [aw_cc, am_upd_eq, am_upd_ne, aw_upA, List.set, am_up_eq, am_up_ne, am_upd_eq, Nat.reduceEqDiff, not_false_eq_true]
  · intro q hq
    by_cases h9 : q.1 = 2
    · rw [aw_dy2 h9, aw_dy2 h9]
      have hj : ¬ q.2 = (K a).2 := fun e => hq (Prod.ext (h9.trans hK.symm) e)
      simp only [aw_cc, am_upd_ne hj, am_up_eq, am_up_ne, am_upd_eq, Nat.reduceEqDiff, not_false_eq_true]
    · unfold aw_dy
      simp only [if_neg h9]
      try rfl
theorem aw_gC0 (hV : aw_V K) (hK : (K a).1 = 2) : am_getf (aw_H K A G Q M r) a 2 0 = some (.int (Int32.ofNat (K a).2)) := aw_getf (aw_dyn hV (by omega) (aw_dy2 hK)) rfl
theorem aw_gC8 (hV : aw_V K) (hK : (K a).1 = 2) : am_getf (aw_H K A G Q M r) a 2 8 = some (.ref (A 2 (K a).2)) := aw_getf (aw_dyn hV (by omega) (aw_dy2 hK)) rfl
theorem aw_gC10 (hV : aw_V K) (hK : (K a).1 = 2) : am_getf (aw_H K A G Q M r) a 2 10 = some (.int (G 15 (3 * (K a).2))) := aw_getf (aw_dyn hV (by omega) (aw_dy2 hK)) rfl
theorem aw_pC10 {v : Int32} (hV : aw_V K) (hK : (K a).1 = 2) : am_putf (aw_H K A G Q M r) a 2 10 0 (.int v) = some (aw_H K A (am_up G 15 (3 * (K a).2) v) Q M r) := by
  refine (aw_putf (aw_dyn hV (by omega) (aw_dy2 hK)) (Nat.le_of_ble_eq_true rfl) rfl).trans ?_
  refine congrArg some (aw_setd hV (by omega) ?_ (fun _ => rfl) ?_)
  · rw [aw_dy2 hK]
    simp only [aw_cc, List.set, am_up_eq, am_up_ne, Nat.reduceEqDiff, not_false_eq_true, am_upd_eq, am_upd_ne (show ¬ 3 * (K a).2 + 1 = 3 * (K a).2 by omega), am_upd_ne (show ¬ 3 * (K a).2 + 2 = 3 * (K a).2 by omega)]
  · intro q hq
    by_cases h9 : q.1 = 2
    · rw [aw_dy2 h9, aw_dy2 h9]
      have hj : ¬ q.2 = (K a).2 := fun e => hq (Prod.ext (h9.trans hK.symm) e)
      simp only [aw_cc, am_up_eq, am_up_ne, Nat.reduceEqDiff, not_false_eq_true, am_upd_ne (show ¬ 3 * q.2 = 3 * (K a).2 by omega), am_upd_ne (show ¬ 3 * q.2 + 1 = 3 * (K a).2 by omega), am_upd_ne (show ¬ 3 * q.2 + 2 = 3 * (K a).2 by omega)]
    · unfold aw_dy
      simp only [if_neg h9]
      try rfl
theorem aw_gC11 (hV : aw_V K) (hK : (K a).1 = 2) : am_getf (aw_H K A G Q M r) a 2 11 = some (.int (G 15 (3 * (K a).2 + 1))) := aw_getf (aw_dyn hV (by omega) (aw_dy2 hK)) rfl
theorem aw_pC11 {v : Int32} (hV : aw_V K) (hK : (K a).1 = 2) : am_putf (aw_H K A G Q M r) a 2 11 0 (.int v) = some (aw_H K A (am_up G 15 (3 * (K a).2 + 1) v) Q M r) := by
  refine (aw_putf (aw_dyn hV (by omega) (aw_dy2 hK)) (Nat.le_of_ble_eq_true rfl) rfl).trans ?_
  refine congrArg some (aw_setd hV (by omega) ?_ (fun _ => rfl) ?_)
  · rw [aw_dy2 hK]
    simp only [aw_cc, List.set, am_up_eq, am_up_ne, Nat.reduceEqDiff, not_false_eq_true, am_upd_eq, am_upd_ne (show ¬ 3 * (K a).2 = 3 * (K a).2 + 1 by omega), am_upd_ne (show ¬ 3 * (K a).2 + 2 = 3 * (K a).2 + 1 by omega)]
  · intro q hq
    by_cases h9 : q.1 = 2
    · rw [aw_dy2 h9, aw_dy2 h9]
      have hj : ¬ q.2 = (K a).2 := fun e => hq (Prod.ext (h9.trans hK.symm) e)
      simp only [aw_cc, am_up_eq, am_up_ne, Nat.reduceEqDiff, not_false_eq_true, am_upd_ne (show ¬ 3 * q.2 = 3 * (K a).2 + 1 by omega), am_upd_ne (show ¬ 3 * q.2 + 1 = 3 * (K a).2 + 1 by omega), am_upd_ne (show ¬ 3 * q.2 + 2 = 3 * (K a).2 + 1 by omega)]
    · unfold aw_dy
      simp only [if_neg h9]
      try rfl
theorem aw_gC12 (hV : aw_V K) (hK : (K a).1 = 2) : am_getf (aw_H K A G Q M r) a 2 12 = some (.int (G 15 (3 * (K a).2 + 2))) := aw_getf (aw_dyn hV (by omega) (aw_dy2 hK)) rfl
theorem aw_pC12 {v : Int32} (hV : aw_V K) (hK : (K a).1 = 2) : am_putf (aw_H K A G Q M r) a 2 12 0 (.int v) = some (aw_H K A (am_up G 15 (3 * (K a).2 + 2) v) Q M r) := by
  refine (aw_putf (aw_dyn hV (by omega) (aw_dy2 hK)) (Nat.le_of_ble_eq_true rfl) rfl).trans ?_
  refine congrArg some (aw_setd hV (by omega) ?_ (fun _ => rfl) ?_)
  · rw [aw_dy2 hK]
    simp only [aw_cc, List.set, am_up_eq, am_up_ne, Nat.reduceEqDiff, not_false_eq_true, am_upd_eq, am_upd_ne (show ¬ 3 * (K a).2 = 3 * (K a).2 + 2 by omega), am_upd_ne (show ¬ 3 * (K a).2 + 1 = 3 * (K a).2 + 2 by omega)]
  · intro q hq
    by_cases h9 : q.1 = 2
    · rw [aw_dy2 h9, aw_dy2 h9]
      have hj : ¬ q.2 = (K a).2 := fun e => hq (Prod.ext (h9.trans hK.symm) e)
      simp only [aw_cc, am_up_eq, am_up_ne, Nat.reduceEqDiff, not_false_eq_true, am_upd_ne (show ¬ 3 * q.2 = 3 * (K a).2 + 2 by omega), am_upd_ne (show ¬ 3 * q.2 + 1 = 3 * (K a).2 + 2 by omega), am_upd_ne (show ¬ 3 * q.2 + 2 = 3 * (K a).2 + 2 by omega)]
    · unfold aw_dy
      simp only [if_neg h9]
      try rfl
theorem aw_gC13 (hV : aw_V K) (hK : (K a).1 = 2) : am_getf (aw_H K A G Q M r) a 2 13 = some (.long (M 0 (K a).2)) := aw_getf (aw_dyn hV (by omega) (aw_dy2 hK)) rfl
theorem aw_pC13 {v : Int64} (hV : aw_V K) (hK : (K a).1 = 2) : am_putf (aw_H K A G Q M r) a 2 13 1 (.long v) = some (aw_H K A G Q (aw_mu M 0 (K a).2 v) r) := by
  refine (aw_putf (aw_dyn hV (by omega) (aw_dy2 hK)) (Nat.le_of_ble_eq_true rfl) rfl).trans ?_
  refine congrArg some (aw_setd hV (by omega) ?_ (fun _ => rfl) ?_)
  · rw [aw_dy2 hK]
    simp only [aw_cc, List.set, aw_mu_eq, aw_mu_ne, am_upd_eq, Nat.reduceEqDiff, not_false_eq_true]
  · intro q hq
    by_cases h9 : q.1 = 2
    · rw [aw_dy2 h9, aw_dy2 h9]
      have hj : ¬ q.2 = (K a).2 := fun e => hq (Prod.ext (h9.trans hK.symm) e)
      simp only [aw_cc, aw_mu_eq, aw_mu_ne, am_upd_ne hj, Nat.reduceEqDiff, not_false_eq_true]
    · unfold aw_dy
      simp only [if_neg h9]
      try rfl
theorem aw_gC14 (hV : aw_V K) (hK : (K a).1 = 2) : am_getf (aw_H K A G Q M r) a 2 14 = some (.int (Q 0 (K a).2)) := aw_getf (aw_dyn hV (by omega) (aw_dy2 hK)) rfl
theorem aw_pC14 {v : Int32} (hV : aw_V K) (hK : (K a).1 = 2) : am_putf (aw_H K A G Q M r) a 2 14 0 (.int v) = some (aw_H K A G (am_up Q 0 (K a).2 v) M r) := by
  refine (aw_putf (aw_dyn hV (by omega) (aw_dy2 hK)) (Nat.le_of_ble_eq_true rfl) rfl).trans ?_
  refine congrArg some (aw_setd hV (by omega) ?_ (fun _ => rfl) ?_)
  · rw [aw_dy2 hK]
    simp only [aw_cc, List.set, am_up_eq, am_up_ne, am_upd_eq, Nat.reduceEqDiff, not_false_eq_true]
  · intro q hq
    by_cases h9 : q.1 = 2
    · rw [aw_dy2 h9, aw_dy2 h9]
      have hj : ¬ q.2 = (K a).2 := fun e => hq (Prod.ext (h9.trans hK.symm) e)
      simp only [aw_cc, am_up_eq, am_up_ne, am_upd_ne hj, Nat.reduceEqDiff, not_false_eq_true]
    · unfold aw_dy
      simp only [if_neg h9]
      try rfl
theorem aw_gC15 (hV : aw_V K) (hK : (K a).1 = 2) : am_getf (aw_H K A G Q M r) a 2 15 = some (.int (Q 1 (K a).2)) := aw_getf (aw_dyn hV (by omega) (aw_dy2 hK)) rfl
theorem aw_pC15 {v : Int32} (hV : aw_V K) (hK : (K a).1 = 2) : am_putf (aw_H K A G Q M r) a 2 15 0 (.int v) = some (aw_H K A G (am_up Q 1 (K a).2 v) M r) := by
  refine (aw_putf (aw_dyn hV (by omega) (aw_dy2 hK)) (Nat.le_of_ble_eq_true rfl) rfl).trans ?_
  refine congrArg some (aw_setd hV (by omega) ?_ (fun _ => rfl) ?_)
  · rw [aw_dy2 hK]
    simp only [aw_cc, List.set, am_up_eq, am_up_ne, am_upd_eq, Nat.reduceEqDiff, not_false_eq_true]
  · intro q hq
    by_cases h9 : q.1 = 2
    · rw [aw_dy2 h9, aw_dy2 h9]
      have hj : ¬ q.2 = (K a).2 := fun e => hq (Prod.ext (h9.trans hK.symm) e)
      simp only [aw_cc, am_up_eq, am_up_ne, am_upd_ne hj, Nat.reduceEqDiff, not_false_eq_true]
    · unfold aw_dy
      simp only [if_neg h9]
      try rfl
theorem aw_gC16 (hV : aw_V K) (hK : (K a).1 = 2) : am_getf (aw_H K A G Q M r) a 2 16 = some (.int (Q 2 (K a).2)) := aw_getf (aw_dyn hV (by omega) (aw_dy2 hK)) rfl
theorem aw_pC16 {v : Int32} (hV : aw_V K) (hK : (K a).1 = 2) : am_putf (aw_H K A G Q M r) a 2 16 0 (.int v) = some (aw_H K A G (am_up Q 2 (K a).2 v) M r) := by
  refine (aw_putf (aw_dyn hV (by omega) (aw_dy2 hK)) (Nat.le_of_ble_eq_true rfl) rfl).trans ?_
  refine congrArg some (aw_setd hV (by omega) ?_ (fun _ => rfl) ?_)
  · rw [aw_dy2 hK]
    simp only [aw_cc, List.set, am_up_eq, am_up_ne, am_upd_eq, Nat.reduceEqDiff, not_false_eq_true]
  · intro q hq
    by_cases h9 : q.1 = 2
    · rw [aw_dy2 h9, aw_dy2 h9]
      have hj : ¬ q.2 = (K a).2 := fun e => hq (Prod.ext (h9.trans hK.symm) e)
      simp only [aw_cc, am_up_eq, am_up_ne, am_upd_ne hj, Nat.reduceEqDiff, not_false_eq_true]
    · unfold aw_dy
      simp only [if_neg h9]
      try rfl
theorem aw_isC (hV : aw_V K) (hK : (K a).1 = 2) : am_isa (aw_H K A G Q M r) a 2 = true := aw_isa (aw_dyn hV (by omega) (aw_dy2 hK))
theorem aw_gT0 (hV : aw_V K) (hK : (K a).1 = 4) : am_getf (aw_H K A G Q M r) a 7 0 = some (.int (G 46 (K a).2)) := aw_getf (aw_dyn hV (by omega) (aw_dy4 hK)) rfl
theorem aw_gT1 (hV : aw_V K) (hK : (K a).1 = 4) : am_getf (aw_H K A G Q M r) a 7 1 = some (.int (G 47 (K a).2)) := aw_getf (aw_dyn hV (by omega) (aw_dy4 hK)) rfl
theorem aw_gT2 (hV : aw_V K) (hK : (K a).1 = 4) : am_getf (aw_H K A G Q M r) a 7 2 = some (.int (G 48 (K a).2)) := aw_getf (aw_dyn hV (by omega) (aw_dy4 hK)) rfl
theorem aw_gT3 (hV : aw_V K) (hK : (K a).1 = 4) : am_getf (aw_H K A G Q M r) a 7 3 = some (.int (G 52 (K a).2)) := aw_getf (aw_dyn hV (by omega) (aw_dy4 hK)) rfl
theorem aw_gT4 (hV : aw_V K) (hK : (K a).1 = 4) : am_getf (aw_H K A G Q M r) a 7 4 = some (.int (G 49 (K a).2)) := aw_getf (aw_dyn hV (by omega) (aw_dy4 hK)) rfl
theorem aw_pT4 {v : Int32} (hV : aw_V K) (hK : (K a).1 = 4) : am_putf (aw_H K A G Q M r) a 7 4 0 (.int v) = some (aw_H K A (am_up G 49 (K a).2 v) Q M r) := by
  refine (aw_putf (aw_dyn hV (by omega) (aw_dy4 hK)) (Nat.le_of_ble_eq_true rfl) rfl).trans ?_
  refine congrArg some (aw_setd hV (by omega) ?_ (fun _ => rfl) ?_)
  · rw [aw_dy4 hK]
    simp only [aw_tr, am_upd_eq, am_upd_ne, aw_upA, List.set, am_up_eq, am_up_ne, am_upd_eq, Nat.reduceEqDiff, not_false_eq_true]
  · intro q hq
    by_cases h9 : q.1 = 4
    · rw [aw_dy4 h9, aw_dy4 h9]
      have hj : ¬ q.2 = (K a).2 := fun e => hq (Prod.ext (h9.trans hK.symm) e)
      simp only [aw_tr, am_upd_ne hj, am_up_eq, am_up_ne, am_upd_eq, Nat.reduceEqDiff, not_false_eq_true]
    · unfold aw_dy
      simp only [if_neg h9]
      try rfl
theorem aw_gT5 (hV : aw_V K) (hK : (K a).1 = 4) : am_getf (aw_H K A G Q M r) a 7 5 = some (.int (G 50 (K a).2)) := aw_getf (aw_dyn hV (by omega) (aw_dy4 hK)) rfl
theorem aw_pT5 {v : Int32} (hV : aw_V K) (hK : (K a).1 = 4) : am_putf (aw_H K A G Q M r) a 7 5 0 (.int v) = some (aw_H K A (am_up G 50 (K a).2 v) Q M r) := by
  refine (aw_putf (aw_dyn hV (by omega) (aw_dy4 hK)) (Nat.le_of_ble_eq_true rfl) rfl).trans ?_
  refine congrArg some (aw_setd hV (by omega) ?_ (fun _ => rfl) ?_)
  · rw [aw_dy4 hK]
    simp only [aw_tr, am_upd_eq, am_upd_ne, aw_upA, List.set, am_up_eq, am_up_ne, am_upd_eq, Nat.reduceEqDiff, not_false_eq_true]
  · intro q hq
    by_cases h9 : q.1 = 4
    · rw [aw_dy4 h9, aw_dy4 h9]
      have hj : ¬ q.2 = (K a).2 := fun e => hq (Prod.ext (h9.trans hK.symm) e)
      simp only [aw_tr, am_upd_ne hj, am_up_eq, am_up_ne, am_upd_eq, Nat.reduceEqDiff, not_false_eq_true]
    · unfold aw_dy
      simp only [if_neg h9]
      try rfl
theorem aw_gT6 (hV : aw_V K) (hK : (K a).1 = 4) : am_getf (aw_H K A G Q M r) a 7 6 = some (.int (G 51 (K a).2)) := aw_getf (aw_dyn hV (by omega) (aw_dy4 hK)) rfl
theorem aw_pT6 {v : Int32} (hV : aw_V K) (hK : (K a).1 = 4) : am_putf (aw_H K A G Q M r) a 7 6 0 (.int v) = some (aw_H K A (am_up G 51 (K a).2 v) Q M r) := by
  refine (aw_putf (aw_dyn hV (by omega) (aw_dy4 hK)) (Nat.le_of_ble_eq_true rfl) rfl).trans ?_
  refine congrArg some (aw_setd hV (by omega) ?_ (fun _ => rfl) ?_)
  · rw [aw_dy4 hK]
    simp only [aw_tr, am_upd_eq, am_upd_ne, aw_upA, List.set, am_up_eq, am_up_ne, am_upd_eq, Nat.reduceEqDiff, not_false_eq_true]
  · intro q hq
    by_cases h9 : q.1 = 4
    · rw [aw_dy4 h9, aw_dy4 h9]
      have hj : ¬ q.2 = (K a).2 := fun e => hq (Prod.ext (h9.trans hK.symm) e)
      simp only [aw_tr, am_upd_ne hj, am_up_eq, am_up_ne, am_upd_eq, Nat.reduceEqDiff, not_false_eq_true]
    · unfold aw_dy
      simp only [if_neg h9]
      try rfl
theorem aw_isT (hV : aw_V K) (hK : (K a).1 = 4) : am_isa (aw_H K A G Q M r) a 7 = true := aw_isa (aw_dyn hV (by omega) (aw_dy4 hK))
theorem aw_gO0 (hV : aw_V K) (hK : (K a).1 = 5) : am_getf (aw_H K A G Q M r) a 7 0 = some (.int (G 42 (K a).2 - 1)) := aw_getf (aw_dyn hV (by omega) (aw_dy5 hK)) rfl
theorem aw_gO1 (hV : aw_V K) (hK : (K a).1 = 5) : am_getf (aw_H K A G Q M r) a 7 1 = some (.int (Int32.ofNat ((K a).2 / 4))) := aw_getf (aw_dyn hV (by omega) (aw_dy5 hK)) rfl
theorem aw_gO2 (hV : aw_V K) (hK : (K a).1 = 5) : am_getf (aw_H K A G Q M r) a 7 2 = some (.int (Int32.ofNat ((K a).2 % 4))) := aw_getf (aw_dyn hV (by omega) (aw_dy5 hK)) rfl
theorem aw_gO3 (hV : aw_V K) (hK : (K a).1 = 5) : am_getf (aw_H K A G Q M r) a 7 3 = some (.int (G 44 (K a).2)) := aw_getf (aw_dyn hV (by omega) (aw_dy5 hK)) rfl
theorem aw_gO4 (hV : aw_V K) (hK : (K a).1 = 5) : am_getf (aw_H K A G Q M r) a 7 4 = some (.int (G 43 (K a).2)) := aw_getf (aw_dyn hV (by omega) (aw_dy5 hK)) rfl
theorem aw_gO5 (hV : aw_V K) (hK : (K a).1 = 5) : am_getf (aw_H K A G Q M r) a 7 5 = some (.int 0) := aw_getf (aw_dyn hV (by omega) (aw_dy5 hK)) rfl
theorem aw_gO6 (hV : aw_V K) (hK : (K a).1 = 5) : am_getf (aw_H K A G Q M r) a 7 6 = some (.int (-1)) := aw_getf (aw_dyn hV (by omega) (aw_dy5 hK)) rfl
theorem aw_isO (hV : aw_V K) (hK : (K a).1 = 5) : am_isa (aw_H K A G Q M r) a 7 = true := aw_isa (aw_dyn hV (by omega) (aw_dy5 hK))
theorem aw_gP1 {p : Int32} (hV : aw_V K) (hp : aw_P p) : am_getf (aw_H K A G Q M r) (aw_pa p) 6 1 = some (.int (G 34 p.toNatClampNeg)) := by
  have hK := aw_kp hV hp
  have h7 : (K (aw_pa p)).1 = 7 := by rw [hK]
  rw [aw_getf (aw_dyn hV (by omega) (aw_dy7 h7)) rfl, hK]
theorem aw_pP1 {p v : Int32} (hV : aw_V K) (hp : aw_P p) : am_putf (aw_H K A G Q M r) (aw_pa p) 6 1 0 (.int v) = some (aw_H K A (am_up G 34 p.toNatClampNeg v) Q M r) := by
  have hk := aw_kp hV hp
  have hK : (K (aw_pa p)).1 = 7 := by rw [hk]
  refine (aw_putf (aw_dyn hV (by omega) (aw_dy7 hK)) (Nat.le_of_ble_eq_true rfl) rfl).trans ?_
  refine congrArg some (aw_setd hV (by omega) ?_ (fun _ => rfl) ?_)
  · rw [aw_dy7 hK, hk]
    simp only [aw_pl, List.set, am_up_eq, am_up_ne, am_upd_eq, Nat.reduceEqDiff, not_false_eq_true]
  · intro q hq
    by_cases h9 : q.1 = 7
    · rw [aw_dy7 h9, aw_dy7 h9]
      have hj : ¬ q.2 = (K (aw_pa p)).2 := fun e => hq (Prod.ext (h9.trans hK.symm) e)
      rw [hk] at hj
      simp only [aw_pl, am_upd_ne hj, am_up_eq, am_up_ne, am_upd_eq, Nat.reduceEqDiff, not_false_eq_true]
    · unfold aw_dy
      simp only [if_neg h9]
      try rfl
theorem aw_gP2 {p : Int32} (hV : aw_V K) (hp : aw_P p) : am_getf (aw_H K A G Q M r) (aw_pa p) 6 2 = some (.int (G 35 p.toNatClampNeg)) := by
  have hK := aw_kp hV hp
  have h7 : (K (aw_pa p)).1 = 7 := by rw [hK]
  rw [aw_getf (aw_dyn hV (by omega) (aw_dy7 h7)) rfl, hK]
theorem aw_pP2 {p v : Int32} (hV : aw_V K) (hp : aw_P p) : am_putf (aw_H K A G Q M r) (aw_pa p) 6 2 0 (.int v) = some (aw_H K A (am_up G 35 p.toNatClampNeg v) Q M r) := by
  have hk := aw_kp hV hp
  have hK : (K (aw_pa p)).1 = 7 := by rw [hk]
  refine (aw_putf (aw_dyn hV (by omega) (aw_dy7 hK)) (Nat.le_of_ble_eq_true rfl) rfl).trans ?_
  refine congrArg some (aw_setd hV (by omega) ?_ (fun _ => rfl) ?_)
  · rw [aw_dy7 hK, hk]
    simp only [aw_pl, List.set, am_up_eq, am_up_ne, am_upd_eq, Nat.reduceEqDiff, not_false_eq_true]
  · intro q hq
    by_cases h9 : q.1 = 7
    · rw [aw_dy7 h9, aw_dy7 h9]
      have hj : ¬ q.2 = (K (aw_pa p)).2 := fun e => hq (Prod.ext (h9.trans hK.symm) e)
      rw [hk] at hj
      simp only [aw_pl, am_upd_ne hj, am_up_eq, am_up_ne, am_upd_eq, Nat.reduceEqDiff, not_false_eq_true]
    · unfold aw_dy
      simp only [if_neg h9]
      try rfl
theorem aw_gP3 {p : Int32} (hV : aw_V K) (hp : aw_P p) : am_getf (aw_H K A G Q M r) (aw_pa p) 6 3 = some (.int (G 36 p.toNatClampNeg)) := by
  have hK := aw_kp hV hp
  have h7 : (K (aw_pa p)).1 = 7 := by rw [hK]
  rw [aw_getf (aw_dyn hV (by omega) (aw_dy7 h7)) rfl, hK]
theorem aw_pP3 {p v : Int32} (hV : aw_V K) (hp : aw_P p) : am_putf (aw_H K A G Q M r) (aw_pa p) 6 3 0 (.int v) = some (aw_H K A (am_up G 36 p.toNatClampNeg v) Q M r) := by
  have hk := aw_kp hV hp
  have hK : (K (aw_pa p)).1 = 7 := by rw [hk]
  refine (aw_putf (aw_dyn hV (by omega) (aw_dy7 hK)) (Nat.le_of_ble_eq_true rfl) rfl).trans ?_
  refine congrArg some (aw_setd hV (by omega) ?_ (fun _ => rfl) ?_)
  · rw [aw_dy7 hK, hk]
    simp only [aw_pl, List.set, am_up_eq, am_up_ne, am_upd_eq, Nat.reduceEqDiff, not_false_eq_true]
  · intro q hq
    by_cases h9 : q.1 = 7
    · rw [aw_dy7 h9, aw_dy7 h9]
      have hj : ¬ q.2 = (K (aw_pa p)).2 := fun e => hq (Prod.ext (h9.trans hK.symm) e)
      rw [hk] at hj
      simp only [aw_pl, am_upd_ne hj, am_up_eq, am_up_ne, am_upd_eq, Nat.reduceEqDiff, not_false_eq_true]
    · unfold aw_dy
      simp only [if_neg h9]
      try rfl
theorem aw_gP4 {p : Int32} (hV : aw_V K) (hp : aw_P p) : am_getf (aw_H K A G Q M r) (aw_pa p) 6 4 = some (.int (G 37 p.toNatClampNeg)) := by
  have hK := aw_kp hV hp
  have h7 : (K (aw_pa p)).1 = 7 := by rw [hK]
  rw [aw_getf (aw_dyn hV (by omega) (aw_dy7 h7)) rfl, hK]
theorem aw_pP4 {p v : Int32} (hV : aw_V K) (hp : aw_P p) : am_putf (aw_H K A G Q M r) (aw_pa p) 6 4 0 (.int v) = some (aw_H K A (am_up G 37 p.toNatClampNeg v) Q M r) := by
  have hk := aw_kp hV hp
  have hK : (K (aw_pa p)).1 = 7 := by rw [hk]
  refine (aw_putf (aw_dyn hV (by omega) (aw_dy7 hK)) (Nat.le_of_ble_eq_true rfl) rfl).trans ?_
  refine congrArg some (aw_setd hV (by omega) ?_ (fun _ => rfl) ?_)
  · rw [aw_dy7 hK, hk]
    simp only [aw_pl, List.set, am_up_eq, am_up_ne, am_upd_eq, Nat.reduceEqDiff, not_false_eq_true]
  · intro q hq
    by_cases h9 : q.1 = 7
    · rw [aw_dy7 h9, aw_dy7 h9]
      have hj : ¬ q.2 = (K (aw_pa p)).2 := fun e => hq (Prod.ext (h9.trans hK.symm) e)
      rw [hk] at hj
      simp only [aw_pl, am_upd_ne hj, am_up_eq, am_up_ne, am_upd_eq, Nat.reduceEqDiff, not_false_eq_true]
    · unfold aw_dy
      simp only [if_neg h9]
      try rfl
theorem aw_gP5 {p : Int32} (hV : aw_V K) (hp : aw_P p) : am_getf (aw_H K A G Q M r) (aw_pa p) 6 5 = some (.int (G 39 p.toNatClampNeg)) := by
  have hK := aw_kp hV hp
  have h7 : (K (aw_pa p)).1 = 7 := by rw [hK]
  rw [aw_getf (aw_dyn hV (by omega) (aw_dy7 h7)) rfl, hK]
theorem aw_pP5 {p v : Int32} (hV : aw_V K) (hp : aw_P p) : am_putf (aw_H K A G Q M r) (aw_pa p) 6 5 0 (.int v) = some (aw_H K A (am_up G 39 p.toNatClampNeg v) Q M r) := by
  have hk := aw_kp hV hp
  have hK : (K (aw_pa p)).1 = 7 := by rw [hk]
  refine (aw_putf (aw_dyn hV (by omega) (aw_dy7 hK)) (Nat.le_of_ble_eq_true rfl) rfl).trans ?_
  refine congrArg some (aw_setd hV (by omega) ?_ (fun _ => rfl) ?_)
  · rw [aw_dy7 hK, hk]
    simp only [aw_pl, List.set, am_up_eq, am_up_ne, am_upd_eq, Nat.reduceEqDiff, not_false_eq_true]
  · intro q hq
    by_cases h9 : q.1 = 7
    · rw [aw_dy7 h9, aw_dy7 h9]
      have hj : ¬ q.2 = (K (aw_pa p)).2 := fun e => hq (Prod.ext (h9.trans hK.symm) e)
      rw [hk] at hj
      simp only [aw_pl, am_upd_ne hj, am_up_eq, am_up_ne, am_upd_eq, Nat.reduceEqDiff, not_false_eq_true]
    · unfold aw_dy
      simp only [if_neg h9]
      try rfl
theorem aw_gP6 {p : Int32} (hV : aw_V K) (hp : aw_P p) : am_getf (aw_H K A G Q M r) (aw_pa p) 6 6 = some (.int (G 38 p.toNatClampNeg)) := by
  have hK := aw_kp hV hp
  have h7 : (K (aw_pa p)).1 = 7 := by rw [hK]
  rw [aw_getf (aw_dyn hV (by omega) (aw_dy7 h7)) rfl, hK]
theorem aw_pP6 {p v : Int32} (hV : aw_V K) (hp : aw_P p) : am_putf (aw_H K A G Q M r) (aw_pa p) 6 6 0 (.int v) = some (aw_H K A (am_up G 38 p.toNatClampNeg v) Q M r) := by
  have hk := aw_kp hV hp
  have hK : (K (aw_pa p)).1 = 7 := by rw [hk]
  refine (aw_putf (aw_dyn hV (by omega) (aw_dy7 hK)) (Nat.le_of_ble_eq_true rfl) rfl).trans ?_
  refine congrArg some (aw_setd hV (by omega) ?_ (fun _ => rfl) ?_)
  · rw [aw_dy7 hK, hk]
    simp only [aw_pl, List.set, am_up_eq, am_up_ne, am_upd_eq, Nat.reduceEqDiff, not_false_eq_true]
  · intro q hq
    by_cases h9 : q.1 = 7
    · rw [aw_dy7 h9, aw_dy7 h9]
      have hj : ¬ q.2 = (K (aw_pa p)).2 := fun e => hq (Prod.ext (h9.trans hK.symm) e)
      rw [hk] at hj
      simp only [aw_pl, am_upd_ne hj, am_up_eq, am_up_ne, am_upd_eq, Nat.reduceEqDiff, not_false_eq_true]
    · unfold aw_dy
      simp only [if_neg h9]
      try rfl
theorem aw_gP0 {p : Int32} (hV : aw_V K) (hp : aw_P p) : am_getf (aw_H K A G Q M r) (aw_pa p) 6 0 = some (.int p) := by
  have hK := aw_kp hV hp
  have h7 : (K (aw_pa p)).1 = 7 := by rw [hK]
  rw [aw_getf (aw_dyn hV (by omega) (aw_dy7 h7)) rfl, hK]
  show some (Value.int (Int32.ofNat p.toNatClampNeg)) = _
  rw [hp.no]
theorem aw_gP7 {p : Int32} (hV : aw_V K) (hp : aw_P p) : am_getf (aw_H K A G Q M r) (aw_pa p) 6 7 = some (.ref (aw_la p.toNatClampNeg)) := by
  have hK := aw_kp hV hp
  have h7 : (K (aw_pa p)).1 = 7 := by rw [hK]
  rw [aw_getf (aw_dyn hV (by omega) (aw_dy7 h7)) rfl, hK]
theorem aw_isP {p : Int32} (hV : aw_V K) (hp : aw_P p) : am_isa (aw_H K A G Q M r) (aw_pa p) 6 = true := by
  have hK : (K (aw_pa p)).1 = 7 := by rw [aw_kp hV hp]
  exact aw_isa (aw_dyn hV (by omega) (aw_dy7 hK))
theorem aw_isF12 : am_isa (aw_H K A G Q M r) 12 11 = true := of_eq_true (eq_self true)
theorem aw_gF12_0 : am_getf (aw_H K A G Q M r) 12 11 0 = some (.ref 13) := rfl
theorem aw_gF12_1 : am_getf (aw_H K A G Q M r) 12 11 1 = some (.ref 34) := rfl
theorem aw_gF12_2 : am_getf (aw_H K A G Q M r) 12 11 2 = some (.ref 38) := rfl
theorem aw_gF12_3 : am_getf (aw_H K A G Q M r) 12 11 3 = some (.ref 39) := rfl
theorem aw_gF12_4 : am_getf (aw_H K A G Q M r) 12 11 4 = some (.int (G 1 0)) := rfl
theorem aw_isF13 : am_isa (aw_H K A G Q M r) 13 10 = true := of_eq_true (eq_self true)
theorem aw_gF13_0 : am_getf (aw_H K A G Q M r) 13 10 0 = some (.ref 14) := rfl
theorem aw_gF13_1 : am_getf (aw_H K A G Q M r) 13 10 1 = some (.ref 18) := rfl
theorem aw_gF13_2 : am_getf (aw_H K A G Q M r) 13 10 2 = some (.ref 21) := rfl
theorem aw_gF13_3 : am_getf (aw_H K A G Q M r) 13 10 3 = some (.ref 22) := rfl
theorem aw_gF13_4 : am_getf (aw_H K A G Q M r) 13 10 4 = some (.ref 23) := rfl
theorem aw_gF13_5 : am_getf (aw_H K A G Q M r) 13 10 5 = some (.ref 24) := rfl
theorem aw_gF13_6 : am_getf (aw_H K A G Q M r) 13 10 6 = some (.int (G 6 0)) := rfl
theorem aw_gF13_7 : am_getf (aw_H K A G Q M r) 13 10 7 = some (.int (G 25 0)) := rfl
theorem aw_isF14 : am_isa (aw_H K A G Q M r) 14 1 = true := of_eq_true (eq_self true)
theorem aw_gF14_0 : am_getf (aw_H K A G Q M r) 14 1 0 = some (.ref 15) := rfl
theorem aw_gF14_1 : am_getf (aw_H K A G Q M r) 14 1 1 = some (.ref 16) := rfl
theorem aw_gF14_2 : am_getf (aw_H K A G Q M r) 14 1 2 = some (.ref 17) := rfl
theorem aw_isF18 : am_isa (aw_H K A G Q M r) 18 4 = true := of_eq_true (eq_self true)
theorem aw_gF18_0 : am_getf (aw_H K A G Q M r) 18 4 0 = some (.ref 19) := rfl
theorem aw_gF18_1 : am_getf (aw_H K A G Q M r) 18 4 1 = some (.ref 20) := rfl
theorem aw_isF19 : am_isa (aw_H K A G Q M r) 19 0 = true := of_eq_true (eq_self true)
theorem aw_gF19_0 : am_getf (aw_H K A G Q M r) 19 0 0 = some (.int (Q 3 0)) := rfl
theorem aw_gF19_1 : am_getf (aw_H K A G Q M r) 19 0 1 = some (.ref (A 5 0)) := rfl
theorem aw_gF19_2 : am_getf (aw_H K A G Q M r) 19 0 2 = some (.int (G 45 0)) := rfl
theorem aw_isF21 : am_isa (aw_H K A G Q M r) 21 0 = true := of_eq_true (eq_self true)
theorem aw_gF21_0 : am_getf (aw_H K A G Q M r) 21 0 0 = some (.int 4) := rfl
theorem aw_gF21_1 : am_getf (aw_H K A G Q M r) 21 0 1 = some (.ref 27) := rfl
theorem aw_gF21_2 : am_getf (aw_H K A G Q M r) 21 0 2 = some (.int 4) := rfl
theorem aw_isF22 : am_isa (aw_H K A G Q M r) 22 0 = true := of_eq_true (eq_self true)
theorem aw_gF22_0 : am_getf (aw_H K A G Q M r) 22 0 0 = some (.int (Q 3 1)) := rfl
theorem aw_gF22_1 : am_getf (aw_H K A G Q M r) 22 0 1 = some (.ref (A 5 1)) := rfl
theorem aw_gF22_2 : am_getf (aw_H K A G Q M r) 22 0 2 = some (.int (Int32.ofNat (A 8 0))) := rfl
theorem aw_isF23 : am_isa (aw_H K A G Q M r) 23 0 = true := of_eq_true (eq_self true)
theorem aw_gF23_0 : am_getf (aw_H K A G Q M r) 23 0 0 = some (.int (Q 3 2)) := rfl
theorem aw_gF23_1 : am_getf (aw_H K A G Q M r) 23 0 1 = some (.ref (A 5 2)) := rfl
theorem aw_gF23_2 : am_getf (aw_H K A G Q M r) 23 0 2 = some (.int (G 24 0)) := rfl
theorem aw_isF34 : am_isa (aw_H K A G Q M r) 34 5 = true := of_eq_true (eq_self true)
theorem aw_gF34_0 : am_getf (aw_H K A G Q M r) 34 5 0 = some (.ref 13) := rfl
theorem aw_gF34_1 : am_getf (aw_H K A G Q M r) 34 5 1 = some (.ref 35) := rfl
theorem aw_gF34_2 : am_getf (aw_H K A G Q M r) 34 5 2 = some (.ref 36) := rfl
theorem aw_gF34_3 : am_getf (aw_H K A G Q M r) 34 5 3 = some (.ref 37) := rfl
theorem aw_gF34_4 : am_getf (aw_H K A G Q M r) 34 5 4 = some (.int (Q 4 0)) := rfl
theorem aw_gF34_5 : am_getf (aw_H K A G Q M r) 34 5 5 = some (.int (Q 4 1)) := rfl
theorem aw_isF38 : am_isa (aw_H K A G Q M r) 38 3 = true := of_eq_true (eq_self true)
theorem aw_gF38_0 : am_getf (aw_H K A G Q M r) 38 3 0 = some (.ref 13) := rfl
theorem aw_isF39 : am_isa (aw_H K A G Q M r) 39 8 = true := of_eq_true (eq_self true)
theorem aw_gF39_0 : am_getf (aw_H K A G Q M r) 39 8 0 = some (.ref 13) := rfl
theorem aw_pF12_4 {v : Int32} : am_putf (aw_H K A G Q M r) 12 11 4 0 (.int v) = some (aw_H K A (am_up G 1 0 v) Q M r) := by
  refine (aw_putf (aw_fix (a := 12) rfl) (Nat.le_of_ble_eq_true rfl) rfl).trans ?_
  refine congrArg some (aw_setf rfl (fun b hb => ?_) fun _ => rfl)
  unfold aw_fx
  simp only [if_neg hb]
  try rfl
theorem aw_pF13_6 {v : Int32} : am_putf (aw_H K A G Q M r) 13 10 6 0 (.int v) = some (aw_H K A (am_up G 6 0 v) Q M r) := by
  refine (aw_putf (aw_fix (a := 13) rfl) (Nat.le_of_ble_eq_true rfl) rfl).trans ?_
  refine congrArg some (aw_setf rfl (fun b hb => ?_) fun _ => rfl)
  unfold aw_fx
  simp only [if_neg hb]
  try rfl
theorem aw_pF13_7 {v : Int32} : am_putf (aw_H K A G Q M r) 13 10 7 0 (.int v) = some (aw_H K A (am_up G 25 0 v) Q M r) := by
  refine (aw_putf (aw_fix (a := 13) rfl) (Nat.le_of_ble_eq_true rfl) rfl).trans ?_
  refine congrArg some (aw_setf rfl (fun b hb => ?_) fun _ => rfl)
  unfold aw_fx
  simp only [if_neg hb]
  try rfl
theorem aw_pF34_4 {v : Int32} : am_putf (aw_H K A G Q M r) 34 5 4 0 (.int v) = some (aw_H K A G (am_up Q 4 0 v) M r) := by
  refine (aw_putf (aw_fix (a := 34) rfl) (Nat.le_of_ble_eq_true rfl) rfl).trans ?_
  refine congrArg some (aw_setf rfl (fun b hb => ?_) fun _ => rfl)
  unfold aw_fx
  simp only [if_neg hb]
  try rfl
theorem aw_pF34_5 {v : Int32} : am_putf (aw_H K A G Q M r) 34 5 5 0 (.int v) = some (aw_H K A G (am_up Q 4 1 v) M r) := by
  refine (aw_putf (aw_fix (a := 34) rfl) (Nat.le_of_ble_eq_true rfl) rfl).trans ?_
  refine congrArg some (aw_setf rfl (fun b hb => ?_) fun _ => rfl)
  unfold aw_fx
  simp only [if_neg hb]
  try rfl
theorem aw_rF15 : (aw_H K A G Q M r).1 15 = some (50, am_row 64 (G 2)) := aw_fix rfl
theorem aw_wF15 {k : Nat} {v : Int32} : am_set (aw_H K A G Q M r) 15 (50, am_row 64 (am_upd (G 2) k v)) = aw_H K A (am_up G 2 k v) Q M r := by
  refine aw_setf rfl (fun b hb => ?_) fun _ => rfl
  unfold aw_fx
  simp only [if_neg hb]
  try rfl
theorem aw_rF16 : (aw_H K A G Q M r).1 16 = some (50, am_row 64 (G 3)) := aw_fix rfl
theorem aw_wF16 {k : Nat} {v : Int32} : am_set (aw_H K A G Q M r) 16 (50, am_row 64 (am_upd (G 3) k v)) = aw_H K A (am_up G 3 k v) Q M r := by
  refine aw_setf rfl (fun b hb => ?_) fun _ => rfl
  unfold aw_fx
  simp only [if_neg hb]
  try rfl
theorem aw_rF17 : (aw_H K A G Q M r).1 17 = some (50, am_row 64 (G 4)) := aw_fix rfl
theorem aw_wF17 {k : Nat} {v : Int32} : am_set (aw_H K A G Q M r) 17 (50, am_row 64 (am_upd (G 4) k v)) = aw_H K A (am_up G 4 k v) Q M r := by
  refine aw_setf rfl (fun b hb => ?_) fun _ => rfl
  unfold aw_fx
  simp only [if_neg hb]
  try rfl
theorem aw_rF24 : (aw_H K A G Q M r).1 24 = some (50, am_row 10 (G 41)) := aw_fix rfl
theorem aw_wF24 {k : Nat} {v : Int32} : am_set (aw_H K A G Q M r) 24 (50, am_row 10 (am_upd (G 41) k v)) = aw_H K A (am_up G 41 k v) Q M r := by
  refine aw_setf rfl (fun b hb => ?_) fun _ => rfl
  unfold aw_fx
  simp only [if_neg hb]
  try rfl
theorem aw_rF35 : (aw_H K A G Q M r).1 35 = some (50, am_row 24 (Q 5)) := aw_fix rfl
theorem aw_wF35 {k : Nat} {v : Int32} : am_set (aw_H K A G Q M r) 35 (50, am_row 24 (am_upd (Q 5) k v)) = aw_H K A G (am_up Q 5 k v) M r := by
  refine aw_setf rfl (fun b hb => ?_) fun _ => rfl
  unfold aw_fx
  simp only [if_neg hb]
  try rfl
theorem aw_rF36 : (aw_H K A G Q M r).1 36 = some (50, am_row 3 (Q 6)) := aw_fix rfl
theorem aw_wF36 {k : Nat} {v : Int32} : am_set (aw_H K A G Q M r) 36 (50, am_row 3 (am_upd (Q 6) k v)) = aw_H K A G (am_up Q 6 k v) M r := by
  refine aw_setf rfl (fun b hb => ?_) fun _ => rfl
  unfold aw_fx
  simp only [if_neg hb]
  try rfl
theorem aw_rF37 : (aw_H K A G Q M r).1 37 = some (51, am_rowl 2425 (M 1)) := aw_fix rfl
theorem aw_wF37 {k : Nat} {v : Int64} : am_set (aw_H K A G Q M r) 37 (51, am_rowl 2425 (am_upd (M 1) k v)) = aw_H K A G Q (aw_mu M 1 k v) r := by
  refine aw_setf rfl (fun b hb => ?_) fun _ => rfl
  unfold aw_fx
  simp only [if_neg hb]
  try rfl
theorem aw_rC (hV : aw_V K) (hK : (K a).1 = 3) : (aw_H K A G Q M r).1 a = some (50, am_row 6 fun j => G 16 (6 * (K a).2 + j)) := aw_dyn hV (by omega) (aw_dy3 hK)
theorem aw_wC {k : Nat} {v : Int32} (hV : aw_V K) (hK : (K a).1 = 3) (hk : k < 6) : am_set (aw_H K A G Q M r) a (50, am_row 6 (am_upd (fun j => G 16 (6 * (K a).2 + j)) k v)) = aw_H K A (am_up G 16 (6 * (K a).2 + k) v) Q M r := by
  refine aw_setd hV (by omega) ?_ (fun _ => rfl) ?_
  · rw [aw_dy3 hK]
    refine congrArg (fun z => some (50, z)) ?_
    unfold aw_wo am_row
    refine List.map_congr_left fun j hj => congrArg Value.int ?_
    show am_up G 16 (6 * (K a).2 + k) v 16 (6 * (K a).2 + j) = (if j = k then v else G 16 (6 * (K a).2 + j))
    rw [am_up_eq]
    by_cases e : j = k
    · rw [if_pos e, e]
      exact am_upd_eq
    · rw [if_neg e]
      exact am_upd_ne (by omega)
  · intro q hq
    by_cases h9 : q.1 = 3
    · rw [aw_dy3 h9, aw_dy3 h9]
      have hj : ¬ q.2 = (K a).2 := fun e => hq (Prod.ext (h9.trans hK.symm) e)
      refine congrArg (fun z => some (50, z)) ?_
      unfold aw_wo am_row
      refine List.map_congr_left fun j hj2 => congrArg Value.int ?_
      have hj3 := List.mem_range.mp hj2
      show am_up G 16 (6 * (K a).2 + k) v 16 (6 * q.2 + j) = _
      rw [am_up_eq]
      exact am_upd_ne (by omega)
    · unfold aw_dy
      simp only [if_neg h9]
      try rfl
theorem aw_rL (hV : aw_V K) (hK : (K a).1 = 8) : (aw_H K A G Q M r).1 a = some (50, am_row 8 fun j => G 40 (8 * (K a).2 + j)) := aw_dyn hV (by omega) (aw_dy8 hK)
theorem aw_wL {k : Nat} {v : Int32} (hV : aw_V K) (hK : (K a).1 = 8) (hk : k < 8) : am_set (aw_H K A G Q M r) a (50, am_row 8 (am_upd (fun j => G 40 (8 * (K a).2 + j)) k v)) = aw_H K A (am_up G 40 (8 * (K a).2 + k) v) Q M r := by
  refine aw_setd hV (by omega) ?_ (fun _ => rfl) ?_
  · rw [aw_dy8 hK]
    refine congrArg (fun z => some (50, z)) ?_
    unfold aw_le am_row
    refine List.map_congr_left fun j hj => congrArg Value.int ?_
    show am_up G 40 (8 * (K a).2 + k) v 40 (8 * (K a).2 + j) = (if j = k then v else G 40 (8 * (K a).2 + j))
    rw [am_up_eq]
    by_cases e : j = k
    · rw [if_pos e, e]
      exact am_upd_eq
    · rw [if_neg e]
      exact am_upd_ne (by omega)
  · intro q hq
    by_cases h9 : q.1 = 8
    · rw [aw_dy8 h9, aw_dy8 h9]
      have hj : ¬ q.2 = (K a).2 := fun e => hq (Prod.ext (h9.trans hK.symm) e)
      refine congrArg (fun z => some (50, z)) ?_
      unfold aw_le am_row
      refine List.map_congr_left fun j hj2 => congrArg Value.int ?_
      have hj3 := List.mem_range.mp hj2
      show am_up G 40 (8 * (K a).2 + k) v 40 (8 * q.2 + j) = _
      rw [am_up_eq]
      exact am_upd_ne (by omega)
    · unfold aw_dy
      simp only [if_neg h9]
      try rfl
theorem aw_mapget {n j : Nat} {g : Nat → Value} (h : j < n) : ((List.range n).map g)[j]? = some (g j) := by
  rw [List.getElem?_map, List.getElem?_range h]
  rfl
theorem aw_ald2 {h : am_H} {t : Nat} {vs : List Value} {i : Int32} {v : Value} (h0 : h.1 a = some (t, vs)) (ht : t ∈ [53, 54, 63]) (hi : ¬ i < 0) (hv : vs[i.toNatClampNeg]? = some v) (hk : am_kv v = 2) : am_ald h a [53, 54, 63] 2 i = some v := by
  unfold am_ald
  rw [h0, Option.bind_some]
  dsimp only
  rw [if_pos ht]
  unfold am_ix
  rw [if_neg hi, Option.bind_some, hv, Option.bind_some, if_pos hk]
theorem aw_lB {i k : Nat} (hV : aw_V K) (hK : K a = (6, i)) (hk : k < aw_sz A G i) (hc : k < A 6 i) (hc2 : A 6 i ≤ 100000) : am_ald (aw_H K A G Q M r) a [53, 54, 63] 2 (Int32.ofNat k) = some (.ref (aw_el A i k)) := by
  have h6 : (K a).1 = 6 := by rw [hK]
  have hI : am_I (Int32.ofNat k) (A 6 i) := am_I.nat hc hc2
  refine aw_ald2 (aw_dyn hV (by omega) (aw_dy6 h6)) (by decide) hI.1 ?_ rfl
  rw [am_tcn (by omega), hK]
  show (aw_ba A G i)[k]? = _
  unfold aw_ba
  rw [aw_mapget hc, if_pos hk]
theorem aw_lO {i : Int32} (hi : am_I i 16) : am_ald (aw_H K A G Q M r) 20 [53, 54, 63] 2 i = some (if G 42 i.toNatClampNeg = 0 then .null else .ref (A 4 i.toNatClampNeg)) := by
  refine aw_ald2 (aw_fix (a := 20) rfl) (by decide) hi.1 ?_ ?_
  · unfold aw_os
    rw [aw_mapget hi.2]
  · split <;> rfl
theorem aw_lP {p : Int32} (hp : aw_P p) : am_ald (aw_H K A G Q M r) 27 [53, 54, 63] 2 p = some (.ref (aw_pa p)) := by
  rcases aw_P4 hp with rfl | rfl | rfl | rfl <;> exact aw_ald2 (aw_fix (a := 27) rfl) (by decide) (by decide) rfl rfl
end
