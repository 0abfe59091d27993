/-! THE CLASS'S PLANNER BY ALL SETS -/
theorem ap_x_app {S : Nat} {v y : List Nat} (h : ap_x S v = some y) : ∀ u : List Nat, ap_x S (u ++ v) = some (u ++ y)
  | [] => h
  | a :: u => ap_x_cons' (ap_x_app h u)
theorem ap_getD {u v : List Nat} {j : Nat} : (u ++ v).getD j 0 = if j < u.length then u.getD j 0 else v.getD (j - u.length) 0 := by
  rw [List.getD_eq_getElem?_getD, List.getD_eq_getElem?_getD, List.getD_eq_getElem?_getD]
  by_cases h : j < u.length
  · rw [if_pos h, List.getElem?_append_left h]
  · rw [if_neg h, List.getElem?_append_right (by omega)]
theorem ap_getR {s n j : Nat} (h : j < n) : (List.range' s n).getD j 0 = s + j := by
  rw [List.getD_eq_getElem?_getD, List.getElem?_range' h, Nat.one_mul]
  rfl
section
variable {K : aw_K} {A : aw_A} {G : am_G} {M : aw_M} {r : am_H} {n F T : Nat}
theorem mc54_34 {k i nx : Nat} (hk3 : k ≤ 3) (hnx : nx ≤ 100) : ∀ (m j : Nat) (Q : am_G), j + m = k → i ≤ j → ∃ Q', am_exec 54 34 [.ref 34, .int (Int32.ofNat k), .int (Int32.ofNat i), .int (Int32.ofNat nx), .int (Int32.ofNat j)] [] (aw_H K A G Q M r) = some (.inl (some (.int 1)), aw_H K A G Q' M r) ∧ (∀ f, ¬ f = 6 → Q' f = Q f) ∧ (∀ t, t < j → Q' 6 t = Q 6 t) ∧ ∀ t, j ≤ t → t < k → Q' 6 t = Int32.ofNat (nx + t - i)
  | 0, j, Q, hj, _ => by
    refine ⟨Q, ?_, fun _ _ => rfl, fun _ _ => rfl, fun t h1 h2 => absurd h2 (by omega)⟩
    rw [am_e54_34, if_pos (by rw [am_le_nat (by omega) (by omega)]; omega)]
    simp only [am_e54_61]
  | m + 1, j, Q, hj, hij => by
    have c0 : ¬ Int32.ofNat k ≤ Int32.ofNat j := am_lit _ _ (by omega) (by omega)
    have hI : am_I (Int32.ofNat j) 3 := am_Ik (by omega) (by decide)
    have hJ := am_tcn (show j ≤ 100000 by omega)
    have e1 : Int32.ofNat nx + Int32.ofNat j - Int32.ofNat i = Int32.ofNat (nx + j - i) := by rw [← Int32.ofNat_add, ← Int32.ofNat_sub _ _ (by omega)]
    have m148 := mc148_36 (K := K) (A := A) (G := G) (Q := Q) (M := M) (r := r) (v := Int32.ofNat (nx + j - i)) hI
    rw [hJ] at m148
    obtain ⟨Q', x1, x2, x3, x4⟩ := mc54_34 (i := i) hk3 hnx m (j + 1) (am_up Q 6 j (Int32.ofNat (nx + j - i))) (by omega) (by omega)
    refine ⟨Q', ?_, fun f hf => by rw [x2 f hf, am_up_ne hf], fun t ht => by rw [x3 t (by omega), am_up_eq, am_upd_ne (by omega)], fun t h1 h2 => ?_⟩
    · rw [am_e54_34, if_neg c0]
      simp only [am_e54_40, am_e54_44, am_e54_55, aw_gU0, aw_pU0, aw_gU1, aw_gU2, aw_pU2, aw_gU3, aw_pU3, aw_gU4, aw_pU4, aw_gU5, aw_pU5, aw_gU6, aw_pU6, aw_gU7, aw_pU7, aw_gC1, aw_gC2, aw_pC2, aw_gC3, aw_pC3, aw_gC4, aw_pC4, aw_gC5, aw_pC5, aw_gC6, aw_pC6, aw_gC7, aw_pC7, aw_gC9, aw_pC9, aw_gC0, aw_gC8, aw_gC10, aw_pC10, aw_gC11, aw_pC11, aw_gC12, aw_pC12, aw_gC13, aw_pC13, aw_gC14, aw_pC14, aw_gC15, aw_pC15, aw_gC16, aw_pC16, aw_gT0, aw_gT1, aw_gT2, aw_gT3, aw_gT4, aw_pT4, aw_gT5, aw_pT5, aw_gT6, aw_pT6, aw_gO0, aw_gO1, aw_gO2, aw_gO3, aw_gO4, aw_gO5, aw_gO6, aw_gP1, aw_pP1, aw_gP2, aw_pP2, aw_gP3, aw_pP3, aw_gP4, aw_pP4, aw_gP5, aw_pP5, aw_gP6, aw_pP6, aw_gP0, aw_gP7, aw_isU, aw_isC, aw_isT, aw_isO, aw_isP, aw_isF12, aw_gF12_0, aw_gF12_1, aw_gF12_2, aw_gF12_3, aw_gF12_4, aw_isF13, aw_gF13_0, aw_gF13_1, aw_gF13_2, aw_gF13_3, aw_gF13_4, aw_gF13_5, aw_gF13_6, aw_gF13_7, aw_isF14, aw_gF14_0, aw_gF14_1, aw_gF14_2, aw_isF18, aw_gF18_0, aw_gF18_1, aw_isF19, aw_gF19_0, aw_gF19_1, aw_gF19_2, aw_isF21, aw_gF21_0, aw_gF21_1, aw_gF21_2, aw_isF22, aw_gF22_0, aw_gF22_1, aw_gF22_2, aw_isF23, aw_gF23_0, aw_gF23_1, aw_gF23_2, aw_isF34, aw_gF34_0, aw_gF34_1, aw_gF34_2, aw_gF34_3, aw_gF34_4, aw_gF34_5, aw_isF38, aw_gF38_0, aw_isF39, aw_gF39_0, aw_pF12_4, aw_pF13_6, aw_pF13_7, aw_pF34_4, aw_pF34_5, am_bk, am_pu1, am_pu0, Option.bind_some, eq_self, am_nli, am_nlr, am_nln, am_nlu, if_true, if_false, not_true_eq_false, not_false_eq_true, am_10, am_01, e1, m148, am_succ]
      exact x1
    · by_cases e : t = j
      · rw [e, x3 j (by omega), am_up_eq, am_upd_eq]
      · exact x4 t (by omega) h2
theorem mc54_4 {k S : Nat} (hk3 : k ≤ 3) (hS : S ≤ 24) (hkS : k ≤ S) {Q : am_G} (hQ : Q 4 0 = Int32.ofNat S) : ∀ (i : Nat) (u v : List Nat), u.length = i → i + v.length = k → ap_x S v = none → (∀ j, j < k → Q 6 j = Int32.ofNat ((u ++ v).getD j 0)) → (∀ a, a ∈ u → a < 24) → ∃ Q', am_exec 54 4 [.ref 34, .int (Int32.ofNat k), .int (Int32.ofNat i - 1), am_U, am_U] [] (aw_H K A G Q M r) = some (.inl (some (am_bi (¬ ap_x S (u ++ v) = none))), aw_H K A G Q' M r) ∧ (∀ f, ¬ f = 6 → Q' f = Q f) ∧ ∀ y, ap_x S (u ++ v) = some y → ∀ j, j < k → Q' 6 j = Int32.ofNat (y.getD j 0)
  | 0, u, v, hu, hv, hx, _, _ => by
    rw [List.eq_nil_of_length_eq_zero hu, List.nil_append]
    refine ⟨Q, ?_, fun _ _ => rfl, fun y hy => by rw [hx] at hy; cases hy⟩
    rw [am_e54_4, if_pos (by decide), am_e54_69, hx]
    rfl
  | i + 1, u, v, hu, hv, hx, hq, h24 => by
    obtain ⟨a, u', rfl⟩ : ∃ a u', u = u' ++ [a] := by
      have hne : ¬ u = [] := fun e => by rw [e] at hu; cases hu
      exact ⟨u.getLast hne, u.dropLast, (List.dropLast_concat_getLast hne).symm⟩
    have hu' : u'.length = i := by
      rw [List.length_append] at hu
      have : [a].length = 1 := rfl
      omega
    have eL : u' ++ [a] ++ v = u' ++ (a :: v) := by rw [List.append_assoc]; rfl
    rw [eL] at hq ⊢
    have ha := h24 a (List.mem_append.mpr (Or.inr (List.mem_singleton.mpr rfl)))
    have hqi : Q 6 i = Int32.ofNat a := by
      rw [hq i (by omega), ap_getD, if_neg (by omega), hu', Nat.sub_self]
      rfl
    have c0 : ¬ Int32.ofNat i < 0 := (am_Ik (show i < 3 by omega) (by decide)).1
    have hI : am_I (Int32.ofNat i) 3 := am_Ik (by omega) (by decide)
    have hJ := am_tcn (show i ≤ 100000 by omega)
    have m147 := mc147_36 (K := K) (A := A) (G := G) (Q := Q) (M := M) (r := r) hI
    rw [hJ, hqi] at m147
    have e1 : Int32.ofNat S - (Int32.ofNat k - Int32.ofNat i) = Int32.ofNat (S - (k - i)) := by rw [← Int32.ofNat_sub _ _ (by omega), ← Int32.ofNat_sub _ _ (by omega)]
    have e2 : (Int32.ofNat (S - (k - i)) < Int32.ofNat (a + 1)) = ¬ (a + 1 + (v.length + 1) ≤ S) := by
      rw [am_lt_nat (by omega) (by omega)]
      exact propext ⟨fun q => by omega, fun q => by omega⟩
    rw [am_e54_4, am_pre, if_neg c0]
    have hc := ap_x_cons (a := a) hx
    by_cases h : a + 1 + (v.length + 1) ≤ S
    · rw [if_pos h] at hc
      obtain ⟨Q', x1, x2, x3, x4⟩ := mc54_34 (K := K) (A := A) (G := G) (M := M) (r := r) (i := i) (nx := a + 1) hk3 (by omega) (k - i) i Q (by omega) (Nat.le_refl i)
      have hy := ap_x_app hc u'
      refine ⟨Q', ?_, x2, fun y e j hj => ?_⟩
      · simp only [am_e54_8, am_e54_12, am_e54_16, am_e54_24, am_e54_31, aw_gU0, aw_pU0, aw_gU1, aw_gU2, aw_pU2, aw_gU3, aw_pU3, aw_gU4, aw_pU4, aw_gU5, aw_pU5, aw_gU6, aw_pU6, aw_gU7, aw_pU7, aw_gC1, aw_gC2, aw_pC2, aw_gC3, aw_pC3, aw_gC4, aw_pC4, aw_gC5, aw_pC5, aw_gC6, aw_pC6, aw_gC7, aw_pC7, aw_gC9, aw_pC9, aw_gC0, aw_gC8, aw_gC10, aw_pC10, aw_gC11, aw_pC11, aw_gC12, aw_pC12, aw_gC13, aw_pC13, aw_gC14, aw_pC14, aw_gC15, aw_pC15, aw_gC16, aw_pC16, aw_gT0, aw_gT1, aw_gT2, aw_gT3, aw_gT4, aw_pT4, aw_gT5, aw_pT5, aw_gT6, aw_pT6, aw_gO0, aw_gO1, aw_gO2, aw_gO3, aw_gO4, aw_gO5, aw_gO6, aw_gP1, aw_pP1, aw_gP2, aw_pP2, aw_gP3, aw_pP3, aw_gP4, aw_pP4, aw_gP5, aw_pP5, aw_gP6, aw_pP6, aw_gP0, aw_gP7, aw_isU, aw_isC, aw_isT, aw_isO, aw_isP, aw_isF12, aw_gF12_0, aw_gF12_1, aw_gF12_2, aw_gF12_3, aw_gF12_4, aw_isF13, aw_gF13_0, aw_gF13_1, aw_gF13_2, aw_gF13_3, aw_gF13_4, aw_gF13_5, aw_gF13_6, aw_gF13_7, aw_isF14, aw_gF14_0, aw_gF14_1, aw_gF14_2, aw_isF18, aw_gF18_0, aw_gF18_1, aw_isF19, aw_gF19_0, aw_gF19_1, aw_gF19_2, aw_isF21, aw_gF21_0, aw_gF21_1, aw_gF21_2, aw_isF22, aw_gF22_0, aw_gF22_1, aw_gF22_2, aw_isF23, aw_gF23_0, aw_gF23_1, aw_gF23_2, aw_isF34, aw_gF34_0, aw_gF34_1, aw_gF34_2, aw_gF34_3, aw_gF34_4, aw_gF34_5, aw_isF38, aw_gF38_0, aw_isF39, aw_gF39_0, aw_pF12_4, aw_pF13_6, aw_pF13_7, aw_pF34_4, aw_pF34_5, am_bk, am_pu1, am_pu0, Option.bind_some, eq_self, am_nli, am_nlr, am_nln, am_nlu, if_true, if_false, not_true_eq_false, not_false_eq_true, am_10, am_01, hQ, m147, am_succ, e1, e2, h]
        rw [x1, hy]
        rfl
      · rw [hy] at e
        cases e
        rw [ap_getD, hu']
        by_cases hj2 : j < i
        · rw [if_pos hj2, x3 j hj2, hq j hj, ap_getD, hu', if_pos hj2]
        · rw [if_neg hj2, x4 j (by omega) hj, ap_getR (by omega)]
          exact congrArg Int32.ofNat (by omega)
    · rw [if_neg h] at hc
      obtain ⟨Q', x1, x2, x3⟩ := mc54_4 hk3 hS hkS hQ i u' (a :: v) hu' (by rw [List.length_cons]; omega) hc hq (fun b hb => h24 b (List.mem_append.mpr (Or.inl hb)))
      refine ⟨Q', ?_, x2, x3⟩
      simp only [am_e54_8, am_e54_12, am_e54_16, am_e54_24, am_e54_63, aw_gU0, aw_pU0, aw_gU1, aw_gU2, aw_pU2, aw_gU3, aw_pU3, aw_gU4, aw_pU4, aw_gU5, aw_pU5, aw_gU6, aw_pU6, aw_gU7, aw_pU7, aw_gC1, aw_gC2, aw_pC2, aw_gC3, aw_pC3, aw_gC4, aw_pC4, aw_gC5, aw_pC5, aw_gC6, aw_pC6, aw_gC7, aw_pC7, aw_gC9, aw_pC9, aw_gC0, aw_gC8, aw_gC10, aw_pC10, aw_gC11, aw_pC11, aw_gC12, aw_pC12, aw_gC13, aw_pC13, aw_gC14, aw_pC14, aw_gC15, aw_pC15, aw_gC16, aw_pC16, aw_gT0, aw_gT1, aw_gT2, aw_gT3, aw_gT4, aw_pT4, aw_gT5, aw_pT5, aw_gT6, aw_pT6, aw_gO0, aw_gO1, aw_gO2, aw_gO3, aw_gO4, aw_gO5, aw_gO6, aw_gP1, aw_pP1, aw_gP2, aw_pP2, aw_gP3, aw_pP3, aw_gP4, aw_pP4, aw_gP5, aw_pP5, aw_gP6, aw_pP6, aw_gP0, aw_gP7, aw_isU, aw_isC, aw_isT, aw_isO, aw_isP, aw_isF12, aw_gF12_0, aw_gF12_1, aw_gF12_2, aw_gF12_3, aw_gF12_4, aw_isF13, aw_gF13_0, aw_gF13_1, aw_gF13_2, aw_gF13_3, aw_gF13_4, aw_gF13_5, aw_gF13_6, aw_gF13_7, aw_isF14, aw_gF14_0, aw_gF14_1, aw_gF14_2, aw_isF18, aw_gF18_0, aw_gF18_1, aw_isF19, aw_gF19_0, aw_gF19_1, aw_gF19_2, aw_isF21, aw_gF21_0, aw_gF21_1, aw_gF21_2, aw_isF22, aw_gF22_0, aw_gF22_1, aw_gF22_2, aw_isF23, aw_gF23_0, aw_gF23_1, aw_gF23_2, aw_isF34, aw_gF34_0, aw_gF34_1, aw_gF34_2, aw_gF34_3, aw_gF34_4, aw_gF34_5, aw_isF38, aw_gF38_0, aw_isF39, aw_gF39_0, aw_pF12_4, aw_pF13_6, aw_pF13_7, aw_pF34_4, aw_pF34_5, am_bk, am_pu1, am_pu0, Option.bind_some, eq_self, am_nli, am_nlr, am_nln, am_nlu, if_true, if_false, not_true_eq_false, not_false_eq_true, am_10, am_01, hQ, m147, am_succ, e1, e2, h, am_m1]
      exact x1
theorem mc54 {k S : Nat} (hk3 : k ≤ 3) (hS : S ≤ 24) (hkS : k ≤ S) {Q : am_G} (hQ : Q 4 0 = Int32.ofNat S) {x : List Nat} (hx : x.length = k) (hq : ∀ j, j < k → Q 6 j = Int32.ofNat (x.getD j 0)) (h24 : ∀ a, a ∈ x → a < 24) : ∃ Q', am_exec 54 0 [.ref 34, .int (Int32.ofNat k), am_U, am_U, am_U] [] (aw_H K A G Q M r) = some (.inl (some (am_bi (¬ ap_x S x = none))), aw_H K A G Q' M r) ∧ (∀ f, ¬ f = 6 → Q' f = Q f) ∧ ∀ y, ap_x S x = some y → ∀ j, j < k → Q' 6 j = Int32.ofNat (y.getD j 0) := by
  have h := mc54_4 (K := K) (A := A) (G := G) (M := M) (r := r) hk3 hS hkS hQ k x [] hx (by rw [List.length_nil]; rfl) rfl (by rw [List.append_nil]; exact hq) h24
  rw [List.append_nil] at h
  rw [am_e54_0]
  exact h
/-- the best so far as the program holds it -/
def ap_bf (f : Nat → Nat) (g : Nat) : Option (List Nat) → Int32
  | none => -1
  | some b => Int32.ofNat (min (ap_s f b) g)
def ap_bw (w : Nat → Nat) : Option (List Nat) → Int32
  | none => -1
  | some b => Int32.ofNat (ap_s w b)
def ap_bt (O : Nat → Int32) : Option (List Nat) → Int64
  | none => 0
  | some b => ap_o O 0 b
theorem ap_l3 {x : List Nat} (h : x.length ≤ 3) : x = [] ∨ (∃ a, x = [a]) ∨ (∃ a b, x = [a, b]) ∨ ∃ a b c, x = [a, b, c] := by
  match x, h with
  | [], _ => exact Or.inl rfl
  | [a], _ => exact Or.inr (Or.inl ⟨a, rfl⟩)
  | [a, b], _ => exact Or.inr (Or.inr (Or.inl ⟨a, b, rfl⟩))
  | [a, b, c], _ => exact Or.inr (Or.inr (Or.inr ⟨a, b, c, rfl⟩))
  | a :: b :: c :: d :: l, h =>
    simp only [List.length_cons] at h
    omega
theorem ap_sum3 {g : Nat → Int32} {f : Nat → Nat} {x : List Nat} (h : x.length ≤ 3) (hg : ∀ a, a ∈ x → g a = Int32.ofNat (f a)) : am_sum (fun j => g (x.getD j 0)) 0 x.length = Int32.ofNat (ap_s f x) := by
  rcases ap_l3 h with rfl | ⟨a, rfl⟩ | ⟨a, b, rfl⟩ | ⟨a, b, c, rfl⟩
  · rfl
  · have ga := hg a (by simp)
    show 0 + g a = Int32.ofNat (f a + 0)
    rw [ga, Nat.add_zero, Int32.zero_add]
  · have ga := hg a (by simp)
    have gb := hg b (by simp)
    show 0 + g a + g b = Int32.ofNat (f a + (f b + 0))
    rw [ga, gb, Nat.add_zero, Int32.zero_add, Int32.ofNat_add]
  · have ga := hg a (by simp)
    have gb := hg b (by simp)
    have gc := hg c (by simp)
    show 0 + g a + g b + g c = Int32.ofNat (f a + (f b + (f c + 0)))
    rw [ga, gb, gc, Nat.add_zero, Int32.zero_add, ← Nat.add_assoc, Int32.ofNat_add, Int32.ofNat_add]
theorem ap_pk3 {Q : am_G} {x : List Nat} (h : x.length ≤ 3) (hq : ∀ j, j < x.length → Q 6 j = Int32.ofNat (x.getD j 0)) (h24 : ∀ a, a ∈ x → a < 24) : as_pk Q x.length = ap_o (Q 5) 0 x := by
  rcases ap_l3 h with rfl | ⟨a, rfl⟩ | ⟨a, b, rfl⟩ | ⟨a, b, c, rfl⟩
  · rfl
  · have q0 : Q 6 0 = Int32.ofNat a := hq 0 (by simp)
    have ha := am_tcn (show a ≤ 100000 by have := h24 a (by simp); omega)
    show (0 : Int64) ||| (1 <<< ((Q 5 (Q 6 0).toNatClampNeg).toInt64 &&& 63)) = (0 : Int64) ||| (1 <<< ((Q 5 a).toInt64 &&& 63))
    rw [q0, ha]
  · have q0 : Q 6 0 = Int32.ofNat a := hq 0 (by simp)
    have q1 : Q 6 1 = Int32.ofNat b := hq 1 (by simp)
    have ha := am_tcn (show a ≤ 100000 by have := h24 a (by simp); omega)
    have hb := am_tcn (show b ≤ 100000 by have := h24 b (by simp); omega)
    show (0 : Int64) ||| (1 <<< ((Q 5 (Q 6 0).toNatClampNeg).toInt64 &&& 63)) ||| (1 <<< ((Q 5 (Q 6 1).toNatClampNeg).toInt64 &&& 63)) = (0 : Int64) ||| (1 <<< ((Q 5 a).toInt64 &&& 63)) ||| (1 <<< ((Q 5 b).toInt64 &&& 63))
    rw [q0, q1, ha, hb]
  · have q0 : Q 6 0 = Int32.ofNat a := hq 0 (by simp)
    have q1 : Q 6 1 = Int32.ofNat b := hq 1 (by simp)
    have q2 : Q 6 2 = Int32.ofNat c := hq 2 (by simp)
    have ha := am_tcn (show a ≤ 100000 by have := h24 a (by simp); omega)
    have hb := am_tcn (show b ≤ 100000 by have := h24 b (by simp); omega)
    have hc := am_tcn (show c ≤ 100000 by have := h24 c (by simp); omega)
    show (0 : Int64) ||| (1 <<< ((Q 5 (Q 6 0).toNatClampNeg).toInt64 &&& 63)) ||| (1 <<< ((Q 5 (Q 6 1).toNatClampNeg).toInt64 &&& 63)) ||| (1 <<< ((Q 5 (Q 6 2).toNatClampNeg).toInt64 &&& 63)) = (0 : Int64) ||| (1 <<< ((Q 5 a).toInt64 &&& 63)) ||| (1 <<< ((Q 5 b).toInt64 &&& 63)) ||| (1 <<< ((Q 5 c).toInt64 &&& 63))
    rw [q0, q1, q2, ha, hb, hc]
theorem mc50_59 (hW : aw_W K A G n F T) (hSr : aw_S r) (hl : ∀ t, t < 64 → am_I (G 2 t) 6) {c : Nat} (hc : c < F) (hw : aw_we G c) {k S nd : Nat} (hk3 : k ≤ 3) (hS : S ≤ 24) (hkS : k ≤ S) (hnd : nd ≤ 100000) {O : Nat → Int32} (hO : ∀ i, i < S → am_I (O i) 64) {lk : Int32} (hlk : am_mx 0 lk = Int32.ofNat nd) : ∀ (l : List (List Nat)) (x : List Nat) (t : Nat) (a : Option (List Nat)) (Q : am_G), ap_h S x l = true → t + l.length < 2024 → (∀ y, y ∈ x :: l → y.Sublist (List.range' 0 S) ∧ y.length = k) → (∀ b, a = some b → b.Sublist (List.range' 0 S) ∧ b.length = k) → Q 4 0 = Int32.ofNat S → Q 5 = O → (∀ j, j < k → Q 6 j = Int32.ofNat (x.getD j 0)) → ∃ Q', am_exec 50 59 [.ref 34, .ref (A 1 c), .int (Int32.ofNat k), .int lk, .int (ap_bf (fun i => (as_fo G (O i).toNatClampNeg).toNatClampNeg) nd a), .int (ap_bw (fun i => (as_wo G c (O i).toNatClampNeg).toNatClampNeg) a), .long (ap_bt O a), am_U, .int 1, .int (Int32.ofNat t), am_U, am_U] [] (aw_H K A G Q M r) = some (.inl (some (.long (ap_bt O ((x :: l).foldl (ap_g (fun i => (as_fo G (O i).toNatClampNeg).toNatClampNeg) (fun i => (as_wo G c (O i).toNatClampNeg).toNatClampNeg) nd) a)))), aw_H K A G Q' M r) ∧ ∀ f, ¬ f = 6 → Q' f = Q f := by
  have hV := hW.V
  obtain ⟨f, hf⟩ : ∃ f, f = fun i => (as_fo G (O i).toNatClampNeg).toNatClampNeg := ⟨_, rfl⟩
  obtain ⟨w, hw'⟩ : ∃ w, w = fun i => (as_wo G c (O i).toNatClampNeg).toNatClampNeg := ⟨_, rfl⟩
  rw [← hf, ← hw']
  have f5 : ∀ i, as_fo G (O i).toNatClampNeg = Int32.ofNat (f i) ∧ f i < 5 := fun i => by
    obtain ⟨z, z1, z2⟩ := as_fd5 (l := G 2 (O i).toNatClampNeg) (m := G 3 (O i).toNatClampNeg)
    have z2 : as_fo G (O i).toNatClampNeg = Int32.ofNat z := z2
    rw [hf]
    show _ = Int32.ofNat (as_fo G (O i).toNatClampNeg).toNatClampNeg ∧ (as_fo G (O i).toNatClampNeg).toNatClampNeg < 5
    rw [z2, am_tcn (by omega)]
    exact ⟨rfl, z1⟩
  have w82 : ∀ i, as_wo G c (O i).toNatClampNeg = Int32.ofNat (w i) ∧ w i < 82 := fun i => by
    obtain ⟨z, z1, z2⟩ := as_wo81 (t := (O i).toNatClampNeg) hw
    rw [hw']
    show _ = Int32.ofNat (as_wo G c (O i).toNatClampNeg).toNatClampNeg ∧ (as_wo G c (O i).toNatClampNeg).toNatClampNeg < 82
    rw [z2, am_tcn (by omega)]
    exact ⟨rfl, z1⟩
  have fs : ∀ x : List Nat, x.length = k → ap_s f x ≤ 15 := fun x hx => by
    have := ap_s_le (v := f) (b := 5) x (fun i _ => by have := (f5 i).2; omega)
    omega
  have ws : ∀ x : List Nat, x.length = k → ap_s w x ≤ 246 := fun x hx => by
    have := ap_s_le (v := w) (b := 82) x (fun i _ => by have := (w82 i).2; omega)
    omega
  have step : ∀ (x : List Nat) (t : Nat) (a : Option (List Nat)) (Q : am_G), t < 2024 → x.Sublist (List.range' 0 S) → x.length = k → (∀ b, a = some b → b.length = k) → Q 4 0 = Int32.ofNat S → Q 5 = O → (∀ j, j < k → Q 6 j = Int32.ofNat (x.getD j 0)) → ∃ Q', am_exec 50 59 [.ref 34, .ref (A 1 c), .int (Int32.ofNat k), .int lk, .int (ap_bf f nd a), .int (ap_bw w a), .long (ap_bt O a), am_U, .int 1, .int (Int32.ofNat t), am_U, am_U] [] (aw_H K A G Q M r) = am_exec 50 59 [.ref 34, .ref (A 1 c), .int (Int32.ofNat k), .int lk, .int (ap_bf f nd (ap_g f w nd a x)), .int (ap_bw w (ap_g f w nd a x)), .long (ap_bt O (ap_g f w nd a x)), am_U, am_bi (¬ ap_x S x = none), .int (Int32.ofNat (t + 1)), am_U, am_U] [] (aw_H K A G Q' M r) ∧ (∀ f, ¬ f = 6 → Q' f = Q f) ∧ ∀ y, ap_x S x = some y → ∀ j, j < k → Q' 6 j = Int32.ofNat (y.getD j 0) := by
    intro x t a Q ht hx hxk ha q4 q5 q6
    have h24 : ∀ i, i ∈ x → i < S := fun i hi => by
      have := List.mem_range'_1.mp (hx.subset hi)
      omega
    obtain ⟨Q', x1, x2, x3⟩ := mc54 (K := K) (A := A) (G := G) (M := M) (r := r) hk3 hS hkS q4 hxk q6 (fun i hi => by have := h24 i hi; omega)
    refine ⟨Q', ?_, x2, x3⟩
    have gx : ∀ j, j < k → x.getD j 0 ∈ x := fun j hj => by
      rw [List.getD_eq_getElem?_getD, List.getElem?_eq_getElem (by omega)]
      exact List.getElem_mem _
    have hP : ∀ j, j < k → am_I (Q 6 j) 24 ∧ am_I (Q 5 (Q 6 j).toNatClampNeg) 64 := fun j hj => by
      have g1 := h24 _ (gx j hj)
      rw [q6 j hj, am_tcn (by omega), q5]
      exact ⟨am_Ik (by omega) (by decide), hO _ g1⟩
    have m51 := mc51 (A := A) (G := G) (Q := Q) (M := M) (r := r) hV hSr hl hk3 hP
    have m52 := mc52 (Q := Q) (M := M) (r := r) hW hSr hl hc hk3 hP
    have m53 := mc53 (A := A) (G := G) (Q := Q) (M := M) (r := r) hV hk3 (fun j hj => (hP j hj).1)
    have s51 : am_sum (fun j => as_fo G (Q 5 (Q 6 j).toNatClampNeg).toNatClampNeg) 0 k = Int32.ofNat (ap_s f x) := by
      rw [← ap_sum3 (g := fun i => as_fo G (O i).toNatClampNeg) (by omega) (fun i _ => (f5 i).1), hxk]
      refine am_sum_congr k fun j hj => ?_
      have g1 := h24 _ (gx j hj)
      show as_fo G (Q 5 (Q 6 j).toNatClampNeg).toNatClampNeg = as_fo G (O (x.getD j 0)).toNatClampNeg
      rw [q6 j hj, am_tcn (by omega), q5]
    have s52 : am_sum (fun j => as_wo G c (Q 5 (Q 6 j).toNatClampNeg).toNatClampNeg) 0 k = Int32.ofNat (ap_s w x) := by
      rw [← ap_sum3 (g := fun i => as_wo G c (O i).toNatClampNeg) (by omega) (fun i _ => (w82 i).1), hxk]
      refine am_sum_congr k fun j hj => ?_
      have g1 := h24 _ (gx j hj)
      show as_wo G c (Q 5 (Q 6 j).toNatClampNeg).toNatClampNeg = as_wo G c (O (x.getD j 0)).toNatClampNeg
      rw [q6 j hj, am_tcn (by omega), q5]
    have s53 : as_pk Q k = ap_o O 0 x := by
      have := ap_pk3 (Q := Q) (x := x) (by omega) (fun j hj => q6 j (by omega)) (fun i hi => by have := h24 i hi; omega)
      rw [hxk, q5] at this
      exact this
    rw [s51] at m51
    rw [s52] at m52
    rw [s53] at m53
    have fx := fs x hxk
    have wx := ws x hxk
    have emin : am_mi (Int32.ofNat (ap_s f x)) (Int32.ofNat nd) = Int32.ofNat (min (ap_s f x) nd) := am_min (by omega) hnd
    have c0 : ¬ (2024 : Int32) ≤ Int32.ofNat t := am_lit 2024 t ht (by decide)
    have f1 : ¬ (1 : Int32) = 0 := by decide
    rw [am_e50_59, if_neg c0, am_e50_67, if_neg f1]
    simp only [am_e50_72, am_e50_77, aw_gU0, aw_pU0, aw_gU1, aw_gU2, aw_pU2, aw_gU3, aw_pU3, aw_gU4, aw_pU4, aw_gU5, aw_pU5, aw_gU6, aw_pU6, aw_gU7, aw_pU7, aw_gC1, aw_gC2, aw_pC2, aw_gC3, aw_pC3, aw_gC4, aw_pC4, aw_gC5, aw_pC5, aw_gC6, aw_pC6, aw_gC7, aw_pC7, aw_gC9, aw_pC9, aw_gC0, aw_gC8, aw_gC10, aw_pC10, aw_gC11, aw_pC11, aw_gC12, aw_pC12, aw_gC13, aw_pC13, aw_gC14, aw_pC14, aw_gC15, aw_pC15, aw_gC16, aw_pC16, aw_gT0, aw_gT1, aw_gT2, aw_gT3, aw_gT4, aw_pT4, aw_gT5, aw_pT5, aw_gT6, aw_pT6, aw_gO0, aw_gO1, aw_gO2, aw_gO3, aw_gO4, aw_gO5, aw_gO6, aw_gP1, aw_pP1, aw_gP2, aw_pP2, aw_gP3, aw_pP3, aw_gP4, aw_pP4, aw_gP5, aw_pP5, aw_gP6, aw_pP6, aw_gP0, aw_gP7, aw_isU, aw_isC, aw_isT, aw_isO, aw_isP, aw_isF12, aw_gF12_0, aw_gF12_1, aw_gF12_2, aw_gF12_3, aw_gF12_4, aw_isF13, aw_gF13_0, aw_gF13_1, aw_gF13_2, aw_gF13_3, aw_gF13_4, aw_gF13_5, aw_gF13_6, aw_gF13_7, aw_isF14, aw_gF14_0, aw_gF14_1, aw_gF14_2, aw_isF18, aw_gF18_0, aw_gF18_1, aw_isF19, aw_gF19_0, aw_gF19_1, aw_gF19_2, aw_isF21, aw_gF21_0, aw_gF21_1, aw_gF21_2, aw_isF22, aw_gF22_0, aw_gF22_1, aw_gF22_2, aw_isF23, aw_gF23_0, aw_gF23_1, aw_gF23_2, aw_isF34, aw_gF34_0, aw_gF34_1, aw_gF34_2, aw_gF34_3, aw_gF34_4, aw_gF34_5, aw_isF38, aw_gF38_0, aw_isF39, aw_gF39_0, aw_pF12_4, aw_pF13_6, aw_pF13_7, aw_pF34_4, aw_pF34_5, am_bk, am_pu1, am_pu0, Option.bind_some, eq_self, am_nli, am_nlr, am_nln, am_nlu, if_true, if_false, not_true_eq_false, not_false_eq_true, am_10, am_01, m51, m52, hlk, emin]
    have upd : am_exec 50 116 [.ref 34, .ref (A 1 c), .int (Int32.ofNat k), .int lk, .int (ap_bf f nd a), .int (ap_bw w a), .long (ap_bt O a), am_U, .int 1, .int (Int32.ofNat t), .int (Int32.ofNat (min (ap_s f x) nd)), .int (Int32.ofNat (ap_s w x))] [] (aw_H K A G Q M r) = am_exec 50 59 [.ref 34, .ref (A 1 c), .int (Int32.ofNat k), .int lk, .int (ap_bf f nd (some x)), .int (ap_bw w (some x)), .long (ap_bt O (some x)), am_U, am_bi (¬ ap_x S x = none), .int (Int32.ofNat (t + 1)), am_U, am_U] [] (aw_H K A G Q' M r) := by
      simp only [am_e50_116, am_e50_129, am_e50_136, aw_gU0, aw_pU0, aw_gU1, aw_gU2, aw_pU2, aw_gU3, aw_pU3, aw_gU4, aw_pU4, aw_gU5, aw_pU5, aw_gU6, aw_pU6, aw_gU7, aw_pU7, aw_gC1, aw_gC2, aw_pC2, aw_gC3, aw_pC3, aw_gC4, aw_pC4, aw_gC5, aw_pC5, aw_gC6, aw_pC6, aw_gC7, aw_pC7, aw_gC9, aw_pC9, aw_gC0, aw_gC8, aw_gC10, aw_pC10, aw_gC11, aw_pC11, aw_gC12, aw_pC12, aw_gC13, aw_pC13, aw_gC14, aw_pC14, aw_gC15, aw_pC15, aw_gC16, aw_pC16, aw_gT0, aw_gT1, aw_gT2, aw_gT3, aw_gT4, aw_pT4, aw_gT5, aw_pT5, aw_gT6, aw_pT6, aw_gO0, aw_gO1, aw_gO2, aw_gO3, aw_gO4, aw_gO5, aw_gO6, aw_gP1, aw_pP1, aw_gP2, aw_pP2, aw_gP3, aw_pP3, aw_gP4, aw_pP4, aw_gP5, aw_pP5, aw_gP6, aw_pP6, aw_gP0, aw_gP7, aw_isU, aw_isC, aw_isT, aw_isO, aw_isP, aw_isF12, aw_gF12_0, aw_gF12_1, aw_gF12_2, aw_gF12_3, aw_gF12_4, aw_isF13, aw_gF13_0, aw_gF13_1, aw_gF13_2, aw_gF13_3, aw_gF13_4, aw_gF13_5, aw_gF13_6, aw_gF13_7, aw_isF14, aw_gF14_0, aw_gF14_1, aw_gF14_2, aw_isF18, aw_gF18_0, aw_gF18_1, aw_isF19, aw_gF19_0, aw_gF19_1, aw_gF19_2, aw_isF21, aw_gF21_0, aw_gF21_1, aw_gF21_2, aw_isF22, aw_gF22_0, aw_gF22_1, aw_gF22_2, aw_isF23, aw_gF23_0, aw_gF23_1, aw_gF23_2, aw_isF34, aw_gF34_0, aw_gF34_1, aw_gF34_2, aw_gF34_3, aw_gF34_4, aw_gF34_5, aw_isF38, aw_gF38_0, aw_isF39, aw_gF39_0, aw_pF12_4, aw_pF13_6, aw_pF13_7, aw_pF34_4, aw_pF34_5, am_bk, am_pu1, am_pu0, Option.bind_some, eq_self, am_nli, am_nlr, am_nln, am_nlu, if_true, if_false, not_true_eq_false, not_false_eq_true, am_10, am_01, m53, x1, am_succ]
      rfl
    have keep : am_exec 50 131 [.ref 34, .ref (A 1 c), .int (Int32.ofNat k), .int lk, .int (ap_bf f nd a), .int (ap_bw w a), .long (ap_bt O a), am_U, .int 1, .int (Int32.ofNat t), .int (Int32.ofNat (min (ap_s f x) nd)), .int (Int32.ofNat (ap_s w x))] [] (aw_H K A G Q M r) = am_exec 50 59 [.ref 34, .ref (A 1 c), .int (Int32.ofNat k), .int lk, .int (ap_bf f nd a), .int (ap_bw w a), .long (ap_bt O a), am_U, am_bi (¬ ap_x S x = none), .int (Int32.ofNat (t + 1)), am_U, am_U] [] (aw_H K A G Q' M r) := by
      simp only [am_e50_131, am_e50_136, aw_gU0, aw_pU0, aw_gU1, aw_gU2, aw_pU2, aw_gU3, aw_pU3, aw_gU4, aw_pU4, aw_gU5, aw_pU5, aw_gU6, aw_pU6, aw_gU7, aw_pU7, aw_gC1, aw_gC2, aw_pC2, aw_gC3, aw_pC3, aw_gC4, aw_pC4, aw_gC5, aw_pC5, aw_gC6, aw_pC6, aw_gC7, aw_pC7, aw_gC9, aw_pC9, aw_gC0, aw_gC8, aw_gC10, aw_pC10, aw_gC11, aw_pC11, aw_gC12, aw_pC12, aw_gC13, aw_pC13, aw_gC14, aw_pC14, aw_gC15, aw_pC15, aw_gC16, aw_pC16, aw_gT0, aw_gT1, aw_gT2, aw_gT3, aw_gT4, aw_pT4, aw_gT5, aw_pT5, aw_gT6, aw_pT6, aw_gO0, aw_gO1, aw_gO2, aw_gO3, aw_gO4, aw_gO5, aw_gO6, aw_gP1, aw_pP1, aw_gP2, aw_pP2, aw_gP3, aw_pP3, aw_gP4, aw_pP4, aw_gP5, aw_pP5, aw_gP6, aw_pP6, aw_gP0, aw_gP7, aw_isU, aw_isC, aw_isT, aw_isO, aw_isP, aw_isF12, aw_gF12_0, aw_gF12_1, aw_gF12_2, aw_gF12_3, aw_gF12_4, aw_isF13, aw_gF13_0, aw_gF13_1, aw_gF13_2, aw_gF13_3, aw_gF13_4, aw_gF13_5, aw_gF13_6, aw_gF13_7, aw_isF14, aw_gF14_0, aw_gF14_1, aw_gF14_2, aw_isF18, aw_gF18_0, aw_gF18_1, aw_isF19, aw_gF19_0, aw_gF19_1, aw_gF19_2, aw_isF21, aw_gF21_0, aw_gF21_1, aw_gF21_2, aw_isF22, aw_gF22_0, aw_gF22_1, aw_gF22_2, aw_isF23, aw_gF23_0, aw_gF23_1, aw_gF23_2, aw_isF34, aw_gF34_0, aw_gF34_1, aw_gF34_2, aw_gF34_3, aw_gF34_4, aw_gF34_5, aw_isF38, aw_gF38_0, aw_isF39, aw_gF39_0, aw_pF12_4, aw_pF13_6, aw_pF13_7, aw_pF34_4, aw_pF34_5, am_bk, am_pu1, am_pu0, Option.bind_some, eq_self, am_nli, am_nlr, am_nln, am_nlu, if_true, if_false, not_true_eq_false, not_false_eq_true, am_10, am_01, x1, am_succ]
    rw [am_e50_93]
    cases a with
    | none =>
      rw [if_pos (by
        show (-1 : Int32) < Int32.ofNat (min (ap_s f x) nd)
        rw [Int32.lt_iff_toInt_lt, ap_ei (by omega)]
        show (-1 : Int) < _
        omega)]
      exact upd
    | some b =>
      have hb := ha b rfl
      have fb := fs b hb
      have wb := ws b hb
      have e1 : (ap_bf f nd (some b) < Int32.ofNat (min (ap_s f x) nd)) = (min (ap_s f b) nd < min (ap_s f x) nd) := am_lt_nat (by omega) (by omega)
      have e2 : (Int32.ofNat (min (ap_s f x) nd) = ap_bf f nd (some b)) ↔ min (ap_s f x) nd = min (ap_s f b) nd := am_ofi (by omega) (by omega)
      have e3 : (Int32.ofNat (ap_s w x) ≤ ap_bw w (some b)) = (ap_s w x ≤ ap_s w b) := am_le_nat (by omega) (by omega)
      unfold ap_g
      by_cases hlt : ap_lt f w nd b x
      · show _ = am_exec 50 59 [.ref 34, .ref (A 1 c), .int (Int32.ofNat k), .int lk, .int (ap_bf f nd (if ap_lt f w nd b x then some x else some b)), .int (ap_bw w (if ap_lt f w nd b x then some x else some b)), .long (ap_bt O (if ap_lt f w nd b x then some x else some b)), am_U, am_bi (¬ ap_x S x = none), .int (Int32.ofNat (t + 1)), am_U, am_U] [] (aw_H K A G Q' M r)
        rw [if_pos hlt]
        unfold ap_lt at hlt
        by_cases h1 : min (ap_s f b) nd < min (ap_s f x) nd
        · rw [if_pos (e1 ▸ h1)]
          exact upd
        · rw [if_neg (fun q => h1 (e1 ▸ q)), am_e50_102, if_neg (fun q => q (e2.mpr (by omega))), am_e50_109, if_neg (fun q => by
            rw [e3] at q
            omega)]
          exact upd
      · show _ = am_exec 50 59 [.ref 34, .ref (A 1 c), .int (Int32.ofNat k), .int lk, .int (ap_bf f nd (if ap_lt f w nd b x then some x else some b)), .int (ap_bw w (if ap_lt f w nd b x then some x else some b)), .long (ap_bt O (if ap_lt f w nd b x then some x else some b)), am_U, am_bi (¬ ap_x S x = none), .int (Int32.ofNat (t + 1)), am_U, am_U] [] (aw_H K A G Q' M r)
        rw [if_neg hlt]
        unfold ap_lt at hlt
        have h1 : ¬ min (ap_s f b) nd < min (ap_s f x) nd := fun q => hlt (Or.inl q)
        rw [if_neg (fun q => h1 (e1 ▸ q)), am_e50_102]
        by_cases h2 : min (ap_s f x) nd = min (ap_s f b) nd
        · rw [if_neg (fun q => q (e2.mpr h2)), am_e50_109, if_pos (by
            rw [e3]
            omega)]
          exact keep
        · rw [if_pos (fun q => h2 (e2.mp q))]
          exact keep
  intro l
  induction l with
  | nil =>
    intro x t a Q hh ht hy ha q4 q5 q6
    obtain ⟨h1, h2⟩ := hy x List.mem_cons_self
    obtain ⟨Q', x1, x2, -⟩ := step x t a Q (by have : ([] : List (List Nat)).length = 0 := rfl; omega) h1 h2 (fun b hb => (ha b hb).2) q4 q5 q6
    refine ⟨Q', ?_, x2⟩
    rw [x1]
    have hn : ap_x S x = none := of_decide_eq_true hh
    have e0 : am_bi (¬ ap_x S x = none) = .int 0 := by
      show Value.int (if ¬ ap_x S x = none then 1 else 0) = _
      rw [if_neg (fun q => q hn)]
    rw [e0, am_e50_59]
    split
    · rw [am_e50_144]
      rfl
    · rw [am_e50_67, if_pos rfl, am_e50_144]
      rfl
  | cons y l ih =>
    intro x t a Q hh ht hy ha q4 q5 q6
    obtain ⟨h1, h2⟩ := hy x List.mem_cons_self
    rw [List.length_cons] at ht
    obtain ⟨Q', x1, x2, x3⟩ := step x t a Q (by omega) h1 h2 (fun b hb => (ha b hb).2) q4 q5 q6
    rw [ap_h, Bool.and_eq_true] at hh
    have hn : ap_x S x = some y := of_decide_eq_true hh.1
    have e0 : am_bi (¬ ap_x S x = none) = .int 1 := by
      show Value.int (if ¬ ap_x S x = none then 1 else 0) = _
      rw [if_pos (fun q => by rw [hn] at q; cases q)]
    obtain ⟨Q2, y1, y2⟩ := ih y (t + 1) (ap_g f w nd a x) Q' hh.2 (by omega) (fun z hz => hy z (List.mem_cons_of_mem x hz)) (fun b hb => by
      cases a with
      | none => cases hb; exact ⟨h1, h2⟩
      | some d =>
        have hb : (if ap_lt f w nd d x then some x else some d) = some b := hb
        split at hb
        · cases hb; exact ⟨h1, h2⟩
        · exact ha _ hb) (by rw [x2 4 (by decide)]; exact q4) (by rw [x2 5 (by decide)]; exact q5) (x3 y hn)
    refine ⟨Q2, ?_, fun f hf => by rw [y2 f hf, x2 f hf]⟩
    rw [x1, e0, List.foldl_cons]
    exact y1
end
