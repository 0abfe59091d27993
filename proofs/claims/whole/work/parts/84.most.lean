/-! THE CLASS'S PLANNER: the most food that so many tiles can give -/
def as_mr (g : Nat → Int32) (a i : Nat) (s : Nat × Nat) : Nat × Nat := if ¬ s.2 = 0 ∧ g i = Int32.ofNat a then (s.1 + a, s.2 - 1) else s
def as_ml (g : Nat → Int32) (a i m : Nat) (s : Nat × Nat) : Nat × Nat := (List.range' i m).foldl (fun s i => as_mr g a i s) s
def as_mo (g : Nat → Int32) (S k : Nat) : Nat × Nat := as_ml g 1 0 S (as_ml g 2 0 S (as_ml g 3 0 S (as_ml g 4 0 S (0, k))))
theorem as_mr_0 {g : Nat → Int32} {a i : Nat} {s : Nat × Nat} (h : s.2 = 0) : as_mr g a i s = s := if_neg (fun q => q.1 h)
theorem as_ml_0 {g : Nat → Int32} {a : Nat} : ∀ (m i : Nat) (s : Nat × Nat), s.2 = 0 → as_ml g a i m s = s
  | 0, _, _, _ => rfl
  | m + 1, i, s, h => by
    have ih := as_ml_0 (g := g) (a := a) m (i + 1) s h
    unfold as_ml at ih ⊢
    rw [List.range'_succ, List.foldl_cons, as_mr_0 h]
    exact ih
theorem as_mr_le {g : Nat → Int32} {a i b : Nat} {s : Nat × Nat} (h : s.2 ≤ b) : (as_mr g a i s).2 ≤ b := by
  unfold as_mr
  split
  · show s.2 - 1 ≤ b
    omega
  · exact h
theorem as_ml_le {g : Nat → Int32} {a b : Nat} : ∀ (m i : Nat) (s : Nat × Nat), s.2 ≤ b → (as_ml g a i m s).2 ≤ b
  | 0, _, _, h => h
  | m + 1, i, s, h => by
    have ih := as_ml_le (g := g) (a := a) (b := b) m (i + 1) (as_mr g a i s) (as_mr_le h)
    unfold as_ml at ih ⊢
    rw [List.range'_succ, List.foldl_cons]
    exact ih
section
variable {K : aw_K} {A : aw_A} {G Q : am_G} {M : aw_M} {r : am_H} {n F T : Nat}
theorem mc44_15 (hV : aw_V K) (hSr : aw_S r) {S : Nat} (hS : S ≤ 24) (hQ : Q 4 0 = Int32.ofNat S) (hO : ∀ i, i < S → am_I (Q 5 i) 64) (hl : ∀ t, t < 64 → am_I (G 2 t) 6) {a : Nat} (ha : a ≤ 4) : ∀ (m i : Nat) (s : Nat × Nat), i + m = S → s.2 ≤ 24 → ∃ x : Int32, am_exec 44 15 [.ref 34, am_U, .int (Int32.ofNat s.1), .int (Int32.ofNat s.2), .int (Int32.ofNat a), .int (Int32.ofNat i)] [] (aw_H K A G Q M r) = am_exec 44 66 [.ref 34, am_U, .int (Int32.ofNat (as_ml (fun i => as_fo G (Q 5 i).toNatClampNeg) a i m s).1), .int (Int32.ofNat (as_ml (fun i => as_fo G (Q 5 i).toNatClampNeg) a i m s).2), .int (Int32.ofNat a), .int x] [] (aw_H K A G Q M r)
  | 0, i, s, hi, _ => by
    refine ⟨Int32.ofNat i, ?_⟩
    show am_exec 44 15 _ _ _ = am_exec 44 66 [.ref 34, am_U, .int (Int32.ofNat s.1), .int (Int32.ofNat s.2), .int (Int32.ofNat a), .int (Int32.ofNat i)] [] _
    rw [show i = S by omega, am_e44_15]
    simp only [am_e44_0, am_e44_72, am_e44_12, am_e44_21, am_e44_24, am_e44_28, am_e44_32, am_e44_35, am_e44_39, am_e44_44, am_e44_47, am_e44_60, am_e44_52, aw_gU0, aw_pU0, aw_gU1, aw_gU2, aw_pU2, aw_gU3, aw_pU3, aw_gU4, aw_pU4, aw_gU5, aw_pU5, aw_gU6, aw_pU6, aw_gU7, aw_pU7, aw_gC1, aw_gC2, aw_pC2, aw_gC3, aw_pC3, aw_gC4, aw_pC4, aw_gC5, aw_pC5, aw_gC6, aw_pC6, aw_gC7, aw_pC7, aw_gC9, aw_pC9, aw_gC0, aw_gC8, aw_gC10, aw_pC10, aw_gC11, aw_pC11, aw_gC12, aw_pC12, aw_gC13, aw_pC13, aw_gC14, aw_pC14, aw_gC15, aw_pC15, aw_gC16, aw_pC16, aw_gT0, aw_gT1, aw_gT2, aw_gT3, aw_gT4, aw_pT4, aw_gT5, aw_pT5, aw_gT6, aw_pT6, aw_gO0, aw_gO1, aw_gO2, aw_gO3, aw_gO4, aw_gO5, aw_gO6, aw_gP1, aw_pP1, aw_gP2, aw_pP2, aw_gP3, aw_pP3, aw_gP4, aw_pP4, aw_gP5, aw_pP5, aw_gP6, aw_pP6, aw_gP0, aw_gP7, aw_isU, aw_isC, aw_isT, aw_isO, aw_isP, aw_isF12, aw_gF12_0, aw_gF12_1, aw_gF12_2, aw_gF12_3, aw_gF12_4, aw_isF13, aw_gF13_0, aw_gF13_1, aw_gF13_2, aw_gF13_3, aw_gF13_4, aw_gF13_5, aw_gF13_6, aw_gF13_7, aw_isF14, aw_gF14_0, aw_gF14_1, aw_gF14_2, aw_isF18, aw_gF18_0, aw_gF18_1, aw_isF19, aw_gF19_0, aw_gF19_1, aw_gF19_2, aw_isF21, aw_gF21_0, aw_gF21_1, aw_gF21_2, aw_isF22, aw_gF22_0, aw_gF22_1, aw_gF22_2, aw_isF23, aw_gF23_0, aw_gF23_1, aw_gF23_2, aw_isF34, aw_gF34_0, aw_gF34_1, aw_gF34_2, aw_gF34_3, aw_gF34_4, aw_gF34_5, aw_isF38, aw_gF38_0, aw_isF39, aw_gF39_0, aw_pF12_4, aw_pF13_6, aw_pF13_7, aw_pF34_4, aw_pF34_5, am_bk, am_pu1, am_pu0, Option.bind_some, eq_self, am_nli, am_nlr, am_nln, am_nlu, if_true, if_false, not_true_eq_false, not_false_eq_true, am_10, am_01, hQ, Int32.le_refl]
  | m + 1, i, s, hi, hs => by
    have c0 : ¬ Int32.ofNat S ≤ Int32.ofNat i := am_lit _ _ (by omega) (by omega)
    by_cases h0 : s.2 = 0
    · refine ⟨Int32.ofNat i, ?_⟩
      rw [as_ml_0 _ _ _ h0, am_e44_15]
      have c1 : Int32.ofNat s.2 ≤ 0 := by rw [h0]; decide
      simp only [am_e44_0, am_e44_72, am_e44_12, am_e44_21, am_e44_24, am_e44_28, am_e44_32, am_e44_35, am_e44_39, am_e44_44, am_e44_47, am_e44_60, am_e44_52, aw_gU0, aw_pU0, aw_gU1, aw_gU2, aw_pU2, aw_gU3, aw_pU3, aw_gU4, aw_pU4, aw_gU5, aw_pU5, aw_gU6, aw_pU6, aw_gU7, aw_pU7, aw_gC1, aw_gC2, aw_pC2, aw_gC3, aw_pC3, aw_gC4, aw_pC4, aw_gC5, aw_pC5, aw_gC6, aw_pC6, aw_gC7, aw_pC7, aw_gC9, aw_pC9, aw_gC0, aw_gC8, aw_gC10, aw_pC10, aw_gC11, aw_pC11, aw_gC12, aw_pC12, aw_gC13, aw_pC13, aw_gC14, aw_pC14, aw_gC15, aw_pC15, aw_gC16, aw_pC16, aw_gT0, aw_gT1, aw_gT2, aw_gT3, aw_gT4, aw_pT4, aw_gT5, aw_pT5, aw_gT6, aw_pT6, aw_gO0, aw_gO1, aw_gO2, aw_gO3, aw_gO4, aw_gO5, aw_gO6, aw_gP1, aw_pP1, aw_gP2, aw_pP2, aw_gP3, aw_pP3, aw_gP4, aw_pP4, aw_gP5, aw_pP5, aw_gP6, aw_pP6, aw_gP0, aw_gP7, aw_isU, aw_isC, aw_isT, aw_isO, aw_isP, aw_isF12, aw_gF12_0, aw_gF12_1, aw_gF12_2, aw_gF12_3, aw_gF12_4, aw_isF13, aw_gF13_0, aw_gF13_1, aw_gF13_2, aw_gF13_3, aw_gF13_4, aw_gF13_5, aw_gF13_6, aw_gF13_7, aw_isF14, aw_gF14_0, aw_gF14_1, aw_gF14_2, aw_isF18, aw_gF18_0, aw_gF18_1, aw_isF19, aw_gF19_0, aw_gF19_1, aw_gF19_2, aw_isF21, aw_gF21_0, aw_gF21_1, aw_gF21_2, aw_isF22, aw_gF22_0, aw_gF22_1, aw_gF22_2, aw_isF23, aw_gF23_0, aw_gF23_1, aw_gF23_2, aw_isF34, aw_gF34_0, aw_gF34_1, aw_gF34_2, aw_gF34_3, aw_gF34_4, aw_gF34_5, aw_isF38, aw_gF38_0, aw_isF39, aw_gF39_0, aw_pF12_4, aw_pF13_6, aw_pF13_7, aw_pF34_4, aw_pF34_5, am_bk, am_pu1, am_pu0, Option.bind_some, eq_self, am_nli, am_nlr, am_nln, am_nlu, if_true, if_false, not_true_eq_false, not_false_eq_true, am_10, am_01, hQ, c0, c1]
    · have c1 : ¬ Int32.ofNat s.2 ≤ 0 := fun q => by
        have := (am_le_nat (b := 0) (show s.2 ≤ 100000 by omega) (by omega)).mp q
        omega
      have hI : am_I (Int32.ofNat i) 24 := am_Ik (by omega) (by decide)
      have hJ := am_tcn (show i ≤ 100000 by omega)
      have m147 := mc147_35 (K := K) (A := A) (G := G) (Q := Q) (M := M) (r := r) hI
      rw [hJ] at m147
      have m4 := mc4 (K := K) (A := A) (G := G) (Q := Q) (M := M) (r := r) hV hSr (hO i (by omega)) (hl _ (hO i (by omega)).2)
      have e1 : Int32.ofNat s.2 - 1 = Int32.ofNat (s.2 - 1) := (Int32.ofNat_sub s.2 1 (by omega)).symm
      have ih := mc44_15 hV hSr hS hQ hO hl ha m (i + 1) (as_mr (fun i => as_fo G (Q 5 i).toNatClampNeg) a i s) (by omega) (as_mr_le hs)
      obtain ⟨x, ih⟩ := ih
      refine ⟨x, ?_⟩
      have e2 : as_ml (fun i => as_fo G (Q 5 i).toNatClampNeg) a i (m + 1) s = as_ml (fun i => as_fo G (Q 5 i).toNatClampNeg) a (i + 1) m (as_mr (fun i => as_fo G (Q 5 i).toNatClampNeg) a i s) := by
        unfold as_ml
        rw [List.range'_succ, List.foldl_cons]
      rw [e2]
      refine Eq.trans ?_ ih
      rw [am_e44_15]
      by_cases h : as_fo G (Q 5 i).toNatClampNeg = Int32.ofNat a
      · have e3 : as_mr (fun i => as_fo G (Q 5 i).toNatClampNeg) a i s = (s.1 + a, s.2 - 1) := if_pos ⟨h0, h⟩
        have h' : am_fd (G 2 (Q 5 i).toNatClampNeg) (G 3 (Q 5 i).toNatClampNeg) = Int32.ofNat a := h
        rw [e3, Int32.ofNat_add]
        simp only [am_e44_0, am_e44_72, am_e44_12, am_e44_21, am_e44_66, am_e44_24, am_e44_28, am_e44_32, am_e44_35, am_e44_39, am_e44_44, am_e44_47, am_e44_60, am_e44_52, aw_gU0, aw_pU0, aw_gU1, aw_gU2, aw_pU2, aw_gU3, aw_pU3, aw_gU4, aw_pU4, aw_gU5, aw_pU5, aw_gU6, aw_pU6, aw_gU7, aw_pU7, aw_gC1, aw_gC2, aw_pC2, aw_gC3, aw_pC3, aw_gC4, aw_pC4, aw_gC5, aw_pC5, aw_gC6, aw_pC6, aw_gC7, aw_pC7, aw_gC9, aw_pC9, aw_gC0, aw_gC8, aw_gC10, aw_pC10, aw_gC11, aw_pC11, aw_gC12, aw_pC12, aw_gC13, aw_pC13, aw_gC14, aw_pC14, aw_gC15, aw_pC15, aw_gC16, aw_pC16, aw_gT0, aw_gT1, aw_gT2, aw_gT3, aw_gT4, aw_pT4, aw_gT5, aw_pT5, aw_gT6, aw_pT6, aw_gO0, aw_gO1, aw_gO2, aw_gO3, aw_gO4, aw_gO5, aw_gO6, aw_gP1, aw_pP1, aw_gP2, aw_pP2, aw_gP3, aw_pP3, aw_gP4, aw_pP4, aw_gP5, aw_pP5, aw_gP6, aw_pP6, aw_gP0, aw_gP7, aw_isU, aw_isC, aw_isT, aw_isO, aw_isP, aw_isF12, aw_gF12_0, aw_gF12_1, aw_gF12_2, aw_gF12_3, aw_gF12_4, aw_isF13, aw_gF13_0, aw_gF13_1, aw_gF13_2, aw_gF13_3, aw_gF13_4, aw_gF13_5, aw_gF13_6, aw_gF13_7, aw_isF14, aw_gF14_0, aw_gF14_1, aw_gF14_2, aw_isF18, aw_gF18_0, aw_gF18_1, aw_isF19, aw_gF19_0, aw_gF19_1, aw_gF19_2, aw_isF21, aw_gF21_0, aw_gF21_1, aw_gF21_2, aw_isF22, aw_gF22_0, aw_gF22_1, aw_gF22_2, aw_isF23, aw_gF23_0, aw_gF23_1, aw_gF23_2, aw_isF34, aw_gF34_0, aw_gF34_1, aw_gF34_2, aw_gF34_3, aw_gF34_4, aw_gF34_5, aw_isF38, aw_gF38_0, aw_isF39, aw_gF39_0, aw_pF12_4, aw_pF13_6, aw_pF13_7, aw_pF34_4, aw_pF34_5, am_bk, am_pu1, am_pu0, Option.bind_some, eq_self, am_nli, am_nlr, am_nln, am_nlu, if_true, if_false, not_true_eq_false, not_false_eq_true, am_10, am_01, hQ, hV, c0, c1, m147, m4, h', am_m1, e1, am_succ]
      · have e3 : as_mr (fun i => as_fo G (Q 5 i).toNatClampNeg) a i s = s := if_neg (fun q => h q.2)
        have h' : ¬ am_fd (G 2 (Q 5 i).toNatClampNeg) (G 3 (Q 5 i).toNatClampNeg) = Int32.ofNat a := h
        rw [e3]
        simp only [am_e44_0, am_e44_72, am_e44_12, am_e44_21, am_e44_66, am_e44_24, am_e44_28, am_e44_32, am_e44_35, am_e44_39, am_e44_44, am_e44_47, am_e44_60, am_e44_52, aw_gU0, aw_pU0, aw_gU1, aw_gU2, aw_pU2, aw_gU3, aw_pU3, aw_gU4, aw_pU4, aw_gU5, aw_pU5, aw_gU6, aw_pU6, aw_gU7, aw_pU7, aw_gC1, aw_gC2, aw_pC2, aw_gC3, aw_pC3, aw_gC4, aw_pC4, aw_gC5, aw_pC5, aw_gC6, aw_pC6, aw_gC7, aw_pC7, aw_gC9, aw_pC9, aw_gC0, aw_gC8, aw_gC10, aw_pC10, aw_gC11, aw_pC11, aw_gC12, aw_pC12, aw_gC13, aw_pC13, aw_gC14, aw_pC14, aw_gC15, aw_pC15, aw_gC16, aw_pC16, aw_gT0, aw_gT1, aw_gT2, aw_gT3, aw_gT4, aw_pT4, aw_gT5, aw_pT5, aw_gT6, aw_pT6, aw_gO0, aw_gO1, aw_gO2, aw_gO3, aw_gO4, aw_gO5, aw_gO6, aw_gP1, aw_pP1, aw_gP2, aw_pP2, aw_gP3, aw_pP3, aw_gP4, aw_pP4, aw_gP5, aw_pP5, aw_gP6, aw_pP6, aw_gP0, aw_gP7, aw_isU, aw_isC, aw_isT, aw_isO, aw_isP, aw_isF12, aw_gF12_0, aw_gF12_1, aw_gF12_2, aw_gF12_3, aw_gF12_4, aw_isF13, aw_gF13_0, aw_gF13_1, aw_gF13_2, aw_gF13_3, aw_gF13_4, aw_gF13_5, aw_gF13_6, aw_gF13_7, aw_isF14, aw_gF14_0, aw_gF14_1, aw_gF14_2, aw_isF18, aw_gF18_0, aw_gF18_1, aw_isF19, aw_gF19_0, aw_gF19_1, aw_gF19_2, aw_isF21, aw_gF21_0, aw_gF21_1, aw_gF21_2, aw_isF22, aw_gF22_0, aw_gF22_1, aw_gF22_2, aw_isF23, aw_gF23_0, aw_gF23_1, aw_gF23_2, aw_isF34, aw_gF34_0, aw_gF34_1, aw_gF34_2, aw_gF34_3, aw_gF34_4, aw_gF34_5, aw_isF38, aw_gF38_0, aw_isF39, aw_gF39_0, aw_pF12_4, aw_pF13_6, aw_pF13_7, aw_pF34_4, aw_pF34_5, am_bk, am_pu1, am_pu0, Option.bind_some, eq_self, am_nli, am_nlr, am_nln, am_nlu, if_true, if_false, not_true_eq_false, not_false_eq_true, am_10, am_01, hQ, hV, c0, c1, m147, m4, h', am_succ]
theorem mc44 (hV : aw_V K) (hSr : aw_S r) {S : Nat} (hS : S ≤ 24) (hQ : Q 4 0 = Int32.ofNat S) (hO : ∀ i, i < S → am_I (Q 5 i) 64) (hl : ∀ t, t < 64 → am_I (G 2 t) 6) {k : Nat} (hk : k ≤ 24) : am_exec 44 0 [.ref 34, .int (Int32.ofNat k), am_U, am_U, am_U, am_U] [] (aw_H K A G Q M r) = some (.inl (some (.int (Int32.ofNat (as_mo (fun i => as_fo G (Q 5 i).toNatClampNeg) S k).1))), aw_H K A G Q M r) := by
  have step : ∀ a s, 1 ≤ a → a ≤ 4 → s.2 ≤ 24 → am_exec 44 7 [.ref 34, am_U, .int (Int32.ofNat s.1), .int (Int32.ofNat s.2), .int (Int32.ofNat a), am_U] [] (aw_H K A G Q M r) = am_exec 44 7 [.ref 34, am_U, .int (Int32.ofNat (as_ml (fun i => as_fo G (Q 5 i).toNatClampNeg) a 0 S s).1), .int (Int32.ofNat (as_ml (fun i => as_fo G (Q 5 i).toNatClampNeg) a 0 S s).2), .int (Int32.ofNat (a - 1)), am_U] [] (aw_H K A G Q M r) := fun a s h1 h4 hs => by
    obtain ⟨x, hx⟩ := mc44_15 (A := A) (M := M) hV hSr hS hQ hO hl h4 S 0 s (by omega) hs
    have hx : am_exec 44 15 [.ref 34, am_U, .int (Int32.ofNat s.1), .int (Int32.ofNat s.2), .int (Int32.ofNat a), .int 0] [] (aw_H K A G Q M r) = _ := hx
    have c : ¬ Int32.ofNat a ≤ 0 := fun q => by
      have := (am_le_nat (b := 0) (show a ≤ 100000 by omega) (by omega)).mp q
      omega
    have e1 : Int32.ofNat a - 1 = Int32.ofNat (a - 1) := (Int32.ofNat_sub a 1 (by omega)).symm
    rw [am_e44_7, if_neg c]
    simp only [am_e44_12, am_bk, am_pu1, am_pu0, Option.bind_some, eq_self, am_nli, am_nlr, am_nln, am_nlu, if_true, if_false, not_true_eq_false, not_false_eq_true, am_10, am_01, hx]
    simp only [am_e44_66, am_bk, am_pu1, am_pu0, Option.bind_some, eq_self, am_nli, am_nlr, am_nln, am_nlu, if_true, if_false, not_true_eq_false, not_false_eq_true, am_10, am_01, am_m1, e1]
  have s4 := step 4 (0, k) (by omega) (by omega) hk
  have s3 := step 3 _ (by omega) (by omega) (as_ml_le (g := fun i => as_fo G (Q 5 i).toNatClampNeg) (a := 4) S 0 (0, k) hk)
  have s2 := step 2 _ (by omega) (by omega) (as_ml_le (g := fun i => as_fo G (Q 5 i).toNatClampNeg) (a := 3) S 0 _ (as_ml_le (g := fun i => as_fo G (Q 5 i).toNatClampNeg) (a := 4) S 0 (0, k) hk))
  have s1 := step 1 _ (by omega) (by omega) (as_ml_le (g := fun i => as_fo G (Q 5 i).toNatClampNeg) (a := 2) S 0 _ (as_ml_le (g := fun i => as_fo G (Q 5 i).toNatClampNeg) (a := 3) S 0 _ (as_ml_le (g := fun i => as_fo G (Q 5 i).toNatClampNeg) (a := 4) S 0 (0, k) hk)))
  simp only [am_e44_0, am_bk, am_pu1, am_pu0, Option.bind_some, eq_self, am_nli, am_nlr, am_nln, am_nlu, if_true, if_false, not_true_eq_false, not_false_eq_true, am_10, am_01]
  refine (s4.trans (s3.trans (s2.trans s1))).trans ?_
  rw [am_e44_7, if_pos (by decide), am_e44_72]
  rfl
end
