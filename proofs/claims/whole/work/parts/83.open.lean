/-! THE CLASS'S PLANNER: the open tiles -/
abbrev as_op (G : am_G) (c t : Nat) (p : Int64) : Prop := am_dist (Int32.ofNat t) (G 9 c) ≤ 2 ∧ (p >>> ((Int32.ofNat t).toInt64 &&& 63)) &&& 1 = 0 ∧ G 4 t = G 8 c
def as_oq (G : am_G) (c : Nat) (p : Int64) (t : Nat) (Y : am_G) : am_G := if as_op G c t p then am_up (am_up Y 5 (Y 4 0).toNatClampNeg (Int32.ofNat t)) 4 0 (Y 4 0 + 1) else Y
theorem am_near3 : ∀ u, u < 64 → am_cnt (fun t => am_dist (Int32.ofNat t) (Int32.ofNat u) ≤ 2) 64 ≤ 25 := by decide +kernel
section
variable {K : aw_K} {A : aw_A} {G Q : am_G} {M : aw_M} {r : am_H} {n F T : Nat}
theorem mc40 (hW : aw_W K A G n F T) {c : Nat} (hc : c < F) (ho : aw_P (G 8 c)) {p : Int64} (h24 : am_cnt (fun t => as_op G c t p) 64 ≤ 24) : am_exec 40 0 [.ref 34, .ref (A 1 c), .long p, am_U, am_U, am_U, am_U] [] (aw_H K A G Q M r) = some (.inl none, aw_H K A G (am_it (as_oq G c p) (am_up Q 4 0 0) 64) M r) ∧ am_it (as_oq G c p) (am_up Q 4 0 0) 64 4 0 = Int32.ofNat (am_cnt (fun t => as_op G c t p) 64) := by
  have hK := hW.c hc
  have inv : ∀ k, k ≤ 64 → am_it (as_oq G c p) (am_up Q 4 0 0) k 4 0 = Int32.ofNat (am_cnt (fun t => as_op G c t p) k) := by
    intro k
    induction k with
    | zero =>
      intro _
      show am_up Q 4 0 0 4 0 = Int32.ofNat 0
      rw [am_up_eq, am_upd_eq]
      rfl
    | succ k ih =>
      intro hk
      have ih := ih (by omega)
      have hc1 : am_cnt (fun t => as_op G c t p) (k + 1) = am_cnt (fun t => as_op G c t p) k + if as_op G c k p then 1 else 0 := rfl
      rw [hc1, am_it]
      generalize am_it (as_oq G c p) (am_up Q 4 0 0) k = Y at ih ⊢
      unfold as_oq
      by_cases h : as_op G c k p
      · rw [if_pos h, if_pos h, am_up_eq, am_upd_eq, ih, am_succ]
      · rw [if_neg h, if_neg h, ih, Nat.add_zero]
  refine ⟨?_, inv 64 (by omega)⟩
  have key := am_iter (fun k => am_exec 40 8 [.ref 34, .ref (A 1 c), .long p, am_U, .int (Int32.ofNat k), am_U, am_U] [] (aw_H K A G (am_it (as_oq G c p) (am_up Q 4 0 0) k) M r)) 64 (fun k hk => by
    have c0 : ¬ (64 : Int32) ≤ Int32.ofNat k := am_lit 64 k hk (by decide)
    have hIk : am_I (Int32.ofNat k) 64 := am_Ik hk (by decide)
    have hJk := am_tcn (show k ≤ 100000 by omega)
    have ik := inv k (by omega)
    show am_exec 40 8 _ _ _ = am_exec 40 8 [.ref 34, .ref (A 1 c), .long p, am_U, .int (Int32.ofNat (k + 1)), am_U, am_U] [] (aw_H K A G (as_oq G c p k (am_it (as_oq G c p) (am_up Q 4 0 0) k)) M r)
    generalize am_it (as_oq G c p) (am_up Q 4 0 0) k = Y at *
    have m2 := mc2 (K := K) (A := A) (G := G) (Q := Y) (M := M) (r := r) hIk
    rw [hJk] at m2
    rw [am_e40_8, if_neg c0]
    unfold as_oq
    by_cases h1 : am_dist (Int32.ofNat k) (G 9 c) ≤ 2
    · by_cases h2 : (p >>> ((Int32.ofNat k).toInt64 &&& 63)) &&& 1 = 0
      · by_cases h3 : G 4 k = G 8 c
        · have h : as_op G c k p := ⟨h1, h2, h3⟩
          have h4 := am_cnt_add (p := fun t => as_op G c t p) (k := k + 1) (63 - k)
          rw [show k + 1 + (63 - k) = 64 by omega] at h4
          have h5 : am_cnt (fun t => as_op G c t p) (k + 1) = am_cnt (fun t => as_op G c t p) k + 1 := by
            show _ + (if as_op G c k p then 1 else 0) = _
            rw [if_pos h]
          have hlt : am_cnt (fun t => as_op G c t p) k < 24 := by omega
          have hIj : am_I (Int32.ofNat (am_cnt (fun t => as_op G c t p) k)) 24 := am_Ik hlt (by decide)
          have hJj := am_tcn (show am_cnt (fun t => as_op G c t p) k ≤ 100000 by omega)
          have m148 := mc148_35 (K := K) (A := A) (G := G) (Q := Y) (M := M) (r := r) (v := Int32.ofNat k) hIj
          rw [hJj] at m148
          rw [if_pos h, ik, hJj]
          simp only [am_e40_0, am_e40_5, am_e40_114, am_e40_15, am_e40_21, am_e40_24, am_e40_32, am_e40_28, am_e40_50, am_e40_46, am_e40_108, am_e40_58, am_e40_63, am_e40_67, am_e40_70, am_e40_75, am_e40_79, am_e40_82, am_e40_85, am_e40_89, am_e40_93, am_e40_98, am_e40_103, aw_gU0, aw_pU0, aw_gU1, aw_gU2, aw_pU2, aw_gU3, aw_pU3, aw_gU4, aw_pU4, aw_gU5, aw_pU5, aw_gU6, aw_pU6, aw_gU7, aw_pU7, aw_gC1, aw_gC2, aw_pC2, aw_gC3, aw_pC3, aw_gC4, aw_pC4, aw_gC5, aw_pC5, aw_gC6, aw_pC6, aw_gC7, aw_pC7, aw_gC9, aw_pC9, aw_gC0, aw_gC8, aw_gC10, aw_pC10, aw_gC11, aw_pC11, aw_gC12, aw_pC12, aw_gC13, aw_pC13, aw_gC14, aw_pC14, aw_gC15, aw_pC15, aw_gC16, aw_pC16, aw_gT0, aw_gT1, aw_gT2, aw_gT3, aw_gT4, aw_pT4, aw_gT5, aw_pT5, aw_gT6, aw_pT6, aw_gO0, aw_gO1, aw_gO2, aw_gO3, aw_gO4, aw_gO5, aw_gO6, aw_gP1, aw_pP1, aw_gP2, aw_pP2, aw_gP3, aw_pP3, aw_gP4, aw_pP4, aw_gP5, aw_pP5, aw_gP6, aw_pP6, aw_gP0, aw_gP7, aw_isU, aw_isC, aw_isT, aw_isO, aw_isP, aw_isF12, aw_gF12_0, aw_gF12_1, aw_gF12_2, aw_gF12_3, aw_gF12_4, aw_isF13, aw_gF13_0, aw_gF13_1, aw_gF13_2, aw_gF13_3, aw_gF13_4, aw_gF13_5, aw_gF13_6, aw_gF13_7, aw_isF14, aw_gF14_0, aw_gF14_1, aw_gF14_2, aw_isF18, aw_gF18_0, aw_gF18_1, aw_isF19, aw_gF19_0, aw_gF19_1, aw_gF19_2, aw_isF21, aw_gF21_0, aw_gF21_1, aw_gF21_2, aw_isF22, aw_gF22_0, aw_gF22_1, aw_gF22_2, aw_isF23, aw_gF23_0, aw_gF23_1, aw_gF23_2, aw_isF34, aw_gF34_0, aw_gF34_1, aw_gF34_2, aw_gF34_3, aw_gF34_4, aw_gF34_5, aw_isF38, aw_gF38_0, aw_isF39, aw_gF39_0, aw_pF12_4, aw_pF13_6, aw_pF13_7, aw_pF34_4, aw_pF34_5, am_bk, am_pu1, am_pu0, Option.bind_some, eq_self, am_nli, am_nlr, am_nln, am_nlu, if_true, if_false, not_true_eq_false, not_false_eq_true, am_10, am_01, am_up_eq, am_up_ne, am_upd_eq, Nat.reduceEqDiff, mc149, hW.V, hK, ho, ho.no, am_lc, h1, h2, h3, am_nle, m2, ik, m148, am_succ]
        · rw [if_neg (fun q => h3 q.2.2)]
          simp only [am_e40_0, am_e40_5, am_e40_114, am_e40_15, am_e40_21, am_e40_24, am_e40_32, am_e40_28, am_e40_50, am_e40_46, am_e40_108, am_e40_58, am_e40_63, am_e40_67, am_e40_70, am_e40_75, am_e40_79, am_e40_82, am_e40_85, am_e40_89, am_e40_93, am_e40_98, am_e40_103, aw_gU0, aw_pU0, aw_gU1, aw_gU2, aw_pU2, aw_gU3, aw_pU3, aw_gU4, aw_pU4, aw_gU5, aw_pU5, aw_gU6, aw_pU6, aw_gU7, aw_pU7, aw_gC1, aw_gC2, aw_pC2, aw_gC3, aw_pC3, aw_gC4, aw_pC4, aw_gC5, aw_pC5, aw_gC6, aw_pC6, aw_gC7, aw_pC7, aw_gC9, aw_pC9, aw_gC0, aw_gC8, aw_gC10, aw_pC10, aw_gC11, aw_pC11, aw_gC12, aw_pC12, aw_gC13, aw_pC13, aw_gC14, aw_pC14, aw_gC15, aw_pC15, aw_gC16, aw_pC16, aw_gT0, aw_gT1, aw_gT2, aw_gT3, aw_gT4, aw_pT4, aw_gT5, aw_pT5, aw_gT6, aw_pT6, aw_gO0, aw_gO1, aw_gO2, aw_gO3, aw_gO4, aw_gO5, aw_gO6, aw_gP1, aw_pP1, aw_gP2, aw_pP2, aw_gP3, aw_pP3, aw_gP4, aw_pP4, aw_gP5, aw_pP5, aw_gP6, aw_pP6, aw_gP0, aw_gP7, aw_isU, aw_isC, aw_isT, aw_isO, aw_isP, aw_isF12, aw_gF12_0, aw_gF12_1, aw_gF12_2, aw_gF12_3, aw_gF12_4, aw_isF13, aw_gF13_0, aw_gF13_1, aw_gF13_2, aw_gF13_3, aw_gF13_4, aw_gF13_5, aw_gF13_6, aw_gF13_7, aw_isF14, aw_gF14_0, aw_gF14_1, aw_gF14_2, aw_isF18, aw_gF18_0, aw_gF18_1, aw_isF19, aw_gF19_0, aw_gF19_1, aw_gF19_2, aw_isF21, aw_gF21_0, aw_gF21_1, aw_gF21_2, aw_isF22, aw_gF22_0, aw_gF22_1, aw_gF22_2, aw_isF23, aw_gF23_0, aw_gF23_1, aw_gF23_2, aw_isF34, aw_gF34_0, aw_gF34_1, aw_gF34_2, aw_gF34_3, aw_gF34_4, aw_gF34_5, aw_isF38, aw_gF38_0, aw_isF39, aw_gF39_0, aw_pF12_4, aw_pF13_6, aw_pF13_7, aw_pF34_4, aw_pF34_5, am_bk, am_pu1, am_pu0, Option.bind_some, eq_self, am_nli, am_nlr, am_nln, am_nlu, if_true, if_false, not_true_eq_false, not_false_eq_true, am_10, am_01, mc149, hW.V, hK, ho, ho.no, am_lc, h1, h2, h3, am_nle, m2, am_succ]
      · rw [if_neg (fun q => h2 q.2.1)]
        simp only [am_e40_0, am_e40_5, am_e40_114, am_e40_15, am_e40_21, am_e40_24, am_e40_32, am_e40_28, am_e40_50, am_e40_46, am_e40_108, am_e40_58, am_e40_63, am_e40_67, am_e40_70, am_e40_75, am_e40_79, am_e40_82, am_e40_85, am_e40_89, am_e40_93, am_e40_98, am_e40_103, aw_gU0, aw_pU0, aw_gU1, aw_gU2, aw_pU2, aw_gU3, aw_pU3, aw_gU4, aw_pU4, aw_gU5, aw_pU5, aw_gU6, aw_pU6, aw_gU7, aw_pU7, aw_gC1, aw_gC2, aw_pC2, aw_gC3, aw_pC3, aw_gC4, aw_pC4, aw_gC5, aw_pC5, aw_gC6, aw_pC6, aw_gC7, aw_pC7, aw_gC9, aw_pC9, aw_gC0, aw_gC8, aw_gC10, aw_pC10, aw_gC11, aw_pC11, aw_gC12, aw_pC12, aw_gC13, aw_pC13, aw_gC14, aw_pC14, aw_gC15, aw_pC15, aw_gC16, aw_pC16, aw_gT0, aw_gT1, aw_gT2, aw_gT3, aw_gT4, aw_pT4, aw_gT5, aw_pT5, aw_gT6, aw_pT6, aw_gO0, aw_gO1, aw_gO2, aw_gO3, aw_gO4, aw_gO5, aw_gO6, aw_gP1, aw_pP1, aw_gP2, aw_pP2, aw_gP3, aw_pP3, aw_gP4, aw_pP4, aw_gP5, aw_pP5, aw_gP6, aw_pP6, aw_gP0, aw_gP7, aw_isU, aw_isC, aw_isT, aw_isO, aw_isP, aw_isF12, aw_gF12_0, aw_gF12_1, aw_gF12_2, aw_gF12_3, aw_gF12_4, aw_isF13, aw_gF13_0, aw_gF13_1, aw_gF13_2, aw_gF13_3, aw_gF13_4, aw_gF13_5, aw_gF13_6, aw_gF13_7, aw_isF14, aw_gF14_0, aw_gF14_1, aw_gF14_2, aw_isF18, aw_gF18_0, aw_gF18_1, aw_isF19, aw_gF19_0, aw_gF19_1, aw_gF19_2, aw_isF21, aw_gF21_0, aw_gF21_1, aw_gF21_2, aw_isF22, aw_gF22_0, aw_gF22_1, aw_gF22_2, aw_isF23, aw_gF23_0, aw_gF23_1, aw_gF23_2, aw_isF34, aw_gF34_0, aw_gF34_1, aw_gF34_2, aw_gF34_3, aw_gF34_4, aw_gF34_5, aw_isF38, aw_gF38_0, aw_isF39, aw_gF39_0, aw_pF12_4, aw_pF13_6, aw_pF13_7, aw_pF34_4, aw_pF34_5, am_bk, am_pu1, am_pu0, Option.bind_some, eq_self, am_nli, am_nlr, am_nln, am_nlu, if_true, if_false, not_true_eq_false, not_false_eq_true, am_10, am_01, mc149, hW.V, hK, am_lc, h1, h2, am_nle, am_succ]
    · rw [if_neg (fun q => h1 q.1)]
      by_cases h2 : (p >>> ((Int32.ofNat k).toInt64 &&& 63)) &&& 1 = 0 <;> simp only [am_e40_0, am_e40_5, am_e40_114, am_e40_15, am_e40_21, am_e40_24, am_e40_32, am_e40_28, am_e40_50, am_e40_46, am_e40_108, am_e40_58, am_e40_63, am_e40_67, am_e40_70, am_e40_75, am_e40_79, am_e40_82, am_e40_85, am_e40_89, am_e40_93, am_e40_98, am_e40_103, aw_gU0, aw_pU0, aw_gU1, aw_gU2, aw_pU2, aw_gU3, aw_pU3, aw_gU4, aw_pU4, aw_gU5, aw_pU5, aw_gU6, aw_pU6, aw_gU7, aw_pU7, aw_gC1, aw_gC2, aw_pC2, aw_gC3, aw_pC3, aw_gC4, aw_pC4, aw_gC5, aw_pC5, aw_gC6, aw_pC6, aw_gC7, aw_pC7, aw_gC9, aw_pC9, aw_gC0, aw_gC8, aw_gC10, aw_pC10, aw_gC11, aw_pC11, aw_gC12, aw_pC12, aw_gC13, aw_pC13, aw_gC14, aw_pC14, aw_gC15, aw_pC15, aw_gC16, aw_pC16, aw_gT0, aw_gT1, aw_gT2, aw_gT3, aw_gT4, aw_pT4, aw_gT5, aw_pT5, aw_gT6, aw_pT6, aw_gO0, aw_gO1, aw_gO2, aw_gO3, aw_gO4, aw_gO5, aw_gO6, aw_gP1, aw_pP1, aw_gP2, aw_pP2, aw_gP3, aw_pP3, aw_gP4, aw_pP4, aw_gP5, aw_pP5, aw_gP6, aw_pP6, aw_gP0, aw_gP7, aw_isU, aw_isC, aw_isT, aw_isO, aw_isP, aw_isF12, aw_gF12_0, aw_gF12_1, aw_gF12_2, aw_gF12_3, aw_gF12_4, aw_isF13, aw_gF13_0, aw_gF13_1, aw_gF13_2, aw_gF13_3, aw_gF13_4, aw_gF13_5, aw_gF13_6, aw_gF13_7, aw_isF14, aw_gF14_0, aw_gF14_1, aw_gF14_2, aw_isF18, aw_gF18_0, aw_gF18_1, aw_isF19, aw_gF19_0, aw_gF19_1, aw_gF19_2, aw_isF21, aw_gF21_0, aw_gF21_1, aw_gF21_2, aw_isF22, aw_gF22_0, aw_gF22_1, aw_gF22_2, aw_isF23, aw_gF23_0, aw_gF23_1, aw_gF23_2, aw_isF34, aw_gF34_0, aw_gF34_1, aw_gF34_2, aw_gF34_3, aw_gF34_4, aw_gF34_5, aw_isF38, aw_gF38_0, aw_isF39, aw_gF39_0, aw_pF12_4, aw_pF13_6, aw_pF13_7, aw_pF34_4, aw_pF34_5, am_bk, am_pu1, am_pu0, Option.bind_some, eq_self, am_nli, am_nlr, am_nln, am_nlu, if_true, if_false, not_true_eq_false, not_false_eq_true, am_10, am_01, mc149, hW.V, hK, am_lc, h1, h2, am_nle, am_succ])
  simp only [am_e40_0, am_e40_5, aw_gU0, aw_pU0, aw_gU1, aw_gU2, aw_pU2, aw_gU3, aw_pU3, aw_gU4, aw_pU4, aw_gU5, aw_pU5, aw_gU6, aw_pU6, aw_gU7, aw_pU7, aw_gC1, aw_gC2, aw_pC2, aw_gC3, aw_pC3, aw_gC4, aw_pC4, aw_gC5, aw_pC5, aw_gC6, aw_pC6, aw_gC7, aw_pC7, aw_gC9, aw_pC9, aw_gC0, aw_gC8, aw_gC10, aw_pC10, aw_gC11, aw_pC11, aw_gC12, aw_pC12, aw_gC13, aw_pC13, aw_gC14, aw_pC14, aw_gC15, aw_pC15, aw_gC16, aw_pC16, aw_gT0, aw_gT1, aw_gT2, aw_gT3, aw_gT4, aw_pT4, aw_gT5, aw_pT5, aw_gT6, aw_pT6, aw_gO0, aw_gO1, aw_gO2, aw_gO3, aw_gO4, aw_gO5, aw_gO6, aw_gP1, aw_pP1, aw_gP2, aw_pP2, aw_gP3, aw_pP3, aw_gP4, aw_pP4, aw_gP5, aw_pP5, aw_gP6, aw_pP6, aw_gP0, aw_gP7, aw_isU, aw_isC, aw_isT, aw_isO, aw_isP, aw_isF12, aw_gF12_0, aw_gF12_1, aw_gF12_2, aw_gF12_3, aw_gF12_4, aw_isF13, aw_gF13_0, aw_gF13_1, aw_gF13_2, aw_gF13_3, aw_gF13_4, aw_gF13_5, aw_gF13_6, aw_gF13_7, aw_isF14, aw_gF14_0, aw_gF14_1, aw_gF14_2, aw_isF18, aw_gF18_0, aw_gF18_1, aw_isF19, aw_gF19_0, aw_gF19_1, aw_gF19_2, aw_isF21, aw_gF21_0, aw_gF21_1, aw_gF21_2, aw_isF22, aw_gF22_0, aw_gF22_1, aw_gF22_2, aw_isF23, aw_gF23_0, aw_gF23_1, aw_gF23_2, aw_isF34, aw_gF34_0, aw_gF34_1, aw_gF34_2, aw_gF34_3, aw_gF34_4, aw_gF34_5, aw_isF38, aw_gF38_0, aw_isF39, aw_gF39_0, aw_pF12_4, aw_pF13_6, aw_pF13_7, aw_pF34_4, aw_pF34_5, am_bk, am_pu1, am_pu0, Option.bind_some, eq_self, am_nli, am_nlr, am_nln, am_nlu, if_true, if_false, not_true_eq_false, not_false_eq_true, am_10, am_01]
  refine key.trans ?_
  show am_exec 40 8 _ _ _ = _
  rw [am_e40_8, if_pos (by decide), am_e40_114]
end
