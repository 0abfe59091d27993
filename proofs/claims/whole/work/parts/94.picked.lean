/-! THE CLASS'S PLANNER: the picked tiles -/
/-- the tiles of the picked places -/
def as_pk (Q : am_G) : Nat → Int64
  | 0 => 0
  | j + 1 => as_pk Q j ||| (1 <<< ((Q 5 (Q 6 j).toNatClampNeg).toInt64 &&& 63))
section
variable {K : aw_K} {A : aw_A} {G Q : am_G} {M : aw_M} {r : am_H} {n F T : Nat}
theorem mc51 (hV : aw_V K) (hSr : aw_S r) (hl : ∀ t, t < 64 → am_I (G 2 t) 6) {k : Nat} (hk3 : k ≤ 3) (hP : ∀ j, j < k → am_I (Q 6 j) 24 ∧ am_I (Q 5 (Q 6 j).toNatClampNeg) 64) : am_exec 51 0 [.ref 34, .int (Int32.ofNat k), am_U, am_U] [] (aw_H K A G Q M r) = some (.inl (some (.int (am_sum (fun j => as_fo G (Q 5 (Q 6 j).toNatClampNeg).toNatClampNeg) 0 k))), aw_H K A G Q M r) := by
  have key := am_iter (fun j => am_exec 51 4 [.ref 34, .int (Int32.ofNat k), .int (am_sum (fun j => as_fo G (Q 5 (Q 6 j).toNatClampNeg).toNatClampNeg) 0 j), .int (Int32.ofNat j)] [] (aw_H K A G Q M r)) k (fun j hj => by
    have c0 : ¬ Int32.ofNat k ≤ Int32.ofNat j := am_lit _ _ hj (by omega)
    have hI : am_I (Int32.ofNat j) 3 := am_Ik (by omega) (by decide)
    have hJ := am_tcn (show j ≤ 100000 by omega)
    obtain ⟨p1, p2⟩ := hP j hj
    have m36 := mc147_36 (K := K) (A := A) (G := G) (Q := Q) (M := M) (r := r) hI
    rw [hJ] at m36
    have m35 := mc147_35 (K := K) (A := A) (G := G) (Q := Q) (M := M) (r := r) p1
    have m4 := mc4 (K := K) (A := A) (G := G) (Q := Q) (M := M) (r := r) hV hSr p2 (hl _ p2.2)
    show am_exec 51 4 _ _ _ = _
    rw [am_e51_4, am_sum]
    unfold as_fo
    simp only [am_e51_0, am_e51_43, am_e51_9, am_e51_14, am_e51_17, am_e51_21, am_e51_25, am_e51_29, am_e51_32, am_e51_35, aw_gU0, aw_pU0, aw_gU1, aw_gU2, aw_pU2, aw_gU3, aw_pU3, aw_gU4, aw_pU4, aw_gU5, aw_pU5, aw_gU6, aw_pU6, aw_gU7, aw_pU7, aw_gC1, aw_gC2, aw_pC2, aw_gC3, aw_pC3, aw_gC4, aw_pC4, aw_gC5, aw_pC5, aw_gC6, aw_pC6, aw_gC7, aw_pC7, aw_gC9, aw_pC9, aw_gC0, aw_gC8, aw_gC10, aw_pC10, aw_gC11, aw_pC11, aw_gC12, aw_pC12, aw_gC13, aw_pC13, aw_gC14, aw_pC14, aw_gC15, aw_pC15, aw_gC16, aw_pC16, aw_gT0, aw_gT1, aw_gT2, aw_gT3, aw_gT4, aw_pT4, aw_gT5, aw_pT5, aw_gT6, aw_pT6, aw_gO0, aw_gO1, aw_gO2, aw_gO3, aw_gO4, aw_gO5, aw_gO6, aw_gP1, aw_pP1, aw_gP2, aw_pP2, aw_gP3, aw_pP3, aw_gP4, aw_pP4, aw_gP5, aw_pP5, aw_gP6, aw_pP6, aw_gP0, aw_gP7, aw_isU, aw_isC, aw_isT, aw_isO, aw_isP, aw_isF12, aw_gF12_0, aw_gF12_1, aw_gF12_2, aw_gF12_3, aw_gF12_4, aw_isF13, aw_gF13_0, aw_gF13_1, aw_gF13_2, aw_gF13_3, aw_gF13_4, aw_gF13_5, aw_gF13_6, aw_gF13_7, aw_isF14, aw_gF14_0, aw_gF14_1, aw_gF14_2, aw_isF18, aw_gF18_0, aw_gF18_1, aw_isF19, aw_gF19_0, aw_gF19_1, aw_gF19_2, aw_isF21, aw_gF21_0, aw_gF21_1, aw_gF21_2, aw_isF22, aw_gF22_0, aw_gF22_1, aw_gF22_2, aw_isF23, aw_gF23_0, aw_gF23_1, aw_gF23_2, aw_isF34, aw_gF34_0, aw_gF34_1, aw_gF34_2, aw_gF34_3, aw_gF34_4, aw_gF34_5, aw_isF38, aw_gF38_0, aw_isF39, aw_gF39_0, aw_pF12_4, aw_pF13_6, aw_pF13_7, aw_pF34_4, aw_pF34_5, am_bk, am_pu1, am_pu0, Option.bind_some, eq_self, am_nli, am_nlr, am_nln, am_nlu, if_true, if_false, not_true_eq_false, not_false_eq_true, am_10, am_01, hV, c0, m36, m35, m4, am_succ])
  simp only [am_e51_0, am_bk, am_pu1, am_pu0, Option.bind_some, eq_self, am_nli, am_nlr, am_nln, am_nlu, if_true, if_false, not_true_eq_false, not_false_eq_true, am_10, am_01]
  refine key.trans ?_
  show am_exec 51 4 _ _ _ = _
  rw [am_e51_4]
  simp only [am_e51_43, am_bk, am_pu1, am_pu0, Option.bind_some, eq_self, am_nli, am_nlr, am_nln, am_nlu, if_true, if_false, not_true_eq_false, not_false_eq_true, am_10, am_01, Int32.le_refl]
theorem mc52 (hW : aw_W K A G n F T) (hSr : aw_S r) (hl : ∀ t, t < 64 → am_I (G 2 t) 6) {c : Nat} (hc : c < F) {k : Nat} (hk3 : k ≤ 3) (hP : ∀ j, j < k → am_I (Q 6 j) 24 ∧ am_I (Q 5 (Q 6 j).toNatClampNeg) 64) : am_exec 52 0 [.ref 34, .ref (A 1 c), .int (Int32.ofNat k), am_U, am_U] [] (aw_H K A G Q M r) = some (.inl (some (.int (am_sum (fun j => as_wo G c (Q 5 (Q 6 j).toNatClampNeg).toNatClampNeg) 0 k))), aw_H K A G Q M r) := by
  have hV := hW.V
  have key := am_iter (fun j => am_exec 52 5 [.ref 34, .ref (A 1 c), .int (Int32.ofNat k), .int (am_sum (fun j => as_wo G c (Q 5 (Q 6 j).toNatClampNeg).toNatClampNeg) 0 j), .int (Int32.ofNat j)] [] (aw_H K A G Q M r)) k (fun j hj => by
    have c0 : ¬ Int32.ofNat k ≤ Int32.ofNat j := am_lit _ _ hj (by omega)
    have hI : am_I (Int32.ofNat j) 3 := am_Ik (by omega) (by decide)
    have hJ := am_tcn (show j ≤ 100000 by omega)
    obtain ⟨p1, p2⟩ := hP j hj
    have m36 := mc147_36 (K := K) (A := A) (G := G) (Q := Q) (M := M) (r := r) hI
    rw [hJ] at m36
    have m35 := mc147_35 (K := K) (A := A) (G := G) (Q := Q) (M := M) (r := r) p1
    obtain ⟨u, u1, u2⟩ := p2.cases
    have m42 := mc42 (A := A) (Q := Q) (M := M) (r := r) hW hSr hc u1 (hl u u1)
    have hJu := am_tcn (show u ≤ 100000 by omega)
    show am_exec 52 5 _ _ _ = _
    rw [am_e52_5, am_sum]
    rw [u2] at m35
    rw [u2, hJu]
    simp only [am_e52_0, am_e52_41, am_e52_11, am_e52_18, am_e52_22, am_e52_27, am_e52_30, am_e52_33, aw_gU0, aw_pU0, aw_gU1, aw_gU2, aw_pU2, aw_gU3, aw_pU3, aw_gU4, aw_pU4, aw_gU5, aw_pU5, aw_gU6, aw_pU6, aw_gU7, aw_pU7, aw_gC1, aw_gC2, aw_pC2, aw_gC3, aw_pC3, aw_gC4, aw_pC4, aw_gC5, aw_pC5, aw_gC6, aw_pC6, aw_gC7, aw_pC7, aw_gC9, aw_pC9, aw_gC0, aw_gC8, aw_gC10, aw_pC10, aw_gC11, aw_pC11, aw_gC12, aw_pC12, aw_gC13, aw_pC13, aw_gC14, aw_pC14, aw_gC15, aw_pC15, aw_gC16, aw_pC16, aw_gT0, aw_gT1, aw_gT2, aw_gT3, aw_gT4, aw_pT4, aw_gT5, aw_pT5, aw_gT6, aw_pT6, aw_gO0, aw_gO1, aw_gO2, aw_gO3, aw_gO4, aw_gO5, aw_gO6, aw_gP1, aw_pP1, aw_gP2, aw_pP2, aw_gP3, aw_pP3, aw_gP4, aw_pP4, aw_gP5, aw_pP5, aw_gP6, aw_pP6, aw_gP0, aw_gP7, aw_isU, aw_isC, aw_isT, aw_isO, aw_isP, aw_isF12, aw_gF12_0, aw_gF12_1, aw_gF12_2, aw_gF12_3, aw_gF12_4, aw_isF13, aw_gF13_0, aw_gF13_1, aw_gF13_2, aw_gF13_3, aw_gF13_4, aw_gF13_5, aw_gF13_6, aw_gF13_7, aw_isF14, aw_gF14_0, aw_gF14_1, aw_gF14_2, aw_isF18, aw_gF18_0, aw_gF18_1, aw_isF19, aw_gF19_0, aw_gF19_1, aw_gF19_2, aw_isF21, aw_gF21_0, aw_gF21_1, aw_gF21_2, aw_isF22, aw_gF22_0, aw_gF22_1, aw_gF22_2, aw_isF23, aw_gF23_0, aw_gF23_1, aw_gF23_2, aw_isF34, aw_gF34_0, aw_gF34_1, aw_gF34_2, aw_gF34_3, aw_gF34_4, aw_gF34_5, aw_isF38, aw_gF38_0, aw_isF39, aw_gF39_0, aw_pF12_4, aw_pF13_6, aw_pF13_7, aw_pF34_4, aw_pF34_5, am_bk, am_pu1, am_pu0, Option.bind_some, eq_self, am_nli, am_nlr, am_nln, am_nlu, if_true, if_false, not_true_eq_false, not_false_eq_true, am_10, am_01, hV, c0, m36, m35, m42, am_succ])
  simp only [am_e52_0, am_bk, am_pu1, am_pu0, Option.bind_some, eq_self, am_nli, am_nlr, am_nln, am_nlu, if_true, if_false, not_true_eq_false, not_false_eq_true, am_10, am_01]
  refine key.trans ?_
  show am_exec 52 5 _ _ _ = _
  rw [am_e52_5]
  simp only [am_e52_41, am_bk, am_pu1, am_pu0, Option.bind_some, eq_self, am_nli, am_nlr, am_nln, am_nlu, if_true, if_false, not_true_eq_false, not_false_eq_true, am_10, am_01, Int32.le_refl]
theorem mc53 (hV : aw_V K) {k : Nat} (hk3 : k ≤ 3) (hP : ∀ j, j < k → am_I (Q 6 j) 24) : am_exec 53 0 [.ref 34, .int (Int32.ofNat k), am_U, am_U, am_U] [] (aw_H K A G Q M r) = some (.inl (some (.long (as_pk Q k))), aw_H K A G Q M r) := by
  have key := am_iter (fun j => am_exec 53 5 [.ref 34, .int (Int32.ofNat k), .long (as_pk Q j), am_U, .int (Int32.ofNat j)] [] (aw_H K A G Q M r)) k (fun j hj => by
    have c0 : ¬ Int32.ofNat k ≤ Int32.ofNat j := am_lit _ _ hj (by omega)
    have hI : am_I (Int32.ofNat j) 3 := am_Ik (by omega) (by decide)
    have hJ := am_tcn (show j ≤ 100000 by omega)
    have p1 := hP j hj
    have m36 := mc147_36 (K := K) (A := A) (G := G) (Q := Q) (M := M) (r := r) hI
    rw [hJ] at m36
    have m35 := mc147_35 (K := K) (A := A) (G := G) (Q := Q) (M := M) (r := r) p1
    show am_exec 53 5 _ _ _ = _
    rw [am_e53_5, as_pk]
    simp only [am_e53_0, am_e53_38, am_e53_11, am_e53_17, am_e53_21, am_e53_26, am_e53_29, aw_gU0, aw_pU0, aw_gU1, aw_gU2, aw_pU2, aw_gU3, aw_pU3, aw_gU4, aw_pU4, aw_gU5, aw_pU5, aw_gU6, aw_pU6, aw_gU7, aw_pU7, aw_gC1, aw_gC2, aw_pC2, aw_gC3, aw_pC3, aw_gC4, aw_pC4, aw_gC5, aw_pC5, aw_gC6, aw_pC6, aw_gC7, aw_pC7, aw_gC9, aw_pC9, aw_gC0, aw_gC8, aw_gC10, aw_pC10, aw_gC11, aw_pC11, aw_gC12, aw_pC12, aw_gC13, aw_pC13, aw_gC14, aw_pC14, aw_gC15, aw_pC15, aw_gC16, aw_pC16, aw_gT0, aw_gT1, aw_gT2, aw_gT3, aw_gT4, aw_pT4, aw_gT5, aw_pT5, aw_gT6, aw_pT6, aw_gO0, aw_gO1, aw_gO2, aw_gO3, aw_gO4, aw_gO5, aw_gO6, aw_gP1, aw_pP1, aw_gP2, aw_pP2, aw_gP3, aw_pP3, aw_gP4, aw_pP4, aw_gP5, aw_pP5, aw_gP6, aw_pP6, aw_gP0, aw_gP7, aw_isU, aw_isC, aw_isT, aw_isO, aw_isP, aw_isF12, aw_gF12_0, aw_gF12_1, aw_gF12_2, aw_gF12_3, aw_gF12_4, aw_isF13, aw_gF13_0, aw_gF13_1, aw_gF13_2, aw_gF13_3, aw_gF13_4, aw_gF13_5, aw_gF13_6, aw_gF13_7, aw_isF14, aw_gF14_0, aw_gF14_1, aw_gF14_2, aw_isF18, aw_gF18_0, aw_gF18_1, aw_isF19, aw_gF19_0, aw_gF19_1, aw_gF19_2, aw_isF21, aw_gF21_0, aw_gF21_1, aw_gF21_2, aw_isF22, aw_gF22_0, aw_gF22_1, aw_gF22_2, aw_isF23, aw_gF23_0, aw_gF23_1, aw_gF23_2, aw_isF34, aw_gF34_0, aw_gF34_1, aw_gF34_2, aw_gF34_3, aw_gF34_4, aw_gF34_5, aw_isF38, aw_gF38_0, aw_isF39, aw_gF39_0, aw_pF12_4, aw_pF13_6, aw_pF13_7, aw_pF34_4, aw_pF34_5, am_bk, am_pu1, am_pu0, Option.bind_some, eq_self, am_nli, am_nlr, am_nln, am_nlu, if_true, if_false, not_true_eq_false, not_false_eq_true, am_10, am_01, hV, c0, m36, m35, am_succ])
  simp only [am_e53_0, am_bk, am_pu1, am_pu0, Option.bind_some, eq_self, am_nli, am_nlr, am_nln, am_nlu, if_true, if_false, not_true_eq_false, not_false_eq_true, am_10, am_01]
  refine key.trans ?_
  show am_exec 53 5 _ _ _ = _
  rw [am_e53_5]
  simp only [am_e53_38, am_bk, am_pu1, am_pu0, Option.bind_some, eq_self, am_nli, am_nlr, am_nln, am_nlu, if_true, if_false, not_true_eq_false, not_false_eq_true, am_10, am_01, Int32.le_refl]
end
