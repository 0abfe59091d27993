/-! THE CLASS'S PLANNER: a tile is added to the table -/
def as_a1 (w fd : Nat) (v : Int64) (k f : Nat) (M : aw_M) : aw_M := if ¬ lg_cmp (M 1 ((k - 1) * w + (f - fd))) 0 < 0 ∧ ¬ lg_cmp (M 1 ((k - 1) * w + (f - fd)) + v) (M 1 (k * w + f)) ≤ 0 then aw_mu M 1 (k * w + f) (M 1 ((k - 1) * w + (f - fd)) + v) else M
def as_a2 (w fd : Nat) (v : Int64) (k : Nat) (M : aw_M) : aw_M := am_it (fun f M => as_a1 w fd v k f M) M w
def as_a3 (w fd : Nat) (v : Int64) (k : Nat) (M : aw_M) : aw_M := as_dn (fun j M => as_a2 w fd v (j + 1) M) k M
section
variable {K : aw_K} {A : aw_A} {G Q : am_G} {r : am_H} {n F T : Nat}
theorem mc46_11 {w fd k : Nat} (hw : w ≤ 97) (hfd : fd < 5) (hk : 1 ≤ k) (hk2 : k ≤ 24) (hQ : Q 4 1 = Int32.ofNat w) {v : Int64} {M : aw_M} : am_exec 46 11 [.ref 34, am_U, .int (Int32.ofNat fd), .long v, am_U, .int (Int32.ofNat k), .int 0, am_U, am_U, am_U] [] (aw_H K A G Q M r) = am_exec 46 93 [.ref 34, am_U, .int (Int32.ofNat fd), .long v, am_U, .int (Int32.ofNat k), .int (Int32.ofNat w), am_U, am_U, am_U] [] (aw_H K A G Q (as_a2 w fd v k M) r) := by
  have key := am_iter (fun f => am_exec 46 11 [.ref 34, am_U, .int (Int32.ofNat fd), .long v, am_U, .int (Int32.ofNat k), .int (Int32.ofNat f), am_U, am_U, am_U] [] (aw_H K A G Q (am_it (fun f M => as_a1 w fd v k f M) M f) r)) w (fun f hf => by
    have c0 : ¬ Int32.ofNat w ≤ Int32.ofNat f := am_lit _ _ hf (by omega)
    have hm1 : (k - 1) * w ≤ 23 * w := Nat.mul_le_mul_right w (by omega)
    have hm2 : k * w ≤ 24 * w := Nat.mul_le_mul_right w hk2
    have b1 : (k - 1) * w + (f - fd) < 2425 := by omega
    have b2 : k * w + f < 2425 := by omega
    have e1 : Int32.ofNat k - 1 = Int32.ofNat (k - 1) := (Int32.ofNat_sub k 1 (by omega)).symm
    have e2 : am_mx 0 (Int32.ofNat f - Int32.ofNat fd) = Int32.ofNat (f - fd) := by
      rw [am_mx_comm]
      exact am_mns f (by omega) fd hfd
    have e3 : Int32.ofNat (k - 1) * Int32.ofNat w + Int32.ofNat (f - fd) = Int32.ofNat ((k - 1) * w + (f - fd)) := by rw [← Int32.ofNat_mul, ← Int32.ofNat_add]
    have e4 : Int32.ofNat k * Int32.ofNat w + Int32.ofNat f = Int32.ofNat (k * w + f) := by rw [← Int32.ofNat_mul, ← Int32.ofNat_add]
    show am_exec 46 11 _ _ _ = am_exec 46 11 [.ref 34, am_U, .int (Int32.ofNat fd), .long v, am_U, .int (Int32.ofNat k), .int (Int32.ofNat (f + 1)), am_U, am_U, am_U] [] (aw_H K A G Q (as_a1 w fd v k f (am_it (fun f M => as_a1 w fd v k f M) M f)) r)
    generalize am_it (fun f M => as_a1 w fd v k f M) M f = N at *
    have m47a := mc47 (K := K) (A := A) (G := G) (Q := Q) (M := N) (r := r) b1
    have m47b := mc47 (K := K) (A := A) (G := G) (Q := Q) (M := N) (r := r) b2
    have m48 := mc48 (K := K) (A := A) (G := G) (Q := Q) (M := N) (r := r) (v := N 1 ((k - 1) * w + (f - fd)) + v) b2
    rw [am_e46_11]
    unfold as_a1
    by_cases h1 : lg_cmp (N 1 ((k - 1) * w + (f - fd))) 0 < 0
    · rw [if_neg (fun q => q.1 h1)]
      simp only [am_e46_0, am_e46_99, am_e46_8, am_e46_17, am_e46_93, am_e46_20, am_e46_29, am_e46_42, am_e46_50, am_e46_87, am_e46_63, am_e46_73, am_e46_77, aw_gU0, aw_pU0, aw_gU1, aw_gU2, aw_pU2, aw_gU3, aw_pU3, aw_gU4, aw_pU4, aw_gU5, aw_pU5, aw_gU6, aw_pU6, aw_gU7, aw_pU7, aw_gC1, aw_gC2, aw_pC2, aw_gC3, aw_pC3, aw_gC4, aw_pC4, aw_gC5, aw_pC5, aw_gC6, aw_pC6, aw_gC7, aw_pC7, aw_gC9, aw_pC9, aw_gC0, aw_gC8, aw_gC10, aw_pC10, aw_gC11, aw_pC11, aw_gC12, aw_pC12, aw_gC13, aw_pC13, aw_gC14, aw_pC14, aw_gC15, aw_pC15, aw_gC16, aw_pC16, aw_gT0, aw_gT1, aw_gT2, aw_gT3, aw_gT4, aw_pT4, aw_gT5, aw_pT5, aw_gT6, aw_pT6, aw_gO0, aw_gO1, aw_gO2, aw_gO3, aw_gO4, aw_gO5, aw_gO6, aw_gP1, aw_pP1, aw_gP2, aw_pP2, aw_gP3, aw_pP3, aw_gP4, aw_pP4, aw_gP5, aw_pP5, aw_gP6, aw_pP6, aw_gP0, aw_gP7, aw_isU, aw_isC, aw_isT, aw_isO, aw_isP, aw_isF12, aw_gF12_0, aw_gF12_1, aw_gF12_2, aw_gF12_3, aw_gF12_4, aw_isF13, aw_gF13_0, aw_gF13_1, aw_gF13_2, aw_gF13_3, aw_gF13_4, aw_gF13_5, aw_gF13_6, aw_gF13_7, aw_isF14, aw_gF14_0, aw_gF14_1, aw_gF14_2, aw_isF18, aw_gF18_0, aw_gF18_1, aw_isF19, aw_gF19_0, aw_gF19_1, aw_gF19_2, aw_isF21, aw_gF21_0, aw_gF21_1, aw_gF21_2, aw_isF22, aw_gF22_0, aw_gF22_1, aw_gF22_2, aw_isF23, aw_gF23_0, aw_gF23_1, aw_gF23_2, aw_isF34, aw_gF34_0, aw_gF34_1, aw_gF34_2, aw_gF34_3, aw_gF34_4, aw_gF34_5, aw_isF38, aw_gF38_0, aw_isF39, aw_gF39_0, aw_pF12_4, aw_pF13_6, aw_pF13_7, aw_pF34_4, aw_pF34_5, am_bk, am_pu1, am_pu0, Option.bind_some, eq_self, am_nli, am_nlr, am_nln, am_nlu, if_true, if_false, not_true_eq_false, not_false_eq_true, am_10, am_01, hQ, c0, e1, e2, e3, e4, m47a, h1, am_succ]
    · by_cases h2 : lg_cmp (N 1 ((k - 1) * w + (f - fd)) + v) (N 1 (k * w + f)) ≤ 0
      · rw [if_neg (fun q => q.2 h2)]
        simp only [am_e46_0, am_e46_99, am_e46_8, am_e46_17, am_e46_93, am_e46_20, am_e46_29, am_e46_42, am_e46_50, am_e46_87, am_e46_63, am_e46_73, am_e46_77, aw_gU0, aw_pU0, aw_gU1, aw_gU2, aw_pU2, aw_gU3, aw_pU3, aw_gU4, aw_pU4, aw_gU5, aw_pU5, aw_gU6, aw_pU6, aw_gU7, aw_pU7, aw_gC1, aw_gC2, aw_pC2, aw_gC3, aw_pC3, aw_gC4, aw_pC4, aw_gC5, aw_pC5, aw_gC6, aw_pC6, aw_gC7, aw_pC7, aw_gC9, aw_pC9, aw_gC0, aw_gC8, aw_gC10, aw_pC10, aw_gC11, aw_pC11, aw_gC12, aw_pC12, aw_gC13, aw_pC13, aw_gC14, aw_pC14, aw_gC15, aw_pC15, aw_gC16, aw_pC16, aw_gT0, aw_gT1, aw_gT2, aw_gT3, aw_gT4, aw_pT4, aw_gT5, aw_pT5, aw_gT6, aw_pT6, aw_gO0, aw_gO1, aw_gO2, aw_gO3, aw_gO4, aw_gO5, aw_gO6, aw_gP1, aw_pP1, aw_gP2, aw_pP2, aw_gP3, aw_pP3, aw_gP4, aw_pP4, aw_gP5, aw_pP5, aw_gP6, aw_pP6, aw_gP0, aw_gP7, aw_isU, aw_isC, aw_isT, aw_isO, aw_isP, aw_isF12, aw_gF12_0, aw_gF12_1, aw_gF12_2, aw_gF12_3, aw_gF12_4, aw_isF13, aw_gF13_0, aw_gF13_1, aw_gF13_2, aw_gF13_3, aw_gF13_4, aw_gF13_5, aw_gF13_6, aw_gF13_7, aw_isF14, aw_gF14_0, aw_gF14_1, aw_gF14_2, aw_isF18, aw_gF18_0, aw_gF18_1, aw_isF19, aw_gF19_0, aw_gF19_1, aw_gF19_2, aw_isF21, aw_gF21_0, aw_gF21_1, aw_gF21_2, aw_isF22, aw_gF22_0, aw_gF22_1, aw_gF22_2, aw_isF23, aw_gF23_0, aw_gF23_1, aw_gF23_2, aw_isF34, aw_gF34_0, aw_gF34_1, aw_gF34_2, aw_gF34_3, aw_gF34_4, aw_gF34_5, aw_isF38, aw_gF38_0, aw_isF39, aw_gF39_0, aw_pF12_4, aw_pF13_6, aw_pF13_7, aw_pF34_4, aw_pF34_5, am_bk, am_pu1, am_pu0, Option.bind_some, eq_self, am_nli, am_nlr, am_nln, am_nlu, if_true, if_false, not_true_eq_false, not_false_eq_true, am_10, am_01, hQ, c0, e1, e2, e3, e4, m47a, m47b, h1, h2, am_succ]
      · rw [if_pos ⟨h1, h2⟩]
        simp only [am_e46_0, am_e46_99, am_e46_8, am_e46_17, am_e46_93, am_e46_20, am_e46_29, am_e46_42, am_e46_50, am_e46_87, am_e46_63, am_e46_73, am_e46_77, aw_gU0, aw_pU0, aw_gU1, aw_gU2, aw_pU2, aw_gU3, aw_pU3, aw_gU4, aw_pU4, aw_gU5, aw_pU5, aw_gU6, aw_pU6, aw_gU7, aw_pU7, aw_gC1, aw_gC2, aw_pC2, aw_gC3, aw_pC3, aw_gC4, aw_pC4, aw_gC5, aw_pC5, aw_gC6, aw_pC6, aw_gC7, aw_pC7, aw_gC9, aw_pC9, aw_gC0, aw_gC8, aw_gC10, aw_pC10, aw_gC11, aw_pC11, aw_gC12, aw_pC12, aw_gC13, aw_pC13, aw_gC14, aw_pC14, aw_gC15, aw_pC15, aw_gC16, aw_pC16, aw_gT0, aw_gT1, aw_gT2, aw_gT3, aw_gT4, aw_pT4, aw_gT5, aw_pT5, aw_gT6, aw_pT6, aw_gO0, aw_gO1, aw_gO2, aw_gO3, aw_gO4, aw_gO5, aw_gO6, aw_gP1, aw_pP1, aw_gP2, aw_pP2, aw_gP3, aw_pP3, aw_gP4, aw_pP4, aw_gP5, aw_pP5, aw_gP6, aw_pP6, aw_gP0, aw_gP7, aw_isU, aw_isC, aw_isT, aw_isO, aw_isP, aw_isF12, aw_gF12_0, aw_gF12_1, aw_gF12_2, aw_gF12_3, aw_gF12_4, aw_isF13, aw_gF13_0, aw_gF13_1, aw_gF13_2, aw_gF13_3, aw_gF13_4, aw_gF13_5, aw_gF13_6, aw_gF13_7, aw_isF14, aw_gF14_0, aw_gF14_1, aw_gF14_2, aw_isF18, aw_gF18_0, aw_gF18_1, aw_isF19, aw_gF19_0, aw_gF19_1, aw_gF19_2, aw_isF21, aw_gF21_0, aw_gF21_1, aw_gF21_2, aw_isF22, aw_gF22_0, aw_gF22_1, aw_gF22_2, aw_isF23, aw_gF23_0, aw_gF23_1, aw_gF23_2, aw_isF34, aw_gF34_0, aw_gF34_1, aw_gF34_2, aw_gF34_3, aw_gF34_4, aw_gF34_5, aw_isF38, aw_gF38_0, aw_isF39, aw_gF39_0, aw_pF12_4, aw_pF13_6, aw_pF13_7, aw_pF34_4, aw_pF34_5, am_bk, am_pu1, am_pu0, Option.bind_some, eq_self, am_nli, am_nlr, am_nln, am_nlu, if_true, if_false, not_true_eq_false, not_false_eq_true, am_10, am_01, hQ, c0, e1, e2, e3, e4, m47a, m47b, m48, h1, h2, am_succ])
  refine key.trans ?_
  show am_exec 46 11 _ _ _ = _
  rw [am_e46_11]
  simp only [am_e46_0, am_e46_99, am_e46_8, am_e46_17, am_e46_20, am_e46_29, am_e46_42, am_e46_50, am_e46_87, am_e46_63, am_e46_73, am_e46_77, aw_gU0, aw_pU0, aw_gU1, aw_gU2, aw_pU2, aw_gU3, aw_pU3, aw_gU4, aw_pU4, aw_gU5, aw_pU5, aw_gU6, aw_pU6, aw_gU7, aw_pU7, aw_gC1, aw_gC2, aw_pC2, aw_gC3, aw_pC3, aw_gC4, aw_pC4, aw_gC5, aw_pC5, aw_gC6, aw_pC6, aw_gC7, aw_pC7, aw_gC9, aw_pC9, aw_gC0, aw_gC8, aw_gC10, aw_pC10, aw_gC11, aw_pC11, aw_gC12, aw_pC12, aw_gC13, aw_pC13, aw_gC14, aw_pC14, aw_gC15, aw_pC15, aw_gC16, aw_pC16, aw_gT0, aw_gT1, aw_gT2, aw_gT3, aw_gT4, aw_pT4, aw_gT5, aw_pT5, aw_gT6, aw_pT6, aw_gO0, aw_gO1, aw_gO2, aw_gO3, aw_gO4, aw_gO5, aw_gO6, aw_gP1, aw_pP1, aw_gP2, aw_pP2, aw_gP3, aw_pP3, aw_gP4, aw_pP4, aw_gP5, aw_pP5, aw_gP6, aw_pP6, aw_gP0, aw_gP7, aw_isU, aw_isC, aw_isT, aw_isO, aw_isP, aw_isF12, aw_gF12_0, aw_gF12_1, aw_gF12_2, aw_gF12_3, aw_gF12_4, aw_isF13, aw_gF13_0, aw_gF13_1, aw_gF13_2, aw_gF13_3, aw_gF13_4, aw_gF13_5, aw_gF13_6, aw_gF13_7, aw_isF14, aw_gF14_0, aw_gF14_1, aw_gF14_2, aw_isF18, aw_gF18_0, aw_gF18_1, aw_isF19, aw_gF19_0, aw_gF19_1, aw_gF19_2, aw_isF21, aw_gF21_0, aw_gF21_1, aw_gF21_2, aw_isF22, aw_gF22_0, aw_gF22_1, aw_gF22_2, aw_isF23, aw_gF23_0, aw_gF23_1, aw_gF23_2, aw_isF34, aw_gF34_0, aw_gF34_1, aw_gF34_2, aw_gF34_3, aw_gF34_4, aw_gF34_5, aw_isF38, aw_gF38_0, aw_isF39, aw_gF39_0, aw_pF12_4, aw_pF13_6, aw_pF13_7, aw_pF34_4, aw_pF34_5, am_bk, am_pu1, am_pu0, Option.bind_some, eq_self, am_nli, am_nlr, am_nln, am_nlu, if_true, if_false, not_true_eq_false, not_false_eq_true, am_10, am_01, hQ, Int32.le_refl]
  rfl
theorem mc46_3 {w fd : Nat} (hw : w ≤ 97) (hfd : fd < 5) (hQ : Q 4 1 = Int32.ofNat w) {v : Int64} : ∀ (k : Nat) (M : aw_M), k ≤ 24 → am_exec 46 3 [.ref 34, am_U, .int (Int32.ofNat fd), .long v, am_U, .int (Int32.ofNat k), am_U, am_U, am_U, am_U] [] (aw_H K A G Q M r) = some (.inl none, aw_H K A G Q (as_a3 w fd v k M) r)
  | 0, M, _ => by
    rw [am_e46_3, if_pos (by decide), am_e46_99]
    rfl
  | k + 1, M, hk => by
    have ih := mc46_3 hw hfd hQ (v := v) k (as_a2 w fd v (k + 1) M) (by omega)
    have m11 := mc46_11 (K := K) (A := A) (G := G) (r := r) hw hfd (show 1 ≤ k + 1 by omega) hk hQ (v := v) (M := M)
    have c : ¬ Int32.ofNat (k + 1) ≤ 0 := fun q => by
      have := (am_le_nat (b := 0) (show k + 1 ≤ 100000 by omega) (by omega)).mp q
      omega
    rw [am_e46_3, if_neg c]
    simp only [am_e46_8, am_bk, am_pu1, am_pu0, Option.bind_some, eq_self, am_nli, am_nlr, am_nln, am_nlu, if_true, if_false, not_true_eq_false, not_false_eq_true, am_10, am_01, m11]
    simp only [am_e46_93, am_bk, am_pu1, am_pu0, Option.bind_some, eq_self, am_nli, am_nlr, am_nln, am_nlu, if_true, if_false, not_true_eq_false, not_false_eq_true, am_10, am_01, am_m1, am_pre]
    exact ih
theorem mc46 {w fd : Nat} (hw : w ≤ 97) (hfd : fd < 5) (hQ : Q 4 1 = Int32.ofNat w) {v : Int64} {k : Nat} {M : aw_M} (hk : k ≤ 24) : am_exec 46 0 [.ref 34, .int (Int32.ofNat k), .int (Int32.ofNat fd), .long v, am_U, am_U, am_U, am_U, am_U, am_U] [] (aw_H K A G Q M r) = some (.inl none, aw_H K A G Q (as_a3 w fd v k M) r) := by
  have h := mc46_3 (K := K) (A := A) (G := G) (r := r) hw hfd hQ (v := v) k M hk
  simp only [am_e46_0, am_bk, am_pu1, am_pu0, Option.bind_some, eq_self, am_nli, am_nlr, am_nln, am_nlu, if_true, if_false, not_true_eq_false, not_false_eq_true, am_10, am_01]
  exact h
end
