/-! THE CLASS'S PLANNER: the best plan -/
theorem as_mr_4 {g : Nat → Int32} {a i k : Nat} (ha : a ≤ 4) {s : Nat × Nat} (h : s.1 + 4 * s.2 ≤ 4 * k) : (as_mr g a i s).1 + 4 * (as_mr g a i s).2 ≤ 4 * k := by
  unfold as_mr
  split
  · next q =>
    show s.1 + a + 4 * (s.2 - 1) ≤ 4 * k
    have := q.1
    omega
  · exact h
theorem as_ml_4 {g : Nat → Int32} {a k : Nat} (ha : a ≤ 4) : ∀ (m i : Nat) (s : Nat × Nat), s.1 + 4 * s.2 ≤ 4 * k → (as_ml g a i m s).1 + 4 * (as_ml g a i m s).2 ≤ 4 * k
  | 0, _, _, h => h
  | m + 1, i, s, h => by
    have ih := as_ml_4 (g := g) (k := k) ha m (i + 1) (as_mr g a i s) (as_mr_4 ha h)
    unfold as_ml at ih ⊢
    rw [List.range'_succ, List.foldl_cons]
    exact ih
theorem as_mo_le {g : Nat → Int32} {S k : Nat} : (as_mo g S k).1 ≤ 4 * k := by
  have := as_ml_4 (g := g) (k := k) (a := 1) (by omega) S 0 _ (as_ml_4 (g := g) (k := k) (a := 2) (by omega) S 0 _ (as_ml_4 (g := g) (k := k) (a := 3) (by omega) S 0 _ (as_ml_4 (g := g) (k := k) (a := 4) (by omega) S 0 (0, k) (by show 0 + 4 * k ≤ 4 * k; omega))))
  unfold as_mo
  omega
theorem am_min {a b : Nat} (ha : a ≤ 100000) (hb : b ≤ 100000) : am_mi (Int32.ofNat a) (Int32.ofNat b) = Int32.ofNat (min a b) := by
  rw [am_mi_pd]
  unfold as_pd
  by_cases h : a < b
  · rw [if_pos ((am_lt_nat ha hb).mpr h), Nat.min_eq_left (by omega)]
  · rw [if_neg (fun q => h ((am_lt_nat ha hb).mp q)), Nat.min_eq_right (by omega)]
theorem am_mx0 {a : Nat} (ha : a ≤ 100000) : am_mx 0 (Int32.ofNat a) = Int32.ofNat a := by
  rw [am_mx_comm]
  unfold am_mx
  rw [if_neg (by rw [am_prelt ha]; exact id)]
theorem am_asked {a b f : Nat} (ha : a ≤ 100000) (hb : b < 5) (hf : f < 97) : am_mx 0 (am_mi (Int32.ofNat a - Int32.ofNat b) (Int32.ofNat f)) = Int32.ofNat (min (a - b) f) := by
  by_cases h : b ≤ a
  · rw [← Int32.ofNat_sub a b h, am_min (by omega) (by omega), am_mx0 (by omega)]
  · have : ∀ b, b < 5 → ∀ a, a < 5 → ∀ f, f < 97 → am_mx 0 (am_mi (Int32.ofNat a - Int32.ofNat b) (Int32.ofNat f)) = Int32.ofNat (min (a - b) f) := by decide +kernel
    exact this b hb a (by omega) f hf
def as_b0 (N : Nat) (M : aw_M) : aw_M := aw_mu (am_it (fun i M => aw_mu M 1 i (-1)) M N) 1 0 0
/-- the number of a tile: its worth above 24 bits, and its own bit -/
def as_vl (G : am_G) (c : Nat) (O : Nat → Int32) (i : Nat) : Int64 := ((as_wo G c (O i).toNatClampNeg).toInt64 <<< ((24 : Int32).toInt64 &&& 63)) + (1 <<< ((23 - Int32.ofNat i).toInt64 &&& 63))
def as_b1 (G : am_G) (c : Nat) (O : Nat → Int32) (w m S : Nat) (M : aw_M) : aw_M := am_it (fun i M => as_a3 w (as_fo G (O i).toNatClampNeg).toNatClampNeg (as_vl G c O i) m M) M S
/-- how much food is asked of the tiles -/
def as_sk (G : am_G) (c z : Nat) (O : Nat → Int32) (S : Nat) : Nat := min (as_nd G c z) (as_mo (fun i => as_fo G (O i).toNatClampNeg) S (min z S)).1
section
variable {K : aw_K} {A : aw_A} {G Q : am_G} {M : aw_M} {r : am_H} {n F T : Nat}
theorem mc45 (hW : aw_W K A G n F T) (hSr : aw_S r) (hl : ∀ t, t < 64 → am_I (G 2 t) 6) {c : Nat} (hc : c < F) (ht : am_I (G 9 c) 64) {z : Nat} (hz : G 10 c = Int32.ofNat z) (hz2 : z ≤ 1000) {S : Nat} (hS : S ≤ 24) (hQ : Q 4 0 = Int32.ofNat S) (hO : ∀ i, i < S → am_I (Q 5 i) 64) : am_exec 45 0 [.ref 34, .ref (A 1 c), am_U, am_U, am_U, am_U, am_U, am_U] [] (aw_H K A G Q M r) = some (.inl (some (.long (as_tl (Q 5) (as_b1 G c (Q 5) (as_sk G c z (Q 5) S + 1) (min z S) S (as_b0 ((min z S + 1) * (as_sk G c z (Q 5) S + 1)) M) 1 (min z S * (as_sk G c z (Q 5) S + 1) + as_sk G c z (Q 5) S)) S))), aw_H K A G (am_up Q 4 1 (Int32.ofNat (as_sk G c z (Q 5) S + 1))) (as_b1 G c (Q 5) (as_sk G c z (Q 5) S + 1) (min z S) S (as_b0 ((min z S + 1) * (as_sk G c z (Q 5) S + 1)) M)) r) := by
  have hV := hW.V
  have hK := hW.c hc
  obtain ⟨y, y1, y2⟩ := as_fd2 (l := G 2 (G 9 c).toNatClampNeg) (m := G 3 (G 9 c).toNatClampNeg)
  have hnd : as_nd G c z = 2 * z - y := by
    unfold as_nd
    rw [y2, am_tcn (by omega)]
  obtain ⟨m, hm⟩ : ∃ m, m = min z S := ⟨_, rfl⟩
  have hm24 : m ≤ 24 := by omega
  have hmo := as_mo_le (g := fun i => as_fo G (Q 5 i).toNatClampNeg) (S := S) (k := m)
  obtain ⟨g, hg⟩ : ∃ g, g = as_sk G c z (Q 5) S := ⟨_, rfl⟩
  have hg2 : g = min (2 * z - y) (as_mo (fun i => as_fo G (Q 5 i).toNatClampNeg) S m).1 := by rw [hg, hm, ← hnd]; rfl
  have hg96 : g ≤ 96 := by omega
  rw [← hg, ← hm]
  have m43 := mc43 (A := A) (Q := Q) (M := M) (r := r) hW hSr hc ht (hl _ ht.2)
  rw [y2, hz, show (2 : Int32) * Int32.ofNat z = Int32.ofNat (2 * z) by rw [show (2 : Int32) = Int32.ofNat 2 from rfl, ← Int32.ofNat_mul]] at m43
  have m44 := mc44 (A := A) (M := M) hV hSr hS hQ hO hl hm24
  have e1 : am_mi (Int32.ofNat z) (Int32.ofNat S) = Int32.ofNat m := by rw [am_min (by omega) (by omega), hm]
  have e2 := am_asked (a := 2 * z) (b := y) (f := (as_mo (fun i => as_fo G (Q 5 i).toNatClampNeg) S m).1) (by omega) y1 (by omega)
  rw [← hg2] at e2
  obtain ⟨Q1, hQ1⟩ : ∃ Q1, Q1 = am_up Q 4 1 (Int32.ofNat (g + 1)) := ⟨_, rfl⟩
  have q40 : Q1 4 0 = Int32.ofNat S := by rw [hQ1, am_up_eq, am_upd_ne (by decide)]; exact hQ
  have q41 : Q1 4 1 = Int32.ofNat (g + 1) := by rw [hQ1, am_up_eq, am_upd_eq]
  have q5 : Q1 5 = Q 5 := by rw [hQ1, am_up_ne (by decide)]
  rw [← hQ1]
  have top : am_exec 45 0 [.ref 34, .ref (A 1 c), am_U, am_U, am_U, am_U, am_U, am_U] [] (aw_H K A G Q M r) = am_exec 45 40 [.ref 34, .ref (A 1 c), .int (Int32.ofNat m), .int (Int32.ofNat g), .int 0, am_U, am_U, am_U] [] (aw_H K A G Q1 M r) := by
    simp only [am_e45_0, am_e45_4, am_e45_49, am_e45_83, am_e45_8, am_e45_68, am_e45_53, am_e45_143, am_e45_86, am_e45_18, am_e45_74, am_e45_62, am_e45_150, am_e45_90, am_e45_23, am_e45_156, am_e45_95, am_e45_37, am_e45_159, am_e45_104, am_e45_124, am_e45_127, am_e45_132, am_e45_137, aw_gU0, aw_pU0, aw_gU1, aw_gU2, aw_pU2, aw_gU3, aw_pU3, aw_gU4, aw_pU4, aw_gU5, aw_pU5, aw_gU6, aw_pU6, aw_gU7, aw_pU7, aw_gC1, aw_gC2, aw_pC2, aw_gC3, aw_pC3, aw_gC4, aw_pC4, aw_gC5, aw_pC5, aw_gC6, aw_pC6, aw_gC7, aw_pC7, aw_gC9, aw_pC9, aw_gC0, aw_gC8, aw_gC10, aw_pC10, aw_gC11, aw_pC11, aw_gC12, aw_pC12, aw_gC13, aw_pC13, aw_gC14, aw_pC14, aw_gC15, aw_pC15, aw_gC16, aw_pC16, aw_gT0, aw_gT1, aw_gT2, aw_gT3, aw_gT4, aw_pT4, aw_gT5, aw_pT5, aw_gT6, aw_pT6, aw_gO0, aw_gO1, aw_gO2, aw_gO3, aw_gO4, aw_gO5, aw_gO6, aw_gP1, aw_pP1, aw_gP2, aw_pP2, aw_gP3, aw_pP3, aw_gP4, aw_pP4, aw_gP5, aw_pP5, aw_gP6, aw_pP6, aw_gP0, aw_gP7, aw_isU, aw_isC, aw_isT, aw_isO, aw_isP, aw_isF12, aw_gF12_0, aw_gF12_1, aw_gF12_2, aw_gF12_3, aw_gF12_4, aw_isF13, aw_gF13_0, aw_gF13_1, aw_gF13_2, aw_gF13_3, aw_gF13_4, aw_gF13_5, aw_gF13_6, aw_gF13_7, aw_isF14, aw_gF14_0, aw_gF14_1, aw_gF14_2, aw_isF18, aw_gF18_0, aw_gF18_1, aw_isF19, aw_gF19_0, aw_gF19_1, aw_gF19_2, aw_isF21, aw_gF21_0, aw_gF21_1, aw_gF21_2, aw_isF22, aw_gF22_0, aw_gF22_1, aw_gF22_2, aw_isF23, aw_gF23_0, aw_gF23_1, aw_gF23_2, aw_isF34, aw_gF34_0, aw_gF34_1, aw_gF34_2, aw_gF34_3, aw_gF34_4, aw_gF34_5, aw_isF38, aw_gF38_0, aw_isF39, aw_gF39_0, aw_pF12_4, aw_pF13_6, aw_pF13_7, aw_pF34_4, aw_pF34_5, am_bk, am_pu1, am_pu0, Option.bind_some, eq_self, am_nli, am_nlr, am_nln, am_nlu, if_true, if_false, not_true_eq_false, not_false_eq_true, am_10, am_01, hV, hK, hz, hQ, e1, m43, m44, e2, am_succ, ← hQ1]
  have w97 : g + 1 ≤ 97 := by omega
  have hN : (m + 1) * (g + 1) ≤ 25 * 97 := Nat.mul_le_mul (by omega) w97
  have eN : (Int32.ofNat m + 1) * Int32.ofNat (g + 1) = Int32.ofNat ((m + 1) * (g + 1)) := by rw [am_succ, ← Int32.ofNat_mul]
  have loop1 := am_iter (fun i => am_exec 45 40 [.ref 34, .ref (A 1 c), .int (Int32.ofNat m), .int (Int32.ofNat g), .int (Int32.ofNat i), am_U, am_U, am_U] [] (aw_H K A G Q1 (am_it (fun i M => aw_mu M 1 i (-1)) M i) r)) ((m + 1) * (g + 1)) (fun i hi => by
    have c0 : ¬ Int32.ofNat ((m + 1) * (g + 1)) ≤ Int32.ofNat i := am_lit _ _ hi (by omega)
    show am_exec 45 40 _ _ _ = am_exec 45 40 [.ref 34, .ref (A 1 c), .int (Int32.ofNat m), .int (Int32.ofNat g), .int (Int32.ofNat (i + 1)), am_U, am_U, am_U] [] (aw_H K A G Q1 (aw_mu (am_it (fun i M => aw_mu M 1 i (-1)) M i) 1 i (-1)) r)
    generalize am_it (fun i M => aw_mu M 1 i (-1)) M i = N at *
    have m48 := mc48 (K := K) (A := A) (G := G) (Q := Q1) (M := N) (r := r) (i := i) (v := -1) (by omega)
    rw [am_e45_40]
    simp only [am_e45_49, am_e45_53, am_e45_62, aw_gU0, aw_pU0, aw_gU1, aw_gU2, aw_pU2, aw_gU3, aw_pU3, aw_gU4, aw_pU4, aw_gU5, aw_pU5, aw_gU6, aw_pU6, aw_gU7, aw_pU7, aw_gC1, aw_gC2, aw_pC2, aw_gC3, aw_pC3, aw_gC4, aw_pC4, aw_gC5, aw_pC5, aw_gC6, aw_pC6, aw_gC7, aw_pC7, aw_gC9, aw_pC9, aw_gC0, aw_gC8, aw_gC10, aw_pC10, aw_gC11, aw_pC11, aw_gC12, aw_pC12, aw_gC13, aw_pC13, aw_gC14, aw_pC14, aw_gC15, aw_pC15, aw_gC16, aw_pC16, aw_gT0, aw_gT1, aw_gT2, aw_gT3, aw_gT4, aw_pT4, aw_gT5, aw_pT5, aw_gT6, aw_pT6, aw_gO0, aw_gO1, aw_gO2, aw_gO3, aw_gO4, aw_gO5, aw_gO6, aw_gP1, aw_pP1, aw_gP2, aw_pP2, aw_gP3, aw_pP3, aw_gP4, aw_pP4, aw_gP5, aw_pP5, aw_gP6, aw_pP6, aw_gP0, aw_gP7, aw_isU, aw_isC, aw_isT, aw_isO, aw_isP, aw_isF12, aw_gF12_0, aw_gF12_1, aw_gF12_2, aw_gF12_3, aw_gF12_4, aw_isF13, aw_gF13_0, aw_gF13_1, aw_gF13_2, aw_gF13_3, aw_gF13_4, aw_gF13_5, aw_gF13_6, aw_gF13_7, aw_isF14, aw_gF14_0, aw_gF14_1, aw_gF14_2, aw_isF18, aw_gF18_0, aw_gF18_1, aw_isF19, aw_gF19_0, aw_gF19_1, aw_gF19_2, aw_isF21, aw_gF21_0, aw_gF21_1, aw_gF21_2, aw_isF22, aw_gF22_0, aw_gF22_1, aw_gF22_2, aw_isF23, aw_gF23_0, aw_gF23_1, aw_gF23_2, aw_isF34, aw_gF34_0, aw_gF34_1, aw_gF34_2, aw_gF34_3, aw_gF34_4, aw_gF34_5, aw_isF38, aw_gF38_0, aw_isF39, aw_gF39_0, aw_pF12_4, aw_pF13_6, aw_pF13_7, aw_pF34_4, aw_pF34_5, am_bk, am_pu1, am_pu0, Option.bind_some, eq_self, am_nli, am_nlr, am_nln, am_nlu, if_true, if_false, not_true_eq_false, not_false_eq_true, am_10, am_01, q41, am_succ, ← Int32.ofNat_mul, c0, m48])
  have loop1 : am_exec 45 40 [.ref 34, .ref (A 1 c), .int (Int32.ofNat m), .int (Int32.ofNat g), .int 0, am_U, am_U, am_U] [] (aw_H K A G Q1 M r) = _ := loop1
  obtain ⟨M1, hM1⟩ : ∃ M1, M1 = as_b0 ((m + 1) * (g + 1)) M := ⟨_, rfl⟩
  have mid : am_exec 45 40 [.ref 34, .ref (A 1 c), .int (Int32.ofNat m), .int (Int32.ofNat g), .int (Int32.ofNat ((m + 1) * (g + 1))), am_U, am_U, am_U] [] (aw_H K A G Q1 (am_it (fun i M => aw_mu M 1 i (-1)) M ((m + 1) * (g + 1))) r) = am_exec 45 77 [.ref 34, .ref (A 1 c), .int (Int32.ofNat m), .int (Int32.ofNat g), .int 0, am_U, am_U, am_U] [] (aw_H K A G Q1 M1 r) := by
    rw [hM1]
    unfold as_b0
    generalize am_it (fun i M => aw_mu M 1 i (-1)) M ((m + 1) * (g + 1)) = N at *
    have m48 := mc48 (K := K) (A := A) (G := G) (Q := Q1) (M := N) (r := r) (i := 0) (v := 0) (by omega)
    have m48 : am_exec 48 0 [.ref 34, .int 0, .long 0, am_U] [] (aw_H K A G Q1 N r) = _ := m48
    rw [am_e45_40]
    simp only [am_e45_49, am_e45_68, am_e45_74, aw_gU0, aw_pU0, aw_gU1, aw_gU2, aw_pU2, aw_gU3, aw_pU3, aw_gU4, aw_pU4, aw_gU5, aw_pU5, aw_gU6, aw_pU6, aw_gU7, aw_pU7, aw_gC1, aw_gC2, aw_pC2, aw_gC3, aw_pC3, aw_gC4, aw_pC4, aw_gC5, aw_pC5, aw_gC6, aw_pC6, aw_gC7, aw_pC7, aw_gC9, aw_pC9, aw_gC0, aw_gC8, aw_gC10, aw_pC10, aw_gC11, aw_pC11, aw_gC12, aw_pC12, aw_gC13, aw_pC13, aw_gC14, aw_pC14, aw_gC15, aw_pC15, aw_gC16, aw_pC16, aw_gT0, aw_gT1, aw_gT2, aw_gT3, aw_gT4, aw_pT4, aw_gT5, aw_pT5, aw_gT6, aw_pT6, aw_gO0, aw_gO1, aw_gO2, aw_gO3, aw_gO4, aw_gO5, aw_gO6, aw_gP1, aw_pP1, aw_gP2, aw_pP2, aw_gP3, aw_pP3, aw_gP4, aw_pP4, aw_gP5, aw_pP5, aw_gP6, aw_pP6, aw_gP0, aw_gP7, aw_isU, aw_isC, aw_isT, aw_isO, aw_isP, aw_isF12, aw_gF12_0, aw_gF12_1, aw_gF12_2, aw_gF12_3, aw_gF12_4, aw_isF13, aw_gF13_0, aw_gF13_1, aw_gF13_2, aw_gF13_3, aw_gF13_4, aw_gF13_5, aw_gF13_6, aw_gF13_7, aw_isF14, aw_gF14_0, aw_gF14_1, aw_gF14_2, aw_isF18, aw_gF18_0, aw_gF18_1, aw_isF19, aw_gF19_0, aw_gF19_1, aw_gF19_2, aw_isF21, aw_gF21_0, aw_gF21_1, aw_gF21_2, aw_isF22, aw_gF22_0, aw_gF22_1, aw_gF22_2, aw_isF23, aw_gF23_0, aw_gF23_1, aw_gF23_2, aw_isF34, aw_gF34_0, aw_gF34_1, aw_gF34_2, aw_gF34_3, aw_gF34_4, aw_gF34_5, aw_isF38, aw_gF38_0, aw_isF39, aw_gF39_0, aw_pF12_4, aw_pF13_6, aw_pF13_7, aw_pF34_4, aw_pF34_5, am_bk, am_pu1, am_pu0, Option.bind_some, eq_self, am_nli, am_nlr, am_nln, am_nlu, if_true, if_false, not_true_eq_false, not_false_eq_true, am_10, am_01, q41, am_succ, ← Int32.ofNat_mul, Int32.le_refl, m48]
  rw [← hM1]
  have loop2 := am_iter (fun i => am_exec 45 77 [.ref 34, .ref (A 1 c), .int (Int32.ofNat m), .int (Int32.ofNat g), .int (Int32.ofNat i), am_U, am_U, am_U] [] (aw_H K A G Q1 (as_b1 G c (Q 5) (g + 1) m i M1) r)) S (fun i hi => by
    have c0 : ¬ Int32.ofNat S ≤ Int32.ofNat i := am_lit _ _ hi (by omega)
    have hI : am_I (Int32.ofNat i) 24 := am_Ik (by omega) (by decide)
    have hJ := am_tcn (show i ≤ 100000 by omega)
    show am_exec 45 77 _ _ _ = am_exec 45 77 [.ref 34, .ref (A 1 c), .int (Int32.ofNat m), .int (Int32.ofNat g), .int (Int32.ofNat (i + 1)), am_U, am_U, am_U] [] (aw_H K A G Q1 (as_a3 (g + 1) (as_fo G (Q 5 i).toNatClampNeg).toNatClampNeg (as_vl G c (Q 5) i) m (as_b1 G c (Q 5) (g + 1) m i M1)) r)
    generalize as_b1 G c (Q 5) (g + 1) m i M1 = N at *
    have m147 := mc147_35 (K := K) (A := A) (G := G) (Q := Q1) (M := N) (r := r) hI
    rw [hJ, q5] at m147
    obtain ⟨u, u1, u2⟩ := (hO i hi).cases
    have hJu := am_tcn (show u ≤ 100000 by omega)
    have m42 := mc42 (A := A) (Q := Q1) (M := N) (r := r) hW hSr hc u1 (hl u u1)
    have m4 := mc4 (K := K) (A := A) (G := G) (Q := Q1) (M := N) (r := r) hV hSr (hO i hi) (hl _ (hO i hi).2)
    obtain ⟨fd, f1, f2⟩ := as_fd5 (l := G 2 u) (m := G 3 u)
    have ffd : as_fo G u = Int32.ofNat fd := f2
    have m46 := mc46 (K := K) (A := A) (G := G) (Q := Q1) (r := r) w97 f1 q41 (v := as_vl G c (Q 5) i) (M := N) hm24
    unfold as_vl at m46 ⊢
    rw [u2] at m147 m4
    rw [u2, hJu] at m46 ⊢
    rw [hJu] at m4
    rw [f2] at m4
    rw [ffd, am_tcn (show fd ≤ 100000 by omega)]
    rw [am_e45_77]
    simp only [am_e45_0, am_e45_4, am_e45_49, am_e45_83, am_e45_8, am_e45_68, am_e45_53, am_e45_143, am_e45_86, am_e45_18, am_e45_74, am_e45_62, am_e45_150, am_e45_90, am_e45_23, am_e45_156, am_e45_95, am_e45_37, am_e45_159, am_e45_104, am_e45_124, am_e45_127, am_e45_132, am_e45_137, aw_gU0, aw_pU0, aw_gU1, aw_gU2, aw_pU2, aw_gU3, aw_pU3, aw_gU4, aw_pU4, aw_gU5, aw_pU5, aw_gU6, aw_pU6, aw_gU7, aw_pU7, aw_gC1, aw_gC2, aw_pC2, aw_gC3, aw_pC3, aw_gC4, aw_pC4, aw_gC5, aw_pC5, aw_gC6, aw_pC6, aw_gC7, aw_pC7, aw_gC9, aw_pC9, aw_gC0, aw_gC8, aw_gC10, aw_pC10, aw_gC11, aw_pC11, aw_gC12, aw_pC12, aw_gC13, aw_pC13, aw_gC14, aw_pC14, aw_gC15, aw_pC15, aw_gC16, aw_pC16, aw_gT0, aw_gT1, aw_gT2, aw_gT3, aw_gT4, aw_pT4, aw_gT5, aw_pT5, aw_gT6, aw_pT6, aw_gO0, aw_gO1, aw_gO2, aw_gO3, aw_gO4, aw_gO5, aw_gO6, aw_gP1, aw_pP1, aw_gP2, aw_pP2, aw_gP3, aw_pP3, aw_gP4, aw_pP4, aw_gP5, aw_pP5, aw_gP6, aw_pP6, aw_gP0, aw_gP7, aw_isU, aw_isC, aw_isT, aw_isO, aw_isP, aw_isF12, aw_gF12_0, aw_gF12_1, aw_gF12_2, aw_gF12_3, aw_gF12_4, aw_isF13, aw_gF13_0, aw_gF13_1, aw_gF13_2, aw_gF13_3, aw_gF13_4, aw_gF13_5, aw_gF13_6, aw_gF13_7, aw_isF14, aw_gF14_0, aw_gF14_1, aw_gF14_2, aw_isF18, aw_gF18_0, aw_gF18_1, aw_isF19, aw_gF19_0, aw_gF19_1, aw_gF19_2, aw_isF21, aw_gF21_0, aw_gF21_1, aw_gF21_2, aw_isF22, aw_gF22_0, aw_gF22_1, aw_gF22_2, aw_isF23, aw_gF23_0, aw_gF23_1, aw_gF23_2, aw_isF34, aw_gF34_0, aw_gF34_1, aw_gF34_2, aw_gF34_3, aw_gF34_4, aw_gF34_5, aw_isF38, aw_gF38_0, aw_isF39, aw_gF39_0, aw_pF12_4, aw_pF13_6, aw_pF13_7, aw_pF34_4, aw_pF34_5, am_bk, am_pu1, am_pu0, Option.bind_some, eq_self, am_nli, am_nlr, am_nln, am_nlu, if_true, if_false, not_true_eq_false, not_false_eq_true, am_10, am_01, hV, hK, q40, q5, c0, m147, m42, m4, m46, am_succ])
  have loop2 : am_exec 45 77 [.ref 34, .ref (A 1 c), .int (Int32.ofNat m), .int (Int32.ofNat g), .int 0, am_U, am_U, am_U] [] (aw_H K A G Q1 M1 r) = _ := loop2
  obtain ⟨M2, hM2⟩ : ∃ M2, M2 = as_b1 G c (Q 5) (g + 1) m S M1 := ⟨_, rfl⟩
  rw [← hM2] at loop2 ⊢
  have hix : m * (g + 1) + g < 2425 := by
    have : m * (g + 1) ≤ 24 * 97 := Nat.mul_le_mul hm24 w97
    omega
  have m47 := mc47 (K := K) (A := A) (G := G) (Q := Q1) (M := M2) (r := r) hix
  have m49 := mc49 (K := K) (A := A) (G := G) (Q := Q1) (M := M2) (r := r) hS q40 (v := M2 1 (m * (g + 1) + g))
  rw [q5] at m49
  rw [top]
  refine loop1.trans (mid.trans (loop2.trans ?_))
  rw [am_e45_77]
  simp only [am_e45_83, am_e45_143, am_e45_150, am_e45_156, am_e45_159, aw_gU0, aw_pU0, aw_gU1, aw_gU2, aw_pU2, aw_gU3, aw_pU3, aw_gU4, aw_pU4, aw_gU5, aw_pU5, aw_gU6, aw_pU6, aw_gU7, aw_pU7, aw_gC1, aw_gC2, aw_pC2, aw_gC3, aw_pC3, aw_gC4, aw_pC4, aw_gC5, aw_pC5, aw_gC6, aw_pC6, aw_gC7, aw_pC7, aw_gC9, aw_pC9, aw_gC0, aw_gC8, aw_gC10, aw_pC10, aw_gC11, aw_pC11, aw_gC12, aw_pC12, aw_gC13, aw_pC13, aw_gC14, aw_pC14, aw_gC15, aw_pC15, aw_gC16, aw_pC16, aw_gT0, aw_gT1, aw_gT2, aw_gT3, aw_gT4, aw_pT4, aw_gT5, aw_pT5, aw_gT6, aw_pT6, aw_gO0, aw_gO1, aw_gO2, aw_gO3, aw_gO4, aw_gO5, aw_gO6, aw_gP1, aw_pP1, aw_gP2, aw_pP2, aw_gP3, aw_pP3, aw_gP4, aw_pP4, aw_gP5, aw_pP5, aw_gP6, aw_pP6, aw_gP0, aw_gP7, aw_isU, aw_isC, aw_isT, aw_isO, aw_isP, aw_isF12, aw_gF12_0, aw_gF12_1, aw_gF12_2, aw_gF12_3, aw_gF12_4, aw_isF13, aw_gF13_0, aw_gF13_1, aw_gF13_2, aw_gF13_3, aw_gF13_4, aw_gF13_5, aw_gF13_6, aw_gF13_7, aw_isF14, aw_gF14_0, aw_gF14_1, aw_gF14_2, aw_isF18, aw_gF18_0, aw_gF18_1, aw_isF19, aw_gF19_0, aw_gF19_1, aw_gF19_2, aw_isF21, aw_gF21_0, aw_gF21_1, aw_gF21_2, aw_isF22, aw_gF22_0, aw_gF22_1, aw_gF22_2, aw_isF23, aw_gF23_0, aw_gF23_1, aw_gF23_2, aw_isF34, aw_gF34_0, aw_gF34_1, aw_gF34_2, aw_gF34_3, aw_gF34_4, aw_gF34_5, aw_isF38, aw_gF38_0, aw_isF39, aw_gF39_0, aw_pF12_4, aw_pF13_6, aw_pF13_7, aw_pF34_4, aw_pF34_5, am_bk, am_pu1, am_pu0, Option.bind_some, eq_self, am_nli, am_nlr, am_nln, am_nlu, if_true, if_false, not_true_eq_false, not_false_eq_true, am_10, am_01, q40, q41, Int32.le_refl, ← Int32.ofNat_mul, ← Int32.ofNat_add, m47, m49]
end
