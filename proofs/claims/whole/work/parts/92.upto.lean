/-! THE CLASS'S PLANNER: one city plans -/
/-- the open tiles, how many, what food is asked, the table, the plan -/
def as_q1 (G Q : am_G) (c : Nat) (p : Int64) : am_G := am_it (as_oq G c p) (am_up Q 4 0 0) 64
def as_qs (G : am_G) (c : Nat) (p : Int64) : Nat := am_cnt (fun t => as_op G c t p) 64
def as_qg (G Q : am_G) (c z : Nat) (p : Int64) : Nat := as_sk G c z (as_q1 G Q c p 5) (as_qs G c p)
def as_qm (G Q : am_G) (c z : Nat) (p : Int64) (M : aw_M) : aw_M := as_b1 G c (as_q1 G Q c p 5) (as_qg G Q c z p + 1) (min z (as_qs G c p)) (as_qs G c p) (as_b0 ((min z (as_qs G c p) + 1) * (as_qg G Q c z p + 1)) M)
def as_qp (G Q : am_G) (c z : Nat) (p : Int64) (M : aw_M) : Int64 := as_tl (as_q1 G Q c p 5) (as_qm G Q c z p M 1 (min z (as_qs G c p) * (as_qg G Q c z p + 1) + as_qg G Q c z p)) (as_qs G c p)
section
variable {K : aw_K} {A : aw_A} {G Q : am_G} {M : aw_M} {r : am_H} {n F T : Nat}
theorem mc39_52 (hW : aw_W K A G n F T) (hSr : aw_S r) (hl : ∀ t, t < 64 → am_I (G 2 t) 6) (hou : ∀ k, k < n → aw_P (G 27 k)) {c : Nat} (hc : c < F) (ht : am_I (G 9 c) 64) (ho : aw_P (G 8 c)) {z : Nat} (hz : G 10 c = Int32.ofNat z) (hz2 : z ≤ 1000) {tk p : Int64} (hp : p = tk ||| as_orl (fun k => am_war G (G 27 k) (G 8 c) T) (G 29) 0 n) (h24 : as_qs G c p ≤ 24) (hO : ∀ i, i < as_qs G c p → am_I (as_q1 G Q c p 5 i) 64) {l i : Int32} : am_exec 39 52 [.ref 34, .int l, .int 0, .long tk, am_U, .int i, .ref (A 1 c)] [] (aw_H K A G Q M r) = am_exec 39 110 [.ref 34, .int l, .int 0, .long (tk ||| as_qp G Q c z p M), am_U, .int i, .ref (A 1 c)] [] (aw_H K A G (as_ga (am_up (as_q1 G Q c p) 4 1 (Int32.ofNat (as_qg G Q c z p + 1))) c (as_yf G (as_qp G Q c z p M) c) (as_yw G (as_qp G Q c z p M) c) (as_yt G (as_qp G Q c z p M) c)) (aw_mu (as_qm G Q c z p M) 0 c (as_qp G Q c z p M)) r) := by
  have hV := hW.V
  have hK := hW.c hc
  have m107 := mc107 (Q := Q) (M := M) (r := r) hW hou ho
  obtain ⟨m40, e40⟩ := mc40 (Q := Q) (M := M) (r := r) hW hc ho (p := p) h24
  have m40 : am_exec 40 0 [.ref 34, .ref (A 1 c), .long p, am_U, am_U, am_U, am_U] [] (aw_H K A G Q M r) = some (.inl none, aw_H K A G (as_q1 G Q c p) M r) := m40
  have m45 := mc45 (Q := as_q1 G Q c p) (M := M) (r := r) hW hSr hl hc ht hz hz2 h24 e40 hO
  have m45 : am_exec 45 0 [.ref 34, .ref (A 1 c), am_U, am_U, am_U, am_U, am_U, am_U] [] (aw_H K A G (as_q1 G Q c p) M r) = some (.inl (some (.long (as_qp G Q c z p M))), aw_H K A G (am_up (as_q1 G Q c p) 4 1 (Int32.ofNat (as_qg G Q c z p + 1))) (as_qm G Q c z p M) r) := m45
  have m41 := mc41 (Q := am_up (as_q1 G Q c p) 4 1 (Int32.ofNat (as_qg G Q c z p + 1))) (M := aw_mu (as_qm G Q c z p M) 0 c (as_qp G Q c z p M)) (r := r) hW hSr hl hc ht
  rw [aw_mu_eq, am_upd_eq] at m41
  have m41 : am_exec 41 0 [.ref 34, .ref (A 1 c), am_U, am_U] [] (aw_H K A G (am_up (as_q1 G Q c p) 4 1 (Int32.ofNat (as_qg G Q c z p + 1))) (aw_mu (as_qm G Q c z p M) 0 c (as_qp G Q c z p M)) r) = some (.inl none, aw_H K A G (as_ga (am_up (as_q1 G Q c p) 4 1 (Int32.ofNat (as_qg G Q c z p + 1))) c (as_yf G (as_qp G Q c z p M) c) (as_yw G (as_qp G Q c z p M) c) (as_yt G (as_qp G Q c z p M) c)) (aw_mu (as_qm G Q c z p M) 0 c (as_qp G Q c z p M)) r) := m41
  have em : aw_mu (as_qm G Q c z p M) 0 c (as_qp G Q c z p M) 0 c = as_qp G Q c z p M := by rw [aw_mu_eq, am_upd_eq]
  generalize as_qp G Q c z p M = pl at *
  generalize as_qm G Q c z p M = M2 at *
  generalize as_qg G Q c z p = g at *
  generalize as_q1 G Q c p = Q1 at *
  simp only [am_e39_0, am_e39_4, am_e39_17, am_e39_7, am_e39_20, am_e39_23, am_e39_116, am_e39_26, am_e39_30, am_e39_33, am_e39_38, am_e39_48, am_e39_52, am_e39_60, am_e39_65, am_e39_68, am_e39_72, am_e39_87, am_e39_78, am_e39_93, am_e39_84, am_e39_96, am_e39_102, aw_gU0, aw_pU0, aw_gU1, aw_gU2, aw_pU2, aw_gU3, aw_pU3, aw_gU4, aw_pU4, aw_gU5, aw_pU5, aw_gU6, aw_pU6, aw_gU7, aw_pU7, aw_gC1, aw_gC2, aw_pC2, aw_gC3, aw_pC3, aw_gC4, aw_pC4, aw_gC5, aw_pC5, aw_gC6, aw_pC6, aw_gC7, aw_pC7, aw_gC9, aw_pC9, aw_gC0, aw_gC8, aw_gC10, aw_pC10, aw_gC11, aw_pC11, aw_gC12, aw_pC12, aw_gC13, aw_pC13, aw_gC14, aw_pC14, aw_gC15, aw_pC15, aw_gC16, aw_pC16, aw_gT0, aw_gT1, aw_gT2, aw_gT3, aw_gT4, aw_pT4, aw_gT5, aw_pT5, aw_gT6, aw_pT6, aw_gO0, aw_gO1, aw_gO2, aw_gO3, aw_gO4, aw_gO5, aw_gO6, aw_gP1, aw_pP1, aw_gP2, aw_pP2, aw_gP3, aw_pP3, aw_gP4, aw_pP4, aw_gP5, aw_pP5, aw_gP6, aw_pP6, aw_gP0, aw_gP7, aw_isU, aw_isC, aw_isT, aw_isO, aw_isP, aw_isF12, aw_gF12_0, aw_gF12_1, aw_gF12_2, aw_gF12_3, aw_gF12_4, aw_isF13, aw_gF13_0, aw_gF13_1, aw_gF13_2, aw_gF13_3, aw_gF13_4, aw_gF13_5, aw_gF13_6, aw_gF13_7, aw_isF14, aw_gF14_0, aw_gF14_1, aw_gF14_2, aw_isF18, aw_gF18_0, aw_gF18_1, aw_isF19, aw_gF19_0, aw_gF19_1, aw_gF19_2, aw_isF21, aw_gF21_0, aw_gF21_1, aw_gF21_2, aw_isF22, aw_gF22_0, aw_gF22_1, aw_gF22_2, aw_isF23, aw_gF23_0, aw_gF23_1, aw_gF23_2, aw_isF34, aw_gF34_0, aw_gF34_1, aw_gF34_2, aw_gF34_3, aw_gF34_4, aw_gF34_5, aw_isF38, aw_gF38_0, aw_isF39, aw_gF39_0, aw_pF12_4, aw_pF13_6, aw_pF13_7, aw_pF34_4, aw_pF34_5, am_bk, am_pu1, am_pu0, Option.bind_some, eq_self, am_nli, am_nlr, am_nln, am_nlu, if_true, if_false, not_true_eq_false, not_false_eq_true, am_10, am_01, hV, hK, m107, ← hp, m40, m45, em, m41]
end
