/-! THE CLASS'S PLANNER: planUpTo, not by all -/
theorem am_cnt_cg {p q : Nat → Prop} [DecidablePred p] [DecidablePred q] {n : Nat} (h : ∀ k, k < n → (p k ↔ q k)) : am_cnt p n = am_cnt q n := Nat.le_antisymm (am_cnt_mono n fun k hk => (h k hk).mp) (am_cnt_mono n fun k hk => (h k hk).mpr)
/-- the foes' tiles of a player -/
def as_fo' (G : am_G) (n T : Nat) (p : Int32) : Int64 := as_orl (fun k => am_war G (G 27 k) p T) (G 29) 0 n
/-- a city up to the last plans -/
def as_qc (G : am_G) (n T : Nat) (l : Int32) (c : Nat) (s : am_G × aw_M × Int64) : am_G × aw_M × Int64 :=
  if l < Int32.ofNat c then s else
  (as_ga (am_up (as_q1 G s.1 c (s.2.2 ||| as_fo' G n T (G 8 c))) 4 1 (Int32.ofNat (as_qg G s.1 c (G 10 c).toNatClampNeg (s.2.2 ||| as_fo' G n T (G 8 c)) + 1))) c (as_yf G (as_qp G s.1 c (G 10 c).toNatClampNeg (s.2.2 ||| as_fo' G n T (G 8 c)) s.2.1) c) (as_yw G (as_qp G s.1 c (G 10 c).toNatClampNeg (s.2.2 ||| as_fo' G n T (G 8 c)) s.2.1) c) (as_yt G (as_qp G s.1 c (G 10 c).toNatClampNeg (s.2.2 ||| as_fo' G n T (G 8 c)) s.2.1) c),
   aw_mu (as_qm G s.1 c (G 10 c).toNatClampNeg (s.2.2 ||| as_fo' G n T (G 8 c)) s.2.1) 0 c (as_qp G s.1 c (G 10 c).toNatClampNeg (s.2.2 ||| as_fo' G n T (G 8 c)) s.2.1),
   s.2.2 ||| as_qp G s.1 c (G 10 c).toNatClampNeg (s.2.2 ||| as_fo' G n T (G 8 c)) s.2.1)
theorem as_qc_bit {G : am_G} {n T c t : Nat} {l : Int32} {s : am_G × aw_M × Int64} (h : s.2.2.toBitVec.getLsbD t = true) : (as_qc G n T l c s).2.2.toBitVec.getLsbD t = true := by
  unfold as_qc
  split
  · exact h
  · dsimp only
    rw [am_bor, h, Bool.true_or]
section
variable {K : aw_K} {A : aw_A} {G Q : am_G} {M : aw_M} {r : am_H} {n F T : Nat}
theorem mc39 (hW : aw_W K A G n F T) (hSr : aw_S r) (hCA : aw_CA G F) (hU : aw_IU G n) (hST : ∀ i, i < n → ∀ j, j < n → G 29 i = G 29 j → G 27 i = G 27 j) (hl : ∀ t, t < 64 → am_I (G 2 t) 6) (hC : ∀ c, c < F → G 7 c = 1 → aw_IC G c) {l : Int32} : am_exec 39 0 [.ref 34, .int l, .int 0, am_U, am_U, am_U, am_U] [] (aw_H K A G Q M r) = some (.inl none, aw_H K A G (am_it (fun i s => as_qc G n T l (A 7 i) s) (Q, M, as_orl (fun _ => True) (fun i => G 9 (A 7 i)) 0 (A 8 0)) (A 8 0)).1 (am_it (fun i s => as_qc G n T l (A 7 i) s) (Q, M, as_orl (fun _ => True) (fun i => G 9 (A 7 i)) 0 (A 8 0)) (A 8 0)).2.1 r) := by
  have hV := hW.V
  have m108 := mc108 (Q := Q) (M := M) (r := r) hW
  obtain ⟨tc, htc⟩ : ∃ tc, tc = as_orl (fun _ => True) (fun i => G 9 (A 7 i)) 0 (A 8 0) := ⟨_, rfl⟩
  rw [← htc] at m108 ⊢
  have inv : ∀ i t, tc.toBitVec.getLsbD t = true → (am_it (fun i s => as_qc G n T l (A 7 i) s) (Q, M, tc) i).2.2.toBitVec.getLsbD t = true := by
    intro i
    induction i with
    | zero => exact fun t h => h
    | succ i ih =>
      intro t h
      rw [am_it]
      exact as_qc_bit (ih t h)
  have key := am_iter (fun i => am_exec 39 11 [.ref 34, .int l, .int 0, .long (am_it (fun i s => as_qc G n T l (A 7 i) s) (Q, M, tc) i).2.2, am_U, .int (Int32.ofNat i), am_U] [] (aw_H K A G (am_it (fun i s => as_qc G n T l (A 7 i) s) (Q, M, tc) i).1 (am_it (fun i s => as_qc G n T l (A 7 i) s) (Q, M, tc) i).2.1 r)) (A 8 0) (fun i hk => by
    have c0 : ¬ A 8 0 ≤ i := by omega
    have iv := inv i
    show am_exec 39 11 _ _ _ = am_exec 39 11 [.ref 34, .int l, .int 0, .long (as_qc G n T l (A 7 i) (am_it (fun i s => as_qc G n T l (A 7 i) s) (Q, M, tc) i)).2.2, am_U, .int (Int32.ofNat (i + 1)), am_U] [] (aw_H K A G (as_qc G n T l (A 7 i) (am_it (fun i s => as_qc G n T l (A 7 i) s) (Q, M, tc) i)).1 (as_qc G n T l (A 7 i) (am_it (fun i s => as_qc G n T l (A 7 i) s) (Q, M, tc) i)).2.1 r)
    generalize am_it (fun i s => as_qc G n T l (A 7 i) s) (Q, M, tc) i = s at *
    obtain ⟨Y, N, tk⟩ := s
    have iv : ∀ t, tc.toBitVec.getLsbD t = true → tk.toBitVec.getLsbD t = true := iv
    show am_exec 39 11 [.ref 34, .int l, .int 0, .long tk, am_U, .int (Int32.ofNat i), am_U] [] (aw_H K A G Y N r) = _
    obtain ⟨hcF, h7⟩ := hW.li hk
    obtain ⟨i1, i2, ⟨z, z1, -, z3⟩, -⟩ := hC _ hcF h7
    have hK := hW.c hcF
    have m253 := mc253_c (K := K) (A := A) (G := G) (Q := Y) (M := N) (r := r) hW hk
    generalize A 7 i = c at hcF h7 i1 i2 z1 hK m253 ⊢
    have hcw : ∀ t, t < 64 → (as_op G c t (tk ||| as_fo' G n T (G 8 c)) ↔ as_cw G n T c t tk) := fun t ht => as_op_cw hW hCA hU hST hcF h7 ht (by
      rw [← htc]
      cases e : tc.toBitVec.getLsbD t
      · rw [Bool.false_or]
      · rw [iv t e, Bool.true_or])
    obtain ⟨-, -, rows, -⟩ := as_oq_sp (Q := Y) hcw 64 (Nat.le_refl _)
    have hqs : as_qs G c (tk ||| as_fo' G n T (G 8 c)) = am_cnt (fun t => as_cw G n T c t tk) 64 := am_cnt_cg hcw
    have h24 : as_qs G c (tk ||| as_fo' G n T (G 8 c)) ≤ 24 := by rw [hqs]; exact as_cw_24 i2
    have hO : ∀ x, x < as_qs G c (tk ||| as_fo' G n T (G 8 c)) → am_I (as_q1 G Y c (tk ||| as_fo' G n T (G 8 c)) 5 x) 64 := fun x hx => by
      rw [hqs] at hx
      obtain ⟨u, u1, u2, -⟩ := rows x hx
      unfold as_q1
      rw [u2]
      exact am_Ik u1 (by decide)
    have m52 := mc39_52 (M := N) (r := r) (l := l) (i := Int32.ofNat i) hW hSr hl (fun k hk => (hU k hk).1) hcF i2 i1 z1 z3 (tk := tk) rfl h24 hO
    unfold as_qc
    rw [am_e39_11]
    by_cases hle : l < Int32.ofNat c
    · rw [if_pos hle]
      simp only [am_e39_17, am_e39_20, am_e39_23, am_e39_26, am_e39_30, am_e39_33, am_e39_38, am_e39_48, am_e39_110, aw_gU0, aw_pU0, aw_gU1, aw_gU2, aw_pU2, aw_gU3, aw_pU3, aw_gU4, aw_pU4, aw_gU5, aw_pU5, aw_gU6, aw_pU6, aw_gU7, aw_pU7, aw_gC1, aw_gC2, aw_pC2, aw_gC3, aw_pC3, aw_gC4, aw_pC4, aw_gC5, aw_pC5, aw_gC6, aw_pC6, aw_gC7, aw_pC7, aw_gC9, aw_pC9, aw_gC0, aw_gC8, aw_gC10, aw_pC10, aw_gC11, aw_pC11, aw_gC12, aw_pC12, aw_gC13, aw_pC13, aw_gC14, aw_pC14, aw_gC15, aw_pC15, aw_gC16, aw_pC16, aw_gT0, aw_gT1, aw_gT2, aw_gT3, aw_gT4, aw_pT4, aw_gT5, aw_pT5, aw_gT6, aw_pT6, aw_gO0, aw_gO1, aw_gO2, aw_gO3, aw_gO4, aw_gO5, aw_gO6, aw_gP1, aw_pP1, aw_gP2, aw_pP2, aw_gP3, aw_pP3, aw_gP4, aw_pP4, aw_gP5, aw_pP5, aw_gP6, aw_pP6, aw_gP0, aw_gP7, aw_isU, aw_isC, aw_isT, aw_isO, aw_isP, aw_isF12, aw_gF12_0, aw_gF12_1, aw_gF12_2, aw_gF12_3, aw_gF12_4, aw_isF13, aw_gF13_0, aw_gF13_1, aw_gF13_2, aw_gF13_3, aw_gF13_4, aw_gF13_5, aw_gF13_6, aw_gF13_7, aw_isF14, aw_gF14_0, aw_gF14_1, aw_gF14_2, aw_isF18, aw_gF18_0, aw_gF18_1, aw_isF19, aw_gF19_0, aw_gF19_1, aw_gF19_2, aw_isF21, aw_gF21_0, aw_gF21_1, aw_gF21_2, aw_isF22, aw_gF22_0, aw_gF22_1, aw_gF22_2, aw_isF23, aw_gF23_0, aw_gF23_1, aw_gF23_2, aw_isF34, aw_gF34_0, aw_gF34_1, aw_gF34_2, aw_gF34_3, aw_gF34_4, aw_gF34_5, aw_isF38, aw_gF38_0, aw_isF39, aw_gF39_0, aw_pF12_4, aw_pF13_6, aw_pF13_7, aw_pF34_4, aw_pF34_5, am_bk, am_pu1, am_pu0, Option.bind_some, eq_self, am_nli, am_nlr, am_nln, am_nlu, if_true, if_false, not_true_eq_false, not_false_eq_true, am_10, am_01, hV, hK, mc251_c, m253, am_le_nat hW.m9 (aw_W.k9 hW.m9 hk), c0, hle, am_succ]
    · rw [if_neg hle]
      dsimp only
      rw [z1, am_tcn (show z ≤ 100000 by omega)]
      simp only [am_e39_17, am_e39_20, am_e39_23, am_e39_26, am_e39_30, am_e39_33, am_e39_38, am_e39_48, aw_gU0, aw_pU0, aw_gU1, aw_gU2, aw_pU2, aw_gU3, aw_pU3, aw_gU4, aw_pU4, aw_gU5, aw_pU5, aw_gU6, aw_pU6, aw_gU7, aw_pU7, aw_gC1, aw_gC2, aw_pC2, aw_gC3, aw_pC3, aw_gC4, aw_pC4, aw_gC5, aw_pC5, aw_gC6, aw_pC6, aw_gC7, aw_pC7, aw_gC9, aw_pC9, aw_gC0, aw_gC8, aw_gC10, aw_pC10, aw_gC11, aw_pC11, aw_gC12, aw_pC12, aw_gC13, aw_pC13, aw_gC14, aw_pC14, aw_gC15, aw_pC15, aw_gC16, aw_pC16, aw_gT0, aw_gT1, aw_gT2, aw_gT3, aw_gT4, aw_pT4, aw_gT5, aw_pT5, aw_gT6, aw_pT6, aw_gO0, aw_gO1, aw_gO2, aw_gO3, aw_gO4, aw_gO5, aw_gO6, aw_gP1, aw_pP1, aw_gP2, aw_pP2, aw_gP3, aw_pP3, aw_gP4, aw_pP4, aw_gP5, aw_pP5, aw_gP6, aw_pP6, aw_gP0, aw_gP7, aw_isU, aw_isC, aw_isT, aw_isO, aw_isP, aw_isF12, aw_gF12_0, aw_gF12_1, aw_gF12_2, aw_gF12_3, aw_gF12_4, aw_isF13, aw_gF13_0, aw_gF13_1, aw_gF13_2, aw_gF13_3, aw_gF13_4, aw_gF13_5, aw_gF13_6, aw_gF13_7, aw_isF14, aw_gF14_0, aw_gF14_1, aw_gF14_2, aw_isF18, aw_gF18_0, aw_gF18_1, aw_isF19, aw_gF19_0, aw_gF19_1, aw_gF19_2, aw_isF21, aw_gF21_0, aw_gF21_1, aw_gF21_2, aw_isF22, aw_gF22_0, aw_gF22_1, aw_gF22_2, aw_isF23, aw_gF23_0, aw_gF23_1, aw_gF23_2, aw_isF34, aw_gF34_0, aw_gF34_1, aw_gF34_2, aw_gF34_3, aw_gF34_4, aw_gF34_5, aw_isF38, aw_gF38_0, aw_isF39, aw_gF39_0, aw_pF12_4, aw_pF13_6, aw_pF13_7, aw_pF34_4, aw_pF34_5, am_bk, am_pu1, am_pu0, Option.bind_some, eq_self, am_nli, am_nlr, am_nln, am_nlu, if_true, if_false, not_true_eq_false, not_false_eq_true, am_10, am_01, hV, hK, mc251_c, m253, am_le_nat hW.m9 (aw_W.k9 hW.m9 hk), c0, hle]
      refine m52.trans ?_
      simp only [am_e39_110, am_bk, am_pu1, am_pu0, Option.bind_some, eq_self, am_nli, am_nlr, am_nln, am_nlu, if_true, if_false, not_true_eq_false, not_false_eq_true, am_10, am_01, am_succ]
      rfl)
  simp only [am_e39_0, am_e39_4, am_e39_7, aw_gU0, aw_pU0, aw_gU1, aw_gU2, aw_pU2, aw_gU3, aw_pU3, aw_gU4, aw_pU4, aw_gU5, aw_pU5, aw_gU6, aw_pU6, aw_gU7, aw_pU7, aw_gC1, aw_gC2, aw_pC2, aw_gC3, aw_pC3, aw_gC4, aw_pC4, aw_gC5, aw_pC5, aw_gC6, aw_pC6, aw_gC7, aw_pC7, aw_gC9, aw_pC9, aw_gC0, aw_gC8, aw_gC10, aw_pC10, aw_gC11, aw_pC11, aw_gC12, aw_pC12, aw_gC13, aw_pC13, aw_gC14, aw_pC14, aw_gC15, aw_pC15, aw_gC16, aw_pC16, aw_gT0, aw_gT1, aw_gT2, aw_gT3, aw_gT4, aw_pT4, aw_gT5, aw_pT5, aw_gT6, aw_pT6, aw_gO0, aw_gO1, aw_gO2, aw_gO3, aw_gO4, aw_gO5, aw_gO6, aw_gP1, aw_pP1, aw_gP2, aw_pP2, aw_gP3, aw_pP3, aw_gP4, aw_pP4, aw_gP5, aw_pP5, aw_gP6, aw_pP6, aw_gP0, aw_gP7, aw_isU, aw_isC, aw_isT, aw_isO, aw_isP, aw_isF12, aw_gF12_0, aw_gF12_1, aw_gF12_2, aw_gF12_3, aw_gF12_4, aw_isF13, aw_gF13_0, aw_gF13_1, aw_gF13_2, aw_gF13_3, aw_gF13_4, aw_gF13_5, aw_gF13_6, aw_gF13_7, aw_isF14, aw_gF14_0, aw_gF14_1, aw_gF14_2, aw_isF18, aw_gF18_0, aw_gF18_1, aw_isF19, aw_gF19_0, aw_gF19_1, aw_gF19_2, aw_isF21, aw_gF21_0, aw_gF21_1, aw_gF21_2, aw_isF22, aw_gF22_0, aw_gF22_1, aw_gF22_2, aw_isF23, aw_gF23_0, aw_gF23_1, aw_gF23_2, aw_isF34, aw_gF34_0, aw_gF34_1, aw_gF34_2, aw_gF34_3, aw_gF34_4, aw_gF34_5, aw_isF38, aw_gF38_0, aw_isF39, aw_gF39_0, aw_pF12_4, aw_pF13_6, aw_pF13_7, aw_pF34_4, aw_pF34_5, am_bk, am_pu1, am_pu0, Option.bind_some, eq_self, am_nli, am_nlr, am_nln, am_nlu, if_true, if_false, not_true_eq_false, not_false_eq_true, am_10, am_01, hV, m108]
  refine key.trans ?_
  show am_exec 39 11 _ _ _ = _
  rw [am_e39_11]
  simp only [am_e39_17, am_e39_20, am_e39_23, am_e39_116, aw_gU0, aw_pU0, aw_gU1, aw_gU2, aw_pU2, aw_gU3, aw_pU3, aw_gU4, aw_pU4, aw_gU5, aw_pU5, aw_gU6, aw_pU6, aw_gU7, aw_pU7, aw_gC1, aw_gC2, aw_pC2, aw_gC3, aw_pC3, aw_gC4, aw_pC4, aw_gC5, aw_pC5, aw_gC6, aw_pC6, aw_gC7, aw_pC7, aw_gC9, aw_pC9, aw_gC0, aw_gC8, aw_gC10, aw_pC10, aw_gC11, aw_pC11, aw_gC12, aw_pC12, aw_gC13, aw_pC13, aw_gC14, aw_pC14, aw_gC15, aw_pC15, aw_gC16, aw_pC16, aw_gT0, aw_gT1, aw_gT2, aw_gT3, aw_gT4, aw_pT4, aw_gT5, aw_pT5, aw_gT6, aw_pT6, aw_gO0, aw_gO1, aw_gO2, aw_gO3, aw_gO4, aw_gO5, aw_gO6, aw_gP1, aw_pP1, aw_gP2, aw_pP2, aw_gP3, aw_pP3, aw_gP4, aw_pP4, aw_gP5, aw_pP5, aw_gP6, aw_pP6, aw_gP0, aw_gP7, aw_isU, aw_isC, aw_isT, aw_isO, aw_isP, aw_isF12, aw_gF12_0, aw_gF12_1, aw_gF12_2, aw_gF12_3, aw_gF12_4, aw_isF13, aw_gF13_0, aw_gF13_1, aw_gF13_2, aw_gF13_3, aw_gF13_4, aw_gF13_5, aw_gF13_6, aw_gF13_7, aw_isF14, aw_gF14_0, aw_gF14_1, aw_gF14_2, aw_isF18, aw_gF18_0, aw_gF18_1, aw_isF19, aw_gF19_0, aw_gF19_1, aw_gF19_2, aw_isF21, aw_gF21_0, aw_gF21_1, aw_gF21_2, aw_isF22, aw_gF22_0, aw_gF22_1, aw_gF22_2, aw_isF23, aw_gF23_0, aw_gF23_1, aw_gF23_2, aw_isF34, aw_gF34_0, aw_gF34_1, aw_gF34_2, aw_gF34_3, aw_gF34_4, aw_gF34_5, aw_isF38, aw_gF38_0, aw_isF39, aw_gF39_0, aw_pF12_4, aw_pF13_6, aw_pF13_7, aw_pF34_4, aw_pF34_5, am_bk, am_pu1, am_pu0, Option.bind_some, eq_self, am_nli, am_nlr, am_nln, am_nlu, if_true, if_false, not_true_eq_false, not_false_eq_true, am_10, am_01, mc251_c, Int32.le_refl]
end
