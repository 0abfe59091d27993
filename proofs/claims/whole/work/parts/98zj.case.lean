/-! the law's cases -/
theorem al_cmp {x : Int64} : (lg_cmp x x = 0) = True := (am_lc x x).trans (eq_true rfl)
theorem al_rd {g : am_H} {N : Nat} {xs : Nat → Int32} (e : g.1 11 = some (60, (List.range N).map fun j => .int (xs j))) {p : Nat} (hp : p < N) (hN : N ≤ 3072) : am_ald g 11 [50, 60] 0 (Int32.ofNat p) = some (.int (xs p)) := by
  unfold am_ald
  rw [e, Option.bind_some]
  rw [if_pos (by decide : (60 : Nat) ∈ [50, 60])]
  have h1 : am_ix (Int32.ofNat p) = some p := by
    have h := (am_Ik (show p < 3072 by omega) (by decide) : am_I (Int32.ofNat p) 3072)
    unfold am_ix
    rw [if_neg h.1, am_tcn (by omega)]
  rw [h1, Option.bind_some, List.getElem?_map, List.getElem?_range hp]
  rfl
theorem al_rk {g : am_H} {N : Nat} {xs : Nat → Int32} (e : g.1 11 = some (60, (List.range N).map fun j => .int (xs j))) {i : Nat} (hp : 6 * i + 6 ≤ N) (hN : N ≤ 3072) : am_ald g 11 [50, 60] 0 (Int32.ofNat (6 * i) + 1) = some (.int (xs (6 * i + 1))) ∧ am_ald g 11 [50, 60] 0 (Int32.ofNat (6 * i) + 2) = some (.int (xs (6 * i + 2))) ∧ am_ald g 11 [50, 60] 0 (Int32.ofNat (6 * i) + 3) = some (.int (xs (6 * i + 3))) ∧ am_ald g 11 [50, 60] 0 (Int32.ofNat (6 * i) + 4) = some (.int (xs (6 * i + 4))) ∧ am_ald g 11 [50, 60] 0 (Int32.ofNat (6 * i) + 5) = some (.int (xs (6 * i + 5))) := by
  rw [show Int32.ofNat (6 * i) + 1 = Int32.ofNat (6 * i + 1) from (Int32.ofNat_add _ 1).symm, show Int32.ofNat (6 * i) + 2 = Int32.ofNat (6 * i + 2) from (Int32.ofNat_add _ 2).symm, show Int32.ofNat (6 * i) + 3 = Int32.ofNat (6 * i + 3) from (Int32.ofNat_add _ 3).symm, show Int32.ofNat (6 * i) + 4 = Int32.ofNat (6 * i + 4) from (Int32.ofNat_add _ 4).symm, show Int32.ofNat (6 * i) + 5 = Int32.ofNat (6 * i + 5) from (Int32.ofNat_add _ 5).symm]
  exact ⟨al_rd e (by omega) hN, al_rd e (by omega) hN, al_rd e (by omega) hN, al_rd e (by omega) hN, al_rd e (by omega) hN⟩
theorem al_ld {g : am_H} {z : Int64} (e : g.1 87 = some (51, [.long z])) : am_ald g 87 [51] 1 0 = some (.long z) := by
  unfold am_ald
  rw [e]
  rfl
theorem al_i6 {i : Nat} : Int32.ofNat (6 * i) + 6 = Int32.ofNat (6 * (i + 1)) := by
  rw [show 6 * (i + 1) = 6 * i + 6 by omega, Int32.ofNat_add]
  rfl
section
variable {xs : Nat → Int32} {N : Nat} {h : am_H} {i : Nat}
theorem al_S.up (hS : al_S xs N h i) : al_S xs N h (i + 1) := by
  obtain ⟨K, A, G, Q, M, L, r, n, F, T, y, s1, s2, s3, s4, s5, s6, s7, s8, s9, s10⟩ := hS
  exact ⟨K, A, G, Q, M, L, r, n, F, T, y, s1, s2, s3, s4, s5, s6.up1, s7, s8, by omega, by omega⟩
theorem al_turn (hS : al_S xs N h i) (hi : i ≤ 600) : ∃ v h2 h3, am_exec 129 0 [.ref 12] [] h = some (.inl v, h2) ∧ am_exec 236 0 [.ref 40, am_U, am_U, am_U] [] h2 = some (.inl v, h3) ∧ ac_kd 0 v ∧ am_isa h2 40 12 = true ∧ al_S xs N h3 (i + 1) := by
  obtain ⟨K, A, G, Q, M, L, r, n, F, T, y, e, s2, s3, s4, s5, s6, s7, s8, s9, s10⟩ := hS
  obtain ⟨K', A', G', Q', M', L', r', n', F', T', res, v, x1, x2, x3, x4, x5, x6, x7, x8⟩ := ac_endTurn (Q := Q) (M := M) (L := L) s3 s4 s5 hi s6
  rw [← e] at x1
  rcases res with w | E
  · obtain ⟨c0, rfl⟩ := x3
    have o2 := al_ovk s2 (r' := r') (fun x hx => x7.1 x (Or.inr ⟨hx.1, by omega⟩))
    have eo : am_ov G L (aw_H K' A' G' Q' M' r') = aw_H K' A' G' Q' M' r' := by rw [al_ov x5.V, o2]
    have y2 := x2 (aw_H K' A' G' Q' M' r')
    rw [eo, al_ov x5.V] at y2
    refine ⟨w, _, _, x1, y2, x4, ?_, K', A', G', Q', M', L', am_ov G' L' r', n', F', T', y, rfl, al_ov2, x5, ⟨x6.1, x6.2⟩, ?_, x8, ?_, ?_, ?_, ?_⟩
    · unfold am_isa
      rw [al_at x5.V (Or.inr (by decide)), ← o2]
      rfl
    · obtain ⟨t1, t2, t3⟩ := x7.S s5
      refine ⟨fun k hk => ?_, ?_, ?_⟩
      · rw [al_ov1 (by omega)]
        exact t1 k hk
      · rw [al_ov1 (by decide)]
        exact t2
      · rw [al_ov1 (by decide)]
        exact t3
    · rw [al_ov1 (by decide), x7.1 87 (Or.inr (by decide))]
      exact s7
    · rw [al_ov1 (by decide), x7.1 11 (Or.inl (by decide))]
      exact s8
    · show r'.2.1 ≤ _
      exact Nat.le_trans x7.2.2.1 (by omega)
    · show r'.2.2 ≤ _
      exact Nat.le_trans x7.2.2.2 (by omega)
  · obtain ⟨j, j1, -⟩ := x3
    cases j1
theorem al_s0 (hS : al_S xs N h i) (hi : i ≤ 600) (hN : 6 * i + 6 ≤ N) (hN2 : N ≤ 3072) (hx : xs (6 * i) &&& 31 = 0) : ∃ h3, am_exec 291 37 [.ref 11, .ref 12, .ref 40, .ref 87, .int (Int32.ofNat (6 * i)), am_U, am_U, am_U] [.int (xs (6 * i))] h = am_exec 291 23 [.ref 11, .ref 12, .ref 40, .ref 87, .int (Int32.ofNat (6 * (i + 1))), am_U, am_U, am_U] [] h3 ∧ al_S xs N h3 (i + 1) := by
  obtain ⟨p1, p2, p3, p4, p5⟩ := al_rk hS.sc hN hN2
  obtain ⟨c, v, h2, h3, e1, e2, hk, e3, e4, e5, e6, e7⟩ := al_call hS hi (fun hW hN hS hi hA => ac_lay hW hN hS hi hA) (wr_lay (a1 := xs (6 * i + 1)) (a2 := xs (6 * i + 2))) (by decide)
  obtain ⟨q1, q2, q3, q4, q5⟩ := al_rk e6 hN hN2
  have e8 := e7.c40
  obtain ⟨x, rfl⟩ := al_k0 hk
  refine ⟨h3, ?_, e7⟩
  rw [am_e291_37_0 hx]
  by_cases hc : c = 0
  · have e4 := al_ld (e4 hc _ rfl)
    simp only [am_e291_1901, am_e291_164, am_e291_171, am_e291_177, am_e291_181, am_e291_190, am_e291_196, am_e291_199, am_e291_205, am_e291_212, am_e291_210, am_e291_229, am_e291_217, am_e291_220, am_e291_227, am_bk, am_pu1, am_pu0, Option.bind_some, eq_self, am_nli, am_nlr, am_nln, am_nlu, if_true, if_false, not_true_eq_false, not_false_eq_true, am_10, am_01, p1, p2, p3, p4, p5, q1, q2, q3, q4, q5, e1, e2, e3, e5, e8, al_i6, hc, e4, al_cmp]
  · simp only [am_e291_1901, am_e291_164, am_e291_171, am_e291_177, am_e291_181, am_e291_190, am_e291_196, am_e291_199, am_e291_205, am_e291_212, am_e291_210, am_e291_229, am_e291_217, am_e291_220, am_e291_227, am_bk, am_pu1, am_pu0, Option.bind_some, eq_self, am_nli, am_nlr, am_nln, am_nlu, if_true, if_false, not_true_eq_false, not_false_eq_true, am_10, am_01, p1, p2, p3, p4, p5, q1, q2, q3, q4, q5, e1, e2, e3, e5, e8, al_i6, hc]
theorem al_s1 (hS : al_S xs N h i) (hi : i ≤ 600) (hN : 6 * i + 6 ≤ N) (hN2 : N ≤ 3072) (hx : xs (6 * i) &&& 31 = 1) : ∃ h3, am_exec 291 37 [.ref 11, .ref 12, .ref 40, .ref 87, .int (Int32.ofNat (6 * i)), am_U, am_U, am_U] [.int (xs (6 * i))] h = am_exec 291 23 [.ref 11, .ref 12, .ref 40, .ref 87, .int (Int32.ofNat (6 * (i + 1))), am_U, am_U, am_U] [] h3 ∧ al_S xs N h3 (i + 1) := by
  obtain ⟨p1, p2, p3, p4, p5⟩ := al_rk hS.sc hN hN2
  obtain ⟨c, v, h2, h3, e1, e2, hk, e3, e4, e5, e6, e7⟩ := al_call hS hi (fun hW hN hS hi hA => ac_need hW hN hi hA) (wr_need (a1 := xs (6 * i + 1)) (a2 := xs (6 * i + 2))) (by decide)
  obtain ⟨q1, q2, q3, q4, q5⟩ := al_rk e6 hN hN2
  have e8 := e7.c40
  obtain ⟨x, rfl⟩ := al_k0 hk
  refine ⟨h3, ?_, e7⟩
  rw [am_e291_37_1 hx]
  by_cases hc : c = 0
  · have e4 := al_ld (e4 hc _ rfl)
    simp only [am_e291_1901, am_e291_232, am_e291_239, am_e291_245, am_e291_249, am_e291_258, am_e291_264, am_e291_267, am_e291_273, am_e291_280, am_e291_278, am_e291_297, am_e291_285, am_e291_288, am_e291_295, am_bk, am_pu1, am_pu0, Option.bind_some, eq_self, am_nli, am_nlr, am_nln, am_nlu, if_true, if_false, not_true_eq_false, not_false_eq_true, am_10, am_01, p1, p2, p3, p4, p5, q1, q2, q3, q4, q5, e1, e2, e3, e5, e8, al_i6, hc, e4, al_cmp]
  · simp only [am_e291_1901, am_e291_232, am_e291_239, am_e291_245, am_e291_249, am_e291_258, am_e291_264, am_e291_267, am_e291_273, am_e291_280, am_e291_278, am_e291_297, am_e291_285, am_e291_288, am_e291_295, am_bk, am_pu1, am_pu0, Option.bind_some, eq_self, am_nli, am_nlr, am_nln, am_nlu, if_true, if_false, not_true_eq_false, not_false_eq_true, am_10, am_01, p1, p2, p3, p4, p5, q1, q2, q3, q4, q5, e1, e2, e3, e5, e8, al_i6, hc]
theorem al_s2 (hS : al_S xs N h i) (hi : i ≤ 600) (hN : 6 * i + 6 ≤ N) (hN2 : N ≤ 3072) (hx : xs (6 * i) &&& 31 = 2) : ∃ h3, am_exec 291 37 [.ref 11, .ref 12, .ref 40, .ref 87, .int (Int32.ofNat (6 * i)), am_U, am_U, am_U] [.int (xs (6 * i))] h = am_exec 291 23 [.ref 11, .ref 12, .ref 40, .ref 87, .int (Int32.ofNat (6 * (i + 1))), am_U, am_U, am_U] [] h3 ∧ al_S xs N h3 (i + 1) := by
  obtain ⟨p1, p2, p3, p4, p5⟩ := al_rk hS.sc hN hN2
  obtain ⟨c, v, h2, h3, e1, e2, hk, e3, e4, e5, e6, e7⟩ := al_call hS hi (fun hW hN hS hi hA => ac_place hW hN hS hi hA) (wr_place (a1 := xs (6 * i + 1)) (a2 := xs (6 * i + 2)) (a3 := xs (6 * i + 3))) (by decide)
  obtain ⟨q1, q2, q3, q4, q5⟩ := al_rk e6 hN hN2
  have e8 := e7.c40
  obtain ⟨x, rfl⟩ := al_k0 hk
  refine ⟨h3, ?_, e7⟩
  rw [am_e291_37_2 hx]
  by_cases hc : c = 0
  · have e4 := al_ld (e4 hc _ rfl)
    simp only [am_e291_1901, am_e291_300, am_e291_307, am_e291_313, am_e291_319, am_e291_323, am_e291_332, am_e291_338, am_e291_344, am_e291_347, am_e291_353, am_e291_360, am_e291_358, am_e291_377, am_e291_365, am_e291_368, am_e291_375, am_bk, am_pu1, am_pu0, Option.bind_some, eq_self, am_nli, am_nlr, am_nln, am_nlu, if_true, if_false, not_true_eq_false, not_false_eq_true, am_10, am_01, p1, p2, p3, p4, p5, q1, q2, q3, q4, q5, e1, e2, e3, e5, e8, al_i6, hc, e4, al_cmp]
  · simp only [am_e291_1901, am_e291_300, am_e291_307, am_e291_313, am_e291_319, am_e291_323, am_e291_332, am_e291_338, am_e291_344, am_e291_347, am_e291_353, am_e291_360, am_e291_358, am_e291_377, am_e291_365, am_e291_368, am_e291_375, am_bk, am_pu1, am_pu0, Option.bind_some, eq_self, am_nli, am_nlr, am_nln, am_nlu, if_true, if_false, not_true_eq_false, not_false_eq_true, am_10, am_01, p1, p2, p3, p4, p5, q1, q2, q3, q4, q5, e1, e2, e3, e5, e8, al_i6, hc]
theorem al_s3 (hS : al_S xs N h i) (hi : i ≤ 600) (hN : 6 * i + 6 ≤ N) (hN2 : N ≤ 3072) (hx : xs (6 * i) &&& 31 = 3) : ∃ h3, am_exec 291 37 [.ref 11, .ref 12, .ref 40, .ref 87, .int (Int32.ofNat (6 * i)), am_U, am_U, am_U] [.int (xs (6 * i))] h = am_exec 291 23 [.ref 11, .ref 12, .ref 40, .ref 87, .int (Int32.ofNat (6 * (i + 1))), am_U, am_U, am_U] [] h3 ∧ al_S xs N h3 (i + 1) := by
  obtain ⟨p1, p2, p3, p4, p5⟩ := al_rk hS.sc hN hN2
  obtain ⟨c, v, h2, h3, e1, e2, hk, e3, e4, e5, e6, e7⟩ := al_call hS hi (fun hW hN hS hi hA => ac_found hW hN hS hA) (wr_found (a1 := xs (6 * i + 1))) (by decide)
  obtain ⟨q1, q2, q3, q4, q5⟩ := al_rk e6 hN hN2
  have e8 := e7.c40
  obtain ⟨x, rfl⟩ := al_k0 hk
  refine ⟨h3, ?_, e7⟩
  rw [am_e291_37_3 hx]
  by_cases hc : c = 0
  · have e4 := al_ld (e4 hc _ rfl)
    simp only [am_e291_1901, am_e291_380, am_e291_387, am_e291_391, am_e291_400, am_e291_403, am_e291_409, am_e291_416, am_e291_414, am_e291_433, am_e291_421, am_e291_424, am_e291_431, am_bk, am_pu1, am_pu0, Option.bind_some, eq_self, am_nli, am_nlr, am_nln, am_nlu, if_true, if_false, not_true_eq_false, not_false_eq_true, am_10, am_01, p1, p2, p3, p4, p5, q1, q2, q3, q4, q5, e1, e2, e3, e5, e8, al_i6, hc, e4, al_cmp]
  · simp only [am_e291_1901, am_e291_380, am_e291_387, am_e291_391, am_e291_400, am_e291_403, am_e291_409, am_e291_416, am_e291_414, am_e291_433, am_e291_421, am_e291_424, am_e291_431, am_bk, am_pu1, am_pu0, Option.bind_some, eq_self, am_nli, am_nlr, am_nln, am_nlu, if_true, if_false, not_true_eq_false, not_false_eq_true, am_10, am_01, p1, p2, p3, p4, p5, q1, q2, q3, q4, q5, e1, e2, e3, e5, e8, al_i6, hc]
theorem al_s4 (hS : al_S xs N h i) (hi : i ≤ 600) (hN : 6 * i + 6 ≤ N) (hN2 : N ≤ 3072) (hx : xs (6 * i) &&& 31 = 4) : ∃ h3, am_exec 291 37 [.ref 11, .ref 12, .ref 40, .ref 87, .int (Int32.ofNat (6 * i)), am_U, am_U, am_U] [.int (xs (6 * i))] h = am_exec 291 23 [.ref 11, .ref 12, .ref 40, .ref 87, .int (Int32.ofNat (6 * (i + 1))), am_U, am_U, am_U] [] h3 ∧ al_S xs N h3 (i + 1) := by
  obtain ⟨p1, p2, p3, p4, p5⟩ := al_rk hS.sc hN hN2
  obtain ⟨c, v, h2, h3, e1, e2, hk, e3, e4, e5, e6, e7⟩ := al_call hS hi (fun hW hN hS hi hA => ac_order hW hN hA) (wr_order (a1 := xs (6 * i + 1)) (a2 := xs (6 * i + 2)) (a3 := xs (6 * i + 3)) (a4 := xs (6 * i + 4))) (by decide)
  obtain ⟨q1, q2, q3, q4, q5⟩ := al_rk e6 hN hN2
  have e8 := e7.c40
  have hk := al_k2 hk
  subst hk
  refine ⟨h3, ?_, e7⟩
  rw [am_e291_37_4 hx]
  simp only [am_e291_1901, am_e291_436, am_e291_443, am_e291_449, am_e291_455, am_e291_461, am_e291_464, am_e291_473, am_e291_479, am_e291_485, am_e291_491, am_e291_494, am_e291_498, am_e291_505, am_e291_503, am_bk, am_pu1, am_pu0, Option.bind_some, eq_self, am_nli, am_nlr, am_nln, am_nlu, if_true, if_false, not_true_eq_false, not_false_eq_true, am_10, am_01, p1, p2, p3, p4, p5, q1, q2, q3, q4, q5, e1, e2, e3, e5, e8, al_i6]
theorem al_s5 (hS : al_S xs N h i) (hi : i ≤ 600) (hN : 6 * i + 6 ≤ N) (hN2 : N ≤ 3072) (hx : xs (6 * i) &&& 31 = 5) : ∃ h3, am_exec 291 37 [.ref 11, .ref 12, .ref 40, .ref 87, .int (Int32.ofNat (6 * i)), am_U, am_U, am_U] [.int (xs (6 * i))] h = am_exec 291 23 [.ref 11, .ref 12, .ref 40, .ref 87, .int (Int32.ofNat (6 * (i + 1))), am_U, am_U, am_U] [] h3 ∧ al_S xs N h3 (i + 1) := by
  obtain ⟨p1, p2, p3, p4, p5⟩ := al_rk hS.sc hN hN2
  obtain ⟨c, v, h2, h3, e1, e2, hk, e3, e4, e5, e6, e7⟩ := al_call hS hi (fun hW hN hS hi hA => ac_queue hW hN hA) (wr_queue (a1 := xs (6 * i + 1)) (a2 := xs (6 * i + 2))) (by decide)
  obtain ⟨q1, q2, q3, q4, q5⟩ := al_rk e6 hN hN2
  have e8 := e7.c40
  obtain ⟨x, rfl⟩ := al_k0 hk
  refine ⟨h3, ?_, e7⟩
  rw [am_e291_37_5 hx]
  by_cases hc : c = 0
  · have e4 := al_ld (e4 hc _ rfl)
    simp only [am_e291_1901, am_e291_508, am_e291_515, am_e291_521, am_e291_525, am_e291_534, am_e291_540, am_e291_543, am_e291_549, am_e291_556, am_e291_554, am_e291_573, am_e291_561, am_e291_564, am_e291_571, am_bk, am_pu1, am_pu0, Option.bind_some, eq_self, am_nli, am_nlr, am_nln, am_nlu, if_true, if_false, not_true_eq_false, not_false_eq_true, am_10, am_01, p1, p2, p3, p4, p5, q1, q2, q3, q4, q5, e1, e2, e3, e5, e8, al_i6, hc, e4, al_cmp]
  · simp only [am_e291_1901, am_e291_508, am_e291_515, am_e291_521, am_e291_525, am_e291_534, am_e291_540, am_e291_543, am_e291_549, am_e291_556, am_e291_554, am_e291_573, am_e291_561, am_e291_564, am_e291_571, am_bk, am_pu1, am_pu0, Option.bind_some, eq_self, am_nli, am_nlr, am_nln, am_nlu, if_true, if_false, not_true_eq_false, not_false_eq_true, am_10, am_01, p1, p2, p3, p4, p5, q1, q2, q3, q4, q5, e1, e2, e3, e5, e8, al_i6, hc]
theorem al_s6 (hS : al_S xs N h i) (hi : i ≤ 600) (hN : 6 * i + 6 ≤ N) (hN2 : N ≤ 3072) (hx : xs (6 * i) &&& 31 = 6) : ∃ h3, am_exec 291 37 [.ref 11, .ref 12, .ref 40, .ref 87, .int (Int32.ofNat (6 * i)), am_U, am_U, am_U] [.int (xs (6 * i))] h = am_exec 291 23 [.ref 11, .ref 12, .ref 40, .ref 87, .int (Int32.ofNat (6 * (i + 1))), am_U, am_U, am_U] [] h3 ∧ al_S xs N h3 (i + 1) := by
  obtain ⟨p1, p2, p3, p4, p5⟩ := al_rk hS.sc hN hN2
  obtain ⟨c, v, h2, h3, e1, e2, hk, e3, e4, e5, e6, e7⟩ := al_call hS hi (fun hW hN hS hi hA => ac_unqueue hW hN hA) (wr_unqueue (a1 := xs (6 * i + 1)) (a2 := xs (6 * i + 2))) (by decide)
  obtain ⟨q1, q2, q3, q4, q5⟩ := al_rk e6 hN hN2
  have e8 := e7.c40
  obtain ⟨x, rfl⟩ := al_k0 hk
  refine ⟨h3, ?_, e7⟩
  rw [am_e291_37_6 hx]
  by_cases hc : c = 0
  · have e4 := al_ld (e4 hc _ rfl)
    simp only [am_e291_1901, am_e291_576, am_e291_583, am_e291_589, am_e291_593, am_e291_602, am_e291_608, am_e291_611, am_e291_617, am_e291_624, am_e291_622, am_e291_641, am_e291_629, am_e291_632, am_e291_639, am_bk, am_pu1, am_pu0, Option.bind_some, eq_self, am_nli, am_nlr, am_nln, am_nlu, if_true, if_false, not_true_eq_false, not_false_eq_true, am_10, am_01, p1, p2, p3, p4, p5, q1, q2, q3, q4, q5, e1, e2, e3, e5, e8, al_i6, hc, e4, al_cmp]
  · simp only [am_e291_1901, am_e291_576, am_e291_583, am_e291_589, am_e291_593, am_e291_602, am_e291_608, am_e291_611, am_e291_617, am_e291_624, am_e291_622, am_e291_641, am_e291_629, am_e291_632, am_e291_639, am_bk, am_pu1, am_pu0, Option.bind_some, eq_self, am_nli, am_nlr, am_nln, am_nlu, if_true, if_false, not_true_eq_false, not_false_eq_true, am_10, am_01, p1, p2, p3, p4, p5, q1, q2, q3, q4, q5, e1, e2, e3, e5, e8, al_i6, hc]
theorem al_s7 (hS : al_S xs N h i) (hi : i ≤ 600) (hN : 6 * i + 6 ≤ N) (hN2 : N ≤ 3072) (hx : xs (6 * i) &&& 31 = 7) : ∃ h3, am_exec 291 37 [.ref 11, .ref 12, .ref 40, .ref 87, .int (Int32.ofNat (6 * i)), am_U, am_U, am_U] [.int (xs (6 * i))] h = am_exec 291 23 [.ref 11, .ref 12, .ref 40, .ref 87, .int (Int32.ofNat (6 * (i + 1))), am_U, am_U, am_U] [] h3 ∧ al_S xs N h3 (i + 1) := by
  obtain ⟨p1, p2, p3, p4, p5⟩ := al_rk hS.sc hN hN2
  obtain ⟨c, v, h2, h3, e1, e2, hk, e3, e4, e5, e6, e7⟩ := al_call hS hi (fun hW hN hS hi hA => ac_hurry hW hN hS hi hA) (wr_hurry (a1 := xs (6 * i + 1))) (by decide)
  obtain ⟨q1, q2, q3, q4, q5⟩ := al_rk e6 hN hN2
  have e8 := e7.c40
  obtain ⟨x, rfl⟩ := al_k0 hk
  refine ⟨h3, ?_, e7⟩
  rw [am_e291_37_7 hx]
  by_cases hc : c = 0
  · have e4 := al_ld (e4 hc _ rfl)
    simp only [am_e291_1901, am_e291_644, am_e291_651, am_e291_655, am_e291_664, am_e291_667, am_e291_673, am_e291_680, am_e291_678, am_e291_697, am_e291_685, am_e291_688, am_e291_695, am_bk, am_pu1, am_pu0, Option.bind_some, eq_self, am_nli, am_nlr, am_nln, am_nlu, if_true, if_false, not_true_eq_false, not_false_eq_true, am_10, am_01, p1, p2, p3, p4, p5, q1, q2, q3, q4, q5, e1, e2, e3, e5, e8, al_i6, hc, e4, al_cmp]
  · simp only [am_e291_1901, am_e291_644, am_e291_651, am_e291_655, am_e291_664, am_e291_667, am_e291_673, am_e291_680, am_e291_678, am_e291_697, am_e291_685, am_e291_688, am_e291_695, am_bk, am_pu1, am_pu0, Option.bind_some, eq_self, am_nli, am_nlr, am_nln, am_nlu, if_true, if_false, not_true_eq_false, not_false_eq_true, am_10, am_01, p1, p2, p3, p4, p5, q1, q2, q3, q4, q5, e1, e2, e3, e5, e8, al_i6, hc]
theorem al_s8 (hS : al_S xs N h i) (hi : i ≤ 600) (hN : 6 * i + 6 ≤ N) (hN2 : N ≤ 3072) (hx : xs (6 * i) &&& 31 = 8) : ∃ h3, am_exec 291 37 [.ref 11, .ref 12, .ref 40, .ref 87, .int (Int32.ofNat (6 * i)), am_U, am_U, am_U] [.int (xs (6 * i))] h = am_exec 291 23 [.ref 11, .ref 12, .ref 40, .ref 87, .int (Int32.ofNat (6 * (i + 1))), am_U, am_U, am_U] [] h3 ∧ al_S xs N h3 (i + 1) := by
  obtain ⟨p1, p2, p3, p4, p5⟩ := al_rk hS.sc hN hN2
  obtain ⟨c, v, h2, h3, e1, e2, hk, e3, e4, e5, e6, e7⟩ := al_call hS hi (fun hW hN hS hi hA => ac_learn hW hN hA) (wr_learn (a1 := xs (6 * i + 1)) (a2 := xs (6 * i + 2))) (by decide)
  obtain ⟨q1, q2, q3, q4, q5⟩ := al_rk e6 hN hN2
  have e8 := e7.c40
  have hk := al_k2 hk
  subst hk
  refine ⟨h3, ?_, e7⟩
  rw [am_e291_37_8 hx]
  simp only [am_e291_1901, am_e291_700, am_e291_707, am_e291_713, am_e291_716, am_e291_725, am_e291_731, am_e291_734, am_e291_738, am_e291_745, am_e291_743, am_bk, am_pu1, am_pu0, Option.bind_some, eq_self, am_nli, am_nlr, am_nln, am_nlu, if_true, if_false, not_true_eq_false, not_false_eq_true, am_10, am_01, p1, p2, p3, p4, p5, q1, q2, q3, q4, q5, e1, e2, e3, e5, e8, al_i6]
theorem al_s9 (hS : al_S xs N h i) (hi : i ≤ 600) (hN : 6 * i + 6 ≤ N) (hN2 : N ≤ 3072) (hx : xs (6 * i) &&& 31 = 9) : ∃ h3, am_exec 291 37 [.ref 11, .ref 12, .ref 40, .ref 87, .int (Int32.ofNat (6 * i)), am_U, am_U, am_U] [.int (xs (6 * i))] h = am_exec 291 23 [.ref 11, .ref 12, .ref 40, .ref 87, .int (Int32.ofNat (6 * (i + 1))), am_U, am_U, am_U] [] h3 ∧ al_S xs N h3 (i + 1) := by
  obtain ⟨p1, p2, p3, p4, p5⟩ := al_rk hS.sc hN hN2
  obtain ⟨c, v, h2, h3, e1, e2, hk, e3, e4, e5, e6, e7⟩ := al_call hS hi (fun hW hN hS hi hA => ac_setParts hW hN hA) (wr_setParts (a1 := xs (6 * i + 1)) (a2 := xs (6 * i + 2))) (by decide)
  obtain ⟨q1, q2, q3, q4, q5⟩ := al_rk e6 hN hN2
  have e8 := e7.c40
  obtain ⟨x, rfl⟩ := al_k0 hk
  refine ⟨h3, ?_, e7⟩
  rw [am_e291_37_9 hx]
  by_cases hc : c = 0
  · have e4 := al_ld (e4 hc _ rfl)
    simp only [am_e291_1901, am_e291_748, am_e291_755, am_e291_761, am_e291_765, am_e291_774, am_e291_780, am_e291_783, am_e291_789, am_e291_796, am_e291_794, am_e291_813, am_e291_801, am_e291_804, am_e291_811, am_bk, am_pu1, am_pu0, Option.bind_some, eq_self, am_nli, am_nlr, am_nln, am_nlu, if_true, if_false, not_true_eq_false, not_false_eq_true, am_10, am_01, p1, p2, p3, p4, p5, q1, q2, q3, q4, q5, e1, e2, e3, e5, e8, al_i6, hc, e4, al_cmp]
  · simp only [am_e291_1901, am_e291_748, am_e291_755, am_e291_761, am_e291_765, am_e291_774, am_e291_780, am_e291_783, am_e291_789, am_e291_796, am_e291_794, am_e291_813, am_e291_801, am_e291_804, am_e291_811, am_bk, am_pu1, am_pu0, Option.bind_some, eq_self, am_nli, am_nlr, am_nln, am_nlu, if_true, if_false, not_true_eq_false, not_false_eq_true, am_10, am_01, p1, p2, p3, p4, p5, q1, q2, q3, q4, q5, e1, e2, e3, e5, e8, al_i6, hc]
theorem al_s10 (hS : al_S xs N h i) (hi : i ≤ 600) (hN : 6 * i + 6 ≤ N) (hN2 : N ≤ 3072) (hx : xs (6 * i) &&& 31 = 10) : ∃ h3, am_exec 291 37 [.ref 11, .ref 12, .ref 40, .ref 87, .int (Int32.ofNat (6 * i)), am_U, am_U, am_U] [.int (xs (6 * i))] h = am_exec 291 23 [.ref 11, .ref 12, .ref 40, .ref 87, .int (Int32.ofNat (6 * (i + 1))), am_U, am_U, am_U] [] h3 ∧ al_S xs N h3 (i + 1) := by
  obtain ⟨p1, p2, p3, p4, p5⟩ := al_rk hS.sc hN hN2
  obtain ⟨c, v, h2, h3, e1, e2, hk, e3, e4, e5, e6, e7⟩ := al_call hS hi (fun hW hN hS hi hA => ac_offer hW hN hA) (wr_offer (a1 := xs (6 * i + 1)) (a2 := xs (6 * i + 2)) (a3 := xs (6 * i + 3)) (a4 := xs (6 * i + 4)) (a5 := xs (6 * i + 5))) (by decide)
  obtain ⟨q1, q2, q3, q4, q5⟩ := al_rk e6 hN hN2
  have e8 := e7.c40
  have hk := al_k2 hk
  subst hk
  refine ⟨h3, ?_, e7⟩
  rw [am_e291_37_10 hx]
  simp only [am_e291_1901, am_e291_816, am_e291_823, am_e291_829, am_e291_835, am_e291_841, am_e291_847, am_e291_850, am_e291_859, am_e291_865, am_e291_871, am_e291_877, am_e291_883, am_e291_886, am_e291_890, am_e291_897, am_e291_895, am_bk, am_pu1, am_pu0, Option.bind_some, eq_self, am_nli, am_nlr, am_nln, am_nlu, if_true, if_false, not_true_eq_false, not_false_eq_true, am_10, am_01, p1, p2, p3, p4, p5, q1, q2, q3, q4, q5, e1, e2, e3, e5, e8, al_i6]
theorem al_s11 (hS : al_S xs N h i) (hi : i ≤ 600) (hN : 6 * i + 6 ≤ N) (hN2 : N ≤ 3072) (hx : xs (6 * i) &&& 31 = 11) : ∃ h3, am_exec 291 37 [.ref 11, .ref 12, .ref 40, .ref 87, .int (Int32.ofNat (6 * i)), am_U, am_U, am_U] [.int (xs (6 * i))] h = am_exec 291 23 [.ref 11, .ref 12, .ref 40, .ref 87, .int (Int32.ofNat (6 * (i + 1))), am_U, am_U, am_U] [] h3 ∧ al_S xs N h3 (i + 1) := by
  obtain ⟨p1, p2, p3, p4, p5⟩ := al_rk hS.sc hN hN2
  obtain ⟨c, v, h2, h3, e1, e2, hk, e3, e4, e5, e6, e7⟩ := al_call hS hi (fun hW hN hS hi hA => ac_agree hW hN hS hA) (wr_agree (a1 := xs (6 * i + 1)) (a2 := xs (6 * i + 2))) (by decide)
  obtain ⟨q1, q2, q3, q4, q5⟩ := al_rk e6 hN hN2
  have e8 := e7.c40
  obtain ⟨x, rfl⟩ := al_k0 hk
  refine ⟨h3, ?_, e7⟩
  rw [am_e291_37_11 hx]
  by_cases hc : c = 0
  · have e4 := al_ld (e4 hc _ rfl)
    simp only [am_e291_1901, am_e291_900, am_e291_907, am_e291_913, am_e291_917, am_e291_926, am_e291_932, am_e291_935, am_e291_941, am_e291_948, am_e291_946, am_e291_965, am_e291_953, am_e291_956, am_e291_963, am_bk, am_pu1, am_pu0, Option.bind_some, eq_self, am_nli, am_nlr, am_nln, am_nlu, if_true, if_false, not_true_eq_false, not_false_eq_true, am_10, am_01, p1, p2, p3, p4, p5, q1, q2, q3, q4, q5, e1, e2, e3, e5, e8, al_i6, hc, e4, al_cmp]
  · simp only [am_e291_1901, am_e291_900, am_e291_907, am_e291_913, am_e291_917, am_e291_926, am_e291_932, am_e291_935, am_e291_941, am_e291_948, am_e291_946, am_e291_965, am_e291_953, am_e291_956, am_e291_963, am_bk, am_pu1, am_pu0, Option.bind_some, eq_self, am_nli, am_nlr, am_nln, am_nlu, if_true, if_false, not_true_eq_false, not_false_eq_true, am_10, am_01, p1, p2, p3, p4, p5, q1, q2, q3, q4, q5, e1, e2, e3, e5, e8, al_i6, hc]
theorem al_s12 (hS : al_S xs N h i) (hi : i ≤ 600) (hN : 6 * i + 6 ≤ N) (hN2 : N ≤ 3072) (hx : xs (6 * i) &&& 31 = 12) : ∃ h3, am_exec 291 37 [.ref 11, .ref 12, .ref 40, .ref 87, .int (Int32.ofNat (6 * i)), am_U, am_U, am_U] [.int (xs (6 * i))] h = am_exec 291 23 [.ref 11, .ref 12, .ref 40, .ref 87, .int (Int32.ofNat (6 * (i + 1))), am_U, am_U, am_U] [] h3 ∧ al_S xs N h3 (i + 1) := by
  obtain ⟨p1, p2, p3, p4, p5⟩ := al_rk hS.sc hN hN2
  obtain ⟨c, v, h2, h3, e1, e2, hk, e3, e4, e5, e6, e7⟩ := al_call hS hi (fun hW hN hS hi hA => ac_cancel hW hN hA) (wr_cancel (a1 := xs (6 * i + 1)) (a2 := xs (6 * i + 2))) (by decide)
  obtain ⟨q1, q2, q3, q4, q5⟩ := al_rk e6 hN hN2
  have e8 := e7.c40
  obtain ⟨x, rfl⟩ := al_k0 hk
  refine ⟨h3, ?_, e7⟩
  rw [am_e291_37_12 hx]
  by_cases hc : c = 0
  · have e4 := al_ld (e4 hc _ rfl)
    simp only [am_e291_1901, am_e291_968, am_e291_975, am_e291_981, am_e291_985, am_e291_994, am_e291_1000, am_e291_1003, am_e291_1009, am_e291_1016, am_e291_1014, am_e291_1033, am_e291_1021, am_e291_1024, am_e291_1031, am_bk, am_pu1, am_pu0, Option.bind_some, eq_self, am_nli, am_nlr, am_nln, am_nlu, if_true, if_false, not_true_eq_false, not_false_eq_true, am_10, am_01, p1, p2, p3, p4, p5, q1, q2, q3, q4, q5, e1, e2, e3, e5, e8, al_i6, hc, e4, al_cmp]
  · simp only [am_e291_1901, am_e291_968, am_e291_975, am_e291_981, am_e291_985, am_e291_994, am_e291_1000, am_e291_1003, am_e291_1009, am_e291_1016, am_e291_1014, am_e291_1033, am_e291_1021, am_e291_1024, am_e291_1031, am_bk, am_pu1, am_pu0, Option.bind_some, eq_self, am_nli, am_nlr, am_nln, am_nlu, if_true, if_false, not_true_eq_false, not_false_eq_true, am_10, am_01, p1, p2, p3, p4, p5, q1, q2, q3, q4, q5, e1, e2, e3, e5, e8, al_i6, hc]
theorem al_s13 (hS : al_S xs N h i) (hi : i ≤ 600) (hN : 6 * i + 6 ≤ N) (hN2 : N ≤ 3072) (hx : xs (6 * i) &&& 31 = 13) : ∃ h3, am_exec 291 37 [.ref 11, .ref 12, .ref 40, .ref 87, .int (Int32.ofNat (6 * i)), am_U, am_U, am_U] [.int (xs (6 * i))] h = am_exec 291 23 [.ref 11, .ref 12, .ref 40, .ref 87, .int (Int32.ofNat (6 * (i + 1))), am_U, am_U, am_U] [] h3 ∧ al_S xs N h3 (i + 1) := by
  obtain ⟨p1, p2, p3, p4, p5⟩ := al_rk hS.sc hN hN2
  obtain ⟨c, v, h2, h3, e1, e2, hk, e3, e4, e5, e6, e7⟩ := al_call hS hi (fun hW hN hS hi hA => ac_treaty hW hN hA) (wr_treaty (a1 := xs (6 * i + 1)) (a2 := xs (6 * i + 2))) (by decide)
  obtain ⟨q1, q2, q3, q4, q5⟩ := al_rk e6 hN hN2
  have e8 := e7.c40
  obtain ⟨x, rfl⟩ := al_k0 hk
  refine ⟨h3, ?_, e7⟩
  rw [am_e291_37_13 hx]
  by_cases hc : c = 0
  · have e4 := al_ld (e4 hc _ rfl)
    simp only [am_e291_1901, am_e291_1036, am_e291_1043, am_e291_1049, am_e291_1053, am_e291_1062, am_e291_1068, am_e291_1071, am_e291_1077, am_e291_1084, am_e291_1082, am_e291_1101, am_e291_1089, am_e291_1092, am_e291_1099, am_bk, am_pu1, am_pu0, Option.bind_some, eq_self, am_nli, am_nlr, am_nln, am_nlu, if_true, if_false, not_true_eq_false, not_false_eq_true, am_10, am_01, p1, p2, p3, p4, p5, q1, q2, q3, q4, q5, e1, e2, e3, e5, e8, al_i6, hc, e4, al_cmp]
  · simp only [am_e291_1901, am_e291_1036, am_e291_1043, am_e291_1049, am_e291_1053, am_e291_1062, am_e291_1068, am_e291_1071, am_e291_1077, am_e291_1084, am_e291_1082, am_e291_1101, am_e291_1089, am_e291_1092, am_e291_1099, am_bk, am_pu1, am_pu0, Option.bind_some, eq_self, am_nli, am_nlr, am_nln, am_nlu, if_true, if_false, not_true_eq_false, not_false_eq_true, am_10, am_01, p1, p2, p3, p4, p5, q1, q2, q3, q4, q5, e1, e2, e3, e5, e8, al_i6, hc]
theorem al_s14 (hS : al_S xs N h i) (hi : i ≤ 600) (hN : 6 * i + 6 ≤ N) (hN2 : N ≤ 3072) (hx : xs (6 * i) &&& 31 = 14) : ∃ h3, am_exec 291 37 [.ref 11, .ref 12, .ref 40, .ref 87, .int (Int32.ofNat (6 * i)), am_U, am_U, am_U] [.int (xs (6 * i))] h = am_exec 291 23 [.ref 11, .ref 12, .ref 40, .ref 87, .int (Int32.ofNat (6 * (i + 1))), am_U, am_U, am_U] [] h3 ∧ al_S xs N h3 (i + 1) := by
  obtain ⟨p1, p2, p3, p4, p5⟩ := al_rk hS.sc hN hN2
  obtain ⟨c, v, h2, h3, e1, e2, hk, e3, e4, e5, e6, e7⟩ := al_call hS hi (fun hW hN hS hi hA => ac_atWar hW hN hA) (wr_atWar (a1 := xs (6 * i + 1)) (a2 := xs (6 * i + 2))) (by decide)
  obtain ⟨q1, q2, q3, q4, q5⟩ := al_rk e6 hN hN2
  have e8 := e7.c40
  obtain ⟨x, rfl⟩ := al_k0 hk
  refine ⟨h3, ?_, e7⟩
  rw [am_e291_37_14 hx]
  by_cases hc : c = 0
  · have e4 := al_ld (e4 hc _ rfl)
    by_cases hq : x = 0
    · rw [if_pos hq] at e4
      simp only [am_e291_1901, am_e291_1104, am_e291_1111, am_e291_1117, am_e291_1121, am_e291_1130, am_e291_1136, am_e291_1139, am_e291_1145, am_e291_1152, am_e291_1150, am_e291_1176, am_e291_1157, am_e291_1160, am_e291_1169, am_e291_1165, am_e291_1174, am_bk, am_pu1, am_pu0, Option.bind_some, eq_self, am_nli, am_nlr, am_nln, am_nlu, if_true, if_false, not_true_eq_false, not_false_eq_true, am_10, am_01, p1, p2, p3, p4, p5, q1, q2, q3, q4, q5, e1, e2, e3, e5, e8, al_i6, hc, hq, e4, al_cmp]
    · rw [if_neg hq] at e4
      simp only [am_e291_1901, am_e291_1104, am_e291_1111, am_e291_1117, am_e291_1121, am_e291_1130, am_e291_1136, am_e291_1139, am_e291_1145, am_e291_1152, am_e291_1150, am_e291_1176, am_e291_1157, am_e291_1160, am_e291_1169, am_e291_1165, am_e291_1174, am_bk, am_pu1, am_pu0, Option.bind_some, eq_self, am_nli, am_nlr, am_nln, am_nlu, if_true, if_false, not_true_eq_false, not_false_eq_true, am_10, am_01, p1, p2, p3, p4, p5, q1, q2, q3, q4, q5, e1, e2, e3, e5, e8, al_i6, hc, hq, e4, al_cmp]
  · simp only [am_e291_1901, am_e291_1104, am_e291_1111, am_e291_1117, am_e291_1121, am_e291_1130, am_e291_1136, am_e291_1139, am_e291_1145, am_e291_1152, am_e291_1150, am_e291_1176, am_e291_1157, am_e291_1160, am_e291_1169, am_e291_1165, am_e291_1174, am_bk, am_pu1, am_pu0, Option.bind_some, eq_self, am_nli, am_nlr, am_nln, am_nlu, if_true, if_false, not_true_eq_false, not_false_eq_true, am_10, am_01, p1, p2, p3, p4, p5, q1, q2, q3, q4, q5, e1, e2, e3, e5, e8, al_i6, hc]
theorem al_s15 (hS : al_S xs N h i) (hi : i ≤ 600) (hN : 6 * i + 6 ≤ N) (hN2 : N ≤ 3072) (hx : xs (6 * i) &&& 31 = 15) : ∃ h3, am_exec 291 37 [.ref 11, .ref 12, .ref 40, .ref 87, .int (Int32.ofNat (6 * i)), am_U, am_U, am_U] [.int (xs (6 * i))] h = am_exec 291 23 [.ref 11, .ref 12, .ref 40, .ref 87, .int (Int32.ofNat (6 * (i + 1))), am_U, am_U, am_U] [] h3 ∧ al_S xs N h3 (i + 1) := by
  obtain ⟨p1, p2, p3, p4, p5⟩ := al_rk hS.sc hN hN2
  obtain ⟨c, v, h2, h3, e1, e2, hk, e3, e4, e5, e6, e7⟩ := al_call hS hi (fun hW hN hS hi hA => ac_step hW hN hS hi hA) (wr_step (a1 := xs (6 * i + 1)) (a2 := xs (6 * i + 2)) (a3 := xs (6 * i + 3))) (by decide)
  obtain ⟨q1, q2, q3, q4, q5⟩ := al_rk e6 hN hN2
  have e8 := e7.c40
  obtain ⟨x, rfl⟩ := al_k0 hk
  refine ⟨h3, ?_, e7⟩
  rw [am_e291_37_15 hx]
  by_cases hc : c = 0
  · have e4 := al_ld (e4 hc _ rfl)
    by_cases hq : x = 0
    · rw [if_pos hq] at e4
      simp only [am_e291_1901, am_e291_1179, am_e291_1186, am_e291_1192, am_e291_1198, am_e291_1202, am_e291_1211, am_e291_1217, am_e291_1223, am_e291_1226, am_e291_1232, am_e291_1239, am_e291_1237, am_e291_1263, am_e291_1244, am_e291_1247, am_e291_1256, am_e291_1252, am_e291_1261, am_bk, am_pu1, am_pu0, Option.bind_some, eq_self, am_nli, am_nlr, am_nln, am_nlu, if_true, if_false, not_true_eq_false, not_false_eq_true, am_10, am_01, p1, p2, p3, p4, p5, q1, q2, q3, q4, q5, e1, e2, e3, e5, e8, al_i6, hc, hq, e4, al_cmp]
    · rw [if_neg hq] at e4
      simp only [am_e291_1901, am_e291_1179, am_e291_1186, am_e291_1192, am_e291_1198, am_e291_1202, am_e291_1211, am_e291_1217, am_e291_1223, am_e291_1226, am_e291_1232, am_e291_1239, am_e291_1237, am_e291_1263, am_e291_1244, am_e291_1247, am_e291_1256, am_e291_1252, am_e291_1261, am_bk, am_pu1, am_pu0, Option.bind_some, eq_self, am_nli, am_nlr, am_nln, am_nlu, if_true, if_false, not_true_eq_false, not_false_eq_true, am_10, am_01, p1, p2, p3, p4, p5, q1, q2, q3, q4, q5, e1, e2, e3, e5, e8, al_i6, hc, hq, e4, al_cmp]
  · simp only [am_e291_1901, am_e291_1179, am_e291_1186, am_e291_1192, am_e291_1198, am_e291_1202, am_e291_1211, am_e291_1217, am_e291_1223, am_e291_1226, am_e291_1232, am_e291_1239, am_e291_1237, am_e291_1263, am_e291_1244, am_e291_1247, am_e291_1256, am_e291_1252, am_e291_1261, am_bk, am_pu1, am_pu0, Option.bind_some, eq_self, am_nli, am_nlr, am_nln, am_nlu, if_true, if_false, not_true_eq_false, not_false_eq_true, am_10, am_01, p1, p2, p3, p4, p5, q1, q2, q3, q4, q5, e1, e2, e3, e5, e8, al_i6, hc]
theorem al_s16 (hS : al_S xs N h i) (hi : i ≤ 600) (hN : 6 * i + 6 ≤ N) (hN2 : N ≤ 3072) (hx : xs (6 * i) &&& 31 = 16) : ∃ h3, am_exec 291 37 [.ref 11, .ref 12, .ref 40, .ref 87, .int (Int32.ofNat (6 * i)), am_U, am_U, am_U] [.int (xs (6 * i))] h = am_exec 291 23 [.ref 11, .ref 12, .ref 40, .ref 87, .int (Int32.ofNat (6 * (i + 1))), am_U, am_U, am_U] [] h3 ∧ al_S xs N h3 (i + 1) := by
  obtain ⟨p1, p2, p3, p4, p5⟩ := al_rk hS.sc hN hN2
  obtain ⟨c, v, h2, h3, e1, e2, hk, e3, e4, e5, e6, e7⟩ := al_call hS hi (fun hW hN hS hi hA => ac_work hW hN hA) (wr_work (a1 := xs (6 * i + 1)) (a2 := xs (6 * i + 2))) (by decide)
  obtain ⟨q1, q2, q3, q4, q5⟩ := al_rk e6 hN hN2
  have e8 := e7.c40
  have hk := al_k2 hk
  subst hk
  refine ⟨h3, ?_, e7⟩
  rw [am_e291_37_16 hx]
  simp only [am_e291_1901, am_e291_1266, am_e291_1273, am_e291_1279, am_e291_1282, am_e291_1291, am_e291_1297, am_e291_1300, am_e291_1304, am_e291_1311, am_e291_1309, am_bk, am_pu1, am_pu0, Option.bind_some, eq_self, am_nli, am_nlr, am_nln, am_nlu, if_true, if_false, not_true_eq_false, not_false_eq_true, am_10, am_01, p1, p2, p3, p4, p5, q1, q2, q3, q4, q5, e1, e2, e3, e5, e8, al_i6]
theorem al_s17 (hS : al_S xs N h i) (hi : i ≤ 600) (hN : 6 * i + 6 ≤ N) (hN2 : N ≤ 3072) (hx : xs (6 * i) &&& 31 = 17) : ∃ h3, am_exec 291 37 [.ref 11, .ref 12, .ref 40, .ref 87, .int (Int32.ofNat (6 * i)), am_U, am_U, am_U] [.int (xs (6 * i))] h = am_exec 291 23 [.ref 11, .ref 12, .ref 40, .ref 87, .int (Int32.ofNat (6 * (i + 1))), am_U, am_U, am_U] [] h3 ∧ al_S xs N h3 (i + 1) := by
  obtain ⟨p1, p2, p3, p4, p5⟩ := al_rk hS.sc hN hN2
  obtain ⟨c, v, h2, h3, e1, e2, hk, e3, e4, e5, e6, e7⟩ := al_call hS hi (fun hW hN hS hi hA => ac_unit hW hN hA) (wr_unit (a1 := xs (6 * i + 1)) (a2 := xs (6 * i + 2))) (by decide)
  obtain ⟨q1, q2, q3, q4, q5⟩ := al_rk e6 hN hN2
  have e8 := e7.c40
  obtain ⟨x, rfl⟩ := al_k0 hk
  refine ⟨h3, ?_, e7⟩
  rw [am_e291_37_17 hx]
  by_cases hc : c = 0
  · have e4 := al_ld (e4 hc _ rfl)
    simp only [am_e291_1901, am_e291_1314, am_e291_1321, am_e291_1327, am_e291_1331, am_e291_1340, am_e291_1346, am_e291_1349, am_e291_1355, am_e291_1362, am_e291_1360, am_e291_1379, am_e291_1367, am_e291_1370, am_e291_1377, am_bk, am_pu1, am_pu0, Option.bind_some, eq_self, am_nli, am_nlr, am_nln, am_nlu, if_true, if_false, not_true_eq_false, not_false_eq_true, am_10, am_01, p1, p2, p3, p4, p5, q1, q2, q3, q4, q5, e1, e2, e3, e5, e8, al_i6, hc, e4, al_cmp]
  · simp only [am_e291_1901, am_e291_1314, am_e291_1321, am_e291_1327, am_e291_1331, am_e291_1340, am_e291_1346, am_e291_1349, am_e291_1355, am_e291_1362, am_e291_1360, am_e291_1379, am_e291_1367, am_e291_1370, am_e291_1377, am_bk, am_pu1, am_pu0, Option.bind_some, eq_self, am_nli, am_nlr, am_nln, am_nlu, if_true, if_false, not_true_eq_false, not_false_eq_true, am_10, am_01, p1, p2, p3, p4, p5, q1, q2, q3, q4, q5, e1, e2, e3, e5, e8, al_i6, hc]
theorem al_s18 (hS : al_S xs N h i) (hi : i ≤ 600) (hN : 6 * i + 6 ≤ N) (hN2 : N ≤ 3072) (hx : xs (6 * i) &&& 31 = 18) : ∃ h3, am_exec 291 37 [.ref 11, .ref 12, .ref 40, .ref 87, .int (Int32.ofNat (6 * i)), am_U, am_U, am_U] [.int (xs (6 * i))] h = am_exec 291 23 [.ref 11, .ref 12, .ref 40, .ref 87, .int (Int32.ofNat (6 * (i + 1))), am_U, am_U, am_U] [] h3 ∧ al_S xs N h3 (i + 1) := by
  obtain ⟨p1, p2, p3, p4, p5⟩ := al_rk hS.sc hN hN2
  obtain ⟨c, v, h2, h3, e1, e2, hk, e3, e4, e5, e6, e7⟩ := al_call hS hi (fun hW hN hS hi hA => ac_unitsOn hW hN hA) (wr_unitsOn (a1 := xs (6 * i + 1))) (by decide)
  obtain ⟨q1, q2, q3, q4, q5⟩ := al_rk e6 hN hN2
  have e8 := e7.c40
  obtain ⟨x, rfl⟩ := al_k0 hk
  refine ⟨h3, ?_, e7⟩
  rw [am_e291_37_18 hx]
  by_cases hc : c = 0
  · have e4 := al_ld (e4 hc _ rfl)
    simp only [am_e291_1901, am_e291_1382, am_e291_1389, am_e291_1393, am_e291_1402, am_e291_1405, am_e291_1411, am_e291_1418, am_e291_1416, am_e291_1435, am_e291_1423, am_e291_1426, am_e291_1433, am_bk, am_pu1, am_pu0, Option.bind_some, eq_self, am_nli, am_nlr, am_nln, am_nlu, if_true, if_false, not_true_eq_false, not_false_eq_true, am_10, am_01, p1, p2, p3, p4, p5, q1, q2, q3, q4, q5, e1, e2, e3, e5, e8, al_i6, hc, e4, al_cmp]
  · simp only [am_e291_1901, am_e291_1382, am_e291_1389, am_e291_1393, am_e291_1402, am_e291_1405, am_e291_1411, am_e291_1418, am_e291_1416, am_e291_1435, am_e291_1423, am_e291_1426, am_e291_1433, am_bk, am_pu1, am_pu0, Option.bind_some, eq_self, am_nli, am_nlr, am_nln, am_nlu, if_true, if_false, not_true_eq_false, not_false_eq_true, am_10, am_01, p1, p2, p3, p4, p5, q1, q2, q3, q4, q5, e1, e2, e3, e5, e8, al_i6, hc]
theorem al_s19 (hS : al_S xs N h i) (hi : i ≤ 600) (hN : 6 * i + 6 ≤ N) (hN2 : N ≤ 3072) (hx : xs (6 * i) &&& 31 = 19) : ∃ h3, am_exec 291 37 [.ref 11, .ref 12, .ref 40, .ref 87, .int (Int32.ofNat (6 * i)), am_U, am_U, am_U] [.int (xs (6 * i))] h = am_exec 291 23 [.ref 11, .ref 12, .ref 40, .ref 87, .int (Int32.ofNat (6 * (i + 1))), am_U, am_U, am_U] [] h3 ∧ al_S xs N h3 (i + 1) := by
  obtain ⟨p1, p2, p3, p4, p5⟩ := al_rk hS.sc hN hN2
  have h12 := hS.c12
  obtain ⟨v, h2, h3, e1, e2, hk, e5, e7⟩ := al_turn hS hi
  obtain ⟨x, rfl⟩ := al_k0 hk
  refine ⟨h3, ?_, e7⟩
  rw [am_e291_37_19 hx]
  simp only [am_e291_1901, am_e291_1438, am_e291_1442, am_e291_1446, am_e291_1449, am_bk, am_pu1, am_pu0, Option.bind_some, eq_self, am_nli, am_nlr, am_nln, am_nlu, if_true, if_false, not_true_eq_false, not_false_eq_true, am_10, am_01, h12, e1, e5, e2, al_i6]
theorem al_s20 (hS : al_S xs N h i) (hi : i ≤ 600) (hN : 6 * i + 6 ≤ N) (hN2 : N ≤ 3072) (hx : xs (6 * i) &&& 31 = 20) : ∃ h3, am_exec 291 37 [.ref 11, .ref 12, .ref 40, .ref 87, .int (Int32.ofNat (6 * i)), am_U, am_U, am_U] [.int (xs (6 * i))] h = am_exec 291 23 [.ref 11, .ref 12, .ref 40, .ref 87, .int (Int32.ofNat (6 * (i + 1))), am_U, am_U, am_U] [] h3 ∧ al_S xs N h3 (i + 1) := by
  obtain ⟨p1, p2, p3, p4, p5⟩ := al_rk hS.sc hN hN2
  obtain ⟨c, v, h2, h3, e1, e2, hk, e3, e4, e5, e6, e7⟩ := al_call hS hi (fun hW hN hS hi hA => ac_plan hW hN hS hi hA) (wr_plan (a1 := xs (6 * i + 1))) (by decide)
  obtain ⟨q1, q2, q3, q4, q5⟩ := al_rk e6 hN hN2
  have e8 := e7.c40
  obtain ⟨x, rfl⟩ := al_k1 hk
  refine ⟨h3, ?_, e7⟩
  rw [am_e291_37_20 hx]
  by_cases hc : c = 0
  · have e4 := al_ld (e4 hc _ rfl)
    simp only [am_e291_1901, am_e291_1451, am_e291_1458, am_e291_1462, am_e291_1471, am_e291_1474, am_e291_1480, am_e291_1487, am_e291_1485, am_e291_1503, am_e291_1492, am_e291_1495, am_e291_1501, am_bk, am_pu1, am_pu0, Option.bind_some, eq_self, am_nli, am_nlr, am_nln, am_nlu, if_true, if_false, not_true_eq_false, not_false_eq_true, am_10, am_01, p1, p2, p3, p4, p5, q1, q2, q3, q4, q5, e1, e2, e3, e5, e8, al_i6, hc, e4, al_cmp]
  · simp only [am_e291_1901, am_e291_1451, am_e291_1458, am_e291_1462, am_e291_1471, am_e291_1474, am_e291_1480, am_e291_1487, am_e291_1485, am_e291_1503, am_e291_1492, am_e291_1495, am_e291_1501, am_bk, am_pu1, am_pu0, Option.bind_some, eq_self, am_nli, am_nlr, am_nln, am_nlu, if_true, if_false, not_true_eq_false, not_false_eq_true, am_10, am_01, p1, p2, p3, p4, p5, q1, q2, q3, q4, q5, e1, e2, e3, e5, e8, al_i6, hc]
theorem al_s21 (hS : al_S xs N h i) (hi : i ≤ 600) (hN : 6 * i + 6 ≤ N) (hN2 : N ≤ 3072) (hx : xs (6 * i) &&& 31 = 21) : ∃ h3, am_exec 291 37 [.ref 11, .ref 12, .ref 40, .ref 87, .int (Int32.ofNat (6 * i)), am_U, am_U, am_U] [.int (xs (6 * i))] h = am_exec 291 23 [.ref 11, .ref 12, .ref 40, .ref 87, .int (Int32.ofNat (6 * (i + 1))), am_U, am_U, am_U] [] h3 ∧ al_S xs N h3 (i + 1) := by
  obtain ⟨p1, p2, p3, p4, p5⟩ := al_rk hS.sc hN hN2
  obtain ⟨c, v, h2, h3, e1, e2, hk, e3, e4, e5, e6, e7⟩ := al_call hS hi (fun hW hN hS hi hA => ac_planByAll hW hN hS hi hA) (wr_planByAll (a1 := xs (6 * i + 1))) (by decide)
  obtain ⟨q1, q2, q3, q4, q5⟩ := al_rk e6 hN hN2
  have e8 := e7.c40
  obtain ⟨x, rfl⟩ := al_k1 hk
  refine ⟨h3, ?_, e7⟩
  rw [am_e291_37_21 hx]
  by_cases hc : c = 0
  · have e4 := al_ld (e4 hc _ rfl)
    simp only [am_e291_1901, am_e291_1506, am_e291_1513, am_e291_1517, am_e291_1526, am_e291_1529, am_e291_1535, am_e291_1542, am_e291_1540, am_e291_1558, am_e291_1547, am_e291_1550, am_e291_1556, am_bk, am_pu1, am_pu0, Option.bind_some, eq_self, am_nli, am_nlr, am_nln, am_nlu, if_true, if_false, not_true_eq_false, not_false_eq_true, am_10, am_01, p1, p2, p3, p4, p5, q1, q2, q3, q4, q5, e1, e2, e3, e5, e8, al_i6, hc, e4, al_cmp]
  · simp only [am_e291_1901, am_e291_1506, am_e291_1513, am_e291_1517, am_e291_1526, am_e291_1529, am_e291_1535, am_e291_1542, am_e291_1540, am_e291_1558, am_e291_1547, am_e291_1550, am_e291_1556, am_bk, am_pu1, am_pu0, Option.bind_some, eq_self, am_nli, am_nlr, am_nln, am_nlu, if_true, if_false, not_true_eq_false, not_false_eq_true, am_10, am_01, p1, p2, p3, p4, p5, q1, q2, q3, q4, q5, e1, e2, e3, e5, e8, al_i6, hc]
theorem al_s22 (hS : al_S xs N h i) (hi : i ≤ 600) (hN : 6 * i + 6 ≤ N) (hN2 : N ≤ 3072) (hx : xs (6 * i) &&& 31 = 22) : ∃ h3, am_exec 291 37 [.ref 11, .ref 12, .ref 40, .ref 87, .int (Int32.ofNat (6 * i)), am_U, am_U, am_U] [.int (xs (6 * i))] h = am_exec 291 23 [.ref 11, .ref 12, .ref 40, .ref 87, .int (Int32.ofNat (6 * (i + 1))), am_U, am_U, am_U] [] h3 ∧ al_S xs N h3 (i + 1) := by
  obtain ⟨p1, p2, p3, p4, p5⟩ := al_rk hS.sc hN hN2
  obtain ⟨c, v, h2, h3, e1, e2, hk, e3, e4, e5, e6, e7⟩ := al_call hS hi (fun hW hN hS hi hA => ac_city hW hN hS hi hA) (wr_city (a1 := xs (6 * i + 1)) (a2 := xs (6 * i + 2))) (by decide)
  obtain ⟨q1, q2, q3, q4, q5⟩ := al_rk e6 hN hN2
  have e8 := e7.c40
  obtain ⟨x, rfl⟩ := al_k0 hk
  refine ⟨h3, ?_, e7⟩
  rw [am_e291_37_22 hx]
  by_cases hc : c = 0
  · have e4 := al_ld (e4 hc _ rfl)
    simp only [am_e291_1901, am_e291_1561, am_e291_1568, am_e291_1574, am_e291_1578, am_e291_1587, am_e291_1593, am_e291_1596, am_e291_1602, am_e291_1609, am_e291_1607, am_e291_1626, am_e291_1614, am_e291_1617, am_e291_1624, am_bk, am_pu1, am_pu0, Option.bind_some, eq_self, am_nli, am_nlr, am_nln, am_nlu, if_true, if_false, not_true_eq_false, not_false_eq_true, am_10, am_01, p1, p2, p3, p4, p5, q1, q2, q3, q4, q5, e1, e2, e3, e5, e8, al_i6, hc, e4, al_cmp]
  · simp only [am_e291_1901, am_e291_1561, am_e291_1568, am_e291_1574, am_e291_1578, am_e291_1587, am_e291_1593, am_e291_1596, am_e291_1602, am_e291_1609, am_e291_1607, am_e291_1626, am_e291_1614, am_e291_1617, am_e291_1624, am_bk, am_pu1, am_pu0, Option.bind_some, eq_self, am_nli, am_nlr, am_nln, am_nlu, if_true, if_false, not_true_eq_false, not_false_eq_true, am_10, am_01, p1, p2, p3, p4, p5, q1, q2, q3, q4, q5, e1, e2, e3, e5, e8, al_i6, hc]
theorem al_s23 (hS : al_S xs N h i) (hi : i ≤ 600) (hN : 6 * i + 6 ≤ N) (hN2 : N ≤ 3072) (hx : xs (6 * i) &&& 31 = 23) : ∃ h3, am_exec 291 37 [.ref 11, .ref 12, .ref 40, .ref 87, .int (Int32.ofNat (6 * i)), am_U, am_U, am_U] [.int (xs (6 * i))] h = am_exec 291 23 [.ref 11, .ref 12, .ref 40, .ref 87, .int (Int32.ofNat (6 * (i + 1))), am_U, am_U, am_U] [] h3 ∧ al_S xs N h3 (i + 1) := by
  obtain ⟨p1, p2, p3, p4, p5⟩ := al_rk hS.sc hN hN2
  obtain ⟨c, v, h2, h3, e1, e2, hk, e3, e4, e5, e6, e7⟩ := al_call hS hi (fun hW hN hS hi hA => ac_tile hW hN hA) (wr_tile (a1 := xs (6 * i + 1)) (a2 := xs (6 * i + 2))) (by decide)
  obtain ⟨q1, q2, q3, q4, q5⟩ := al_rk e6 hN hN2
  have e8 := e7.c40
  obtain ⟨x, rfl⟩ := al_k0 hk
  refine ⟨h3, ?_, e7⟩
  rw [am_e291_37_23 hx]
  by_cases hc : c = 0
  · have e4 := al_ld (e4 hc _ rfl)
    simp only [am_e291_1901, am_e291_1629, am_e291_1636, am_e291_1642, am_e291_1646, am_e291_1655, am_e291_1661, am_e291_1664, am_e291_1670, am_e291_1677, am_e291_1675, am_e291_1694, am_e291_1682, am_e291_1685, am_e291_1692, am_bk, am_pu1, am_pu0, Option.bind_some, eq_self, am_nli, am_nlr, am_nln, am_nlu, if_true, if_false, not_true_eq_false, not_false_eq_true, am_10, am_01, p1, p2, p3, p4, p5, q1, q2, q3, q4, q5, e1, e2, e3, e5, e8, al_i6, hc, e4, al_cmp]
  · simp only [am_e291_1901, am_e291_1629, am_e291_1636, am_e291_1642, am_e291_1646, am_e291_1655, am_e291_1661, am_e291_1664, am_e291_1670, am_e291_1677, am_e291_1675, am_e291_1694, am_e291_1682, am_e291_1685, am_e291_1692, am_bk, am_pu1, am_pu0, Option.bind_some, eq_self, am_nli, am_nlr, am_nln, am_nlu, if_true, if_false, not_true_eq_false, not_false_eq_true, am_10, am_01, p1, p2, p3, p4, p5, q1, q2, q3, q4, q5, e1, e2, e3, e5, e8, al_i6, hc]
theorem al_s24 (hS : al_S xs N h i) (hi : i ≤ 600) (hN : 6 * i + 6 ≤ N) (hN2 : N ≤ 3072) (hx : xs (6 * i) &&& 31 = 24) : ∃ h3, am_exec 291 37 [.ref 11, .ref 12, .ref 40, .ref 87, .int (Int32.ofNat (6 * i)), am_U, am_U, am_U] [.int (xs (6 * i))] h = am_exec 291 23 [.ref 11, .ref 12, .ref 40, .ref 87, .int (Int32.ofNat (6 * (i + 1))), am_U, am_U, am_U] [] h3 ∧ al_S xs N h3 (i + 1) := by
  obtain ⟨p1, p2, p3, p4, p5⟩ := al_rk hS.sc hN hN2
  obtain ⟨c, v, h2, h3, e1, e2, hk, e3, e4, e5, e6, e7⟩ := al_call hS hi (fun hW hN hS hi hA => ac_pull hW hN hA) (wr_pull (a1 := xs (6 * i + 1)) (a2 := xs (6 * i + 2))) (by decide)
  obtain ⟨q1, q2, q3, q4, q5⟩ := al_rk e6 hN hN2
  have e8 := e7.c40
  obtain ⟨x, rfl⟩ := al_k0 hk
  refine ⟨h3, ?_, e7⟩
  rw [am_e291_37_24 hx]
  by_cases hc : c = 0
  · have e4 := al_ld (e4 hc _ rfl)
    simp only [am_e291_1901, am_e291_1697, am_e291_1704, am_e291_1710, am_e291_1714, am_e291_1723, am_e291_1729, am_e291_1732, am_e291_1738, am_e291_1745, am_e291_1743, am_e291_1762, am_e291_1750, am_e291_1753, am_e291_1760, am_bk, am_pu1, am_pu0, Option.bind_some, eq_self, am_nli, am_nlr, am_nln, am_nlu, if_true, if_false, not_true_eq_false, not_false_eq_true, am_10, am_01, p1, p2, p3, p4, p5, q1, q2, q3, q4, q5, e1, e2, e3, e5, e8, al_i6, hc, e4, al_cmp]
  · simp only [am_e291_1901, am_e291_1697, am_e291_1704, am_e291_1710, am_e291_1714, am_e291_1723, am_e291_1729, am_e291_1732, am_e291_1738, am_e291_1745, am_e291_1743, am_e291_1762, am_e291_1750, am_e291_1753, am_e291_1760, am_bk, am_pu1, am_pu0, Option.bind_some, eq_self, am_nli, am_nlr, am_nln, am_nlu, if_true, if_false, not_true_eq_false, not_false_eq_true, am_10, am_01, p1, p2, p3, p4, p5, q1, q2, q3, q4, q5, e1, e2, e3, e5, e8, al_i6, hc]
theorem al_s25 (hS : al_S xs N h i) (hi : i ≤ 600) (hN : 6 * i + 6 ≤ N) (hN2 : N ≤ 3072) (hx : xs (6 * i) &&& 31 = 25) : ∃ h3, am_exec 291 37 [.ref 11, .ref 12, .ref 40, .ref 87, .int (Int32.ofNat (6 * i)), am_U, am_U, am_U] [.int (xs (6 * i))] h = am_exec 291 23 [.ref 11, .ref 12, .ref 40, .ref 87, .int (Int32.ofNat (6 * (i + 1))), am_U, am_U, am_U] [] h3 ∧ al_S xs N h3 (i + 1) := by
  obtain ⟨p1, p2, p3, p4, p5⟩ := al_rk hS.sc hN hN2
  obtain ⟨c, v, h2, h3, e1, e2, hk, e3, e4, e5, e6, e7⟩ := al_call hS hi (fun hW hN hS hi hA => ac_player hW hN hA) (wr_player (a1 := xs (6 * i + 1)) (a2 := xs (6 * i + 2))) (by decide)
  obtain ⟨q1, q2, q3, q4, q5⟩ := al_rk e6 hN hN2
  have e8 := e7.c40
  obtain ⟨x, rfl⟩ := al_k0 hk
  refine ⟨h3, ?_, e7⟩
  rw [am_e291_37_25 hx]
  by_cases hc : c = 0
  · have e4 := al_ld (e4 hc _ rfl)
    simp only [am_e291_1901, am_e291_1765, am_e291_1772, am_e291_1778, am_e291_1782, am_e291_1791, am_e291_1797, am_e291_1800, am_e291_1806, am_e291_1813, am_e291_1811, am_e291_1830, am_e291_1818, am_e291_1821, am_e291_1828, am_bk, am_pu1, am_pu0, Option.bind_some, eq_self, am_nli, am_nlr, am_nln, am_nlu, if_true, if_false, not_true_eq_false, not_false_eq_true, am_10, am_01, p1, p2, p3, p4, p5, q1, q2, q3, q4, q5, e1, e2, e3, e5, e8, al_i6, hc, e4, al_cmp]
  · simp only [am_e291_1901, am_e291_1765, am_e291_1772, am_e291_1778, am_e291_1782, am_e291_1791, am_e291_1797, am_e291_1800, am_e291_1806, am_e291_1813, am_e291_1811, am_e291_1830, am_e291_1818, am_e291_1821, am_e291_1828, am_bk, am_pu1, am_pu0, Option.bind_some, eq_self, am_nli, am_nlr, am_nln, am_nlu, if_true, if_false, not_true_eq_false, not_false_eq_true, am_10, am_01, p1, p2, p3, p4, p5, q1, q2, q3, q4, q5, e1, e2, e3, e5, e8, al_i6, hc]
theorem al_s26 (hS : al_S xs N h i) (hi : i ≤ 600) (hN : 6 * i + 6 ≤ N) (hN2 : N ≤ 3072) (hx : xs (6 * i) &&& 31 = 26) : ∃ h3, am_exec 291 37 [.ref 11, .ref 12, .ref 40, .ref 87, .int (Int32.ofNat (6 * i)), am_U, am_U, am_U] [.int (xs (6 * i))] h = am_exec 291 23 [.ref 11, .ref 12, .ref 40, .ref 87, .int (Int32.ofNat (6 * (i + 1))), am_U, am_U, am_U] [] h3 ∧ al_S xs N h3 (i + 1) := by
  obtain ⟨p1, p2, p3, p4, p5⟩ := al_rk hS.sc hN hN2
  obtain ⟨c, v, h2, h3, e1, e2, hk, e3, e4, e5, e6, e7⟩ := al_call hS hi (fun hW hN hS hi hA => ac_ledger hW hN hA) (wr_ledger (a1 := xs (6 * i + 1)) (a2 := xs (6 * i + 2))) (by decide)
  obtain ⟨q1, q2, q3, q4, q5⟩ := al_rk e6 hN hN2
  have e8 := e7.c40
  obtain ⟨x, rfl⟩ := al_k0 hk
  refine ⟨h3, ?_, e7⟩
  rw [am_e291_37_26 hx]
  by_cases hc : c = 0
  · have e4 := al_ld (e4 hc _ rfl)
    simp only [am_e291_1901, am_e291_1833, am_e291_1840, am_e291_1846, am_e291_1850, am_e291_1859, am_e291_1865, am_e291_1868, am_e291_1874, am_e291_1881, am_e291_1879, am_e291_1898, am_e291_1886, am_e291_1889, am_e291_1896, am_bk, am_pu1, am_pu0, Option.bind_some, eq_self, am_nli, am_nlr, am_nln, am_nlu, if_true, if_false, not_true_eq_false, not_false_eq_true, am_10, am_01, p1, p2, p3, p4, p5, q1, q2, q3, q4, q5, e1, e2, e3, e5, e8, al_i6, hc, e4, al_cmp]
  · simp only [am_e291_1901, am_e291_1833, am_e291_1840, am_e291_1846, am_e291_1850, am_e291_1859, am_e291_1865, am_e291_1868, am_e291_1874, am_e291_1881, am_e291_1879, am_e291_1898, am_e291_1886, am_e291_1889, am_e291_1896, am_bk, am_pu1, am_pu0, Option.bind_some, eq_self, am_nli, am_nlr, am_nln, am_nlu, if_true, if_false, not_true_eq_false, not_false_eq_true, am_10, am_01, p1, p2, p3, p4, p5, q1, q2, q3, q4, q5, e1, e2, e3, e5, e8, al_i6, hc]
end
