/-! addCity, removeCity -/
theorem am_def2 : (am_def 2).length = 17 := rfl
theorem aw_l17 {vs : List Value} (h : vs.length = 17) : ∃ x0 x1 x2 x3 x4 x5 x6 x7 x8 x9 x10 x11 x12 x13 x14 x15 x16, vs = [x0, x1, x2, x3, x4, x5, x6, x7, x8, x9, x10, x11, x12, x13, x14, x15, x16] := by
  match vs, h with
  | [x0, x1, x2, x3, x4, x5, x6, x7, x8, x9, x10, x11, x12, x13, x14, x15, x16], _ => exact ⟨x0, x1, x2, x3, x4, x5, x6, x7, x8, x9, x10, x11, x12, x13, x14, x15, x16, rfl⟩
theorem aw_mk50 {h : am_H} : am_newa h 50 6 = some (am_new h (50, am_row 6 fun _ => 0) 6) := rfl
theorem aw_setnew {h : am_H} {u : Nat} {c c1 c2 : am_C} {N : Nat} (hu : ¬ u = h.2.1) : am_set (am_new (am_set h u c) c1 N) u c2 = am_new (am_set h u c2) c1 N := by
  refine Prod.ext (funext fun b => ?_) rfl
  show (if b = u then some c2 else if b = h.2.1 then some c1 else if b = u then some c else h.1 b) = if b = h.2.1 then some c1 else if b = u then some c2 else h.1 b
  by_cases e : b = u
  · subst e
    rw [if_pos rfl, if_neg hu, if_pos rfl]
  · rw [if_neg e, if_neg e, if_neg e]
theorem mc10 {h : am_H} {u p : Nat} {k t : Int32} {vs : List Value} (h0 : h.1 u = some (2, vs)) (hl : vs.length = 17) (hu : ¬ u = h.2.1) : am_exec 10 0 [.ref u, .int k, .ref p, .int t] [] h = some (.inl none, am_new (am_set h u (2, [.int k, .int t, .ref p, .int 1, .int 0, .int 0, .int 5, .int 0, .ref h.2.1, .int 0, .int 1, .int 1, .int 1, .long 0, .int 0, .int 0, .int 0])) (50, am_row 6 fun _ => 0) 6) := by
  obtain ⟨x0, x1, x2, x3, x4, x5, x6, x7, x8, x9, x10, x11, x12, x13, x14, x15, x16, rfl⟩ := aw_l17 hl
  have q : ∀ {h' : am_H} {y0 y1 y2 y3 y4 y5 y6 y7 y8 y9 y10 y11 y12 y13 y14 y15 y16 : Value} {j : Nat} {dd : Nat} {V : Value}, h'.1 u = some (2, [y0, y1, y2, y3, y4, y5, y6, y7, y8, y9, y10, y11, y12, y13, y14, y15, y16]) → j < 17 → am_kv V = dd → am_putf h' u 2 j dd V = some (am_set h' u (2, [y0, y1, y2, y3, y4, y5, y6, y7, y8, y9, y10, y11, y12, y13, y14, y15, y16].set j V)) := fun e1 e2 e3 => aw_putf e1 e2 e3
  have e0 := q (h' := h) (j := 3) (dd := 0) (V := .int 1) h0 (by decide) rfl
  have e1 := q (h' := am_set h u (2, [x0, x1, x2, .int 1, x4, x5, x6, x7, x8, x9, x10, x11, x12, x13, x14, x15, x16])) (j := 4) (dd := 0) (V := .int 0) aw_seta (by decide) rfl
  have e2 := q (h' := am_set h u (2, [x0, x1, x2, .int 1, .int 0, x5, x6, x7, x8, x9, x10, x11, x12, x13, x14, x15, x16])) (j := 5) (dd := 0) (V := .int 0) aw_seta (by decide) rfl
  have e3 := q (h' := am_set h u (2, [x0, x1, x2, .int 1, .int 0, .int 0, x6, x7, x8, x9, x10, x11, x12, x13, x14, x15, x16])) (j := 6) (dd := 0) (V := .int 5) aw_seta (by decide) rfl
  have e4 := q (h' := am_set h u (2, [x0, x1, x2, .int 1, .int 0, .int 0, .int 5, x7, x8, x9, x10, x11, x12, x13, x14, x15, x16])) (j := 7) (dd := 0) (V := .int 0) aw_seta (by decide) rfl
  have e5 := q (h' := am_new (am_set h u (2, [x0, x1, x2, .int 1, .int 0, .int 0, .int 5, .int 0, x8, x9, x10, x11, x12, x13, x14, x15, x16])) (50, am_row 6 fun _ => 0) 6) (j := 8) (dd := 2) (V := .ref h.2.1) ((aw_newn (h := am_set h u _) hu).trans aw_seta) (by decide) rfl
  have e6 := q (h' := am_set (am_new (am_set h u (2, [x0, x1, x2, .int 1, .int 0, .int 0, .int 5, .int 0, x8, x9, x10, x11, x12, x13, x14, x15, x16])) (50, am_row 6 fun _ => 0) 6) u (2, [x0, x1, x2, .int 1, .int 0, .int 0, .int 5, .int 0, .ref h.2.1, x9, x10, x11, x12, x13, x14, x15, x16])) (j := 9) (dd := 0) (V := .int 0) aw_seta (by decide) rfl
  have e7 := q (h' := am_set (am_new (am_set h u (2, [x0, x1, x2, .int 1, .int 0, .int 0, .int 5, .int 0, x8, x9, x10, x11, x12, x13, x14, x15, x16])) (50, am_row 6 fun _ => 0) 6) u (2, [x0, x1, x2, .int 1, .int 0, .int 0, .int 5, .int 0, .ref h.2.1, .int 0, x10, x11, x12, x13, x14, x15, x16])) (j := 10) (dd := 0) (V := .int 1) aw_seta (by decide) rfl
  have e8 := q (h' := am_set (am_new (am_set h u (2, [x0, x1, x2, .int 1, .int 0, .int 0, .int 5, .int 0, x8, x9, x10, x11, x12, x13, x14, x15, x16])) (50, am_row 6 fun _ => 0) 6) u (2, [x0, x1, x2, .int 1, .int 0, .int 0, .int 5, .int 0, .ref h.2.1, .int 0, .int 1, x11, x12, x13, x14, x15, x16])) (j := 11) (dd := 0) (V := .int 1) aw_seta (by decide) rfl
  have e9 := q (h' := am_set (am_new (am_set h u (2, [x0, x1, x2, .int 1, .int 0, .int 0, .int 5, .int 0, x8, x9, x10, x11, x12, x13, x14, x15, x16])) (50, am_row 6 fun _ => 0) 6) u (2, [x0, x1, x2, .int 1, .int 0, .int 0, .int 5, .int 0, .ref h.2.1, .int 0, .int 1, .int 1, x12, x13, x14, x15, x16])) (j := 12) (dd := 0) (V := .int 1) aw_seta (by decide) rfl
  have e10 := q (h' := am_set (am_new (am_set h u (2, [x0, x1, x2, .int 1, .int 0, .int 0, .int 5, .int 0, x8, x9, x10, x11, x12, x13, x14, x15, x16])) (50, am_row 6 fun _ => 0) 6) u (2, [x0, x1, x2, .int 1, .int 0, .int 0, .int 5, .int 0, .ref h.2.1, .int 0, .int 1, .int 1, .int 1, x13, x14, x15, x16])) (j := 13) (dd := 1) (V := .long 0) aw_seta (by decide) rfl
  have e11 := q (h' := am_set (am_new (am_set h u (2, [x0, x1, x2, .int 1, .int 0, .int 0, .int 5, .int 0, x8, x9, x10, x11, x12, x13, x14, x15, x16])) (50, am_row 6 fun _ => 0) 6) u (2, [x0, x1, x2, .int 1, .int 0, .int 0, .int 5, .int 0, .ref h.2.1, .int 0, .int 1, .int 1, .int 1, .long 0, x14, x15, x16])) (j := 14) (dd := 0) (V := .int 0) aw_seta (by decide) rfl
  have e12 := q (h' := am_set (am_new (am_set h u (2, [x0, x1, x2, .int 1, .int 0, .int 0, .int 5, .int 0, x8, x9, x10, x11, x12, x13, x14, x15, x16])) (50, am_row 6 fun _ => 0) 6) u (2, [x0, x1, x2, .int 1, .int 0, .int 0, .int 5, .int 0, .ref h.2.1, .int 0, .int 1, .int 1, .int 1, .long 0, .int 0, x15, x16])) (j := 15) (dd := 0) (V := .int 0) aw_seta (by decide) rfl
  have e13 := q (h' := am_set (am_new (am_set h u (2, [x0, x1, x2, .int 1, .int 0, .int 0, .int 5, .int 0, x8, x9, x10, x11, x12, x13, x14, x15, x16])) (50, am_row 6 fun _ => 0) 6) u (2, [x0, x1, x2, .int 1, .int 0, .int 0, .int 5, .int 0, .ref h.2.1, .int 0, .int 1, .int 1, .int 1, .long 0, .int 0, .int 0, x16])) (j := 16) (dd := 0) (V := .int 0) aw_seta (by decide) rfl
  have e14 := q (h' := am_set (am_new (am_set h u (2, [x0, x1, x2, .int 1, .int 0, .int 0, .int 5, .int 0, x8, x9, x10, x11, x12, x13, x14, x15, x16])) (50, am_row 6 fun _ => 0) 6) u (2, [x0, x1, x2, .int 1, .int 0, .int 0, .int 5, .int 0, .ref h.2.1, .int 0, .int 1, .int 1, .int 1, .long 0, .int 0, .int 0, .int 0])) (j := 0) (dd := 0) (V := .int k) aw_seta (by decide) rfl
  have e15 := q (h' := am_set (am_new (am_set h u (2, [x0, x1, x2, .int 1, .int 0, .int 0, .int 5, .int 0, x8, x9, x10, x11, x12, x13, x14, x15, x16])) (50, am_row 6 fun _ => 0) 6) u (2, [.int k, x1, x2, .int 1, .int 0, .int 0, .int 5, .int 0, .ref h.2.1, .int 0, .int 1, .int 1, .int 1, .long 0, .int 0, .int 0, .int 0])) (j := 2) (dd := 2) (V := .ref p) aw_seta (by decide) rfl
  have e16 := q (h' := am_set (am_new (am_set h u (2, [x0, x1, x2, .int 1, .int 0, .int 0, .int 5, .int 0, x8, x9, x10, x11, x12, x13, x14, x15, x16])) (50, am_row 6 fun _ => 0) 6) u (2, [.int k, x1, .ref p, .int 1, .int 0, .int 0, .int 5, .int 0, .ref h.2.1, .int 0, .int 1, .int 1, .int 1, .long 0, .int 0, .int 0, .int 0])) (j := 1) (dd := 0) (V := .int t) aw_seta (by decide) rfl
  rw [aw_set2] at e1 e2 e3 e4 e6 e7 e8 e9 e10 e11 e12 e13 e14 e15 e16
  rw [aw_setnew hu] at e5
  simp only [List.set, aw_setnew hu] at e0 e1 e2 e3 e4 e5 e6 e7 e8 e9 e10 e11 e12 e13 e14 e15 e16
  have nw : am_newa (am_set h u (2, [x0, x1, x2, .int 1, .int 0, .int 0, .int 5, .int 0, x8, x9, x10, x11, x12, x13, x14, x15, x16])) 50 6 = some (am_new (am_set h u (2, [x0, x1, x2, .int 1, .int 0, .int 0, .int 5, .int 0, x8, x9, x10, x11, x12, x13, x14, x15, x16])) (50, am_row 6 fun _ => 0) 6) := aw_mk50
  have n2 : ∀ {c : am_C}, (am_set h u c).2.1 = h.2.1 := rfl
  simp only [am_e10_0, am_e10_9, am_e10_14, am_e10_19, am_e10_24, am_e10_29, am_e10_34, am_e10_37, am_e10_42, am_e10_47, am_e10_52, am_e10_57, am_e10_62, am_e10_67, am_e10_72, am_e10_77, am_e10_82, am_e10_87, am_e10_92, am_bk, am_pu1, am_pu0, Option.bind_some, eq_self, am_nli, am_nlr, am_nln, am_nlu, if_true, if_false, not_true_eq_false, not_false_eq_true, am_10, am_01, e0, e1, e2, e3, e4, e5, e6, e7, e8, e9, e10, e11, e12, e13, e14, e15, e16, nw, n2]
section
variable {K : aw_K} {A : aw_A} {G Q : am_G} {M : aw_M} {r : am_H} {n F T : Nat}
theorem aw_H21 : (aw_H K A G Q M r).2.1 = r.2.1 := rfl
theorem mc94 (hW : aw_W K A G n F T) (hN : aw_N K r) (hS : aw_S r) (hF : F < 12) (hZ : aw_Z G F) (h7 : G 7 F = 0) {p t : Int32} (hp : aw_P p) (ht : am_I t 64) : ∃ K' A' r', am_exec 94 0 [.ref 13, .ref (aw_pa p), .int t, am_U] [] (aw_H K A G Q M r) = some (.inl (some (.int (Int32.ofNat F))), aw_H K' A' (am_up (am_fn0 G F p t) 4 t.toNatClampNeg p) (aw_q0 Q F) (aw_mu M 0 F 0) r') ∧ aw_W K' A' (am_fn0 G F p t) n (F + 1) T ∧ aw_R r r' 3 300 ∧ aw_N K' r' := by
  have hV := hW.V
  have h88 := hN.1
  have huK := hN.2 r.2.1 (Nat.le_refl _)
  have huf : ¬ aw_fa r.2.1 := by unfold aw_fa; omega
  have hwK := hN.2 (r.2.1 + 1) (Nat.le_succ _)
  obtain ⟨y1, y2, y3⟩ := hW.b (i := 1) (by decide)
  rw [hW.szC] at y1
  have hFF := hW.hF
  have e0 : G 6 0 + 1 = Int32.ofNat (F + 1) := by rw [hFF, am_succ]
  have c1 : am_exec 10 0 [.ref r.2.1, .int (Int32.ofNat F), .ref (aw_pa p), .int t] [] (aw_H K A (am_up G 6 0 (Int32.ofNat (F + 1))) Q M (am_new r (2, am_def 2) 17)) = some (.inl none, aw_H K A (am_up G 6 0 (Int32.ofNat (F + 1))) Q M (am_new (am_new r (2, aw_nc F (aw_pa p) t (r.2.1 + 1)) 17) (50, am_row 6 fun _ => 0) 6)) := by
    rw [mc10 (vs := am_def 2) (by rw [aw_rest huf (by rw [huK])]; exact aw_newa) am_def2 (by show ¬ r.2.1 = r.2.1 + 1; omega), aw_Hset huf (by rw [huK]), am_new_set, aw_Hnew hN.new]
    rfl
  generalize hr1 : am_new (am_new r (2, aw_nc F (aw_pa p) t (r.2.1 + 1)) 17) (50, am_row 6 fun _ => 0) 6 = r1 at c1
  have hlow : ∀ x, x < r.2.1 → r1.1 x = r.1 x := fun x hx => by
    rw [← hr1, aw_newn (show ¬ x = r.2.1 + 1 by omega), aw_newn (by omega)]
  have g0 : (aw_H K A (am_up G 6 0 (Int32.ofNat (F + 1))) Q M r1).1 22 = some (0, [.int (Q 3 1), .ref (A 5 1), .int (Int32.ofNat (A 8 0))]) := aw_fix (a := 22) rfl
  have gl : (aw_ba A G 1).length = A 6 1 := by rw [aw_ba_1, List.length_map, List.length_range]
  have gb : aw_ba A (am_up G 6 0 (Int32.ofNat (F + 1))) 1 = aw_ba A G 1 := by rw [aw_ba_1, aw_ba_1]
  have gu : (aw_H K A (am_up G 6 0 (Int32.ofNat (F + 1))) Q M r1).1 r.2.1 = some (2, aw_nc F (aw_pa p) t (r.2.1 + 1)) := by
    rw [aw_rest huf (by rw [huK]), ← hr1, aw_newn (show ¬ r.2.1 = r.2.1 + 1 by omega)]
    exact aw_newa
  have gd : ∃ tt, (aw_H K A (am_up G 6 0 (Int32.ofNat (F + 1))) Q M r1).1 (A 5 1) = some (tt, aw_ba A G 1) ∧ (tt = 53 ∧ ¬ A 5 1 = 9 ∧ 1 ≤ (aw_ba A G 1).length ∨ tt = 63 ∧ A 5 1 = 9 ∧ aw_ba A G 1 = []) ∧ ¬ 22 = A 5 1 ∧ A 5 1 < r.2.1 := by
    rcases y3 with ⟨e1, e2⟩ | ⟨e1, e2⟩
    · have e3 : aw_ba A G 1 = [] := List.eq_nil_of_length_eq_zero (by rw [gl, e1])
      refine ⟨63, ?_, Or.inr ⟨rfl, e2, e3⟩, by omega, by omega⟩
      rw [e2, aw_low hV (by decide), hlow 9 (by omega), hS.2.1, e3]
    · have h1 : 1 ≤ (K (A 5 1)).1 := by rw [e2]; exact Nat.le_of_ble_eq_true rfl
      have h2 := hV.1 _ h1
      unfold aw_fa at h2
      refine ⟨53, ?_, Or.inl ⟨rfl, by omega, by rw [gl]; omega⟩, by omega, hN.lt h1⟩
      rw [aw_dyn hV h1 (aw_dy6 (by rw [e2])), e2, gb]
  obtain ⟨tt, gd1, gd2, gd3, gd4⟩ := gd
  have e22 : (aw_H K A (am_up G 6 0 (Int32.ofNat (F + 1))) Q M r1).2.1 = r.2.1 + 2 := by
    show r1.2.1 = _
    rw [← hr1]
    rfl
  obtain ⟨h', x1, x2⟩ := mc255 (n := A 8 0) (v := r.2.1) g0 gd1 gd2 gd3 (by rw [gl]; exact y1) (by rw [gl]; exact y2) (by
      show am_fitq _ 53 (.ref r.2.1) = true
      unfold am_fitq
      dsimp only
      rw [gu]
      rfl) (by rw [e22]; omega) (by rw [e22]; omega) (by rw [e22]; omega) (fun x hx => by
      rw [aw_ba_1] at hx
      obtain ⟨j, hj, e⟩ := List.mem_map.mp hx
      by_cases hjn : j < A 8 0
      · rw [if_pos hjn] at e
        subst e
        have h1 := hW.c (hW.li hjn).1
        have h2 : (aw_H K A (am_up G 6 0 (Int32.ofNat (F + 1))) Q M r1).1 (A 1 (A 7 j)) = some (2, _) := aw_dyn hV (by rw [h1]; exact Nat.le_of_ble_eq_true rfl) (aw_dy2 (by rw [h1]))
        refine ⟨?_, fun z hz => ?_⟩
        · show am_fitq _ 53 (.ref (A 1 (A 7 j))) = true
          unfold am_fitq
          dsimp only
          rw [h2]
          rfl
        · cases hz
          have := hN.lt (a := A 1 (A 7 j)) (by rw [h1]; exact Nat.le_of_ble_eq_true rfl)
          show A 1 (A 7 j) < _
          rw [e22]
          omega
      · rw [if_neg hjn] at e
        subst e
        exact ⟨rfl, fun z hz => by cases hz⟩) (fun j hj hl => by
      rw [gl] at hl
      rw [aw_ba_1, aw_mapget hl, if_neg (by omega)])
  rw [← hr1] at x2
  obtain ⟨K', A', r', z1, z2, z3⟩ := aw_addc hW hN hF hZ h7 x2
  refine ⟨K', A', r', ?_, z2, z3⟩
  simp only [am_e94_0, am_e94_4, am_e94_10, am_e94_15, am_e94_19, am_e94_22, am_e94_29, am_e94_32, am_e94_37, am_e94_40, am_e94_45, am_e94_48, aw_gU0, aw_pU0, aw_gU1, aw_gU2, aw_pU2, aw_gU3, aw_pU3, aw_gU4, aw_pU4, aw_gU5, aw_pU5, aw_gU6, aw_pU6, aw_gU7, aw_pU7, aw_gC1, aw_gC2, aw_pC2, aw_gC3, aw_pC3, aw_gC4, aw_pC4, aw_gC5, aw_pC5, aw_gC6, aw_pC6, aw_gC7, aw_pC7, aw_gC9, aw_pC9, aw_gC0, aw_gC8, aw_gC10, aw_pC10, aw_gC11, aw_pC11, aw_gC12, aw_pC12, aw_gC13, aw_pC13, aw_gC14, aw_pC14, aw_gC15, aw_pC15, aw_gC16, aw_pC16, aw_gT0, aw_gT1, aw_gT2, aw_gT3, aw_gT4, aw_pT4, aw_gT5, aw_pT5, aw_gT6, aw_pT6, aw_gO0, aw_gO1, aw_gO2, aw_gO3, aw_gO4, aw_gO5, aw_gO6, aw_gP1, aw_pP1, aw_gP2, aw_pP2, aw_gP3, aw_pP3, aw_gP4, aw_pP4, aw_gP5, aw_pP5, aw_gP6, aw_pP6, aw_gP0, aw_gP7, aw_isU, aw_isC, aw_isT, aw_isO, aw_isP, aw_isF12, aw_gF12_0, aw_gF12_1, aw_gF12_2, aw_gF12_3, aw_gF12_4, aw_isF13, aw_gF13_0, aw_gF13_1, aw_gF13_2, aw_gF13_3, aw_gF13_4, aw_gF13_5, aw_gF13_6, aw_gF13_7, aw_isF14, aw_gF14_0, aw_gF14_1, aw_gF14_2, aw_isF18, aw_gF18_0, aw_gF18_1, aw_isF19, aw_gF19_0, aw_gF19_1, aw_gF19_2, aw_isF21, aw_gF21_0, aw_gF21_1, aw_gF21_2, aw_isF22, aw_gF22_0, aw_gF22_1, aw_gF22_2, aw_isF23, aw_gF23_0, aw_gF23_1, aw_gF23_2, aw_isF34, aw_gF34_0, aw_gF34_1, aw_gF34_2, aw_gF34_3, aw_gF34_4, aw_gF34_5, aw_isF38, aw_gF38_0, aw_isF39, aw_gF39_0, aw_pF12_4, aw_pF13_6, aw_pF13_7, aw_pF34_4, aw_pF34_5, am_bk, am_pu1, am_pu0, Option.bind_some, eq_self, am_nli, am_nlr, am_nln, am_nlu, if_true, if_false, not_true_eq_false, not_false_eq_true, am_10, am_01, hFF, am_succ, aw_Hnew hN, aw_H21, c1, x1, z1, z2.V, hp, mc148_17 ht]
/-- a city is gone: the reference's rows -/
def am_rc7 (G : am_G) (c : Nat) : am_G := am_up (am_up G 7 c 0) 5 (G 9 c).toNatClampNeg (-1)
def aw_a7 (A : aw_A) (i : Nat) : aw_A := fun f => if f = 7 then fun j => if j < i then A 7 j else A 7 (j + 1) else if f = 8 then am_upd (A 8) 0 (A 8 0 - 1) else A f
theorem am_rc7_ne {c x : Nat} (h : ¬ x = 5 ∧ ¬ x = 7) : am_rc7 G c x = G x := by
  unfold am_rc7
  rw [am_up_ne h.1, am_up_ne h.2]
theorem am_rc7_f0 {c : Nat} : am_rc7 G c 0 = G 0 := am_rc7_ne (by decide)
theorem am_rc7_f1 {c : Nat} : am_rc7 G c 1 = G 1 := am_rc7_ne (by decide)
theorem am_rc7_f2 {c : Nat} : am_rc7 G c 2 = G 2 := am_rc7_ne (by decide)
theorem am_rc7_f3 {c : Nat} : am_rc7 G c 3 = G 3 := am_rc7_ne (by decide)
theorem am_rc7_f4 {c : Nat} : am_rc7 G c 4 = G 4 := am_rc7_ne (by decide)
theorem am_rc7_f6 {c : Nat} : am_rc7 G c 6 = G 6 := am_rc7_ne (by decide)
theorem am_rc7_f8 {c : Nat} : am_rc7 G c 8 = G 8 := am_rc7_ne (by decide)
theorem am_rc7_f9 {c : Nat} : am_rc7 G c 9 = G 9 := am_rc7_ne (by decide)
theorem am_rc7_f10 {c : Nat} : am_rc7 G c 10 = G 10 := am_rc7_ne (by decide)
theorem am_rc7_f11 {c : Nat} : am_rc7 G c 11 = G 11 := am_rc7_ne (by decide)
theorem am_rc7_f12 {c : Nat} : am_rc7 G c 12 = G 12 := am_rc7_ne (by decide)
theorem am_rc7_f13 {c : Nat} : am_rc7 G c 13 = G 13 := am_rc7_ne (by decide)
theorem am_rc7_f14 {c : Nat} : am_rc7 G c 14 = G 14 := am_rc7_ne (by decide)
theorem am_rc7_f15 {c : Nat} : am_rc7 G c 15 = G 15 := am_rc7_ne (by decide)
theorem am_rc7_f16 {c : Nat} : am_rc7 G c 16 = G 16 := am_rc7_ne (by decide)
theorem am_rc7_f17 {c : Nat} : am_rc7 G c 17 = G 17 := am_rc7_ne (by decide)
theorem am_rc7_f18 {c : Nat} : am_rc7 G c 18 = G 18 := am_rc7_ne (by decide)
theorem am_rc7_f19 {c : Nat} : am_rc7 G c 19 = G 19 := am_rc7_ne (by decide)
theorem am_rc7_f20 {c : Nat} : am_rc7 G c 20 = G 20 := am_rc7_ne (by decide)
theorem am_rc7_f21 {c : Nat} : am_rc7 G c 21 = G 21 := am_rc7_ne (by decide)
theorem am_rc7_f22 {c : Nat} : am_rc7 G c 22 = G 22 := am_rc7_ne (by decide)
theorem am_rc7_f23 {c : Nat} : am_rc7 G c 23 = G 23 := am_rc7_ne (by decide)
theorem am_rc7_f24 {c : Nat} : am_rc7 G c 24 = G 24 := am_rc7_ne (by decide)
theorem am_rc7_f25 {c : Nat} : am_rc7 G c 25 = G 25 := am_rc7_ne (by decide)
theorem am_rc7_f26 {c : Nat} : am_rc7 G c 26 = G 26 := am_rc7_ne (by decide)
theorem am_rc7_f27 {c : Nat} : am_rc7 G c 27 = G 27 := am_rc7_ne (by decide)
theorem am_rc7_f28 {c : Nat} : am_rc7 G c 28 = G 28 := am_rc7_ne (by decide)
theorem am_rc7_f29 {c : Nat} : am_rc7 G c 29 = G 29 := am_rc7_ne (by decide)
theorem am_rc7_f30 {c : Nat} : am_rc7 G c 30 = G 30 := am_rc7_ne (by decide)
theorem am_rc7_f31 {c : Nat} : am_rc7 G c 31 = G 31 := am_rc7_ne (by decide)
theorem am_rc7_f32 {c : Nat} : am_rc7 G c 32 = G 32 := am_rc7_ne (by decide)
theorem am_rc7_f33 {c : Nat} : am_rc7 G c 33 = G 33 := am_rc7_ne (by decide)
theorem am_rc7_f34 {c : Nat} : am_rc7 G c 34 = G 34 := am_rc7_ne (by decide)
theorem am_rc7_f35 {c : Nat} : am_rc7 G c 35 = G 35 := am_rc7_ne (by decide)
theorem am_rc7_f36 {c : Nat} : am_rc7 G c 36 = G 36 := am_rc7_ne (by decide)
theorem am_rc7_f37 {c : Nat} : am_rc7 G c 37 = G 37 := am_rc7_ne (by decide)
theorem am_rc7_f38 {c : Nat} : am_rc7 G c 38 = G 38 := am_rc7_ne (by decide)
theorem am_rc7_f39 {c : Nat} : am_rc7 G c 39 = G 39 := am_rc7_ne (by decide)
theorem am_rc7_f40 {c : Nat} : am_rc7 G c 40 = G 40 := am_rc7_ne (by decide)
theorem am_rc7_f41 {c : Nat} : am_rc7 G c 41 = G 41 := am_rc7_ne (by decide)
theorem am_rc7_f42 {c : Nat} : am_rc7 G c 42 = G 42 := am_rc7_ne (by decide)
theorem am_rc7_f43 {c : Nat} : am_rc7 G c 43 = G 43 := am_rc7_ne (by decide)
theorem am_rc7_f44 {c : Nat} : am_rc7 G c 44 = G 44 := am_rc7_ne (by decide)
theorem am_rc7_f45 {c : Nat} : am_rc7 G c 45 = G 45 := am_rc7_ne (by decide)
theorem am_rc7_f46 {c : Nat} : am_rc7 G c 46 = G 46 := am_rc7_ne (by decide)
theorem am_rc7_f47 {c : Nat} : am_rc7 G c 47 = G 47 := am_rc7_ne (by decide)
theorem am_rc7_f48 {c : Nat} : am_rc7 G c 48 = G 48 := am_rc7_ne (by decide)
theorem am_rc7_f49 {c : Nat} : am_rc7 G c 49 = G 49 := am_rc7_ne (by decide)
theorem am_rc7_f50 {c : Nat} : am_rc7 G c 50 = G 50 := am_rc7_ne (by decide)
theorem am_rc7_f51 {c : Nat} : am_rc7 G c 51 = G 51 := am_rc7_ne (by decide)
theorem am_rc7_f52 {c : Nat} : am_rc7 G c 52 = G 52 := am_rc7_ne (by decide)
theorem am_rc7_7 {c : Nat} : am_rc7 G c 7 = am_upd (G 7) c 0 := by
  unfold am_rc7
  rw [am_up_ne (by decide), am_up_eq]
theorem aw_filt {p : Nat → Bool} {c : Nat} : ∀ (l : List Nat) (i : Nat), l.Nodup → (l.filter p)[i]? = some c → (l.filter fun x => p x && !decide (x = c)) = (l.filter p).eraseIdx i
  | [], i, _, h => by cases h
  | x :: l, i, hn, h => by
    have hn2 := (List.nodup_cons.mp hn)
    by_cases hp : p x = true
    · rw [List.filter_cons_of_pos hp] at h ⊢
      cases i with
      | zero =>
        cases h
        rw [List.filter_cons_of_neg (by simp), List.eraseIdx_cons_zero]
        exact List.filter_congr fun y hy => by
          have : ¬ y = c := fun e => hn2.1 (e ▸ hy)
          simp [this]
      | succ i =>
        rw [List.getElem?_cons_succ] at h
        have hm : c ∈ l := (List.mem_filter.mp (List.mem_of_getElem? h)).1
        have hne : ¬ x = c := fun e => hn2.1 (e ▸ hm)
        rw [List.filter_cons_of_pos (by simp [hp, hne]), List.eraseIdx_cons_succ, aw_filt l i hn2.2 h]
    · rw [List.filter_cons_of_neg hp] at h ⊢
      rw [List.filter_cons_of_neg (by simp [hp]), aw_filt l i hn2.2 h]
theorem aw_W.a7 (hW : aw_W K A G n F T) {i : Nat} (hi : i < A 8 0) : aw_W K (aw_a7 A i) (am_rc7 G (A 7 i)) n F T := by
  obtain ⟨hV, h24, h6, h45, hu, hc, ht, ho, ⟨b1, b2⟩, hl⟩ := hW
  refine ⟨hV, by rw [am_rc7_f24]; exact h24, by rw [am_rc7_f6]; exact h6, by rw [am_rc7_f45]; exact h45, hu, hc, ht, by rw [am_rc7_f42]; exact ho, ⟨fun x hx => ?_, b2⟩, ?_⟩
  · obtain ⟨z1, z2, z3⟩ := b1 x hx
    refine ⟨?_, z2, z3⟩
    have : x = 0 ∨ x = 1 ∨ x = 2 := by omega
    rcases this with rfl | rfl | rfl
    · rw [aw_sz_0] at z1 ⊢
      unfold aw_n at z1 ⊢
      rw [am_rc7_f45]
      exact z1
    · rw [aw_sz_1] at z1 ⊢
      rw [show aw_a7 A i 8 0 = A 8 0 - 1 from (show am_upd (A 8) 0 (A 8 0 - 1) 0 = A 8 0 - 1 from am_upd_eq)]
      exact Nat.le_trans (Nat.sub_le _ 1) z1
    · rw [aw_sz_2] at z1 ⊢
      unfold aw_n at z1 ⊢
      rw [am_rc7_f24]
      exact z1
  · unfold aw_lc at hl ⊢
    rw [show aw_a7 A i 8 0 = A 8 0 - 1 from (show am_upd (A 8) 0 (A 8 0 - 1) 0 = A 8 0 - 1 from am_upd_eq), am_rc7_7]
    have e1 : ((List.range F).filter fun c => decide (G 7 c = 1))[i]? = some (A 7 i) := by
      rw [← hl, List.getElem?_map, List.getElem?_range hi]
      rfl
    have e2 := aw_filt (List.range F) i List.nodup_range e1
    have e3 : (List.range F).filter (fun x => decide (am_upd (G 7) (A 7 i) 0 x = 1)) = (List.range F).filter fun x => decide (G 7 x = 1) && !decide (x = A 7 i) := List.filter_congr fun x _ => by
      by_cases e : x = A 7 i
      · rw [e, am_upd_eq]
        simp
      · rw [am_upd_ne e]
        simp [e]
    rw [e3, e2, ← hl]
    refine List.ext_getElem? fun j => ?_
    rw [List.getElem?_eraseIdx]
    have get : ∀ {m x : Nat} {g : Nat → Nat}, ((List.range m).map g)[x]? = if x < m then some (g x) else none := fun {m x g} => by
      by_cases e : x < m
      · rw [if_pos e, List.getElem?_map, List.getElem?_range e]
        rfl
      · rw [if_neg e, List.getElem?_eq_none (by rw [List.length_map, List.length_range]; omega)]
    rw [get, get, get]
    show (if j < A 8 0 - 1 then some (if j < i then A 7 j else A 7 (j + 1)) else none) = _
    by_cases h1 : j < i
    · rw [if_pos h1, if_pos h1, if_pos (by omega), if_pos (by omega)]
    · rw [if_neg h1, if_neg h1]
      by_cases h2 : j < A 8 0 - 1
      · rw [if_pos h2, if_pos (by omega)]
      · rw [if_neg h2, if_neg (by omega)]
theorem mc256_c (hW : aw_W K A G n F T) {i : Nat} (hi : i < A 8 0) : am_exec 256 0 [.ref 22, .int (Int32.ofNat i), am_U, am_U] [] (aw_H K A G Q M r) = some (.inl (some (.ref (A 1 (A 7 i)))), aw_H K (aw_a7 A i) (am_rc7 G (A 7 i)) (am_up Q 3 1 (Q 3 1 + 1)) M r) := by
  obtain ⟨y1, y2, y3⟩ := hW.b (i := 1) (by decide)
  rw [hW.szC] at y1
  have hm12 := hW.m12
  have hV := hW.V
  have hB : K (A 5 1) = (6, 1) := by
    rcases y3 with y3 | y3
    · omega
    · exact y3.2
  have h6 : (K (A 5 1)).1 = 6 := by rw [hB]
  have c0 : (aw_H K A G Q M r).1 22 = some (0, [.int (Q 3 1), .ref (A 5 1), .int (Int32.ofNat (A 8 0))]) := aw_fix (a := 22) rfl
  have c1 : (aw_H K A G Q M r).1 (A 5 1) = some (53, aw_ba A G 1) := by
    rw [aw_dyn hV (by omega) (aw_dy6 h6), hB]
  have had : ¬ 22 = A 5 1 := fun e => hV.1 (A 5 1) (by omega) (by rw [← e]; exact Or.inl (by decide))
  have hv : (aw_ba A G 1)[i]? = some (.ref (A 1 (A 7 i))) := by
    rw [aw_ba_1, aw_mapget (by omega), if_pos hi]
  have hlen : (aw_ba A G 1).length = A 6 1 := by
    rw [aw_ba_1, List.length_map, List.length_range]
  rw [mc256 c0 c1 had hi (by rw [hlen]; exact y1) (by omega) hv (fun x hx => by
    rw [aw_ba_1] at hx
    obtain ⟨j, hj, e⟩ := List.mem_map.mp hx
    by_cases hjn : j < A 8 0
    · rw [if_pos hjn] at e
      subst e
      have h1 := hW.c (hW.li hjn).1
      have h2 : (aw_H K A G Q M r).1 (A 1 (A 7 j)) = some (2, _) := aw_dyn hV (by rw [h1]; exact Nat.le_of_ble_eq_true rfl) (aw_dy2 (by rw [h1]))
      show am_fitq _ 53 (.ref (A 1 (A 7 j))) = true
      unfold am_fitq
      dsimp only
      rw [h2]
      rfl
    · rw [if_neg hjn] at e
      subst e
      rfl)]
  refine congrArg (fun z => some (Sum.inl (some (Value.ref (A 1 (A 7 i)))), z)) ?_
  refine Prod.ext (funext fun b => ?_) rfl
  have e80 : aw_a7 A i 8 0 = A 8 0 - 1 := (show am_upd (A 8) 0 (A 8 0 - 1) 0 = A 8 0 - 1 from am_upd_eq)
  have e7 : ∀ j, aw_a7 A i 7 j = if j < i then A 7 j else A 7 (j + 1) := fun j => rfl
  show (if b = A 5 1 then some (53, aw_rm (aw_ba A G 1) i (A 8 0)) else if b = 22 then some (0, [.int (Q 3 1 + 1), .ref (A 5 1), .int (Int32.ofNat (A 8 0 - 1))]) else (aw_H K A G Q M r).1 b) = (aw_H K (aw_a7 A i) (am_rc7 G (A 7 i)) (am_up Q 3 1 (Q 3 1 + 1)) M r).1 b
  by_cases e1 : b = A 5 1
  · subst e1
    rw [if_pos rfl, aw_dyn hV (by rw [hB]; exact Nat.le_of_ble_eq_true rfl) (aw_dy6 (by rw [hB])), hB]
    refine congrArg (fun z => some (53, z)) ?_
    rw [aw_ba_1, aw_ba_1, e80]
    refine aw_rm_map hi y1 ?_ ?_ ?_ ?_
    · intro j hj
      rw [if_pos (by omega), if_pos (by omega), e7, if_pos hj]
      rfl
    · intro j hj hj2
      rw [if_pos (by omega), if_pos (by omega), e7, if_neg (by omega)]
      rfl
    · rw [if_neg (by omega)]
    · intro j hj hj2
      rw [if_neg (by omega), if_neg (by omega)]
  rw [if_neg e1]
  by_cases e2 : b = 22
  · subst e2
    rw [if_pos rfl, aw_fix (a := 22) rfl, am_up_eq, am_upd_eq, e80]
    rfl
  rw [if_neg e2]
  show (aw_fx A G Q M b).or ((aw_dy A G Q M (K b)).or (r.1 b)) = (aw_fx (aw_a7 A i) (am_rc7 G (A 7 i)) (am_up Q 3 1 (Q 3 1 + 1)) M b).or ((aw_dy (aw_a7 A i) (am_rc7 G (A 7 i)) (am_up Q 3 1 (Q 3 1 + 1)) M (K b)).or (r.1 b))
  have f1 : aw_fx (aw_a7 A i) (am_rc7 G (A 7 i)) (am_up Q 3 1 (Q 3 1 + 1)) M b = aw_fx A G Q M b := by
    unfold aw_fx aw_os
    simp only [if_neg e2, am_rc7_f0, am_rc7_f1, am_rc7_f2, am_rc7_f3, am_rc7_f4, am_rc7_f6, am_rc7_f8, am_rc7_f9, am_rc7_f10, am_rc7_f11, am_rc7_f12, am_rc7_f13, am_rc7_f14, am_rc7_f15, am_rc7_f16, am_rc7_f17, am_rc7_f18, am_rc7_f19, am_rc7_f20, am_rc7_f21, am_rc7_f22, am_rc7_f23, am_rc7_f24, am_rc7_f25, am_rc7_f26, am_rc7_f27, am_rc7_f28, am_rc7_f29, am_rc7_f30, am_rc7_f31, am_rc7_f32, am_rc7_f33, am_rc7_f34, am_rc7_f35, am_rc7_f36, am_rc7_f37, am_rc7_f38, am_rc7_f39, am_rc7_f40, am_rc7_f41, am_rc7_f42, am_rc7_f43, am_rc7_f44, am_rc7_f45, am_rc7_f46, am_rc7_f47, am_rc7_f48, am_rc7_f49, am_rc7_f50, am_rc7_f51, am_rc7_f52]
    rfl
  rw [f1]
  refine congrArg (fun z => Option.or (aw_fx A G Q M b) (Option.or z (r.1 b))) ?_
  by_cases h5 : (K b).1 = 6
  · rw [aw_dy6 h5, aw_dy6 h5]
    have h7 := (hW.b' h5).1
    have h8 : ¬ (K b).2 = 1 := fun e => e1 (hV.2.1 _ _ (by omega) (by rw [hB]; exact aw_eta h5 e))
    have : (K b).2 = 0 ∨ (K b).2 = 2 := by omega
    rcases this with e | e
    · rw [e, aw_ba_0, aw_ba_0]
      unfold aw_n
      rw [am_rc7_f45]
      rfl
    · rw [e, aw_ba_2, aw_ba_2]
      unfold aw_n
      rw [am_rc7_f24]
      rfl
  · unfold aw_dy aw_un aw_cc aw_wo aw_tr aw_of aw_pl aw_le
    simp only [if_neg h5, am_rc7_f0, am_rc7_f1, am_rc7_f2, am_rc7_f3, am_rc7_f4, am_rc7_f6, am_rc7_f8, am_rc7_f9, am_rc7_f10, am_rc7_f11, am_rc7_f12, am_rc7_f13, am_rc7_f14, am_rc7_f15, am_rc7_f16, am_rc7_f17, am_rc7_f18, am_rc7_f19, am_rc7_f20, am_rc7_f21, am_rc7_f22, am_rc7_f23, am_rc7_f24, am_rc7_f25, am_rc7_f26, am_rc7_f27, am_rc7_f28, am_rc7_f29, am_rc7_f30, am_rc7_f31, am_rc7_f32, am_rc7_f33, am_rc7_f34, am_rc7_f35, am_rc7_f36, am_rc7_f37, am_rc7_f38, am_rc7_f39, am_rc7_f40, am_rc7_f41, am_rc7_f42, am_rc7_f43, am_rc7_f44, am_rc7_f45, am_rc7_f46, am_rc7_f47, am_rc7_f48, am_rc7_f49, am_rc7_f50, am_rc7_f51, am_rc7_f52]
    rfl
theorem mc95 (hW : aw_W K A G n F T) {c : Nat} (hc : c < F) (h7 : G 7 c = 1) : ∃ A', am_exec 95 0 [.ref 13, .ref (A 1 c), am_U] [] (aw_H K A G Q M r) = some (.inl none, aw_H K A' (am_rc7 G c) (am_up Q 3 1 (Q 3 1 + 1)) M r) ∧ aw_W K A' (am_rc7 G c) n F T ∧ (∀ f, ¬ f = 7 → ¬ f = 8 → A' f = A f) := by
  obtain ⟨j, hj, he⟩ := hW.lx hc h7
  have hm12 := hW.m12
  have hne : ∀ k, k < A 8 0 → ¬ k = j → ¬ A 7 k = c := fun k hk hkj e => by
    have hl := hW.l
    unfold aw_lc at hl
    have hnd : ((List.range (A 8 0)).map (A 7)).Nodup := by rw [hl]; exact List.nodup_range.filter _
    have g : ∀ x, x < A 8 0 → ((List.range (A 8 0)).map (A 7))[x]? = some (A 7 x) := fun x hx => by rw [List.getElem?_map, List.getElem?_range hx]; rfl
    have := (List.getElem?_inj (i := k) (j := j) (by rw [List.length_map, List.length_range]; exact hk) hnd).mp (by rw [g k hk, g j hj, e, he])
    exact hkj this
  have p1 := am_down (fun m => am_exec 95 10 [.ref 13, .ref (A 1 c), .int (Int32.ofNat m - 1)] [] (aw_H K A G Q M r)) (j + 1) (A 8 0) (by omega) (fun k h1 hk => by
    show am_exec 95 10 _ _ _ = _
    have hne := hne k hk (by omega)
    rw [am_e95_10]
    simp only [am_e95_0, am_e95_4, am_e95_41, am_e95_14, am_e95_7, am_e95_18, am_e95_22, am_e95_35, am_e95_26, am_e95_30, am_e95_34, aw_gU0, aw_pU0, aw_gU1, aw_gU2, aw_pU2, aw_gU3, aw_pU3, aw_gU4, aw_pU4, aw_gU5, aw_pU5, aw_gU6, aw_pU6, aw_gU7, aw_pU7, aw_gC1, aw_gC2, aw_pC2, aw_gC3, aw_pC3, aw_gC4, aw_pC4, aw_gC5, aw_pC5, aw_gC6, aw_pC6, aw_gC7, aw_pC7, aw_gC9, aw_pC9, aw_gC0, aw_gC8, aw_gC10, aw_pC10, aw_gC11, aw_pC11, aw_gC12, aw_pC12, aw_gC13, aw_pC13, aw_gC14, aw_pC14, aw_gC15, aw_pC15, aw_gC16, aw_pC16, aw_gT0, aw_gT1, aw_gT2, aw_gT3, aw_gT4, aw_pT4, aw_gT5, aw_pT5, aw_gT6, aw_pT6, aw_gO0, aw_gO1, aw_gO2, aw_gO3, aw_gO4, aw_gO5, aw_gO6, aw_gP1, aw_pP1, aw_gP2, aw_pP2, aw_gP3, aw_pP3, aw_gP4, aw_pP4, aw_gP5, aw_pP5, aw_gP6, aw_pP6, aw_gP0, aw_gP7, aw_isU, aw_isC, aw_isT, aw_isO, aw_isP, aw_isF12, aw_gF12_0, aw_gF12_1, aw_gF12_2, aw_gF12_3, aw_gF12_4, aw_isF13, aw_gF13_0, aw_gF13_1, aw_gF13_2, aw_gF13_3, aw_gF13_4, aw_gF13_5, aw_gF13_6, aw_gF13_7, aw_isF14, aw_gF14_0, aw_gF14_1, aw_gF14_2, aw_isF18, aw_gF18_0, aw_gF18_1, aw_isF19, aw_gF19_0, aw_gF19_1, aw_gF19_2, aw_isF21, aw_gF21_0, aw_gF21_1, aw_gF21_2, aw_isF22, aw_gF22_0, aw_gF22_1, aw_gF22_2, aw_isF23, aw_gF23_0, aw_gF23_1, aw_gF23_2, aw_isF34, aw_gF34_0, aw_gF34_1, aw_gF34_2, aw_gF34_3, aw_gF34_4, aw_gF34_5, aw_isF38, aw_gF38_0, aw_isF39, aw_gF39_0, aw_pF12_4, aw_pF13_6, aw_pF13_7, aw_pF34_4, aw_pF34_5, am_bk, am_pu1, am_pu0, Option.bind_some, eq_self, am_nli, am_nlr, am_nln, am_nlu, if_true, if_false, not_true_eq_false, not_false_eq_true, am_10, am_01, am_pre, am_prelt (show k ≤ 100000 by omega), mc253_c hW hk, aw_acc hW (hW.li hk).1 hc, hne, am_m1, decide_false, Bool.false_eq_true])
  have hW' := hW.a7 hj
  have hA1 : ∀ f, ¬ f = 7 → ¬ f = 8 → aw_a7 A j f = A f := fun f h1 h2 => by
    unfold aw_a7
    rw [if_neg h1, if_neg h2]
  have p2 := am_down (fun m => am_exec 95 10 [.ref 13, .ref (A 1 c), .int (Int32.ofNat m - 1)] [] (aw_H K (aw_a7 A j) (am_rc7 G (A 7 j)) (am_up Q 3 1 (Q 3 1 + 1)) M r)) 0 j (by omega) (fun k h1 hk => by
    show am_exec 95 10 _ _ _ = _
    have hk8 : k < aw_a7 A j 8 0 := by
      rw [show aw_a7 A j 8 0 = A 8 0 - 1 from (show am_upd (A 8) 0 (A 8 0 - 1) 0 = A 8 0 - 1 from am_upd_eq)]
      omega
    have e7 : aw_a7 A j 7 k = A 7 k := (show (if k < j then A 7 k else A 7 (k + 1)) = A 7 k from if_pos hk)
    have hne := hne k (by omega) (by omega)
    have ha := aw_acc (Q := am_up Q 3 1 (Q 3 1 + 1)) (M := M) (r := r) hW' (hW.li (show k < A 8 0 by omega)).1 hc
    rw [hA1 1 (by decide) (by decide)] at ha
    rw [am_e95_10]
    have hg := mc253_c (Q := am_up Q 3 1 (Q 3 1 + 1)) (M := M) (r := r) hW' hk8
    rw [e7, hA1 1 (by decide) (by decide)] at hg
    simp only [am_e95_0, am_e95_4, am_e95_41, am_e95_14, am_e95_7, am_e95_18, am_e95_22, am_e95_35, am_e95_26, am_e95_30, am_e95_34, aw_gU0, aw_pU0, aw_gU1, aw_gU2, aw_pU2, aw_gU3, aw_pU3, aw_gU4, aw_pU4, aw_gU5, aw_pU5, aw_gU6, aw_pU6, aw_gU7, aw_pU7, aw_gC1, aw_gC2, aw_pC2, aw_gC3, aw_pC3, aw_gC4, aw_pC4, aw_gC5, aw_pC5, aw_gC6, aw_pC6, aw_gC7, aw_pC7, aw_gC9, aw_pC9, aw_gC0, aw_gC8, aw_gC10, aw_pC10, aw_gC11, aw_pC11, aw_gC12, aw_pC12, aw_gC13, aw_pC13, aw_gC14, aw_pC14, aw_gC15, aw_pC15, aw_gC16, aw_pC16, aw_gT0, aw_gT1, aw_gT2, aw_gT3, aw_gT4, aw_pT4, aw_gT5, aw_pT5, aw_gT6, aw_pT6, aw_gO0, aw_gO1, aw_gO2, aw_gO3, aw_gO4, aw_gO5, aw_gO6, aw_gP1, aw_pP1, aw_gP2, aw_pP2, aw_gP3, aw_pP3, aw_gP4, aw_pP4, aw_gP5, aw_pP5, aw_gP6, aw_pP6, aw_gP0, aw_gP7, aw_isU, aw_isC, aw_isT, aw_isO, aw_isP, aw_isF12, aw_gF12_0, aw_gF12_1, aw_gF12_2, aw_gF12_3, aw_gF12_4, aw_isF13, aw_gF13_0, aw_gF13_1, aw_gF13_2, aw_gF13_3, aw_gF13_4, aw_gF13_5, aw_gF13_6, aw_gF13_7, aw_isF14, aw_gF14_0, aw_gF14_1, aw_gF14_2, aw_isF18, aw_gF18_0, aw_gF18_1, aw_isF19, aw_gF19_0, aw_gF19_1, aw_gF19_2, aw_isF21, aw_gF21_0, aw_gF21_1, aw_gF21_2, aw_isF22, aw_gF22_0, aw_gF22_1, aw_gF22_2, aw_isF23, aw_gF23_0, aw_gF23_1, aw_gF23_2, aw_isF34, aw_gF34_0, aw_gF34_1, aw_gF34_2, aw_gF34_3, aw_gF34_4, aw_gF34_5, aw_isF38, aw_gF38_0, aw_isF39, aw_gF39_0, aw_pF12_4, aw_pF13_6, aw_pF13_7, aw_pF34_4, aw_pF34_5, am_bk, am_pu1, am_pu0, Option.bind_some, eq_self, am_nli, am_nlr, am_nln, am_nlu, if_true, if_false, not_true_eq_false, not_false_eq_true, am_10, am_01, am_pre, am_prelt (show k ≤ 100000 by omega), hg, ha, hne, am_m1, decide_false, Bool.false_eq_true])
  refine ⟨aw_a7 A j, ?_, by rw [← he]; exact hW', hA1⟩
  simp only [am_e95_0, am_e95_4, am_e95_41, am_e95_14, am_e95_7, am_e95_18, am_e95_22, am_e95_35, am_e95_26, am_e95_30, am_e95_34, aw_gU0, aw_pU0, aw_gU1, aw_gU2, aw_pU2, aw_gU3, aw_pU3, aw_gU4, aw_pU4, aw_gU5, aw_pU5, aw_gU6, aw_pU6, aw_gU7, aw_pU7, aw_gC1, aw_gC2, aw_pC2, aw_gC3, aw_pC3, aw_gC4, aw_pC4, aw_gC5, aw_pC5, aw_gC6, aw_pC6, aw_gC7, aw_pC7, aw_gC9, aw_pC9, aw_gC0, aw_gC8, aw_gC10, aw_pC10, aw_gC11, aw_pC11, aw_gC12, aw_pC12, aw_gC13, aw_pC13, aw_gC14, aw_pC14, aw_gC15, aw_pC15, aw_gC16, aw_pC16, aw_gT0, aw_gT1, aw_gT2, aw_gT3, aw_gT4, aw_pT4, aw_gT5, aw_pT5, aw_gT6, aw_pT6, aw_gO0, aw_gO1, aw_gO2, aw_gO3, aw_gO4, aw_gO5, aw_gO6, aw_gP1, aw_pP1, aw_gP2, aw_pP2, aw_gP3, aw_pP3, aw_gP4, aw_pP4, aw_gP5, aw_pP5, aw_gP6, aw_pP6, aw_gP0, aw_gP7, aw_isU, aw_isC, aw_isT, aw_isO, aw_isP, aw_isF12, aw_gF12_0, aw_gF12_1, aw_gF12_2, aw_gF12_3, aw_gF12_4, aw_isF13, aw_gF13_0, aw_gF13_1, aw_gF13_2, aw_gF13_3, aw_gF13_4, aw_gF13_5, aw_gF13_6, aw_gF13_7, aw_isF14, aw_gF14_0, aw_gF14_1, aw_gF14_2, aw_isF18, aw_gF18_0, aw_gF18_1, aw_isF19, aw_gF19_0, aw_gF19_1, aw_gF19_2, aw_isF21, aw_gF21_0, aw_gF21_1, aw_gF21_2, aw_isF22, aw_gF22_0, aw_gF22_1, aw_gF22_2, aw_isF23, aw_gF23_0, aw_gF23_1, aw_gF23_2, aw_isF34, aw_gF34_0, aw_gF34_1, aw_gF34_2, aw_gF34_3, aw_gF34_4, aw_gF34_5, aw_isF38, aw_gF38_0, aw_isF39, aw_gF39_0, aw_pF12_4, aw_pF13_6, aw_pF13_7, aw_pF34_4, aw_pF34_5, am_bk, am_pu1, am_pu0, Option.bind_some, eq_self, am_nli, am_nlr, am_nln, am_nlu, if_true, if_false, not_true_eq_false, not_false_eq_true, am_10, am_01, mc251_c]
  refine p1.trans ?_
  show am_exec 95 10 _ _ _ = _
  rw [am_e95_10]
  have ha := aw_acc (Q := Q) (M := M) (r := r) hW (hW.li hj).1 hc
  rw [he] at ha
  have hg := mc253_c (Q := Q) (M := M) (r := r) hW hj
  rw [he] at hg
  simp only [am_e95_0, am_e95_4, am_e95_41, am_e95_14, am_e95_7, am_e95_18, am_e95_22, am_e95_35, am_e95_26, am_e95_30, am_e95_34, aw_gU0, aw_pU0, aw_gU1, aw_gU2, aw_pU2, aw_gU3, aw_pU3, aw_gU4, aw_pU4, aw_gU5, aw_pU5, aw_gU6, aw_pU6, aw_gU7, aw_pU7, aw_gC1, aw_gC2, aw_pC2, aw_gC3, aw_pC3, aw_gC4, aw_pC4, aw_gC5, aw_pC5, aw_gC6, aw_pC6, aw_gC7, aw_pC7, aw_gC9, aw_pC9, aw_gC0, aw_gC8, aw_gC10, aw_pC10, aw_gC11, aw_pC11, aw_gC12, aw_pC12, aw_gC13, aw_pC13, aw_gC14, aw_pC14, aw_gC15, aw_pC15, aw_gC16, aw_pC16, aw_gT0, aw_gT1, aw_gT2, aw_gT3, aw_gT4, aw_pT4, aw_gT5, aw_pT5, aw_gT6, aw_pT6, aw_gO0, aw_gO1, aw_gO2, aw_gO3, aw_gO4, aw_gO5, aw_gO6, aw_gP1, aw_pP1, aw_gP2, aw_pP2, aw_gP3, aw_pP3, aw_gP4, aw_pP4, aw_gP5, aw_pP5, aw_gP6, aw_pP6, aw_gP0, aw_gP7, aw_isU, aw_isC, aw_isT, aw_isO, aw_isP, aw_isF12, aw_gF12_0, aw_gF12_1, aw_gF12_2, aw_gF12_3, aw_gF12_4, aw_isF13, aw_gF13_0, aw_gF13_1, aw_gF13_2, aw_gF13_3, aw_gF13_4, aw_gF13_5, aw_gF13_6, aw_gF13_7, aw_isF14, aw_gF14_0, aw_gF14_1, aw_gF14_2, aw_isF18, aw_gF18_0, aw_gF18_1, aw_isF19, aw_gF19_0, aw_gF19_1, aw_gF19_2, aw_isF21, aw_gF21_0, aw_gF21_1, aw_gF21_2, aw_isF22, aw_gF22_0, aw_gF22_1, aw_gF22_2, aw_isF23, aw_gF23_0, aw_gF23_1, aw_gF23_2, aw_isF34, aw_gF34_0, aw_gF34_1, aw_gF34_2, aw_gF34_3, aw_gF34_4, aw_gF34_5, aw_isF38, aw_gF38_0, aw_isF39, aw_gF39_0, aw_pF12_4, aw_pF13_6, aw_pF13_7, aw_pF34_4, aw_pF34_5, am_bk, am_pu1, am_pu0, Option.bind_some, eq_self, am_nli, am_nlr, am_nln, am_nlu, if_true, if_false, not_true_eq_false, not_false_eq_true, am_10, am_01, am_pre, am_prelt (show j ≤ 100000 by omega), hg, mc256_c hW hj, ha, am_m1, decide_true]
  refine p2.trans ?_
  show am_exec 95 10 _ _ _ = _
  rw [am_e95_10, ← he]
  simp only [am_e95_0, am_e95_4, am_e95_41, am_e95_14, am_e95_7, am_e95_18, am_e95_22, am_e95_35, am_e95_26, am_e95_30, am_e95_34, am_bk, am_pu1, am_pu0, Option.bind_some, eq_self, am_nli, am_nlr, am_nln, am_nlu, if_true, if_false, not_true_eq_false, not_false_eq_true, am_10, am_01, show (Int32.ofNat 0 - 1 < 0) = True from eq_true (by decide)]
end
