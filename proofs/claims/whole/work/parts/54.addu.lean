/-! addUnit -/
section
variable {K : aw_K} {A : aw_A} {G Q : am_G} {M : aw_M} {r : am_H} {n F T : Nat}
theorem mc104 (hW : aw_W K A G n F T) (hN : aw_N K r) (hS : aw_S r) (hn : n < 40) {p k t : Int32} (hp : aw_P p) (hk : am_I k 5) : ∃ K' A' r', am_exec 104 0 [.ref 13, .ref (aw_pa p), .int k, .int t, am_U] [] (aw_H K A G Q M r) = some (.inl (some (.int (G 25 0))), aw_H K' A' (am_mk G n p k t) (am_up Q 3 2 (Q 3 2 + 1)) M r') ∧ aw_W K' A' (am_mk G n p k t) (n + 1) F T ∧ aw_R r r' 2 300 ∧ aw_N K' r' ∧ (∀ f, ¬ f = 0 → ¬ f = 5 → ¬ f = 6 → A' f = A f) ∧ (∀ j, j < n → A' 0 j = A 0 j) ∧ A' 0 n = r.2.1 := by
  have hV := hW.V
  have h88 := hN.1
  have huK := hN.2 r.2.1 (Nat.le_refl _)
  have huf : ¬ aw_fa r.2.1 := by unfold aw_fa; omega
  obtain ⟨y1, y2, y3⟩ := hW.b (i := 2) (by decide)
  rw [hW.szU] at y1
  have c1 : am_exec 83 0 [.ref r.2.1, .int (G 25 0), .ref (aw_pa p), .int k, .int t] [] (aw_H K A (am_up G 25 0 (G 25 0 + 1)) Q M (am_new r (9, am_def 9) 8)) = some (.inl none, aw_H K A (am_up G 25 0 (G 25 0 + 1)) Q M (am_new r (9, aw_nu (G 25 0) k t (aw_pa p)) 8)) := by
    rw [mc83 (vs := am_def 9) (by rw [aw_rest huf (by rw [huK])]; exact aw_newa) am_def9 (by rw [aw_low hV (by decide), aw_newn (by omega)]; exact hS.1 4 (by decide)) (by omega) hk, aw_Hset huf (by rw [huK])]
    exact congrArg (fun z => some (Sum.inl none, aw_H K A (am_up G 25 0 (G 25 0 + 1)) Q M z)) am_new_set
  have g0 : (aw_H K A (am_up G 25 0 (G 25 0 + 1)) Q M (am_new r (9, aw_nu (G 25 0) k t (aw_pa p)) 8)).1 23 = some (0, [.int (Q 3 2), .ref (A 5 2), .int (Int32.ofNat n)]) := by
    rw [aw_fix (a := 23) rfl, ← hW.hn]
    rfl
  have gb : aw_ba A (am_up G 25 0 (G 25 0 + 1)) 2 = aw_ba A G 2 := by
    rw [aw_ba_2, aw_ba_2]
    unfold aw_n
    rw [am_up_ne (by decide)]
  have gl : (aw_ba A G 2).length = A 6 2 := by rw [aw_ba_2, List.length_map, List.length_range]
  have gu : (aw_H K A (am_up G 25 0 (G 25 0 + 1)) Q M (am_new r (9, aw_nu (G 25 0) k t (aw_pa p)) 8)).1 r.2.1 = some (9, aw_nu (G 25 0) k t (aw_pa p)) := by
    rw [aw_rest huf (by rw [huK])]
    exact aw_newa
  have gd : ∃ tt, (aw_H K A (am_up G 25 0 (G 25 0 + 1)) Q M (am_new r (9, aw_nu (G 25 0) k t (aw_pa p)) 8)).1 (A 5 2) = some (tt, aw_ba A G 2) ∧ (tt = 53 ∧ ¬ A 5 2 = 9 ∧ 1 ≤ (aw_ba A G 2).length ∨ tt = 63 ∧ A 5 2 = 9 ∧ aw_ba A G 2 = []) ∧ ¬ 23 = A 5 2 ∧ A 5 2 < r.2.1 := by
    rcases y3 with ⟨e1, e2⟩ | ⟨e1, e2⟩
    · have e3 : aw_ba A G 2 = [] := List.eq_nil_of_length_eq_zero (by rw [gl, e1])
      refine ⟨63, ?_, Or.inr ⟨rfl, e2, e3⟩, by omega, by omega⟩
      rw [e2, aw_low hV (by decide), aw_newn (by omega), hS.2.1, e3]
    · have h1 : 1 ≤ (K (A 5 2)).1 := by rw [e2]; exact Nat.le_of_ble_eq_true rfl
      have h2 := hV.1 _ h1
      unfold aw_fa at h2
      refine ⟨53, ?_, Or.inl ⟨rfl, by omega, by rw [gl]; omega⟩, by omega, hN.lt h1⟩
      rw [aw_dyn hV h1 (aw_dy6 (by rw [e2])), e2, gb]
  obtain ⟨tt, gd1, gd2, gd3, gd4⟩ := gd
  have e22 : (aw_H K A (am_up G 25 0 (G 25 0 + 1)) Q M (am_new r (9, aw_nu (G 25 0) k t (aw_pa p)) 8)).2.1 = r.2.1 + 1 := rfl
  obtain ⟨h', x1, x2⟩ := mc255 (n := n) (v := r.2.1) g0 gd1 gd2 gd3 (by rw [gl]; exact y1) (by rw [gl]; exact y2) (by
      show am_fitq _ 53 (.ref r.2.1) = true
      unfold am_fitq
      dsimp only
      rw [gu]
      rfl) (by rw [e22]; omega) (by rw [e22]; omega) (by rw [e22]; omega) (fun x hx => by
      rw [aw_ba_2, aw_ne hW.hn hW.n9] at hx
      obtain ⟨j, hj, e⟩ := List.mem_map.mp hx
      by_cases hjn : j < n
      · rw [if_pos hjn] at e
        subst e
        have h1 := hW.u hjn
        have h2 : (aw_H K A (am_up G 25 0 (G 25 0 + 1)) Q M (am_new r (9, aw_nu (G 25 0) k t (aw_pa p)) 8)).1 (A 0 j) = some (9, _) := aw_dyn hV (by rw [h1]; exact Nat.le_refl 1) (aw_dy1 (by rw [h1]))
        refine ⟨?_, fun z hz => ?_⟩
        · show am_fitq _ 53 (.ref (A 0 j)) = true
          unfold am_fitq
          dsimp only
          rw [h2]
          rfl
        · cases hz
          have := hN.lt (a := A 0 j) (by rw [h1]; exact Nat.le_refl 1)
          show A 0 j < _
          rw [e22]
          omega
      · rw [if_neg hjn] at e
        subst e
        exact ⟨rfl, fun z hz => by cases hz⟩) (fun j hj hl => by
      rw [gl] at hl
      rw [aw_ba_2, aw_ne hW.hn hW.n9, aw_mapget hl, if_neg (by omega)])
  obtain ⟨K', A', r', z1, z2⟩ := aw_addu hW hN hS hn x2
  refine ⟨K', A', r', ?_, z2⟩
  rw [← z1]
  have s9 : (aw_H K A (am_up G 25 0 (G 25 0 + 1)) Q M r).2.1 = r.2.1 := rfl
  simp only [am_e104_0, am_e104_4, am_e104_11, am_e104_16, am_e104_20, am_e104_23, am_e104_32, am_e104_35, aw_gU0, aw_pU0, aw_gU1, aw_gU2, aw_pU2, aw_gU3, aw_pU3, aw_gU4, aw_pU4, aw_gU5, aw_pU5, aw_gU6, aw_pU6, aw_gU7, aw_pU7, aw_gC1, aw_gC2, aw_pC2, aw_gC3, aw_pC3, aw_gC4, aw_pC4, aw_gC5, aw_pC5, aw_gC6, aw_pC6, aw_gC7, aw_pC7, aw_gC9, aw_pC9, aw_gC0, aw_gC8, aw_gC10, aw_pC10, aw_gC11, aw_pC11, aw_gC12, aw_pC12, aw_gC13, aw_pC13, aw_gC14, aw_pC14, aw_gC15, aw_pC15, aw_gC16, aw_pC16, aw_gT0, aw_gT1, aw_gT2, aw_gT3, aw_gT4, aw_pT4, aw_gT5, aw_pT5, aw_gT6, aw_pT6, aw_gO0, aw_gO1, aw_gO2, aw_gO3, aw_gO4, aw_gO5, aw_gO6, aw_gP1, aw_pP1, aw_gP2, aw_pP2, aw_gP3, aw_pP3, aw_gP4, aw_pP4, aw_gP5, aw_pP5, aw_gP6, aw_pP6, aw_gP0, aw_gP7, aw_isU, aw_isC, aw_isT, aw_isO, aw_isP, aw_isF12, aw_gF12_0, aw_gF12_1, aw_gF12_2, aw_gF12_3, aw_gF12_4, aw_isF13, aw_gF13_0, aw_gF13_1, aw_gF13_2, aw_gF13_3, aw_gF13_4, aw_gF13_5, aw_gF13_6, aw_gF13_7, aw_isF14, aw_gF14_0, aw_gF14_1, aw_gF14_2, aw_isF18, aw_gF18_0, aw_gF18_1, aw_isF19, aw_gF19_0, aw_gF19_1, aw_gF19_2, aw_isF21, aw_gF21_0, aw_gF21_1, aw_gF21_2, aw_isF22, aw_gF22_0, aw_gF22_1, aw_gF22_2, aw_isF23, aw_gF23_0, aw_gF23_1, aw_gF23_2, aw_isF34, aw_gF34_0, aw_gF34_1, aw_gF34_2, aw_gF34_3, aw_gF34_4, aw_gF34_5, aw_isF38, aw_gF38_0, aw_isF39, aw_gF39_0, aw_pF12_4, aw_pF13_6, aw_pF13_7, aw_pF34_4, aw_pF34_5, am_bk, am_pu1, am_pu0, Option.bind_some, eq_self, am_nli, am_nlr, am_nln, am_nlu, if_true, if_false, not_true_eq_false, not_false_eq_true, am_10, am_01, aw_Hnew hN, s9, c1, x1]
end
