/-! THE CLASS'S TURN: cities, players, run -/
section
variable {M : aw_M} {r : am_H} {F T : Nat}
theorem mc71_2 (hS : aw_S r) : ∀ (m p : Nat) (K : aw_K) (A : aw_A) (G Q : am_G) (r' : am_H) (n : Nat), p + m = 4 → aw_W K A G n F T → (∀ c, c < F → aw_P (G 8 c)) → (∀ c, c < F → aw_B (G 14 c)) → (∀ k, k < n → aw_P (G 27 k)) → aw_R r r' 0 0 → ∃ K' A' Q' r'', am_exec 71 2 [.ref 39, .int (Int32.ofNat p), am_U] [] (aw_H K A G Q M r') = some (.inl none, aw_H K' A' ((List.range' p m).foldl (fun s p => as_pp F p s) (G, n)).1 Q' M r'') ∧ aw_W K' A' ((List.range' p m).foldl (fun s p => as_pp F p s) (G, n)).1 ((List.range' p m).foldl (fun s p => as_pp F p s) (G, n)).2 F T ∧ aw_R r r'' 0 0 ∧ (∀ f, ¬ f = 3 → Q' f = Q f) ∧ (∀ f, ¬ f = 0 → A' f = A f) ∧ (∀ a, K a = (0, 0) → K' a = (0, 0))
  | 0, p, K, A, G, Q, r', n, hk, hW, _, _, _, hR => by
    refine ⟨K, A, Q, r', ?_, hW, hR, fun _ _ => rfl, fun _ _ => rfl, fun _ h => h⟩
    rw [show p = 4 by omega, am_e71_2]
    simp only [am_e71_0, am_e71_7, am_e71_10, am_e71_13, am_e71_46, am_e71_16, am_e71_20, am_e71_23, am_e71_27, am_e71_35, am_e71_40, aw_gU0, aw_pU0, aw_gU1, aw_gU2, aw_pU2, aw_gU3, aw_pU3, aw_gU4, aw_pU4, aw_gU5, aw_pU5, aw_gU6, aw_pU6, aw_gU7, aw_pU7, aw_gC1, aw_gC2, aw_pC2, aw_gC3, aw_pC3, aw_gC4, aw_pC4, aw_gC5, aw_pC5, aw_gC6, aw_pC6, aw_gC7, aw_pC7, aw_gC9, aw_pC9, aw_gC0, aw_gC8, aw_gC10, aw_pC10, aw_gC11, aw_pC11, aw_gC12, aw_pC12, aw_gC13, aw_pC13, aw_gC14, aw_pC14, aw_gC15, aw_pC15, aw_gC16, aw_pC16, aw_gT0, aw_gT1, aw_gT2, aw_gT3, aw_gT4, aw_pT4, aw_gT5, aw_pT5, aw_gT6, aw_pT6, aw_gO0, aw_gO1, aw_gO2, aw_gO3, aw_gO4, aw_gO5, aw_gO6, aw_gP1, aw_pP1, aw_gP2, aw_pP2, aw_gP3, aw_pP3, aw_gP4, aw_pP4, aw_gP5, aw_pP5, aw_gP6, aw_pP6, aw_gP0, aw_gP7, aw_isU, aw_isC, aw_isT, aw_isO, aw_isP, aw_isF12, aw_gF12_0, aw_gF12_1, aw_gF12_2, aw_gF12_3, aw_gF12_4, aw_isF13, aw_gF13_0, aw_gF13_1, aw_gF13_2, aw_gF13_3, aw_gF13_4, aw_gF13_5, aw_gF13_6, aw_gF13_7, aw_isF14, aw_gF14_0, aw_gF14_1, aw_gF14_2, aw_isF18, aw_gF18_0, aw_gF18_1, aw_isF19, aw_gF19_0, aw_gF19_1, aw_gF19_2, aw_isF21, aw_gF21_0, aw_gF21_1, aw_gF21_2, aw_isF22, aw_gF22_0, aw_gF22_1, aw_gF22_2, aw_isF23, aw_gF23_0, aw_gF23_1, aw_gF23_2, aw_isF34, aw_gF34_0, aw_gF34_1, aw_gF34_2, aw_gF34_3, aw_gF34_4, aw_gF34_5, aw_isF38, aw_gF38_0, aw_isF39, aw_gF39_0, aw_pF12_4, aw_pF13_6, aw_pF13_7, aw_pF34_4, aw_pF34_5, am_bk, am_pu1, am_pu0, Option.bind_some, eq_self, am_nli, am_nlr, am_nln, am_nlu, if_true, if_false, not_true_eq_false, not_false_eq_true, am_10, am_01, hW.V, mc251_p, show (4 : Int32) ≤ Int32.ofNat 4 by decide]
    rfl
  | m + 1, p, K, A, G, Q, r', n, hk, hW, hco, hB, ho, hR => by
    have c0 : ¬ (4 : Int32) ≤ Int32.ofNat p := am_lit 4 p (by omega) (by decide)
    have hp : aw_P (Int32.ofNat p) := aw_Pk (by omega)
    have hJ := am_tcn (show p ≤ 100000 by omega)
    have l1 : ∀ f, ¬ f = 35 → ¬ f = 36 → ¬ f = 37 → as_le G (Int32.ofNat p) f = G f := fun f h1 h2 h3 => as_le_ne ⟨h1, h2, h3⟩
    have hW1 : aw_W K A (as_le G (Int32.ofNat p)) n F T := hW.up (l1 24 (by decide) (by decide) (by decide)) (l1 6 (by decide) (by decide) (by decide)) (l1 45 (by decide) (by decide) (by decide)) (l1 42 (by decide) (by decide) (by decide)) (l1 7 (by decide) (by decide) (by decide))
    have m72 := mc72 (A := A) (G := G) (Q := Q) (M := M) (r := r') hW.V hp
    obtain ⟨K1, A1, Q1, r1, x1, x2, x3, x4, x5, x6⟩ := mc73 (Q := Q) (M := M) (r := r') hW1 (hR.S hS) (by rw [as_le_ne (by decide)]; exact hco) (by rw [as_le_ne (by decide)]; exact ho) (by rw [as_le_ne (by decide)]; exact hB) hp
    have hpp : as_kp (Int32.ofNat p) F (as_le G (Int32.ofNat p), n) = as_pp F p (G, n) := rfl
    rw [hpp] at x1 x2
    have hU : aw_UO (as_pp F p (G, n)).1 (as_pp F p (G, n)).2 := as_pp_UO (s := (G, n)) ⟨hW.hn, hW.n40, ho⟩
    obtain ⟨K', A', Q', r'', y1, y2, y3, y4, y5, y6⟩ := mc71_2 hS m (p + 1) K1 A1 (as_pp F p (G, n)).1 Q1 r1 (as_pp F p (G, n)).2 (by omega) x2 (by rw [as_pp_ne (f := 8) (by decide)]; exact hco) (by rw [as_pp_ne (f := 14) (by decide)]; exact hB) hU.2.2 (hR.tr x3)
    rw [List.range'_succ, List.foldl_cons]
    refine ⟨K', A', Q', r'', ?_, y2, y3, fun f hf => by rw [y4 f hf, x4 f hf], fun f hf => by rw [y5 f hf, x5 f hf], fun a h => y6 a (x6 a h)⟩
    refine Eq.trans ?_ y1
    rw [am_e71_2]
    simp only [am_e71_0, am_e71_7, am_e71_10, am_e71_13, am_e71_46, am_e71_16, am_e71_20, am_e71_23, am_e71_27, am_e71_35, am_e71_40, aw_gU0, aw_pU0, aw_gU1, aw_gU2, aw_pU2, aw_gU3, aw_pU3, aw_gU4, aw_pU4, aw_gU5, aw_pU5, aw_gU6, aw_pU6, aw_gU7, aw_pU7, aw_gC1, aw_gC2, aw_pC2, aw_gC3, aw_pC3, aw_gC4, aw_pC4, aw_gC5, aw_pC5, aw_gC6, aw_pC6, aw_gC7, aw_pC7, aw_gC9, aw_pC9, aw_gC0, aw_gC8, aw_gC10, aw_pC10, aw_gC11, aw_pC11, aw_gC12, aw_pC12, aw_gC13, aw_pC13, aw_gC14, aw_pC14, aw_gC15, aw_pC15, aw_gC16, aw_pC16, aw_gT0, aw_gT1, aw_gT2, aw_gT3, aw_gT4, aw_pT4, aw_gT5, aw_pT5, aw_gT6, aw_pT6, aw_gO0, aw_gO1, aw_gO2, aw_gO3, aw_gO4, aw_gO5, aw_gO6, aw_gP1, aw_pP1, aw_gP2, aw_pP2, aw_gP3, aw_pP3, aw_gP4, aw_pP4, aw_gP5, aw_pP5, aw_gP6, aw_pP6, aw_gP0, aw_gP7, aw_isU, aw_isC, aw_isT, aw_isO, aw_isP, aw_isF12, aw_gF12_0, aw_gF12_1, aw_gF12_2, aw_gF12_3, aw_gF12_4, aw_isF13, aw_gF13_0, aw_gF13_1, aw_gF13_2, aw_gF13_3, aw_gF13_4, aw_gF13_5, aw_gF13_6, aw_gF13_7, aw_isF14, aw_gF14_0, aw_gF14_1, aw_gF14_2, aw_isF18, aw_gF18_0, aw_gF18_1, aw_isF19, aw_gF19_0, aw_gF19_1, aw_gF19_2, aw_isF21, aw_gF21_0, aw_gF21_1, aw_gF21_2, aw_isF22, aw_gF22_0, aw_gF22_1, aw_gF22_2, aw_isF23, aw_gF23_0, aw_gF23_1, aw_gF23_2, aw_isF34, aw_gF34_0, aw_gF34_1, aw_gF34_2, aw_gF34_3, aw_gF34_4, aw_gF34_5, aw_isF38, aw_gF38_0, aw_isF39, aw_gF39_0, aw_pF12_4, aw_pF13_6, aw_pF13_7, aw_pF34_4, aw_pF34_5, am_bk, am_pu1, am_pu0, Option.bind_some, eq_self, am_nli, am_nlr, am_nln, am_nlu, if_true, if_false, not_true_eq_false, not_false_eq_true, am_10, am_01, hW.V, x2.V, hp, mc251_p, mc253_p, c0, m72, x1, am_succ]
end
section
variable {K : aw_K} {A : aw_A} {G Q : am_G} {M : aw_M} {r : am_H} {n F T : Nat}
theorem mc71 (hW : aw_W K A G n F T) (hS : aw_S r) (hco : ∀ c, c < F → aw_P (G 8 c)) (hB : ∀ c, c < F → aw_B (G 14 c)) (ho : ∀ k, k < n → aw_P (G 27 k)) : ∃ K' A' Q' r', am_exec 71 0 [.ref 39, am_U, am_U] [] (aw_H K A G Q M r) = some (.inl none, aw_H K' A' ((List.range' 0 4).foldl (fun s p => as_pp F p s) (G, n)).1 Q' M r') ∧ aw_W K' A' ((List.range' 0 4).foldl (fun s p => as_pp F p s) (G, n)).1 ((List.range' 0 4).foldl (fun s p => as_pp F p s) (G, n)).2 F T ∧ aw_R r r' 0 0 ∧ (∀ f, ¬ f = 3 → Q' f = Q f) ∧ (∀ f, ¬ f = 0 → A' f = A f) ∧ (∀ a, K a = (0, 0) → K' a = (0, 0)) := by
  obtain ⟨K', A', Q', r', x1, x2⟩ := mc71_2 (M := M) hS 4 0 K A G Q r n rfl hW hco hB ho aw_R.rfl'
  refine ⟨K', A', Q', r', ?_, x2⟩
  simp only [am_e71_0, am_e71_7, am_e71_10, am_e71_13, am_e71_46, am_e71_16, am_e71_20, am_e71_23, am_e71_27, am_e71_35, am_e71_40, am_nlr]
  exact x1
theorem mc66 (hW : aw_W K A G n F T) (hN : aw_N K r) (hS : aw_S r) (hC : ∀ c, c < F → G 7 c = 1 → aw_IC G c) {f w t : Nat → Int32} (hf : ∀ c, c < F → G 7 c = 1 → Q 0 c = f c ∧ Q 1 c = w c ∧ Q 2 c = t c) : ∃ K' A' Q' r', am_exec 66 0 [.ref 39, am_U, am_U] [] (aw_H K A G Q M r) = some (.inl none, aw_H K' A' (as_cyl f w t (as_li G F) (G, n)).1 Q' M r') ∧ aw_W K' A' (as_cyl f w t (as_li G F) (G, n)).1 (as_cyl f w t (as_li G F) (G, n)).2 F T ∧ aw_R r r' 24 3600 ∧ aw_N K' r' ∧ (∀ f, ¬ f = 3 → Q' f = Q f) ∧ (∀ f, ¬ f = 0 → ¬ f = 5 → ¬ f = 6 → A' f = A f) := by
  have hl : (List.range (A 8 0)).map (A 7) = as_li G F := by
    have := hW.l
    unfold aw_lc at this
    rw [this, List.range_eq_range']
    rfl
  have hd : (as_li G F).Nodup := List.Pairwise.filter _ (by rw [← List.range_eq_range']; exact List.nodup_range)
  have hlen : (as_li G F).length = A 8 0 := by
    rw [← hl, List.length_map, List.length_range]
  obtain ⟨K', A', Q', r', x1, x2, x3, x4⟩ := mc66_2 (M := M) hS (as_li G F) 0 K A G Q r n hd (by rw [hlen, ← List.range_eq_range', hl]) (by rw [hlen, Nat.zero_add]) hW hN aw_R.rfl' (fun c hc => ⟨(as_li_mem.mp hc).1, hC c (as_li_mem.mp hc).1 (as_li_mem.mp hc).2⟩)
  rw [as_cyl_congr (as_li G F) (G, n) (fun c hc => hf c (as_li_mem.mp hc).1 (as_li_mem.mp hc).2)] at x1 x2
  have := hW.m12
  refine ⟨K', A', Q', r', ?_, x2, x3.mono (by omega) (by omega), x4⟩
  simp only [am_e66_0, am_e66_7, am_e66_10, am_e66_13, am_e66_72, am_e66_16, am_e66_20, am_e66_23, am_e66_27, am_e66_35, am_e66_40, am_e66_44, am_e66_49, am_e66_54, am_e66_61, am_e66_57, am_e66_66, am_nlr]
  exact x1
end
