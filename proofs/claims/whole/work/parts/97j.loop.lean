/-! THE CLASS'S planUpTo, both ways, and endTurn with the reference's plans -/
theorem am_cnt_filter {p : Nat → Prop} [DecidablePred p] : ∀ c, ((List.range c).filter fun x => decide (p x)).length = am_cnt p c
  | 0 => rfl
  | c + 1 => by
    rw [List.range_succ, List.filter_append, List.length_append, am_cnt_filter c]
    show am_cnt p c + _ = am_cnt p c + if p c then 1 else 0
    by_cases h : p c
    · rw [if_pos h, List.filter_cons_of_pos (p := fun x => decide (p x)) (decide_eq_true h)]
      rfl
    · rw [if_neg h, List.filter_cons_of_neg (p := fun x => decide (p x)) (fun q => h (of_decide_eq_true q))]
      rfl
theorem am_filter_at {p : Nat → Prop} [DecidablePred p] {F c : Nat} (hc : c < F) (hp : p c) : ((List.range F).filter fun x => decide (p x))[am_cnt p c]? = some c := by
  have e : List.range F = List.range c ++ List.range' c (F - c) := by
    rw [List.range_eq_range', List.range_eq_range']
    have := List.range'_append_1 (s := 0) (m := c) (n := F - c)
    rw [Nat.zero_add, show c + (F - c) = F by omega] at this
    exact this.symm
  have e2 : List.range' c (F - c) = c :: List.range' (c + 1) (F - c - 1) := by
    rw [show F - c = (F - c - 1) + 1 by omega, List.range'_succ]
    rfl
  rw [e, List.filter_append, List.getElem?_append_right (by rw [am_cnt_filter]; exact Nat.le_refl _), am_cnt_filter, Nat.sub_self, e2, List.filter_cons_of_pos (p := fun x => decide (p x)) (decide_eq_true hp)]
  rfl
theorem aw_W.at7 {K : aw_K} {A : aw_A} {G : am_G} {n F T : Nat} (hW : aw_W K A G n F T) {c : Nat} (hc : c < F) (h7 : G 7 c = 1) : am_cnt (fun x => G 7 x = 1) c < A 8 0 ∧ A 7 (am_cnt (fun x => G 7 x = 1) c) = c := by
  have h := am_filter_at (p := fun x => G 7 x = 1) hc h7
  rw [← show (List.range (A 8 0)).map (A 7) = _ from hW.l, List.getElem?_map] at h
  have hlt : am_cnt (fun x => G 7 x = 1) c < A 8 0 := by
    rcases Nat.lt_or_ge (am_cnt (fun x => G 7 x = 1) c) (A 8 0) with q | q
    · exact q
    · rw [List.getElem?_eq_none (by rw [List.length_range]; exact q)] at h
      cases h
  refine ⟨hlt, ?_⟩
  rw [List.getElem?_range hlt] at h
  exact Option.some.inj h
theorem aw_W.cnt7 {K : aw_K} {A : aw_A} {G : am_G} {n F T : Nat} (hW : aw_W K A G n F T) : am_cnt (fun x => G 7 x = 1) F = A 8 0 := by
  have h := congrArg List.length (show (List.range (A 8 0)).map (A 7) = _ from hW.l)
  rw [List.length_map, List.length_range, am_cnt_filter] at h
  exact h.symm
theorem am_lt1 {l : Int32} {c : Nat} (hc : c ≤ 100) (h : ¬ l < Int32.ofNat (c + 1)) : ¬ l < Int32.ofNat c := by
  rw [Int32.not_lt] at h ⊢
  refine Int32.le_trans ?_ h
  rw [am_le_nat (by omega) (by omega)]
  omega
/-- what a city has when it has planned -/
def ar_g (G Q : am_G) (M : aw_M) (n T c : Nat) : Prop := Q 0 c = as_yf G (ar_l G n T c) c ∧ Q 1 c = as_yw G (ar_l G n T c) c ∧ Q 2 c = as_yt G (ar_l G n T c) c ∧ M 0 c = ar_l G n T c
section
variable {K : aw_K} {A : aw_A} {G : am_G} {r : am_H} {n F T : Nat}
theorem mc39_11 (hW : aw_W K A G n F T) (hSr : aw_S r) (hCA : aw_CA G F) (hU : aw_IU G n) (hST : ∀ i, i < n → ∀ j, j < n → G 29 i = G 29 j → G 27 i = G 27 j) (hl : ∀ t, t < 64 → am_I (G 2 t) 6) (hC : ∀ c, c < F → G 7 c = 1 → aw_IC G c) (hwe : ∀ c, c < F → aw_we G c) {l fl : Int32} (hfl : fl = 0 ∨ fl = 1 ∧ ∀ c, c < F → G 7 c = 1 → ¬ l < Int32.ofNat c → G 10 c ≤ 3) : ∀ (d c : Nat) (Y : am_G) (N : aw_M) (tk : Int64), c + d = F → (¬ l < Int32.ofNat c → ∀ t, t < 64 → tk.toBitVec.getLsbD t = ((as_orl (fun _ => True) (fun i => G 9 (A 7 i)) 0 (A 8 0)).toBitVec.getLsbD t || (ar_t G n T c).toBitVec.getLsbD t)) → ∃ Q' M', am_exec 39 11 [.ref 34, .int l, .int fl, .long tk, am_U, .int (Int32.ofNat (am_cnt (fun x => G 7 x = 1) c)), am_U] [] (aw_H K A G Y N r) = some (.inl none, aw_H K A G Q' M' r) ∧ (∀ j, j < c → Q' 0 j = Y 0 j ∧ Q' 1 j = Y 1 j ∧ Q' 2 j = Y 2 j ∧ M' 0 j = N 0 j) ∧ ∀ j, c ≤ j → j < F → G 7 j = 1 → ¬ l < Int32.ofNat j → ar_g G Q' M' n T j
  | 0, c, Y, N, tk, hc, _ => by
    refine ⟨Y, N, ?_, fun _ _ => ⟨rfl, rfl, rfl, rfl⟩, fun j h1 h2 => absurd h2 (by omega)⟩
    rw [show c = F by omega, hW.cnt7]
    simp only [am_e39_11, am_e39_17, am_e39_20, am_e39_23, am_e39_116, aw_gU0, aw_pU0, aw_gU1, aw_gU2, aw_pU2, aw_gU3, aw_pU3, aw_gU4, aw_pU4, aw_gU5, aw_pU5, aw_gU6, aw_pU6, aw_gU7, aw_pU7, aw_gC1, aw_gC2, aw_pC2, aw_gC3, aw_pC3, aw_gC4, aw_pC4, aw_gC5, aw_pC5, aw_gC6, aw_pC6, aw_gC7, aw_pC7, aw_gC9, aw_pC9, aw_gC0, aw_gC8, aw_gC10, aw_pC10, aw_gC11, aw_pC11, aw_gC12, aw_pC12, aw_gC13, aw_pC13, aw_gC14, aw_pC14, aw_gC15, aw_pC15, aw_gC16, aw_pC16, aw_gT0, aw_gT1, aw_gT2, aw_gT3, aw_gT4, aw_pT4, aw_gT5, aw_pT5, aw_gT6, aw_pT6, aw_gO0, aw_gO1, aw_gO2, aw_gO3, aw_gO4, aw_gO5, aw_gO6, aw_gP1, aw_pP1, aw_gP2, aw_pP2, aw_gP3, aw_pP3, aw_gP4, aw_pP4, aw_gP5, aw_pP5, aw_gP6, aw_pP6, aw_gP0, aw_gP7, aw_isU, aw_isC, aw_isT, aw_isO, aw_isP, aw_isF12, aw_gF12_0, aw_gF12_1, aw_gF12_2, aw_gF12_3, aw_gF12_4, aw_isF13, aw_gF13_0, aw_gF13_1, aw_gF13_2, aw_gF13_3, aw_gF13_4, aw_gF13_5, aw_gF13_6, aw_gF13_7, aw_isF14, aw_gF14_0, aw_gF14_1, aw_gF14_2, aw_isF18, aw_gF18_0, aw_gF18_1, aw_isF19, aw_gF19_0, aw_gF19_1, aw_gF19_2, aw_isF21, aw_gF21_0, aw_gF21_1, aw_gF21_2, aw_isF22, aw_gF22_0, aw_gF22_1, aw_gF22_2, aw_isF23, aw_gF23_0, aw_gF23_1, aw_gF23_2, aw_isF34, aw_gF34_0, aw_gF34_1, aw_gF34_2, aw_gF34_3, aw_gF34_4, aw_gF34_5, aw_isF38, aw_gF38_0, aw_isF39, aw_gF39_0, aw_pF12_4, aw_pF13_6, aw_pF13_7, aw_pF34_4, aw_pF34_5, am_bk, am_pu1, am_pu0, Option.bind_some, eq_self, am_nli, am_nlr, am_nln, am_nlu, if_true, if_false, not_true_eq_false, not_false_eq_true, am_10, am_01, mc251_c, Int32.le_refl]
  | d + 1, c, Y, N, tk, hc, htk => by
    have hV := hW.V
    have hcF : c < F := by omega
    have hF12 := hW.F12
    have ecnt : am_cnt (fun x => G 7 x = 1) (c + 1) = am_cnt (fun x => G 7 x = 1) c + if G 7 c = 1 then 1 else 0 := rfl
    by_cases h7 : G 7 c = 1
    · rw [if_pos h7] at ecnt
      obtain ⟨hk, e7⟩ := hW.at7 hcF h7
      have hK := hW.c hcF
      have m253 := mc253_c (K := K) (A := A) (G := G) (Q := Y) (M := N) (r := r) hW hk
      rw [e7] at m253
      generalize am_cnt (fun x => G 7 x = 1) c = i at *
      have c0 : ¬ A 8 0 ≤ i := by omega
      by_cases hle : l < Int32.ofNat c
      · obtain ⟨Q', M', x1, x2, x3⟩ := mc39_11 hW hSr hCA hU hST hl hC hwe hfl d (c + 1) Y N tk (by omega) (fun q => absurd hle (am_lt1 (by omega) q))
        refine ⟨Q', M', ?_, fun j hj => x2 j (by omega), fun j h1 h2 h3 h4 => ?_⟩
        · rw [ecnt] at x1
          rw [am_e39_11]
          simp only [am_e39_17, am_e39_20, am_e39_23, am_e39_26, am_e39_30, am_e39_33, am_e39_38, am_e39_48, am_e39_110, aw_gU0, aw_pU0, aw_gU1, aw_gU2, aw_pU2, aw_gU3, aw_pU3, aw_gU4, aw_pU4, aw_gU5, aw_pU5, aw_gU6, aw_pU6, aw_gU7, aw_pU7, aw_gC1, aw_gC2, aw_pC2, aw_gC3, aw_pC3, aw_gC4, aw_pC4, aw_gC5, aw_pC5, aw_gC6, aw_pC6, aw_gC7, aw_pC7, aw_gC9, aw_pC9, aw_gC0, aw_gC8, aw_gC10, aw_pC10, aw_gC11, aw_pC11, aw_gC12, aw_pC12, aw_gC13, aw_pC13, aw_gC14, aw_pC14, aw_gC15, aw_pC15, aw_gC16, aw_pC16, aw_gT0, aw_gT1, aw_gT2, aw_gT3, aw_gT4, aw_pT4, aw_gT5, aw_pT5, aw_gT6, aw_pT6, aw_gO0, aw_gO1, aw_gO2, aw_gO3, aw_gO4, aw_gO5, aw_gO6, aw_gP1, aw_pP1, aw_gP2, aw_pP2, aw_gP3, aw_pP3, aw_gP4, aw_pP4, aw_gP5, aw_pP5, aw_gP6, aw_pP6, aw_gP0, aw_gP7, aw_isU, aw_isC, aw_isT, aw_isO, aw_isP, aw_isF12, aw_gF12_0, aw_gF12_1, aw_gF12_2, aw_gF12_3, aw_gF12_4, aw_isF13, aw_gF13_0, aw_gF13_1, aw_gF13_2, aw_gF13_3, aw_gF13_4, aw_gF13_5, aw_gF13_6, aw_gF13_7, aw_isF14, aw_gF14_0, aw_gF14_1, aw_gF14_2, aw_isF18, aw_gF18_0, aw_gF18_1, aw_isF19, aw_gF19_0, aw_gF19_1, aw_gF19_2, aw_isF21, aw_gF21_0, aw_gF21_1, aw_gF21_2, aw_isF22, aw_gF22_0, aw_gF22_1, aw_gF22_2, aw_isF23, aw_gF23_0, aw_gF23_1, aw_gF23_2, aw_isF34, aw_gF34_0, aw_gF34_1, aw_gF34_2, aw_gF34_3, aw_gF34_4, aw_gF34_5, aw_isF38, aw_gF38_0, aw_isF39, aw_gF39_0, aw_pF12_4, aw_pF13_6, aw_pF13_7, aw_pF34_4, aw_pF34_5, am_bk, am_pu1, am_pu0, Option.bind_some, eq_self, am_nli, am_nlr, am_nln, am_nlu, if_true, if_false, not_true_eq_false, not_false_eq_true, am_10, am_01, hV, hK, mc251_c, m253, am_le_nat hW.m9 (aw_W.k9 hW.m9 hk), c0, hle, am_succ]
          exact x1
        · by_cases e : j = c
          · rw [e] at h4
            exact absurd hle h4
          · exact x3 j (by omega) h2 h3 h4
      · obtain ⟨Y', N', y1, y2, y3, y4, y5, y6⟩ := mc39_c (N := N) (Y := Y) (i := Int32.ofNat i) hW hSr hCA hU hST hl hcF h7 (hC c hcF h7) (hwe c hcF) (fl := fl) (by
          rcases hfl with q | q
          · exact Or.inl q
          · exact Or.inr ⟨q.1, q.2 c hcF h7 hle⟩) (htk hle) hle
        obtain ⟨Q', M', x1, x2, x3⟩ := mc39_11 hW hSr hCA hU hST hl hC hwe hfl d (c + 1) Y' N' (tk ||| ar_p G n T c (ar_t G n T c)) (by omega) (fun q t ht => by
          rw [ar_t, if_pos h7, am_bor, am_bor, htk hle t ht, Bool.or_assoc])
        refine ⟨Q', M', ?_, fun j hj => ?_, fun j h1 h2 h3 h4 => ?_⟩
        · rw [ecnt] at x1
          rw [am_e39_11]
          simp only [am_e39_17, am_e39_20, am_e39_23, am_e39_26, am_e39_30, am_e39_33, am_e39_38, am_e39_48, aw_gU0, aw_pU0, aw_gU1, aw_gU2, aw_pU2, aw_gU3, aw_pU3, aw_gU4, aw_pU4, aw_gU5, aw_pU5, aw_gU6, aw_pU6, aw_gU7, aw_pU7, aw_gC1, aw_gC2, aw_pC2, aw_gC3, aw_pC3, aw_gC4, aw_pC4, aw_gC5, aw_pC5, aw_gC6, aw_pC6, aw_gC7, aw_pC7, aw_gC9, aw_pC9, aw_gC0, aw_gC8, aw_gC10, aw_pC10, aw_gC11, aw_pC11, aw_gC12, aw_pC12, aw_gC13, aw_pC13, aw_gC14, aw_pC14, aw_gC15, aw_pC15, aw_gC16, aw_pC16, aw_gT0, aw_gT1, aw_gT2, aw_gT3, aw_gT4, aw_pT4, aw_gT5, aw_pT5, aw_gT6, aw_pT6, aw_gO0, aw_gO1, aw_gO2, aw_gO3, aw_gO4, aw_gO5, aw_gO6, aw_gP1, aw_pP1, aw_gP2, aw_pP2, aw_gP3, aw_pP3, aw_gP4, aw_pP4, aw_gP5, aw_pP5, aw_gP6, aw_pP6, aw_gP0, aw_gP7, aw_isU, aw_isC, aw_isT, aw_isO, aw_isP, aw_isF12, aw_gF12_0, aw_gF12_1, aw_gF12_2, aw_gF12_3, aw_gF12_4, aw_isF13, aw_gF13_0, aw_gF13_1, aw_gF13_2, aw_gF13_3, aw_gF13_4, aw_gF13_5, aw_gF13_6, aw_gF13_7, aw_isF14, aw_gF14_0, aw_gF14_1, aw_gF14_2, aw_isF18, aw_gF18_0, aw_gF18_1, aw_isF19, aw_gF19_0, aw_gF19_1, aw_gF19_2, aw_isF21, aw_gF21_0, aw_gF21_1, aw_gF21_2, aw_isF22, aw_gF22_0, aw_gF22_1, aw_gF22_2, aw_isF23, aw_gF23_0, aw_gF23_1, aw_gF23_2, aw_isF34, aw_gF34_0, aw_gF34_1, aw_gF34_2, aw_gF34_3, aw_gF34_4, aw_gF34_5, aw_isF38, aw_gF38_0, aw_isF39, aw_gF39_0, aw_pF12_4, aw_pF13_6, aw_pF13_7, aw_pF34_4, aw_pF34_5, am_bk, am_pu1, am_pu0, Option.bind_some, eq_self, am_nli, am_nlr, am_nln, am_nlu, if_true, if_false, not_true_eq_false, not_false_eq_true, am_10, am_01, hV, hK, mc251_c, m253, am_le_nat hW.m9 (aw_W.k9 hW.m9 hk), c0, hle]
          rw [y1]
          simp only [am_e39_110, am_bk, am_pu1, am_pu0, Option.bind_some, eq_self, am_nli, am_nlr, am_nln, am_nlu, if_true, if_false, not_true_eq_false, not_false_eq_true, am_10, am_01, am_succ]
          exact x1
        · obtain ⟨a1, a2, a3, a4⟩ := x2 j (by omega)
          obtain ⟨b1, b2, b3, b4⟩ := y2 j (by omega)
          exact ⟨a1.trans b1, a2.trans b2, a3.trans b3, a4.trans b4⟩
        · by_cases e : j = c
          · rw [e]
            obtain ⟨a1, a2, a3, a4⟩ := x2 c (by omega)
            unfold ar_g
            rw [ar_l_1 h7]
            exact ⟨a1.trans y3, a2.trans y4, a3.trans y5, a4.trans y6⟩
          · exact x3 j (by omega) h2 h3 h4
    · rw [if_neg h7, Nat.add_zero] at ecnt
      obtain ⟨Q', M', x1, x2, x3⟩ := mc39_11 hW hSr hCA hU hST hl hC hwe hfl d (c + 1) Y N tk (by omega) (fun q t ht => by
        rw [ar_t, if_neg h7]
        exact htk (am_lt1 (by omega) q) t ht)
      rw [ecnt] at x1
      refine ⟨Q', M', x1, fun j hj => x2 j (by omega), fun j h1 h2 h3 h4 => ?_⟩
      by_cases e : j = c
      · rw [e] at h3
        exact absurd h3 h7
      · exact x3 j (by omega) h2 h3 h4
theorem mc39p (hW : aw_W K A G n F T) (hSr : aw_S r) (hCA : aw_CA G F) (hU : aw_IU G n) (hST : ∀ i, i < n → ∀ j, j < n → G 29 i = G 29 j → G 27 i = G 27 j) (hl : ∀ t, t < 64 → am_I (G 2 t) 6) (hC : ∀ c, c < F → G 7 c = 1 → aw_IC G c) (hwe : ∀ c, c < F → aw_we G c) {l fl : Int32} (hfl : fl = 0 ∨ fl = 1 ∧ ∀ c, c < F → G 7 c = 1 → ¬ l < Int32.ofNat c → G 10 c ≤ 3) {Q : am_G} {M : aw_M} : ∃ Q' M', am_exec 39 0 [.ref 34, .int l, .int fl, am_U, am_U, am_U, am_U] [] (aw_H K A G Q M r) = some (.inl none, aw_H K A G Q' M' r) ∧ ∀ j, j < F → G 7 j = 1 → ¬ l < Int32.ofNat j → ar_g G Q' M' n T j := by
  have hV := hW.V
  have m108 := mc108 (Q := Q) (M := M) (r := r) hW
  obtain ⟨Q', M', x1, -, x3⟩ := mc39_11 (r := r) hW hSr hCA hU hST hl hC hwe hfl F 0 Q M (as_orl (fun _ => True) (fun i => G 9 (A 7 i)) 0 (A 8 0)) (by omega) (fun _ t _ => by
    show _ = (_ || (0 : Int64).toBitVec.getLsbD t)
    rw [am_z64, Bool.or_false])
  refine ⟨Q', M', ?_, fun j hj => x3 j (Nat.zero_le j) hj⟩
  simp only [am_e39_0, am_e39_4, am_e39_7, aw_gU0, aw_pU0, aw_gU1, aw_gU2, aw_pU2, aw_gU3, aw_pU3, aw_gU4, aw_pU4, aw_gU5, aw_pU5, aw_gU6, aw_pU6, aw_gU7, aw_pU7, aw_gC1, aw_gC2, aw_pC2, aw_gC3, aw_pC3, aw_gC4, aw_pC4, aw_gC5, aw_pC5, aw_gC6, aw_pC6, aw_gC7, aw_pC7, aw_gC9, aw_pC9, aw_gC0, aw_gC8, aw_gC10, aw_pC10, aw_gC11, aw_pC11, aw_gC12, aw_pC12, aw_gC13, aw_pC13, aw_gC14, aw_pC14, aw_gC15, aw_pC15, aw_gC16, aw_pC16, aw_gT0, aw_gT1, aw_gT2, aw_gT3, aw_gT4, aw_pT4, aw_gT5, aw_pT5, aw_gT6, aw_pT6, aw_gO0, aw_gO1, aw_gO2, aw_gO3, aw_gO4, aw_gO5, aw_gO6, aw_gP1, aw_pP1, aw_gP2, aw_pP2, aw_gP3, aw_pP3, aw_gP4, aw_pP4, aw_gP5, aw_pP5, aw_gP6, aw_pP6, aw_gP0, aw_gP7, aw_isU, aw_isC, aw_isT, aw_isO, aw_isP, aw_isF12, aw_gF12_0, aw_gF12_1, aw_gF12_2, aw_gF12_3, aw_gF12_4, aw_isF13, aw_gF13_0, aw_gF13_1, aw_gF13_2, aw_gF13_3, aw_gF13_4, aw_gF13_5, aw_gF13_6, aw_gF13_7, aw_isF14, aw_gF14_0, aw_gF14_1, aw_gF14_2, aw_isF18, aw_gF18_0, aw_gF18_1, aw_isF19, aw_gF19_0, aw_gF19_1, aw_gF19_2, aw_isF21, aw_gF21_0, aw_gF21_1, aw_gF21_2, aw_isF22, aw_gF22_0, aw_gF22_1, aw_gF22_2, aw_isF23, aw_gF23_0, aw_gF23_1, aw_gF23_2, aw_isF34, aw_gF34_0, aw_gF34_1, aw_gF34_2, aw_gF34_3, aw_gF34_4, aw_gF34_5, aw_isF38, aw_gF38_0, aw_isF39, aw_gF39_0, aw_pF12_4, aw_pF13_6, aw_pF13_7, aw_pF34_4, aw_pF34_5, am_bk, am_pu1, am_pu0, Option.bind_some, eq_self, am_nli, am_nlr, am_nln, am_nlu, if_true, if_false, not_true_eq_false, not_false_eq_true, am_10, am_01, hV, m108]
  exact x1
theorem mc129p (hW : aw_W K A G n F T) (hN : aw_N K r) (hS : aw_S r) (hC : ∀ c, c < F → G 7 c = 1 → aw_IC G c) (hco : ∀ c, c < F → aw_P (G 8 c)) (hcp : ∀ c, c < F → am_I (G 9 c) 64) (hB : ∀ c, c < F → aw_B (G 14 c)) (hU : aw_IU G n) (hIT : aw_IT G T) (hCA : aw_CA G F) (hST : ∀ i, i < n → ∀ j, j < n → G 29 i = G 29 j → G 27 i = G 27 j) (hl : ∀ t, t < 64 → am_I (G 2 t) 6) (hwe : ∀ c, c < F → aw_we G c) {Q : am_G} {M : aw_M} : ∃ K' A' Q' M' r', am_exec 129 0 [.ref 12] [] (aw_H K A G Q M r) = some (.inl (some (.int (G 1 0 + 1))), aw_H K' A' (am_up (as_te F T (fun c => as_yf G (ar_l G n T c) c) (fun c => as_yw G (ar_l G n T c) c) (fun c => as_yt G (ar_l G n T c) c) (G, n)).1 1 0 (G 1 0 + 1)) Q' M' r') ∧ aw_W K' A' (as_te F T (fun c => as_yf G (ar_l G n T c) c) (fun c => as_yw G (ar_l G n T c) c) (fun c => as_yt G (ar_l G n T c) c) (G, n)).1 (as_te F T (fun c => as_yf G (ar_l G n T c) c) (fun c => as_yw G (ar_l G n T c) c) (fun c => as_yt G (ar_l G n T c) c) (G, n)).2 F T ∧ aw_R r r' 24 3600 ∧ aw_N K' r' := by
  obtain ⟨Q1, M1, m39, all⟩ := mc39p (Q := Q) (M := M) (r := r) (l := 12) (fl := 0) hW hS hCA hU hST hl hC hwe (Or.inl rfl)
  obtain ⟨K', A', Q', r', x1, x2, x3, x4, x5, x6⟩ := mc65 (Q := Q1) (M := M1) (r := r) hW hN hS hC hco hcp hB hU hIT hCA (f := fun c => as_yf G (ar_l G n T c) c) (w := fun c => as_yw G (ar_l G n T c) c) (t := fun c => as_yt G (ar_l G n T c) c) (fun c hc h7 => by
    have hF12 := hW.F12
    obtain ⟨a1, a2, a3, -⟩ := all c hc h7 (by
      rw [show (12 : Int32) = Int32.ofNat 12 from rfl, am_lt_nat (by decide) (by omega)]
      omega)
    exact ⟨a1, a2, a3⟩)
  refine ⟨K', A', Q', M1, r', ?_, x2, x3, x4⟩
  have e1 : (as_te F T (fun c => as_yf G (ar_l G n T c) c) (fun c => as_yw G (ar_l G n T c) c) (fun c => as_yt G (ar_l G n T c) c) (G, n)).1 1 = G 1 := by
    unfold as_te
    rw [as_dn_ne (by decide)]
    dsimp only
    rw [as_t4_ne (by decide), as_t2_ne (by decide)]
  simp only [am_e129_0, am_e129_4, am_e129_10, am_e129_14, am_e129_17, am_e129_22, am_e129_27, am_e129_31, aw_gU0, aw_pU0, aw_gU1, aw_gU2, aw_pU2, aw_gU3, aw_pU3, aw_gU4, aw_pU4, aw_gU5, aw_pU5, aw_gU6, aw_pU6, aw_gU7, aw_pU7, aw_gC1, aw_gC2, aw_pC2, aw_gC3, aw_pC3, aw_gC4, aw_pC4, aw_gC5, aw_pC5, aw_gC6, aw_pC6, aw_gC7, aw_pC7, aw_gC9, aw_pC9, aw_gC0, aw_gC8, aw_gC10, aw_pC10, aw_gC11, aw_pC11, aw_gC12, aw_pC12, aw_gC13, aw_pC13, aw_gC14, aw_pC14, aw_gC15, aw_pC15, aw_gC16, aw_pC16, aw_gT0, aw_gT1, aw_gT2, aw_gT3, aw_gT4, aw_pT4, aw_gT5, aw_pT5, aw_gT6, aw_pT6, aw_gO0, aw_gO1, aw_gO2, aw_gO3, aw_gO4, aw_gO5, aw_gO6, aw_gP1, aw_pP1, aw_gP2, aw_pP2, aw_gP3, aw_pP3, aw_gP4, aw_pP4, aw_gP5, aw_pP5, aw_gP6, aw_pP6, aw_gP0, aw_gP7, aw_isU, aw_isC, aw_isT, aw_isO, aw_isP, aw_isF12, aw_gF12_0, aw_gF12_1, aw_gF12_2, aw_gF12_3, aw_gF12_4, aw_isF13, aw_gF13_0, aw_gF13_1, aw_gF13_2, aw_gF13_3, aw_gF13_4, aw_gF13_5, aw_gF13_6, aw_gF13_7, aw_isF14, aw_gF14_0, aw_gF14_1, aw_gF14_2, aw_isF18, aw_gF18_0, aw_gF18_1, aw_isF19, aw_gF19_0, aw_gF19_1, aw_gF19_2, aw_isF21, aw_gF21_0, aw_gF21_1, aw_gF21_2, aw_isF22, aw_gF22_0, aw_gF22_1, aw_gF22_2, aw_isF23, aw_gF23_0, aw_gF23_1, aw_gF23_2, aw_isF34, aw_gF34_0, aw_gF34_1, aw_gF34_2, aw_gF34_3, aw_gF34_4, aw_gF34_5, aw_isF38, aw_gF38_0, aw_isF39, aw_gF39_0, aw_pF12_4, aw_pF13_6, aw_pF13_7, aw_pF34_4, aw_pF34_5, am_bk, am_pu1, am_pu0, Option.bind_some, eq_self, am_nli, am_nlr, am_nln, am_nlu, if_true, if_false, not_true_eq_false, not_false_eq_true, am_10, am_01, am_up_eq, am_up_ne, am_upd_eq, Nat.reduceEqDiff, m39, x1, e1]
end
