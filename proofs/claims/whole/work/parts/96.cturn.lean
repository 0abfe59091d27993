/-! THE CLASS'S endTurn, whole -/
section
variable {K : aw_K} {A : aw_A} {G Q : am_G} {M : aw_M} {r : am_H} {n F T : Nat}
theorem aw_W.inj (hW : aw_W K A G n F T) {i j : Nat} (hi : i < A 8 0) (hj : j < A 8 0) (hij : i < j) : ¬ A 7 i = A 7 j := by
  have hl : (List.range (A 8 0)).map (A 7) = as_li G F := by
    have := hW.l
    unfold aw_lc at this
    rw [this, List.range_eq_range']
    rfl
  have hd : ((List.range (A 8 0)).map (A 7)).Nodup := by rw [hl]; exact as_li_nd
  intro e
  have h1 := (List.nodup_iff_pairwise_ne.mp hd)
  rw [List.pairwise_map, List.pairwise_iff_getElem] at h1
  have := h1 i j (by rw [List.length_range]; exact hi) (by rw [List.length_range]; exact hj) hij
  rw [List.getElem_range, List.getElem_range] at this
  exact this e
theorem as_qc_all (hW : aw_W K A G n F T) {l : Int32} (hlast : ∀ c, c < F → ¬ l < Int32.ofNat c) {s0 : am_G × aw_M × Int64} : ∀ i, i ≤ A 8 0 → ∀ x, x < i → (am_it (fun i s => as_qc G n T l (A 7 i) s) s0 i).1 0 (A 7 x) = as_yf G ((am_it (fun i s => as_qc G n T l (A 7 i) s) s0 i).2.1 0 (A 7 x)) (A 7 x) ∧ (am_it (fun i s => as_qc G n T l (A 7 i) s) s0 i).1 1 (A 7 x) = as_yw G ((am_it (fun i s => as_qc G n T l (A 7 i) s) s0 i).2.1 0 (A 7 x)) (A 7 x) ∧ (am_it (fun i s => as_qc G n T l (A 7 i) s) s0 i).1 2 (A 7 x) = as_yt G ((am_it (fun i s => as_qc G n T l (A 7 i) s) s0 i).2.1 0 (A 7 x)) (A 7 x) := by
  intro i
  induction i with
  | zero => intro _ x hx; exact absurd hx (Nat.not_lt_zero x)
  | succ i ih =>
    intro hi x hx
    have ih := ih (by omega)
    rw [am_it]
    generalize am_it (fun i s => as_qc G n T l (A 7 i) s) s0 i = s at ih ⊢
    by_cases e : x = i
    · subst e
      exact as_qc_got (hlast _ (hW.li (by omega)).1)
    · have h1 := hW.inj (show x < A 8 0 by omega) (show i < A 8 0 by omega) (by omega)
      obtain ⟨a, b, c, d⟩ := as_qc_ne (G := G) (n := n) (T := T) (l := l) (s := s) h1
      rw [a, b, c, d]
      exact ih x (by omega)
/-- the class's own rows, plans and tiles taken when the cities have planned -/
def as_pc (A : aw_A) (G Q : am_G) (M : aw_M) (n T : Nat) : am_G × aw_M × Int64 := am_it (fun i s => as_qc G n T 12 (A 7 i) s) (Q, M, as_orl (fun _ => True) (fun i => G 9 (A 7 i)) 0 (A 8 0)) (A 8 0)
theorem mc129 (hW : aw_W K A G n F T) (hN : aw_N K r) (hS : aw_S r) (hC : ∀ c, c < F → G 7 c = 1 → aw_IC G c) (hco : ∀ c, c < F → aw_P (G 8 c)) (hcp : ∀ c, c < F → am_I (G 9 c) 64) (hB : ∀ c, c < F → aw_B (G 14 c)) (hU : aw_IU G n) (hIT : aw_IT G T) (hCA : aw_CA G F) (hST : ∀ i, i < n → ∀ j, j < n → G 29 i = G 29 j → G 27 i = G 27 j) (hl : ∀ t, t < 64 → am_I (G 2 t) 6) : ∃ K' A' Q' r', am_exec 129 0 [.ref 12] [] (aw_H K A G Q M r) = some (.inl (some (.int (G 1 0 + 1))), aw_H K' A' (am_up (as_te F T (fun c => as_yf G ((as_pc A G Q M n T).2.1 0 c) c) (fun c => as_yw G ((as_pc A G Q M n T).2.1 0 c) c) (fun c => as_yt G ((as_pc A G Q M n T).2.1 0 c) c) (G, n)).1 1 0 (G 1 0 + 1)) Q' (as_pc A G Q M n T).2.1 r') ∧ aw_W K' A' (as_te F T (fun c => as_yf G ((as_pc A G Q M n T).2.1 0 c) c) (fun c => as_yw G ((as_pc A G Q M n T).2.1 0 c) c) (fun c => as_yt G ((as_pc A G Q M n T).2.1 0 c) c) (G, n)).1 (as_te F T (fun c => as_yf G ((as_pc A G Q M n T).2.1 0 c) c) (fun c => as_yw G ((as_pc A G Q M n T).2.1 0 c) c) (fun c => as_yt G ((as_pc A G Q M n T).2.1 0 c) c) (G, n)).2 F T ∧ aw_R r r' 24 3600 ∧ aw_N K' r' := by
  have m39 := mc39 (Q := Q) (M := M) (r := r) (l := 12) hW hS hCA hU hST hl hC
  have m39 : am_exec 39 0 [.ref 34, .int 12, .int 0, am_U, am_U, am_U, am_U] [] (aw_H K A G Q M r) = some (.inl none, aw_H K A G (as_pc A G Q M n T).1 (as_pc A G Q M n T).2.1 r) := m39
  have all := as_qc_all (s0 := (Q, M, as_orl (fun _ => True) (fun i => G 9 (A 7 i)) 0 (A 8 0))) (l := 12) hW (fun c hc => by
    have := hW.F12
    rw [show (12 : Int32) = Int32.ofNat 12 from rfl, am_lt_nat (by decide) (by omega)]
    omega) (A 8 0) (Nat.le_refl _)
  have all : ∀ x, x < A 8 0 → (as_pc A G Q M n T).1 0 (A 7 x) = as_yf G ((as_pc A G Q M n T).2.1 0 (A 7 x)) (A 7 x) ∧ (as_pc A G Q M n T).1 1 (A 7 x) = as_yw G ((as_pc A G Q M n T).2.1 0 (A 7 x)) (A 7 x) ∧ (as_pc A G Q M n T).1 2 (A 7 x) = as_yt G ((as_pc A G Q M n T).2.1 0 (A 7 x)) (A 7 x) := all
  obtain ⟨P, hP⟩ : ∃ P, P = as_pc A G Q M n T := ⟨_, rfl⟩
  rw [← hP] at m39 all ⊢
  obtain ⟨K', A', Q', r', x1, x2, x3, x4, x5, x6⟩ := mc65 (Q := P.1) (M := P.2.1) (r := r) hW hN hS hC hco hcp hB hU hIT hCA (f := fun c => as_yf G (P.2.1 0 c) c) (w := fun c => as_yw G (P.2.1 0 c) c) (t := fun c => as_yt G (P.2.1 0 c) c) (fun c hc h7 => by
    obtain ⟨x, y1, y2⟩ := hW.lx hc h7
    have := all x y1
    rw [y2] at this
    exact this)
  refine ⟨K', A', Q', r', ?_, x2, x3, x4⟩
  have e1 : (as_te F T (fun c => as_yf G (P.2.1 0 c) c) (fun c => as_yw G (P.2.1 0 c) c) (fun c => as_yt G (P.2.1 0 c) c) (G, n)).1 1 = G 1 := by
    unfold as_te
    rw [as_dn_ne (by decide)]
    dsimp only
    rw [as_t4_ne (by decide), as_t2_ne (by decide)]
  simp only [am_e129_0, am_e129_4, am_e129_10, am_e129_14, am_e129_17, am_e129_22, am_e129_27, am_e129_31, aw_gU0, aw_pU0, aw_gU1, aw_gU2, aw_pU2, aw_gU3, aw_pU3, aw_gU4, aw_pU4, aw_gU5, aw_pU5, aw_gU6, aw_pU6, aw_gU7, aw_pU7, aw_gC1, aw_gC2, aw_pC2, aw_gC3, aw_pC3, aw_gC4, aw_pC4, aw_gC5, aw_pC5, aw_gC6, aw_pC6, aw_gC7, aw_pC7, aw_gC9, aw_pC9, aw_gC0, aw_gC8, aw_gC10, aw_pC10, aw_gC11, aw_pC11, aw_gC12, aw_pC12, aw_gC13, aw_pC13, aw_gC14, aw_pC14, aw_gC15, aw_pC15, aw_gC16, aw_pC16, aw_gT0, aw_gT1, aw_gT2, aw_gT3, aw_gT4, aw_pT4, aw_gT5, aw_pT5, aw_gT6, aw_pT6, aw_gO0, aw_gO1, aw_gO2, aw_gO3, aw_gO4, aw_gO5, aw_gO6, aw_gP1, aw_pP1, aw_gP2, aw_pP2, aw_gP3, aw_pP3, aw_gP4, aw_pP4, aw_gP5, aw_pP5, aw_gP6, aw_pP6, aw_gP0, aw_gP7, aw_isU, aw_isC, aw_isT, aw_isO, aw_isP, aw_isF12, aw_gF12_0, aw_gF12_1, aw_gF12_2, aw_gF12_3, aw_gF12_4, aw_isF13, aw_gF13_0, aw_gF13_1, aw_gF13_2, aw_gF13_3, aw_gF13_4, aw_gF13_5, aw_gF13_6, aw_gF13_7, aw_isF14, aw_gF14_0, aw_gF14_1, aw_gF14_2, aw_isF18, aw_gF18_0, aw_gF18_1, aw_isF19, aw_gF19_0, aw_gF19_1, aw_gF19_2, aw_isF21, aw_gF21_0, aw_gF21_1, aw_gF21_2, aw_isF22, aw_gF22_0, aw_gF22_1, aw_gF22_2, aw_isF23, aw_gF23_0, aw_gF23_1, aw_gF23_2, aw_isF34, aw_gF34_0, aw_gF34_1, aw_gF34_2, aw_gF34_3, aw_gF34_4, aw_gF34_5, aw_isF38, aw_gF38_0, aw_isF39, aw_gF39_0, aw_pF12_4, aw_pF13_6, aw_pF13_7, aw_pF34_4, aw_pF34_5, am_bk, am_pu1, am_pu0, Option.bind_some, eq_self, am_nli, am_nlr, am_nln, am_nlu, if_true, if_false, not_true_eq_false, not_false_eq_true, am_10, am_01, am_up_eq, am_up_ne, am_upd_eq, Nat.reduceEqDiff, m39, x1, e1]
end
