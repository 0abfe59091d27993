/-! THE TURN ASSEMBLED -/
theorem as_tb_IT {G : am_G} {T k : Nat} (h : aw_IT G T) : aw_IT (as_tb k G) T := by
  intro j hj
  obtain ⟨h1, h2, h3, h4⟩ := h j hj
  rw [as_tb_ne (f := 47) (by decide), as_tb_ne (f := 48) (by decide), as_tb_ne (f := 49) (by decide)]
  refine ⟨h1, h2, h3, ?_⟩
  by_cases e : j = k
  · subst e
    unfold as_tb am_gn am_gv'
    dsimp only
    split
    · next hh =>
      split
      · intro q
        rw [am_up_ne (by decide), am_up_ne (by decide), am_up_eq, am_upd_eq] at q
        exact absurd q (by decide)
      · rw [am_up_ne (by decide), am_up_ne (by decide), am_up_ne (by decide), am_up_ne (by decide), am_up_ne (by decide), am_up_ne (by decide), am_up_ne (by decide), am_up_ne (by decide)]
        exact h4
    · exact h4
  · rw [as_tb_at (by decide) e, as_tb_at (by decide) e]
    exact h4
theorem am_it_ind {P : am_G → Prop} {s : Nat → am_G → am_G} (h : ∀ k X, P X → P (s k X)) {G : am_G} (h0 : P G) : ∀ n, P (am_it s G n)
  | 0 => h0
  | n + 1 => h n _ (am_it_ind h h0 n)
theorem aw_IT.ne {G G' : am_G} {T : Nat} (h : aw_IT G T) (h47 : G' 47 = G 47) (h48 : G' 48 = G 48) (h49 : G' 49 = G 49) (h50 : G' 50 = G 50) (h51 : G' 51 = G 51) : aw_IT G' T := by
  intro k hk
  rw [h47, h48, h49, h50, h51]
  exact h k hk
theorem as_pp_IU {F p : Nat} {s : am_G × Nat} (h : aw_IU s.1 s.2) : aw_IU (as_pp F p s).1 (as_pp F p s).2 := by
  have h0 : aw_IU (as_le s.1 (Int32.ofNat p)) s.2 := h.ne (as_le_ne (by decide)) (as_le_ne (by decide)) (as_le_ne (by decide)) (as_le_ne (by decide))
  have := as_kw_ind (p := Int32.ofNat p) (P := aw_IU) (fun G n j h0 hj => h0.dr' hj) 40 (as_le s.1 (Int32.ofNat p)) s.2 (as_due (as_le s.1 (Int32.ofNat p)) (Int32.ofNat p) s.2 F) h0
  unfold as_pp as_kp
  dsimp only
  exact this.ne (as_fi_ne (by decide)) (as_fi_ne (by decide)) (as_fi_ne (by decide)) (as_fi_ne (by decide))
/-- the players' turns, in their order -/
def as_ppl (F : Nat) (l : List Nat) (s : am_G × Nat) : am_G × Nat := l.foldl (fun s p => as_pp F p s) s
theorem as_ppl_ne {F f : Nat} (h : ¬ (24 ≤ f ∧ f ≤ 37) ∧ ¬ f = 40) (l : List Nat) : ∀ (s : am_G × Nat), (as_ppl F l s).1 f = s.1 f := by
  induction l with
  | nil => intro s; unfold as_ppl; rw [List.foldl_nil]
  | cons p l ih =>
    intro s
    unfold as_ppl at ih ⊢
    rw [List.foldl_cons, ih, as_pp_ne h]
theorem as_ppl_IU {F : Nat} (l : List Nat) : ∀ (s : am_G × Nat), aw_IU s.1 s.2 → aw_IU (as_ppl F l s).1 (as_ppl F l s).2 := by
  induction l with
  | nil => intro s h; unfold as_ppl; rw [List.foldl_nil]; exact h
  | cons p l ih =>
    intro s h
    unfold as_ppl at ih ⊢
    rw [List.foldl_cons]
    exact ih _ (as_pp_IU h)
theorem as_ppl_UO {F : Nat} (l : List Nat) : ∀ (s : am_G × Nat), aw_UO s.1 s.2 → aw_UO (as_ppl F l s).1 (as_ppl F l s).2 := by
  induction l with
  | nil => intro s h; unfold as_ppl; rw [List.foldl_nil]; exact h
  | cons p l ih =>
    intro s h
    unfold as_ppl at ih ⊢
    rw [List.foldl_cons]
    exact ih _ (as_pp_UO h)
theorem as_cyl_IU {f w t : Nat → Int32} (l : List Nat) : ∀ (s : am_G × Nat), l.Nodup → aw_IU s.1 s.2 → (∀ c, c ∈ l → aw_IC s.1 c) → aw_IU (as_cyl f w t l s).1 (as_cyl f w t l s).2 := by
  induction l with
  | nil => intro s _ h _; unfold as_cyl; rw [List.foldl_nil]; exact h
  | cons c l ih =>
    intro s hd h hC
    unfold as_cyl at ih ⊢
    rw [List.foldl_cons]
    exact ih _ (List.nodup_cons.mp hd).2 (as_cy_IU h (hC c List.mem_cons_self)) (fun j hj => as_cy_IC (fun e => (List.nodup_cons.mp hd).1 (by rw [← e]; exact hj)) (hC c List.mem_cons_self) (hC j (List.mem_cons_of_mem _ hj)))
theorem as_cyl_B {f w t : Nat → Int32} {j : Nat} (l : List Nat) : ∀ (s : am_G × Nat), l.Nodup → aw_B (s.1 14 j) → (∀ c, c ∈ l → aw_IC s.1 c) → aw_B ((as_cyl f w t l s).1 14 j) := by
  induction l with
  | nil => intro s _ h _; unfold as_cyl; rw [List.foldl_nil]; exact h
  | cons c l ih =>
    intro s hd h hC
    unfold as_cyl at ih ⊢
    rw [List.foldl_cons]
    exact ih _ (List.nodup_cons.mp hd).2 (as_cy_B h (hC c List.mem_cons_self)) (fun j hj => as_cy_IC (fun e => (List.nodup_cons.mp hd).1 (by rw [← e]; exact hj)) (hC c List.mem_cons_self) (hC j (List.mem_cons_of_mem _ hj)))
theorem as_li_nd {G : am_G} {F : Nat} : (as_li G F).Nodup := List.Pairwise.filter _ (by rw [← List.range_eq_range']; exact List.nodup_range)
/-- the state behind cities and players, and how many units there are -/
def as_t2 (F : Nat) (f w t : Nat → Int32) (s : am_G × Nat) : am_G × Nat := as_ppl F (List.range' 0 4) (as_cyl f w t (as_li s.1 F) s)
/-- the state behind tributes, treaties' turns, borders and jobs -/
def as_t4 (F T : Nat) (G : am_G) (n : Nat) : am_G := am_it as_jb (am_it (as_bd F) (am_it as_lz (am_it as_tb G T) T) 64) n
/-- the state behind a turn -/
def as_te (F T : Nat) (f w t : Nat → Int32) (s : am_G × Nat) : am_G × Nat := as_dn as_rs (as_t2 F f w t s).2 (as_t4 F T (as_t2 F f w t s).1 (as_t2 F f w t s).2, (as_t2 F f w t s).2)
theorem as_t2_ne {F x : Nat} {f w t : Nat → Int32} {s : am_G × Nat} (h : ¬ (10 ≤ x ∧ x ≤ 14) ∧ ¬ x = 16 ∧ ¬ x = 17 ∧ ¬ (24 ≤ x ∧ x ≤ 37) ∧ ¬ x = 40) : (as_t2 F f w t s).1 x = s.1 x := by
  unfold as_t2
  rw [as_ppl_ne (by omega), as_cyl_ne (by omega)]
theorem as_t4_ne {F T n x : Nat} {G : am_G} (h : ¬ x = 3 ∧ ¬ x = 4 ∧ ¬ x = 32 ∧ ¬ x = 33 ∧ ¬ x = 34 ∧ ¬ x = 38 ∧ ¬ x = 40 ∧ ¬ x = 49 ∧ ¬ x = 50 ∧ ¬ x = 51) : as_t4 F T G n x = G x := by
  unfold as_t4
  rw [am_it_row (fun k X => as_jb_ne (by omega)), am_it_row (fun k X => as_bd_ne (by omega)), am_it_row (fun k X => as_lz_ne (by omega)), am_it_row (fun k X => as_tb_ne (by omega))]
section
variable {K : aw_K} {A : aw_A} {G Q : am_G} {M : aw_M} {r : am_H} {n F T : Nat}
theorem mc65 (hW : aw_W K A G n F T) (hN : aw_N K r) (hS : aw_S r) (hC : ∀ c, c < F → G 7 c = 1 → aw_IC G c) (hco : ∀ c, c < F → aw_P (G 8 c)) (hcp : ∀ c, c < F → am_I (G 9 c) 64) (hB : ∀ c, c < F → aw_B (G 14 c)) (hU : aw_IU G n) (hIT : aw_IT G T) (hCA : aw_CA G F) {f w t : Nat → Int32} (hf : ∀ c, c < F → G 7 c = 1 → Q 0 c = f c ∧ Q 1 c = w c ∧ Q 2 c = t c) : ∃ K' A' Q' r', am_exec 65 0 [.ref 39] [] (aw_H K A G Q M r) = some (.inl none, aw_H K' A' (as_te F T f w t (G, n)).1 Q' M r') ∧ aw_W K' A' (as_te F T f w t (G, n)).1 (as_te F T f w t (G, n)).2 F T ∧ aw_R r r' 24 3600 ∧ aw_N K' r' ∧ (∀ f, ¬ f = 3 → Q' f = Q f) ∧ (∀ f, ¬ f = 0 → ¬ f = 5 → ¬ f = 6 → A' f = A f) := by
  obtain ⟨K1, A1, Q1, r1, x1, x2, x3, x4, x5, x6⟩ := mc66 (M := M) hW hN hS hC hf
  obtain ⟨s1, hs1⟩ : ∃ s1, s1 = as_cyl f w t (as_li G F) (G, n) := ⟨_, rfl⟩
  have hIC1 : ∀ c, c ∈ as_li G F → aw_IC G c := fun c hc => hC c (as_li_mem.mp hc).1 (as_li_mem.mp hc).2
  have U1 : aw_IU s1.1 s1.2 := by rw [hs1]; exact as_cyl_IU _ (G, n) as_li_nd hU hIC1
  have B1 : ∀ c, c < F → aw_B (s1.1 14 c) := fun c hc => by rw [hs1]; exact as_cyl_B _ (G, n) as_li_nd (hB c hc) hIC1
  have r1' : ∀ x, x = 4 ∨ x = 5 ∨ x = 7 ∨ x = 8 ∨ x = 9 ∨ x = 47 ∨ x = 48 ∨ x = 49 ∨ x = 50 ∨ x = 51 → s1.1 x = G x := fun x hx => by rw [hs1, as_cyl_ne (by omega)]
  rw [← hs1] at x1 x2
  obtain ⟨K2, A2, Q2, r2, y1, y2, y3, y4, y5, y6⟩ := mc71 (Q := Q1) (M := M) x2 (x3.S hS) (by rw [r1' 8 (by decide)]; exact hco) B1 (fun k hk => (U1 k hk).1)
  obtain ⟨s2, hs2⟩ : ∃ s2, s2 = as_ppl F (List.range' 0 4) s1 := ⟨_, rfl⟩
  have hs2' : (List.range' 0 4).foldl (fun s p => as_pp F p s) (s1.1, s1.2) = s2 := by rw [hs2]; rfl
  rw [hs2'] at y1 y2
  have ht2 : as_t2 F f w t (G, n) = s2 := by
    unfold as_t2
    rw [hs2, hs1]
  have U2 : aw_IU s2.1 s2.2 := by rw [hs2]; exact as_ppl_IU _ s1 U1
  have r2' : ∀ x, x = 4 ∨ x = 5 ∨ x = 7 ∨ x = 8 ∨ x = 9 ∨ x = 47 ∨ x = 48 ∨ x = 49 ∨ x = 50 ∨ x = 51 → s2.1 x = G x := fun x hx => by rw [hs2, as_ppl_ne (by omega), r1' x hx]
  have I2 : aw_IT s2.1 T := hIT.ne (r2' 47 (by decide)) (r2' 48 (by decide)) (r2' 49 (by decide)) (r2' 50 (by decide)) (r2' 51 (by decide))
  have m75 := mc75 (Q := Q2) (M := M) (r := r2) y2 I2
  have n3 : ∀ x, (¬ x = 34 ∧ ¬ x = 38 ∧ ¬ x = 40 ∧ ¬ x = 50 ∧ ¬ x = 51) → am_it as_tb s2.1 T x = s2.1 x := fun x hx => am_it_row (fun k X => as_tb_ne hx) T
  have W3 : aw_W K2 A2 (am_it as_tb s2.1 T) s2.2 F T := y2.up (n3 24 (by decide)) (n3 6 (by decide)) (n3 45 (by decide)) (n3 42 (by decide)) (n3 7 (by decide))
  have I3 : aw_IT (am_it as_tb s2.1 T) T := am_it_ind (P := fun X => aw_IT X T) (fun k X h => as_tb_IT h) I2 T
  have m37 := mc37 (Q := Q2) (M := M) (r := r2) W3 I3
  have n4 : ∀ x, (¬ x = 34 ∧ ¬ x = 38 ∧ ¬ x = 40 ∧ ¬ x = 49 ∧ ¬ x = 50 ∧ ¬ x = 51) → am_it as_lz (am_it as_tb s2.1 T) T x = s2.1 x := fun x hx => by rw [am_it_row (fun k X => as_lz_ne (by omega)) T, n3 x (by omega)]
  have W4 : aw_W K2 A2 (am_it as_lz (am_it as_tb s2.1 T) T) s2.2 F T := y2.up (n4 24 (by decide)) (n4 6 (by decide)) (n4 45 (by decide)) (n4 42 (by decide)) (n4 7 (by decide))
  have m77 := mc77 (Q := Q2) (M := M) (r := r2) W4 (hCA.up (by rw [n4 5 (by decide), r2' 5 (by decide)]) (by rw [n4 7 (by decide), r2' 7 (by decide)]) (by rw [n4 9 (by decide), r2' 9 (by decide)])) (by rw [n4 8 (by decide), r2' 8 (by decide)]; exact hco) (by rw [n4 9 (by decide), r2' 9 (by decide)]; exact hcp)
  obtain ⟨G5, hG5⟩ : ∃ G5, G5 = am_it (as_bd F) (am_it as_lz (am_it as_tb s2.1 T) T) 64 := ⟨_, rfl⟩
  have n5 : ∀ x, (¬ x = 4 ∧ ¬ x = 34 ∧ ¬ x = 38 ∧ ¬ x = 40 ∧ ¬ x = 49 ∧ ¬ x = 50 ∧ ¬ x = 51) → G5 x = s2.1 x := fun x hx => by rw [hG5, am_it_row (fun k X => as_bd_ne (by omega)) 64, n4 x (by omega)]
  have W5 : aw_W K2 A2 G5 s2.2 F T := y2.up (n5 24 (by decide)) (n5 6 (by decide)) (n5 45 (by decide)) (n5 42 (by decide)) (n5 7 (by decide))
  rw [← hG5] at m77
  have U5 : aw_IU G5 s2.2 := U2.ne (n5 27 (by decide)) (n5 28 (by decide)) (n5 29 (by decide)) (n5 30 (by decide))
  have m80 := mc80 (Q := Q2) (M := M) (r := r2) W5 U5
  obtain ⟨G6, hG6⟩ : ∃ G6, G6 = am_it as_jb G5 s2.2 := ⟨_, rfl⟩
  have n6 : ∀ x, (¬ x = 33 ∧ ¬ x = 3 ∧ ¬ x = 32) → G6 x = G5 x := fun x hx => by rw [hG6, am_it_row (fun k X => as_jb_ne hx) s2.2]
  have W6 : aw_W K2 A2 G6 s2.2 F T := W5.up (n6 24 (by decide)) (n6 6 (by decide)) (n6 45 (by decide)) (n6 42 (by decide)) (n6 7 (by decide))
  have U6 : aw_IU G6 s2.2 := U5.ne (n6 27 (by decide)) (n6 28 (by decide)) (n6 29 (by decide)) (n6 30 (by decide))
  rw [← hG6] at m80
  obtain ⟨K3, A3, Q3, r3, z1, z2, z3, z4, z5, z6⟩ := mc81 (Q := Q2) (M := M) W6 (y3.S (x3.S hS)) U6
  have hte : as_te F T f w t (G, n) = as_dn as_rs s2.2 (G6, s2.2) := by
    unfold as_te as_t4
    rw [ht2, ← hG5, ← hG6]
  rw [hte]
  refine ⟨K3, A3, Q3, r3, ?_, z2, ((x3.tr y3).tr z3).mono (by omega) (by omega), (x4.mono (fun a h => z6 a (y6 a h)) (Nat.le_trans y3.2.1 z3.2.1)), fun f hf => by rw [z4 f hf, y4 f hf, x5 f hf], fun f h0 h5 h6 => by rw [z5 f h0, y5 f h0, x6 f h0 h5 h6]⟩
  simp only [am_e65_0, am_e65_4, am_e65_8, am_e65_12, am_e65_16, am_e65_19, am_e65_22, am_e65_26, am_e65_30, am_e65_34, aw_gU0, aw_pU0, aw_gU1, aw_gU2, aw_pU2, aw_gU3, aw_pU3, aw_gU4, aw_pU4, aw_gU5, aw_pU5, aw_gU6, aw_pU6, aw_gU7, aw_pU7, aw_gC1, aw_gC2, aw_pC2, aw_gC3, aw_pC3, aw_gC4, aw_pC4, aw_gC5, aw_pC5, aw_gC6, aw_pC6, aw_gC7, aw_pC7, aw_gC9, aw_pC9, aw_gC0, aw_gC8, aw_gC10, aw_pC10, aw_gC11, aw_pC11, aw_gC12, aw_pC12, aw_gC13, aw_pC13, aw_gC14, aw_pC14, aw_gC15, aw_pC15, aw_gC16, aw_pC16, aw_gT0, aw_gT1, aw_gT2, aw_gT3, aw_gT4, aw_pT4, aw_gT5, aw_pT5, aw_gT6, aw_pT6, aw_gO0, aw_gO1, aw_gO2, aw_gO3, aw_gO4, aw_gO5, aw_gO6, aw_gP1, aw_pP1, aw_gP2, aw_pP2, aw_gP3, aw_pP3, aw_gP4, aw_pP4, aw_gP5, aw_pP5, aw_gP6, aw_pP6, aw_gP0, aw_gP7, aw_isU, aw_isC, aw_isT, aw_isO, aw_isP, aw_isF12, aw_gF12_0, aw_gF12_1, aw_gF12_2, aw_gF12_3, aw_gF12_4, aw_isF13, aw_gF13_0, aw_gF13_1, aw_gF13_2, aw_gF13_3, aw_gF13_4, aw_gF13_5, aw_gF13_6, aw_gF13_7, aw_isF14, aw_gF14_0, aw_gF14_1, aw_gF14_2, aw_isF18, aw_gF18_0, aw_gF18_1, aw_isF19, aw_gF19_0, aw_gF19_1, aw_gF19_2, aw_isF21, aw_gF21_0, aw_gF21_1, aw_gF21_2, aw_isF22, aw_gF22_0, aw_gF22_1, aw_gF22_2, aw_isF23, aw_gF23_0, aw_gF23_1, aw_gF23_2, aw_isF34, aw_gF34_0, aw_gF34_1, aw_gF34_2, aw_gF34_3, aw_gF34_4, aw_gF34_5, aw_isF38, aw_gF38_0, aw_isF39, aw_gF39_0, aw_pF12_4, aw_pF13_6, aw_pF13_7, aw_pF34_4, aw_pF34_5, am_bk, am_pu1, am_pu0, Option.bind_some, eq_self, am_nli, am_nlr, am_nln, am_nlu, if_true, if_false, not_true_eq_false, not_false_eq_true, am_10, am_01, x1, y1, m75, m37, m77, m80, z1, hW.V, x2.V, y2.V, z2.V]
end
