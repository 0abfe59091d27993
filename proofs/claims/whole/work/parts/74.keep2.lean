/-! WHAT A TURN KEEPS: units, buildings, coins -/
theorem aw_IU.dr' {G : am_G} {n j : Nat} (h : aw_IU G n) (hj : j < n) : aw_IU (am_dr G n j) (n - 1) := aw_IU.dr (fun i hi _ => h i hi)
theorem aw_IU.ne {G G' : am_G} {n : Nat} (h : aw_IU G n) (h27 : G' 27 = G 27) (h28 : G' 28 = G 28) (h29 : G' 29 = G 29) (h30 : G' 30 = G 30) : aw_IU G' n := by
  intro k hk
  rw [h27, h28, h29, h30]
  exact h k hk
theorem aw_IU.mk {G : am_G} {n : Nat} {p k t : Int32} (h : aw_IU G n) (hp : aw_P p) (hk : am_I k 5) (ht : am_I t 64) : aw_IU (am_mk G n p k t) (n + 1) := by
  intro j hj
  have r27 : am_mk G n p k t 27 = am_upd (G 27) n p := by
    unfold am_mk
    rw [am_up_ne (by decide), am_up_ne (by decide), am_up_ne (by decide), am_up_ne (by decide), am_up_ne (by decide), am_up_ne (by decide), am_up_ne (by decide), am_up_ne (by decide), am_up_eq, am_up_ne (by decide)]
  have r28 : am_mk G n p k t 28 = am_upd (G 28) n k := by
    unfold am_mk
    rw [am_up_ne (by decide), am_up_ne (by decide), am_up_ne (by decide), am_up_ne (by decide), am_up_ne (by decide), am_up_ne (by decide), am_up_ne (by decide), am_up_eq, am_up_ne (by decide), am_up_ne (by decide)]
  have r29 : am_mk G n p k t 29 = am_upd (G 29) n t := by
    unfold am_mk
    rw [am_up_ne (by decide), am_up_ne (by decide), am_up_ne (by decide), am_up_ne (by decide), am_up_ne (by decide), am_up_ne (by decide), am_up_eq, am_up_ne (by decide), am_up_ne (by decide), am_up_ne (by decide)]
  have r30 : am_mk G n p k t 30 = am_upd (G 30) n 10 := by
    unfold am_mk
    rw [am_up_ne (by decide), am_up_ne (by decide), am_up_ne (by decide), am_up_ne (by decide), am_up_ne (by decide), am_up_eq, am_up_ne (by decide), am_up_ne (by decide), am_up_ne (by decide), am_up_ne (by decide)]
  rw [r27, r28, r29, r30]
  by_cases e : j = n
  · subst e
    rw [am_upd_eq, am_upd_eq, am_upd_eq, am_upd_eq]
    exact ⟨hp, hk, ht, 10, rfl, by decide, by decide⟩
  · rw [am_upd_ne e, am_upd_ne e, am_upd_ne e, am_upd_ne e]
    exact h j (by omega)
theorem am_I5 {w : Int32} (hw : am_I w 10) (h5 : ¬ 5 ≤ w) : am_I w 5 := by
  obtain ⟨x, w1, w2⟩ := hw.cases
  rw [w2] at h5 ⊢
  rw [show (5 : Int32) = Int32.ofNat 5 from rfl, am_le_nat (by decide) (by omega)] at h5
  exact am_Ik (by omega) (by decide)
theorem am_I59 {w : Int32} (hw : am_I w 10) (h5 : 5 ≤ w) : ∃ x, x < 5 ∧ w = Int32.ofNat (x + 5) := by
  obtain ⟨x, w1, w2⟩ := hw.cases
  rw [w2] at h5
  rw [show (5 : Int32) = Int32.ofNat 5 from rfl, am_le_nat (by decide) (by omega)] at h5
  exact ⟨x - 5, by omega, by rw [w2, show x - 5 + 5 = x by omega]⟩
theorem aw_B_or' : ∀ x, x < 32 → ∀ y, y < 5 → ∃ z, z < 32 ∧ Int32.ofNat (32 * x) ||| (1 <<< (Int32.ofNat (y + 5) &&& 31)) = Int32.ofNat (32 * z) := by decide +kernel
theorem as_q0 {G : am_G} {c q : Nat} (hq : G 17 c = Int32.ofNat q) (h : ¬ G 17 c = 0) : 0 < q := by
  rcases Nat.eq_zero_or_pos q with e | e
  · exact absurd (by rw [hq, e]; rfl) h
  · exact e
theorem as_bu_IU {G : am_G} {n c q : Nat} (h : aw_IU G n) (hp : aw_P (G 8 c)) (ht : am_I (G 9 c) 64) (hq : G 17 c = Int32.ofNat q) (hw : 0 < q → am_I (G 16 (6 * c)) 10) : aw_IU (as_bu G n c).1 (as_bu G n c).2 := by
  unfold as_bu
  split
  · next hh =>
    have hw' := hw (as_q0 hq hh.1)
    split
    · dsimp only
      exact h.ne (by rw [am_up_ne (by decide), as_tk_ne (by decide) (by decide), am_up_ne (by decide)]) (by rw [am_up_ne (by decide), as_tk_ne (by decide) (by decide), am_up_ne (by decide)]) (by rw [am_up_ne (by decide), as_tk_ne (by decide) (by decide), am_up_ne (by decide)]) (by rw [am_up_ne (by decide), as_tk_ne (by decide) (by decide), am_up_ne (by decide)])
    · next h5 =>
      dsimp only
      refine aw_IU.mk ?_ hp (am_I5 hw' h5) ht
      exact h.ne (by rw [am_up_ne (by decide), as_tk_ne (by decide) (by decide), am_up_ne (by decide)]) (by rw [am_up_ne (by decide), as_tk_ne (by decide) (by decide), am_up_ne (by decide)]) (by rw [am_up_ne (by decide), as_tk_ne (by decide) (by decide), am_up_ne (by decide)]) (by rw [am_up_ne (by decide), as_tk_ne (by decide) (by decide), am_up_ne (by decide)])
  · exact h
theorem as_bu_B {G : am_G} {n c q j : Nat} (h : aw_B (G 14 j)) (hq : G 17 c = Int32.ofNat q) (hw : 0 < q → am_I (G 16 (6 * c)) 10) : aw_B ((as_bu G n c).1 14 j) := by
  by_cases e : j = c
  · subst e
    unfold as_bu
    split
    · next hh =>
      have hw' := hw (as_q0 hq hh.1)
      split
      · next h5 =>
        dsimp only
        rw [am_up_eq, am_upd_eq]
        obtain ⟨x, x1, x2⟩ := h
        obtain ⟨y, y1, y2⟩ := am_I59 hw' h5
        rw [x2, y2]
        exact aw_B_or' x x1 y y1
      · dsimp only
        rw [am_mk_10 (by decide), am_up_ne (by decide), as_tk_ne (by decide) (by decide), am_up_ne (by decide)]
        exact h
    · exact h
  · rw [as_bu_at e (by decide)]
    exact h
theorem as_cy_IU {x w t : Int32} {c : Nat} {s : am_G × Nat} (h : aw_IU s.1 s.2) (h0 : aw_IC s.1 c) : aw_IU (as_cy x w t c s).1 (as_cy x w t c s).2 := by
  obtain ⟨i1, i2, -, q, q1, q2, q3⟩ := h0
  have ne : ∀ f, ¬ f = 10 → ¬ f = 11 → ¬ f = 12 → am_up (as_ea s.1 c x) 12 c (as_ea s.1 c x 12 c + w) f = s.1 f := fun f h1 h2 h3 => by rw [am_up_ne h3, as_ea_ne ⟨h1, h2⟩]
  have := as_bu_IU (G := am_up (as_ea s.1 c x) 12 c (as_ea s.1 c x 12 c + w)) (n := s.2) (c := c) (q := q) (h.ne (ne 27 (by decide) (by decide) (by decide)) (ne 28 (by decide) (by decide) (by decide)) (ne 29 (by decide) (by decide) (by decide)) (ne 30 (by decide) (by decide) (by decide))) (by rw [ne 8 (by decide) (by decide) (by decide)]; exact i1) (by rw [ne 9 (by decide) (by decide) (by decide)]; exact i2) (by rw [ne 17 (by decide) (by decide) (by decide)]; exact q1) (by rw [ne 16 (by decide) (by decide) (by decide)]; exact q3)
  unfold as_cy as_cu
  dsimp only
  exact this.ne (by rw [am_up_ne (by decide), as_tr_ne (by decide)]) (by rw [am_up_ne (by decide), as_tr_ne (by decide)]) (by rw [am_up_ne (by decide), as_tr_ne (by decide)]) (by rw [am_up_ne (by decide), as_tr_ne (by decide)])
theorem as_cy_B {x w t : Int32} {c j : Nat} {s : am_G × Nat} (h : aw_B (s.1 14 j)) (h0 : aw_IC s.1 c) : aw_B ((as_cy x w t c s).1 14 j) := by
  obtain ⟨i1, i2, -, q, q1, q2, q3⟩ := h0
  have ne : ∀ f, ¬ f = 10 → ¬ f = 11 → ¬ f = 12 → am_up (as_ea s.1 c x) 12 c (as_ea s.1 c x 12 c + w) f = s.1 f := fun f h1 h2 h3 => by rw [am_up_ne h3, as_ea_ne ⟨h1, h2⟩]
  unfold as_cy as_cu
  dsimp only
  rw [am_up_ne (by decide), as_tr_ne (by decide)]
  exact as_bu_B (by rw [ne 14 (by decide) (by decide) (by decide)]; exact h) (by rw [ne 17 (by decide) (by decide) (by decide)]; exact q1) (by rw [ne 16 (by decide) (by decide) (by decide)]; exact q3)
