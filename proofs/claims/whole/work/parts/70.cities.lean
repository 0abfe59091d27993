/-! THE CITIES' TURN -/
theorem as_ea_ne {G : am_G} {c f : Nat} {x : Int32} (h : ¬ f = 10 ∧ ¬ f = 11) : as_ea G c x f = G f := by
  unfold as_ea
  split
  · rw [am_up_ne h.1, am_up_ne h.2]
  · split
    · rw [am_up_ne h.1, am_up_ne h.2]
    · rw [am_up_ne h.2]
theorem am_up_at {G : am_G} {a k f j : Nat} {v : Int32} (h : ¬ j = k) : am_up G a k v f j = G f j := by
  by_cases e : f = a
  · subst e
    rw [am_up_eq, am_upd_ne h]
  · rw [am_up_ne e]
theorem as_ea_at {G : am_G} {c f j : Nat} {x : Int32} (h : ¬ j = c) : as_ea G c x f j = G f j := by
  unfold as_ea
  split
  · rw [am_up_at h, am_up_at h]
  · split
    · rw [am_up_at h, am_up_at h]
    · rw [am_up_at h]
theorem as_bu_ne {G : am_G} {n c f : Nat} (h : ¬ f = 10 ∧ ¬ f = 12 ∧ ¬ f = 14 ∧ ¬ f = 16 ∧ ¬ f = 17 ∧ ¬ (24 ≤ f ∧ f ≤ 33)) : (as_bu G n c).1 f = G f := by
  unfold as_bu
  split
  · split
    · show am_up _ _ _ _ f = _
      rw [am_up_ne h.2.2.1, as_tk_ne h.2.2.2.1 h.2.2.2.2.1, am_up_ne h.2.1]
    · show am_mk _ _ _ _ _ f = _
      rw [am_mk_10 h.2.2.2.2.2, am_up_ne h.1, as_tk_ne h.2.2.2.1 h.2.2.2.2.1, am_up_ne h.2.1]
  · rfl
theorem as_tk_17 {G : am_G} {c p q j : Nat} (h : ¬ j = c) : as_tk G c p q 17 j = G 17 j := by
  unfold as_tk
  rw [am_up_eq, am_upd_ne h, as_shq_ne (by decide)]
theorem as_tk_16 {G : am_G} {c p q j : Nat} (h : ¬ (6 * c ≤ j ∧ j < 6 * c + q)) : as_tk G c p q 16 j = G 16 j := by
  unfold as_tk
  rw [am_up_ne (by decide), as_shq_16, if_neg (by omega)]
theorem as_bu_at {G : am_G} {n c f j : Nat} (h : ¬ j = c) (hf : f = 10 ∨ f = 12 ∨ f = 14 ∨ f = 17) : (as_bu G n c).1 f j = G f j := by
  have hf' : ¬ (24 ≤ f ∧ f ≤ 33) := by omega
  have ht : ∀ X p q, as_tk X c p q f j = X f j := fun X p q => by
    by_cases e : f = 17
    · subst e
      exact as_tk_17 h
    · rw [as_tk_ne (by omega) e]
  unfold as_bu
  split
  · split
    · show am_up _ _ _ _ f j = _
      rw [am_up_at h, ht, am_up_at h]
    · show am_mk _ _ _ _ _ f j = _
      rw [am_mk_10 hf', am_up_at h, ht, am_up_at h]
  · rfl
theorem as_bu_16 {G : am_G} {n c j q : Nat} (hq : G 17 c = Int32.ofNat q) (hq6 : q ≤ 6) (h : ¬ (6 * c ≤ j ∧ j < 6 * c + 6)) : (as_bu G n c).1 16 j = G 16 j := by
  have hJ := am_tcn (show q ≤ 100000 by omega)
  unfold as_bu
  rw [hq, hJ]
  split
  · split
    · dsimp only
      rw [am_up_ne (by decide), as_tk_16 (by omega), am_up_ne (by decide)]
    · dsimp only
      rw [am_mk_10 (by decide), am_up_ne (by decide), as_tk_16 (by omega), am_up_ne (by decide)]
  · rfl
theorem as_bu_n {G : am_G} {n c : Nat} (hn : G 24 0 = Int32.ofNat n) (hn2 : n ≤ 40) : (as_bu G n c).1 24 0 = Int32.ofNat (as_bu G n c).2 ∧ (as_bu G n c).2 ≤ 40 := by
  unfold as_bu
  split
  · next h =>
    split
    · refine ⟨?_, hn2⟩
      dsimp only
      rw [am_up_ne (by decide), as_tk_ne (by decide) (by decide), am_up_ne (by decide)]
      exact hn
    · next h5 =>
      have := h.2.2.2
      rw [if_neg h5] at this
      refine ⟨?_, this.1.1⟩
      dsimp only
      unfold am_mk
      rw [am_up_ne (by decide), am_up_eq, am_upd_eq]
  · exact ⟨hn, hn2⟩
/-- a city's turn, with what it gets -/
def as_cy (f w t : Int32) (c : Nat) (s : am_G × Nat) : am_G × Nat :=
  (as_cu (as_tr (as_bu (am_up (as_ea s.1 c f) 12 c (as_ea s.1 c f 12 c + w)) s.2 c).1 c t) c, (as_bu (am_up (as_ea s.1 c f) 12 c (as_ea s.1 c f 12 c + w)) s.2 c).2)
theorem as_tr_ne {G : am_G} {c f : Nat} {t : Int32} (h : ¬ f = 34 ∧ ¬ f = 35 ∧ ¬ f = 40) : as_tr G c t f = G f := by
  unfold as_tr
  rw [am_up_ne h.2.2, am_up_ne h.1, am_up_ne h.2.1]
theorem as_cy_ne {x w t : Int32} {c f : Nat} {s : am_G × Nat} (h : ¬ f = 10 ∧ ¬ f = 11 ∧ ¬ f = 12 ∧ ¬ f = 13 ∧ ¬ f = 14 ∧ ¬ f = 16 ∧ ¬ f = 17 ∧ ¬ (24 ≤ f ∧ f ≤ 35) ∧ ¬ f = 40) : (as_cy x w t c s).1 f = s.1 f := by
  show as_cu _ _ f = _
  unfold as_cu
  rw [am_up_ne h.2.2.2.1, as_tr_ne (by omega), as_bu_ne (by omega), am_up_ne h.2.2.1, as_ea_ne (by omega)]
theorem as_cy_at {x w t : Int32} {c f j : Nat} {s : am_G × Nat} (h : ¬ j = c) (hf : f = 10 ∨ f = 11 ∨ f = 12 ∨ f = 13 ∨ f = 14 ∨ f = 17) : (as_cy x w t c s).1 f j = s.1 f j := by
  show as_cu _ _ f j = _
  unfold as_cu
  rw [am_up_at h, as_tr_ne (by omega)]
  by_cases e : f = 10 ∨ f = 12 ∨ f = 14 ∨ f = 17
  · rw [as_bu_at h e, am_up_at h, as_ea_at h]
  · rw [as_bu_ne (by omega), am_up_at h, as_ea_at h]
theorem as_cy_16 {x w t : Int32} {c j q : Nat} {s : am_G × Nat} (hq : s.1 17 c = Int32.ofNat q) (hq6 : q ≤ 6) (h : ¬ (6 * c ≤ j ∧ j < 6 * c + 6)) : (as_cy x w t c s).1 16 j = s.1 16 j := by
  unfold as_cy as_cu
  dsimp only
  rw [am_up_ne (by decide), as_tr_ne (by decide), as_bu_16 (by rw [am_up_ne (by decide), as_ea_ne (by decide)]; exact hq) hq6 h, am_up_ne (by decide), as_ea_ne (by decide)]
theorem as_cy_n {x w t : Int32} {c : Nat} {s : am_G × Nat} (hn : s.1 24 0 = Int32.ofNat s.2) (hn2 : s.2 ≤ 40) : (as_cy x w t c s).1 24 0 = Int32.ofNat (as_cy x w t c s).2 ∧ (as_cy x w t c s).2 ≤ 40 := by
  have := as_bu_n (G := am_up (as_ea s.1 c x) 12 c (as_ea s.1 c x 12 c + w)) (n := s.2) (c := c) (by rw [am_up_ne (by decide), as_ea_ne (by decide)]; exact hn) hn2
  refine ⟨?_, this.2⟩
  unfold as_cy as_cu
  dsimp only
  rw [am_up_ne (by decide), as_tr_ne (by decide)]
  exact this.1
/-- what a city must be to have its turn -/
def aw_IC (G : am_G) (c : Nat) : Prop := aw_P (G 8 c) ∧ am_I (G 9 c) 64 ∧ (∃ z, G 10 c = Int32.ofNat z ∧ 1 ≤ z ∧ z ≤ 1000) ∧ ∃ q, G 17 c = Int32.ofNat q ∧ q ≤ 6 ∧ (0 < q → am_I (G 16 (6 * c)) 10)
theorem as_cy_IC {x w t : Int32} {c j : Nat} {s : am_G × Nat} (h : ¬ j = c) (h0 : aw_IC s.1 c) (hj : aw_IC s.1 j) : aw_IC (as_cy x w t c s).1 j := by
  obtain ⟨-, -, -, q, q1, q2, -⟩ := h0
  unfold aw_IC
  rw [as_cy_ne (f := 8) (by decide), as_cy_ne (f := 9) (by decide), as_cy_at (f := 10) h (by decide), as_cy_at (f := 17) h (by decide), as_cy_16 q1 q2 (by omega)]
  exact hj
