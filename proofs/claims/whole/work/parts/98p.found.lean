/-! a unit goes, a city comes: what holds on -/
section
variable {G G' : am_G} {n F T i : Nat}
theorem ai_t.c0 (h : ai_t G i) (e1 : G' 1 = G 1) : ai_t G' i := by
  unfold ai_t
  rw [e1]
  exact h
theorem ai_s.c0 (h : ai_s G F i) (e7 : G' 7 = G 7) (e10 : G' 10 = G 10) : ai_s G' F i := by
  unfold ai_s
  rw [e7, e10]
  exact h
theorem ai_k.c0 (h : ai_k G F i) (e12 : G' 12 = G 12) : ai_k G' F i := by
  unfold ai_k
  rw [e12]
  exact h
theorem ai_n.c0 {b : Nat} (h : ai_n G n b) (e25 : G' 25 = G 25) (e26 : G' 26 = G 26) : ai_n G' n b := by
  unfold ai_n
  rw [e25, e26]
  exact h
theorem ai.up1 (h : ai G n F T i) : ai G n F T (i + 1) := h.cg (fun _ _ => rfl)
theorem ai_u.dr {j : Nat} (h : ai_u G n F) (hj : j < n) : ai_u (am_dr G n j) (n - 1) F := by
  unfold ai_u
  rw [am_dr_f7, am_dr_f8, am_dr_f9]
  constructor
  · intro x hx y hy
    rw [am_dr_row (by decide), am_dr_row (by decide), am_dr_row (by decide), am_dr_row (by decide)]
    split <;> split <;> exact h.1 _ (by omega) _ (by omega)
  · intro x hx c hc
    rw [am_dr_row (by decide), am_dr_row (by decide)]
    split <;> exact h.2 _ (by omega) c hc
theorem ai_n.dr {j b : Nat} (h : ai_n G n b) (hj : j < n) : ai_n (am_dr G n j) (n - 1) b := by
  obtain ⟨u, m, h1, h2, h3, h4⟩ := h
  refine ⟨u, fun k => if j ≤ k ∧ k < n - 1 then m (k + 1) else m k, by rw [am_dr_f25]; exact h1, h2, fun k hk => ?_, fun x y hxy hy => ?_⟩
  · rw [am_dr_row (by decide)]
    show _ = Int32.ofNat (if j ≤ k ∧ k < n - 1 then m (k + 1) else m k) ∧ (if j ≤ k ∧ k < n - 1 then m (k + 1) else m k) < u
    split
    · exact h3 (k + 1) (by omega)
    · exact h3 k (by omega)
  · show (if j ≤ x ∧ x < n - 1 then m (x + 1) else m x) < if j ≤ y ∧ y < n - 1 then m (y + 1) else m y
    split <;> split
    · exact h4 _ _ (by omega) (by omega)
    · omega
    · exact h4 _ _ (by omega) (by omega)
    · exact h4 _ _ (by omega) (by omega)
theorem ai_j.dr {j : Nat} (h : ai_j G n) (hj : j < n) : ai_j (am_dr G n j) (n - 1) := by
  intro x hx
  rw [am_dr_row (by decide), am_dr_row (by decide), am_dr_row (by decide)]
  split <;> exact h _ (by omega)
theorem ai.dr {j : Nat} (h : ai G n F T i) (hj : j < n) : ai (am_dr G n j) (n - 1) F T i := by
  have e : ∀ f, ¬ f = 24 ∧ ¬ (26 ≤ f ∧ f ≤ 33) → am_dr G n j f = G f := fun f hf => am_dr_ne hf.2 hf.1
  refine ⟨h.t.c0 (e 1 (by decide)), h.l.cg (e 2 (by decide)), h.b.cg (e 4 (by decide)), h.a.up (e 5 (by decide)) (e 7 (by decide)) (e 9 (by decide)), h.c.cg (e 7 (by decide)) (e 8 (by decide)) (e 9 (by decide)) (e 14 (by decide)), h.w.cg (e 15 (by decide)), h.s.c0 (e 7 (by decide)) (e 10 (by decide)), h.q.cg (e 16 (by decide)) (e 17 (by decide)), h.k.c0 (e 12 (by decide)), h.z.cg (e 7 (by decide)) (e 11 (by decide)) (e 12 (by decide)) (e 14 (by decide)) (e 16 (by decide)) (e 17 (by decide)), ?_, ?_, ?_, ?_, h.g.ne (e 34 (by decide)), h.p.cg (e 36 (by decide)) (e 37 (by decide)) (e 39 (by decide)), h.d.cg (e 41 (by decide)), h.o.cg (e 42 (by decide)) (e 43 (by decide)) (e 44 (by decide)), h.e.ne (e 47 (by decide)) (e 48 (by decide)) (e 49 (by decide)) (e 50 (by decide)) (e 51 (by decide)), h.r.cg (e 46 (by decide)) (e 50 (by decide)) (e 52 (by decide))⟩
  · exact h.v.dr' hj
  · exact h.u.dr hj
  · exact h.m.dr hj
  · exact h.j.dr hj
theorem am_dr_up {j f k : Nat} {v : Int32} (h : ¬ f = 24 ∧ ¬ (26 ≤ f ∧ f ≤ 33)) : am_up (am_dr G n j) f k v = am_dr (am_up G f k v) n j := by
  funext x
  by_cases e : x = f
  · subst e
    rw [am_up_eq, am_dr_ne h.2 h.1, am_dr_ne h.2 h.1, am_up_eq]
  · rw [am_up_ne e]
    by_cases e2 : 26 ≤ x ∧ x ≤ 33
    · funext y
      rw [am_dr_row e2, am_dr_row e2, am_up_ne e]
    · by_cases e3 : x = 24
      · subst e3
        unfold am_dr am_sh8
        rw [if_neg e2, if_neg e2, am_up_eq, am_up_eq, am_up_ne e]
      · rw [am_dr_ne e2 e3, am_dr_ne e2 e3, am_up_ne e]
theorem am_dr_fn {j : Nat} {p t : Int32} {x : Nat} : am_up (am_fn0 (am_dr G n j) F p t) 4 x p = am_dr (am_up (am_fn0 G F p t) 4 x p) n j := by
  unfold am_fn0
  rw [am_dr_up (by decide), am_dr_up (by decide), am_dr_up (by decide), am_dr_up (by decide), am_dr_up (by decide), am_dr_up (by decide), am_dr_up (by decide), am_dr_up (by decide), am_dr_up (by decide), am_dr_up (by decide), am_dr_up (by decide)]
theorem ai.fn {p t : Int32} (h : ai G n F T i) (hF : F < 12) (hF6 : G 6 0 = Int32.ofNat F) (hp : aw_P p) (ht : am_I t 64) (h5 : G 5 t.toNatClampNeg = -1) (hu : ∀ k, k < n → G 29 k = t → G 27 k = p) : ai (am_up (am_fn0 G F p t) 4 t.toNatClampNeg p) n (F + 1) T i := by
  obtain ⟨Y, hY⟩ : ∃ Y, Y = am_up (am_fn0 G F p t) 4 t.toNatClampNeg p := ⟨_, rfl⟩
  have e : ∀ f, ¬ (4 ≤ f ∧ f ≤ 10) ∧ ¬ f = 13 ∧ ¬ f = 15 → Y f = G f := fun f hf => by rw [hY, am_up_ne (by omega), am_fn0_ne (by omega)]
  have y4 : Y 4 = am_upd (G 4) t.toNatClampNeg p := by rw [hY, am_up_eq, am_fn0_ne (by decide)]
  have y5 : Y 5 = am_upd (G 5) t.toNatClampNeg (Int32.ofNat F) := by
    rw [hY, am_up_ne (by decide)]
    unfold am_fn0
    rw [am_up_eq]
    simp only [am_up_eq, am_up_ne, am_upd_eq, Nat.reduceEqDiff, not_false_eq_true]
  have y7 : Y 7 = am_upd (G 7) F 1 := by rw [hY, am_up_ne (by decide), am_fn0_7]
  have y8 : Y 8 = am_upd (G 8) F p := by
    rw [hY]
    unfold am_fn0
    simp only [am_up_eq, am_up_ne, am_upd_eq, Nat.reduceEqDiff, not_false_eq_true]
  have y9 : Y 9 = am_upd (G 9) F t := by
    rw [hY]
    unfold am_fn0
    simp only [am_up_eq, am_up_ne, am_upd_eq, Nat.reduceEqDiff, not_false_eq_true]
  have y10 : Y 10 = am_upd (G 10) F 1 := by
    rw [hY]
    unfold am_fn0
    simp only [am_up_eq, am_up_ne, am_upd_eq, Nat.reduceEqDiff, not_false_eq_true]
  have y15 : Y 15 = am_upd (am_upd (am_upd (G 15) (3 * F) 1) (3 * F + 1) 1) (3 * F + 2) 1 := by
    rw [hY]
    unfold am_fn0
    simp only [am_up_eq, am_up_ne, am_upd_eq, Nat.reduceEqDiff, not_false_eq_true]
  rw [← hY]
  have tI := ht.2
  obtain ⟨zF, zF7⟩ := h.z F (Nat.le_refl F)
  obtain ⟨z11, z12, z14, z17, z16⟩ := zF
  refine ⟨h.t.c0 (e 1 (by decide)), h.l.cg (e 2 (by decide)), ?_, ?_, ?_, ?_, ?_, ?_, ?_, ?_, h.v.ne (e 27 (by decide)) (e 28 (by decide)) (e 29 (by decide)) (e 30 (by decide)), ?_, h.m.c0 (e 25 (by decide)) (e 26 (by decide)), h.j.cg (e 28 (by decide)) (e 32 (by decide)) (e 33 (by decide)), h.g.ne (e 34 (by decide)), h.p.cg (e 36 (by decide)) (e 37 (by decide)) (e 39 (by decide)), h.d.cg (e 41 (by decide)), h.o.cg (e 42 (by decide)) (e 43 (by decide)) (e 44 (by decide)), h.e.ne (e 47 (by decide)) (e 48 (by decide)) (e 49 (by decide)) (e 50 (by decide)) (e 51 (by decide)), h.r.cg (e 46 (by decide)) (e 50 (by decide)) (e 52 (by decide))⟩
  · intro d hd
    rw [y4]
    by_cases ed : d = t.toNatClampNeg
    · rw [ed, am_upd_eq]
      exact Or.inr hp
    · rw [am_upd_ne ed]
      exact h.b d hd
  · obtain ⟨a1, a2, a3⟩ := h.a
    obtain ⟨x, x1, x2⟩ := ht.cases
    rw [x2, am_tcn (by omega)] at h5 y5
    refine ⟨by omega, fun d hd => ?_, fun c hc h7 => ?_⟩
    · rw [y5, y7, y9]
      by_cases ed : d = x
      · rw [ed, am_upd_eq]
        refine Or.inr ⟨F, Nat.lt_succ_self F, rfl, ?_, ?_⟩
        · rw [am_upd_eq]
        · rw [am_upd_eq, x2]
      · rw [am_upd_ne ed]
        rcases a2 d hd with q | ⟨c, c1, c2, c3, c4⟩
        · exact Or.inl q
        · refine Or.inr ⟨c, by omega, c2, ?_, ?_⟩
          · rw [am_upd_ne (by omega)]
            exact c3
          · rw [am_upd_ne (by omega)]
            exact c4
    · rw [y5, y9]
      rw [y7] at h7
      by_cases ec : c = F
      · rw [ec, am_upd_eq]
        exact ⟨x, x1, x2, by rw [am_upd_eq]⟩
      · rw [am_upd_ne ec] at h7 ⊢
        obtain ⟨d, d1, d2, d3⟩ := a3 c (by omega) h7
        refine ⟨d, d1, d2, ?_⟩
        have ed : ¬ d = x := fun q => by
          rw [q, h5] at d3
          have := (am_Ik (show c < 100 by omega) (by decide)).1
          rw [← d3] at this
          exact this (by decide)
        rw [am_upd_ne ed]
        exact d3
  · intro c hc
    rw [y7, y8, y9, e 14 (by decide)]
    by_cases ec : c = F
    · rw [ec, am_upd_eq, am_upd_eq, am_upd_eq, z14]
      exact ⟨Or.inr rfl, hp, ht, ⟨0, by decide, rfl⟩⟩
    · rw [am_upd_ne ec, am_upd_ne ec, am_upd_ne ec]
      exact h.c c (by omega)
  · intro c hc
    unfold aw_we
    rw [y15]
    by_cases ec : c = F
    · subst ec
      refine ⟨⟨1, by decide, ?_⟩, ⟨1, by decide, ?_⟩, ⟨1, by decide, ?_⟩⟩
      · rw [am_upd_ne (by omega), am_upd_ne (by omega), am_upd_eq]
        rfl
      · rw [am_upd_ne (by omega), am_upd_eq]
        rfl
      · rw [am_upd_eq]
        rfl
    · rw [am_upd_ne (by omega), am_upd_ne (by omega), am_upd_ne (by omega), am_upd_ne (by omega), am_upd_ne (by omega), am_upd_ne (by omega), am_upd_ne (by omega), am_upd_ne (by omega), am_upd_ne (by omega)]
      exact h.w c (by omega)
  · intro c hc
    rw [y7, y10]
    by_cases ec : c = F
    · rw [ec, am_upd_eq, am_upd_eq]
      exact ⟨1, rfl, by omega, fun _ => Nat.le_refl 1⟩
    · rw [am_upd_ne ec, am_upd_ne ec]
      exact h.s c (by omega)
  · intro c hc
    rw [e 16 (by decide), e 17 (by decide)]
    by_cases ec : c = F
    · rw [ec, z17]
      exact ⟨0, rfl, by decide, fun j hj => absurd hj (Nat.not_lt_zero j)⟩
    · exact h.q c (by omega)
  · intro c hc
    rw [e 12 (by decide)]
    by_cases ec : c = F
    · rw [ec, z12]
      exact ⟨0, rfl, Nat.zero_le _⟩
    · exact h.k c (by omega)
  · intro c hc
    obtain ⟨z1, z2⟩ := h.z c (by omega)
    unfold aw_Z at z1 ⊢
    rw [e 11 (by decide), e 12 (by decide), e 14 (by decide), e 16 (by decide), e 17 (by decide), y7, am_upd_ne (by omega)]
    exact ⟨z1, z2⟩
  · unfold ai_u
    rw [e 27 (by decide), e 29 (by decide), y7, y8, y9]
    refine ⟨h.u.1, fun k hk c hc h7 q => ?_⟩
    by_cases ec : c = F
    · rw [ec, am_upd_eq] at q ⊢
      exact hu k hk q
    · rw [am_upd_ne ec] at h7 q ⊢
      exact h.u.2 k hk c (by omega) h7 q
end
