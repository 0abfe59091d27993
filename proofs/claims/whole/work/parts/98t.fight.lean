/-! a fight: what holds on -/
theorem as_dmg {x y z : Int32} {a b : Nat} (hx : as_pz x a) (hy : as_pz y b) (ha : a ≤ 10000) (hb : b ≤ 10000) (hz : as_pz z 10) : z - (1 + 9 * x / (x + y)) ≤ 0 ∨ as_pz (z - (1 + 9 * x / (x + y))) 10 := by
  obtain ⟨m, rfl, m1, m2⟩ := hx
  obtain ⟨k, rfl, k1, k2⟩ := hy
  obtain ⟨h, rfl, h1, h2⟩ := hz
  rw [show (9 : Int32) = Int32.ofNat 9 from rfl, show (1 : Int32) = Int32.ofNat 1 from rfl, ← Int32.ofNat_mul, ← Int32.ofNat_add m k, am_ddN (by omega) (by omega), ← Int32.ofNat_add]
  have hq : 9 * m / (m + k) ≤ 9 := Nat.div_le_of_le_mul (by omega)
  generalize 9 * m / (m + k) = q at hq
  rcases Nat.lt_or_ge (1 + q) h with c | c
  · right
    exact ⟨h - (1 + q), by rw [Int32.ofNat_sub _ _ (by omega)], by omega, by omega⟩
  · left
    exact (by decide : ∀ h, h < 11 → ∀ q, q < 10 → h ≤ 1 + q → Int32.ofNat h - Int32.ofNat (1 + q) ≤ 0) h (by omega) q (by omega) c
section
variable {G X : am_G} {n F T i : Nat}
theorem ai.dr30 (h : ai G n F T i) {j : Nat} (hj : j < n) (e : ∀ f, ¬ f = 30 ∧ ¬ f = 31 → X f = G f) (hv : ∀ x, x < n → (¬ x = j) → as_pz (X 30 x) 10) : ai (am_dr X n j) (n - 1) F T i := by
  have h2 := h.dr hj
  have e2 : ∀ f, ¬ f = 30 ∧ ¬ f = 31 → am_dr X n j f = am_dr G n j f := fun f hf => by
    by_cases q : 26 ≤ f ∧ f ≤ 33
    · funext y
      rw [am_dr_row q, am_dr_row q, e f hf]
    · by_cases q2 : f = 24
      · subst q2
        unfold am_dr am_sh8
        rw [if_neg q, if_neg q, am_up_eq, am_up_eq, e 24 (by decide)]
      · rw [am_dr_ne q q2, am_dr_ne q q2, e f hf]
  refine ⟨h2.t.c0 (e2 1 (by decide)), h2.l.cg (e2 2 (by decide)), h2.b.cg (e2 4 (by decide)), h2.a.up (e2 5 (by decide)) (e2 7 (by decide)) (e2 9 (by decide)), h2.c.cg (e2 7 (by decide)) (e2 8 (by decide)) (e2 9 (by decide)) (e2 14 (by decide)), h2.w.cg (e2 15 (by decide)), h2.s.c0 (e2 7 (by decide)) (e2 10 (by decide)), h2.q.cg (e2 16 (by decide)) (e2 17 (by decide)), h2.k.c0 (e2 12 (by decide)), h2.z.cg (e2 7 (by decide)) (e2 11 (by decide)) (e2 12 (by decide)) (e2 14 (by decide)) (e2 16 (by decide)) (e2 17 (by decide)), ?_, h2.u.cg (e2 7 (by decide)) (e2 8 (by decide)) (e2 9 (by decide)) (e2 27 (by decide)) (e2 29 (by decide)), h2.m.c0 (e2 25 (by decide)) (e2 26 (by decide)), h2.j.cg (e2 28 (by decide)) (e2 32 (by decide)) (e2 33 (by decide)), h2.g.ne (e2 34 (by decide)), h2.p.cg (e2 36 (by decide)) (e2 37 (by decide)) (e2 39 (by decide)), h2.d.cg (e2 41 (by decide)), h2.o.cg (e2 42 (by decide)) (e2 43 (by decide)) (e2 44 (by decide)), h2.e.ne (e2 47 (by decide)) (e2 48 (by decide)) (e2 49 (by decide)) (e2 50 (by decide)) (e2 51 (by decide)), h2.r.cg (e2 46 (by decide)) (e2 50 (by decide)) (e2 52 (by decide))⟩
  · refine aw_IU.dr fun x hx hne => ?_
    obtain ⟨a, b, c, -⟩ := h.v x hx
    rw [e 27 (by decide), e 28 (by decide), e 29 (by decide)]
    exact ⟨a, b, c, hv x hx hne⟩
theorem ai.f30 (h : ai G n F T i) (e : ∀ f, ¬ f = 30 ∧ ¬ f = 31 → X f = G f) (hv : ∀ x, x < n → as_pz (X 30 x) 10) : ai X n F T i := by
  refine ⟨h.t.c0 (e 1 (by decide)), h.l.cg (e 2 (by decide)), h.b.cg (e 4 (by decide)), h.a.up (e 5 (by decide)) (e 7 (by decide)) (e 9 (by decide)), h.c.cg (e 7 (by decide)) (e 8 (by decide)) (e 9 (by decide)) (e 14 (by decide)), h.w.cg (e 15 (by decide)), h.s.c0 (e 7 (by decide)) (e 10 (by decide)), h.q.cg (e 16 (by decide)) (e 17 (by decide)), h.k.c0 (e 12 (by decide)), h.z.cg (e 7 (by decide)) (e 11 (by decide)) (e 12 (by decide)) (e 14 (by decide)) (e 16 (by decide)) (e 17 (by decide)), ?_, h.u.cg (e 7 (by decide)) (e 8 (by decide)) (e 9 (by decide)) (e 27 (by decide)) (e 29 (by decide)), h.m.c0 (e 25 (by decide)) (e 26 (by decide)), h.j.cg (e 28 (by decide)) (e 32 (by decide)) (e 33 (by decide)), h.g.ne (e 34 (by decide)), h.p.cg (e 36 (by decide)) (e 37 (by decide)) (e 39 (by decide)), h.d.cg (e 41 (by decide)), h.o.cg (e 42 (by decide)) (e 43 (by decide)) (e 44 (by decide)), h.e.ne (e 47 (by decide)) (e 48 (by decide)) (e 49 (by decide)) (e 50 (by decide)) (e 51 (by decide)), h.r.cg (e 46 (by decide)) (e 50 (by decide)) (e 52 (by decide))⟩
  · intro x hx
    obtain ⟨a, b, c, -⟩ := h.v x hx
    rw [e 27 (by decide), e 28 (by decide), e 29 (by decide)]
    exact ⟨a, b, c, hv x hx⟩
theorem ai.fg (h : ai G n F T i) (hi : i ≤ 600) {k j : Nat} (hk : k < n) (hj : j < n) (hne : ¬ k = j) (ha : ¬ am_at (G 28 k) ≤ 0) : ai (as_fg G n F k j).1 (as_fg G n F k j).2.1 F T i := by
  obtain ⟨-, -, -, u4⟩ := h.v k hk
  obtain ⟨-, -, v3, v4⟩ := h.v j hj
  have z1 := (((show as_pz 10 10 from ⟨10, rfl, by decide, by decide⟩).mul (as_at_pz ha)).mul (as_hl_pz u4))
  have z2 := ((as_de_pz (k := G 28 j)).mul (as_hl_pz v4)).mul (as_sh_pz (G := G) (t := G 29 j))
  have d1 := as_dmg z2 z1 (by decide) (by decide) (as_hl_pz u4)
  have d2 := as_dmg z1 z2 (by decide) (by decide) (as_hl_pz v4)
  rw [Int32.add_comm (am_de (G 28 j) * G 30 j * as_sh G (G 29 j))] at d1
  obtain ⟨X, hX⟩ : ∃ X, X = as_f1 G k j := ⟨_, rfl⟩
  have ne : ∀ f, (¬ f = 30 ∧ ¬ f = 31) → X f = G f := fun f hf => by
    rw [hX]
    unfold as_f1
    rw [am_up_ne hf.1, am_up_ne hf.1, am_up_ne hf.2]
  have x30j : X 30 j = G 30 j - (1 + 9 * as_o1 G k / (as_o1 G k + as_o2 G j)) := by
    rw [hX]
    unfold as_f1
    rw [am_up_eq, am_upd_eq]
  have x30k : X 30 k = G 30 k - (1 + 9 * as_o2 G j / (as_o1 G k + as_o2 G j)) := by
    rw [hX]
    unfold as_f1
    rw [am_up_eq, am_upd_ne hne, am_up_eq, am_upd_eq]
  have x30 : ∀ x, ¬ x = j → ¬ x = k → X 30 x = G 30 x := fun x h1 h2 => by
    rw [hX]
    unfold as_f1
    rw [am_up_eq, am_upd_ne h1, am_up_eq, am_upd_ne h2, am_up_ne (by decide)]
  have d1 : X 30 k ≤ 0 ∨ as_pz (X 30 k) 10 := by rw [x30k]; exact d1
  have d2 : X 30 j ≤ 0 ∨ as_pz (X 30 j) 10 := by rw [x30j]; exact d2
  have p30 : ∀ x, x < n → ¬ x = j → ¬ x = k → as_pz (X 30 x) 10 := fun x hx h1 h2 => by
    rw [x30 x h1 h2]
    exact (h.v x hx).2.2.2
  have go : ∀ (Y : am_G) (m k' : Nat), ai Y m F T i → k' < m → Y 27 k' = G 27 k → am_cnt (fun x => Y 29 x = G 29 j) m = 0 → ai (as_gt F (G 29 j) (G 27 k) (am_up Y 29 k' (G 29 j))) m F T i := fun Y m k' hY hk' q hc => by
    have := hY.gt hi hk' v3 (fun x hx q2 => by
      have := am_cnt_pos (p := fun x => Y 29 x = G 29 j) hx q2
      omega)
    rw [q] at this
    exact this
  unfold as_fg
  rw [← hX]
  by_cases h1 : X 30 j ≤ 0
  · rw [if_pos h1]
    have hm : as_mi k j < n - 1 := by
      unfold as_mi
      split <;> omega
    have rw' : ∀ f, 26 ≤ f ∧ f ≤ 33 → am_dr X n j f (as_mi k j) = X f k := fun f hf => by
      rw [am_dr_row hf]
      unfold as_mi
      by_cases h : k < j
      · rw [if_pos h, if_neg (by omega)]
      · rw [if_neg h, if_pos (by omega), show k - 1 + 1 = k by omega]
    unfold as_f3
    rw [rw' 30 (by decide)]
    by_cases h2 : X 30 k ≤ 0
    · rw [if_pos h2]
      refine (h.dr hj).dr30 hm (fun f hf => ?_) (fun x hx hnx => ?_)
      · by_cases q : 26 ≤ f ∧ f ≤ 33
        · funext y
          rw [am_dr_row q, am_dr_row q, ne f hf]
        · by_cases q2 : f = 24
          · subst q2
            unfold am_dr am_sh8
            rw [if_neg q, if_neg q, am_up_eq, am_up_eq, ne 24 (by decide)]
          · rw [am_dr_ne q q2, am_dr_ne q q2, ne f hf]
      · rw [am_dr_row (by decide)]
        unfold as_mi at hnx
        by_cases q : j ≤ x ∧ x < n - 1
        · rw [if_pos q]
          refine p30 _ (by omega) (by omega) ?_
          split at hnx <;> omega
        · rw [if_neg q]
          refine p30 _ (by omega) (by omega) ?_
          split at hnx <;> omega
    · rw [if_neg h2]
      have hY : ai (am_dr X n j) (n - 1) F T i := h.dr30 hj ne fun x hx hnx => by
        by_cases q : x = k
        · rw [q]
          exact d1.resolve_left h2
        · exact p30 x hx hnx q
      by_cases h3 : am_cnt (fun x => am_dr X n j 29 x = G 29 j) (n - 1) = 0
      · rw [if_pos h3]
        exact go _ _ _ hY hm (by rw [rw' 27 (by decide), ne 27 (by decide)]) h3
      · rw [if_neg h3]
        exact hY
  · rw [if_neg h1]
    unfold as_f3
    by_cases h2 : X 30 k ≤ 0
    · rw [if_pos h2]
      exact h.dr30 hk ne fun x hx hnx => by
        by_cases q : x = j
        · rw [q]
          exact d2.resolve_left h1
        · exact p30 x hx q hnx
    · rw [if_neg h2]
      have hY : ai X n F T i := h.f30 ne fun x hx => by
        by_cases q : x = j
        · rw [q]
          exact d2.resolve_left h1
        · by_cases q2 : x = k
          · rw [q2]
            exact d1.resolve_left h2
          · exact p30 x hx q q2
      by_cases h3 : am_cnt (fun x => X 29 x = G 29 j) n = 0
      · rw [if_pos h3]
        exact go _ _ _ hY hk (by rw [ne 27 (by decide)]) h3
      · rw [if_neg h3]
        exact hY
end
