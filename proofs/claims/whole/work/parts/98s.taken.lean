/-! a unit goes to a tile, a city there is taken: what holds on -/
theorem am_ddN {a m : Nat} (ha : a < 2147483648) (hm : m < 2147483648) : Int32.ofNat a / Int32.ofNat m = Int32.ofNat (a / m) := by
  have h := Nat.div_le_self a m
  apply Int32.toInt_inj.mp
  rw [Int32.toInt_div, Int32.toInt_ofNat_of_lt (by omega), Int32.toInt_ofNat_of_lt (by omega), Int32.toInt_ofNat_of_lt (by omega), ← Int.ofNat_tdiv]
  generalize a / m = x at h
  exact Int.bmod_eq_of_le (by omega) (by omega)
theorem aw_CO.mv {G : am_G} {b l q m : Nat} (h : aw_CO G b) (hb : b < 2147483648) (hl : l < 4) (hq : q < 4) (hne : ¬ q = l) (hm : m < 2147483648) : aw_CO (am_up (am_up G 34 l (G 34 l - G 34 l / Int32.ofNat m)) 34 q (G 34 q + G 34 l / Int32.ofNat m)) b := by
  obtain ⟨c, h1, h2⟩ := h
  have hc : c l ≤ b := by
    rcases (show l = 0 ∨ l = 1 ∨ l = 2 ∨ l = 3 by omega) with rfl | rfl | rfl | rfl <;> omega
  obtain ⟨z, hz⟩ : ∃ z, z = c l / m := ⟨_, rfl⟩
  have hz2 : z ≤ c l := by rw [hz]; exact Nat.div_le_self _ _
  rw [h1 l hl, h1 q hq, am_ddN (by omega) hm, ← hz, ← Int32.ofNat_sub _ _ hz2, ← Int32.ofNat_add]
  refine ⟨fun x => if x = q then c q + z else if x = l then c l - z else c x, fun x hx => ?_, ?_⟩
  · rw [am_up_eq]
    show _ = Int32.ofNat (if x = q then c q + z else if x = l then c l - z else c x)
    by_cases e : x = q
    · rw [if_pos e, e, am_upd_eq]
    · rw [if_neg e, am_upd_ne e, am_up_eq]
      by_cases e2 : x = l
      · rw [if_pos e2, e2, am_upd_eq]
      · rw [if_neg e2, am_upd_ne e2, h1 x hx]
  · show (if 0 = q then c q + z else if 0 = l then c l - z else c 0) + (if 1 = q then c q + z else if 1 = l then c l - z else c 1) + (if 2 = q then c q + z else if 2 = l then c l - z else c 2) + (if 3 = q then c q + z else if 3 = l then c l - z else c 3) ≤ b
    rcases (show q = 0 ∨ q = 1 ∨ q = 2 ∨ q = 3 by omega) with rfl | rfl | rfl | rfl <;> rcases (show l = 0 ∨ l = 1 ∨ l = 2 ∨ l = 3 by omega) with rfl | rfl | rfl | rfl <;> simp only [Nat.reduceEqDiff, if_true, if_false, not_true_eq_false] at hne ⊢ <;> omega
theorem as_cp_ne {G : am_G} {l p f : Nat} (h : ¬ f = 36 ∧ ¬ f = 37) : as_cp l p G f = G f := by
  unfold as_cp
  rcases am_find (fun c => am_hb (G 37 l) (Int32.ofNat c) ∧ as_cl G p c) 0 10 with _ | c
  · rfl
  · exact am_kn_ne h
theorem ai_p.cp {G : am_G} {l p : Nat} (h : ai_p G) (hp : p < 4) : ai_p (as_cp l p G) := by
  unfold as_cp
  rcases e : am_find (fun c => am_hb (G 37 l) (Int32.ofNat c) ∧ as_cl G p c) 0 10 with _ | c
  · exact h
  · exact h.kn hp (by have := (am_find_ge 10 0 c e).2.1; omega)
theorem as_t0_ne {G : am_G} {F c f : Nat} {p : Int32} (h : ¬ f = 4 ∧ ¬ f = 8 ∧ ¬ f = 10 ∧ ¬ f = 12 ∧ ¬ f = 17 ∧ ¬ f = 34 ∧ ¬ f = 40) : as_t0 F c p G f = G f := by
  unfold as_t0
  obtain ⟨a, b, d, e, g, x, y⟩ := h
  simp only [am_up_ne a, am_up_ne b, am_up_ne d, am_up_ne e, am_up_ne g, am_up_ne x, am_up_ne y]
section
variable {G : am_G} {n F T i : Nat}
theorem aw_IU.go (h : aw_IU G n) {j : Nat} {t : Int32} (ht : am_I t 64) {G' : am_G} (e27 : G' 27 = G 27) (e28 : G' 28 = G 28) (e29 : G' 29 = am_upd (G 29) j t) (e30 : G' 30 = G 30) : aw_IU G' n := by
  intro k hk
  obtain ⟨a, b, c, d⟩ := h k hk
  rw [e27, e28, e29, e30]
  refine ⟨a, b, ?_, d⟩
  by_cases e : k = j
  · rw [e, am_upd_eq]
    exact ht
  · rw [am_upd_ne e]
    exact c
theorem ai.gt (h : ai G n F T i) (hi : i ≤ 600) {j : Nat} (hj : j < n) {t : Int32} (ht : am_I t 64) (hu : ∀ k, k < n → G 29 k = t → G 27 k = G 27 j) : ai (as_gt F t (G 27 j) (am_up G 29 j t)) n F T i := by
  obtain ⟨X, hX⟩ : ∃ X, X = am_up G 29 j t := ⟨_, rfl⟩
  have r0 : ∀ f, ¬ f = 29 → X f = G f := fun f hf => by rw [hX, am_up_ne hf]
  have r29 : X 29 = am_upd (G 29) j t := by rw [hX, am_up_eq]
  have hp := h.uo j hj
  have hF12 := h.a.1
  rw [← hX]
  have u1 : ∀ x, x < n → ∀ y, y < n → am_upd (G 29) j t x = am_upd (G 29) j t y → G 27 x = G 27 y := fun x hx y hy q => by
    by_cases ex : x = j
    · by_cases ey : y = j
      · rw [ex, ey]
      · rw [ex, am_upd_eq, am_upd_ne ey] at q
        rw [ex]
        exact (hu y hy q.symm).symm
    · by_cases ey : y = j
      · rw [ey, am_upd_eq, am_upd_ne ex] at q
        rw [ey]
        exact hu x hx q
      · rw [am_upd_ne ex, am_upd_ne ey] at q
        exact h.u.1 x hx y hy q
  unfold as_gt
  rw [r0 5 (by decide), r0 8 (by decide)]
  by_cases g : ¬ G 5 t.toNatClampNeg = -1 ∧ ¬ G 8 (G 5 t.toNatClampNeg).toNatClampNeg = G 27 j
  · rw [if_pos g]
    obtain ⟨g1, g2⟩ := g
    obtain ⟨c1, c2, c3, c4⟩ := h.a.c ht g1
    obtain ⟨c, hc⟩ : ∃ c, c = (G 5 t.toNatClampNeg).toNatClampNeg := ⟨_, rfl⟩
    rw [← hc] at c1 c2 c3 c4 g2 ⊢
    have hno : ∀ k, k < n → ¬ G 29 k = t := fun k hk q => g2 ((h.u.2 k hk c c1 c2 (by rw [q, c3])).symm.trans (hu k hk q))
    have huq : ∀ d, d < F → G 7 d = 1 → G 9 d = t → d = c := fun d hd h7 q => by
      have := (h.a.t hd h7 q).2.2.2
      rw [← hc] at this
      exact this.symm
    obtain ⟨z, z1, z2, z3⟩ := h.s c c1
    have z3 := z3 c2
    have zz : Int32.ofNat z - 1 = Int32.ofNat (z - 1) := (Int32.ofNat_sub z 1 z3).symm
    have tI := ht.2
    unfold as_tc
    rw [r0 10 (by decide), z1, zz]
    by_cases q0 : Int32.ofNat (z - 1) = 0
    · rw [if_pos q0]
      have e : ∀ f, ¬ f = 29 ∧ ¬ f = 10 ∧ ¬ f = 7 ∧ ¬ f = 5 → am_rc7 (am_up X 10 c (Int32.ofNat (z - 1))) c f = G f := fun f hf => by
        rw [am_rc7_ne ⟨hf.2.2.2, hf.2.2.1⟩, am_up_ne hf.2.1, r0 f hf.1]
      have y7 : am_rc7 (am_up X 10 c (Int32.ofNat (z - 1))) c 7 = am_upd (G 7) c 0 := by rw [am_rc7_7, am_up_ne (by decide), r0 7 (by decide)]
      have y5 : am_rc7 (am_up X 10 c (Int32.ofNat (z - 1))) c 5 = am_upd (G 5) t.toNatClampNeg (-1) := by
        unfold am_rc7
        rw [am_up_eq, am_up_ne (by decide), am_up_ne (by decide), r0 5 (by decide), am_up_ne (by decide), r0 9 (by decide), c3]
      have y10 : am_rc7 (am_up X 10 c (Int32.ofNat (z - 1))) c 10 = am_upd (G 10) c (Int32.ofNat (z - 1)) := by rw [am_rc7_ne (by decide), am_up_eq, r0 10 (by decide)]
      have y29 : am_rc7 (am_up X 10 c (Int32.ofNat (z - 1))) c 29 = am_upd (G 29) j t := by rw [am_rc7_ne (by decide), am_up_ne (by decide), r29]
      generalize am_rc7 (am_up X 10 c (Int32.ofNat (z - 1))) c = Y at e y7 y5 y10 y29 ⊢
      refine ⟨h.t.c0 (e 1 (by decide)), h.l.cg (e 2 (by decide)), h.b.cg (e 4 (by decide)), ?_, ?_, h.w.cg (e 15 (by decide)), ?_, h.q.cg (e 16 (by decide)) (e 17 (by decide)), h.k.c0 (e 12 (by decide)), ?_, ?_, ?_, h.m.c0 (e 25 (by decide)) (e 26 (by decide)), h.j.cg (e 28 (by decide)) (e 32 (by decide)) (e 33 (by decide)), h.g.ne (e 34 (by decide)), h.p.cg (e 36 (by decide)) (e 37 (by decide)) (e 39 (by decide)), h.d.cg (e 41 (by decide)), h.o.cg (e 42 (by decide)) (e 43 (by decide)) (e 44 (by decide)), h.e.ne (e 47 (by decide)) (e 48 (by decide)) (e 49 (by decide)) (e 50 (by decide)) (e 51 (by decide)), h.r.cg (e 46 (by decide)) (e 50 (by decide)) (e 52 (by decide))⟩
      · obtain ⟨a1, a2, a3⟩ := h.a
        obtain ⟨x, x1, x2⟩ := ht.cases
        rw [x2, am_tcn (by omega)] at y5
        refine ⟨a1, fun d hd => ?_, fun d hd h7 => ?_⟩
        · rw [y5, y7, e 9 (by decide)]
          by_cases ed : d = x
          · rw [ed, am_upd_eq]
            exact Or.inl rfl
          · rw [am_upd_ne ed]
            rcases a2 d hd with q | ⟨k, k1, k2, k3, k4⟩
            · exact Or.inl q
            · refine Or.inr ⟨k, k1, k2, ?_, k4⟩
              rw [am_upd_ne]
              · exact k3
              · intro q
                rw [q, c3, x2] at k4
                have := congrArg Int32.toNatClampNeg k4
                rw [am_tcn (by omega), am_tcn (by omega)] at this
                exact ed this.symm
        · rw [y7] at h7
          rw [y5, e 9 (by decide)]
          by_cases ed : d = c
          · rw [ed, am_upd_eq] at h7
            exact absurd h7 (by decide)
          · rw [am_upd_ne ed] at h7
            obtain ⟨k, k1, k2, k3⟩ := a3 d hd h7
            refine ⟨k, k1, k2, ?_⟩
            rw [am_upd_ne]
            · exact k3
            · intro q
              exact ed (huq d hd h7 (by rw [k2, x2, q]))
      · intro d hd
        obtain ⟨b1, b2⟩ := h.c d hd
        rw [y7, e 8 (by decide), e 9 (by decide), e 14 (by decide)]
        refine ⟨?_, b2⟩
        by_cases ed : d = c
        · rw [ed, am_upd_eq]
          exact Or.inl rfl
        · rw [am_upd_ne ed]
          exact b1
      · intro d hd
        rw [y7, y10]
        by_cases ed : d = c
        · rw [ed, am_upd_eq, am_upd_eq]
          exact ⟨z - 1, rfl, by omega, fun q => absurd q (by decide)⟩
        · rw [am_upd_ne ed, am_upd_ne ed]
          exact h.s d hd
      · intro d hd
        obtain ⟨b1, b2⟩ := h.z d hd
        unfold aw_Z at b1 ⊢
        rw [e 11 (by decide), e 12 (by decide), e 14 (by decide), e 16 (by decide), e 17 (by decide), y7, am_upd_ne (by omega)]
        exact ⟨b1, b2⟩
      · exact h.v.go ht (e 27 (by decide)) (e 28 (by decide)) y29 (e 30 (by decide))
      · unfold ai_u
        rw [e 27 (by decide), y29, y7, e 8 (by decide), e 9 (by decide)]
        refine ⟨u1, fun k hk d hd h7 q => ?_⟩
        by_cases ed : d = c
        · rw [ed, am_upd_eq] at h7
          exact absurd h7 (by decide)
        · rw [am_upd_ne ed] at h7
          by_cases ek : k = j
          · rw [ek, am_upd_eq] at q
            exact absurd (huq d hd h7 q.symm) ed
          · rw [am_upd_ne ek] at q
            exact h.u.2 k hk d hd h7 q
    · rw [if_neg q0]
      have hl := h.ho c c1
      have hpn := hp.I.2
      have hln := hl.I.2
      have hne := aw_P.ne hl hp g2
      obtain ⟨Z, hZ⟩ : ∃ Z, Z = as_t0 F c (G 27 j) X := ⟨_, rfl⟩
      rw [← hZ]
      have e0 : ∀ f, (¬ f = 4 ∧ ¬ f = 8 ∧ ¬ f = 10 ∧ ¬ f = 12 ∧ ¬ f = 17 ∧ ¬ f = 34 ∧ ¬ f = 40) → Z f = X f := fun f hf => by rw [hZ, as_t0_ne hf]
      have y4 : Z 4 = am_upd (G 4) t.toNatClampNeg (G 27 j) := by
        rw [hZ]
        unfold as_t0
        simp only [am_up_eq, am_up_ne, am_upd_eq, Nat.reduceEqDiff, not_false_eq_true]
        rw [r0 4 (by decide), r0 9 (by decide), c3]
      have y8 : Z 8 = am_upd (G 8) c (G 27 j) := by
        rw [hZ]
        unfold as_t0
        simp only [am_up_eq, am_up_ne, am_upd_eq, Nat.reduceEqDiff, not_false_eq_true]
        rw [r0 8 (by decide)]
      have y10 : Z 10 = am_upd (G 10) c (Int32.ofNat (z - 1)) := by
        rw [hZ]
        unfold as_t0
        simp only [am_up_eq, am_up_ne, am_upd_eq, Nat.reduceEqDiff, not_false_eq_true]
        rw [r0 10 (by decide), z1, zz]
      have y12 : Z 12 = am_upd (G 12) c 0 := by
        rw [hZ]
        unfold as_t0
        simp only [am_up_eq, am_up_ne, am_upd_eq, Nat.reduceEqDiff, not_false_eq_true]
        rw [r0 12 (by decide)]
      have y17 : Z 17 = am_upd (G 17) c 0 := by
        rw [hZ]
        unfold as_t0
        simp only [am_up_eq, am_up_ne, am_upd_eq, Nat.reduceEqDiff, not_false_eq_true]
        rw [r0 17 (by decide)]
      have y34 : aw_CO Z (4000 * i) := by
        have hcn := am_cnt_le (p := fun x => G 7 x = 1 ∧ G 8 x = G 8 c) F
        have hm := h.g.mv (b := 4000 * i) (l := (G 8 c).toNatClampNeg) (q := (G 27 j).toNatClampNeg) (m := 2 * am_cnt (fun x => G 7 x = 1 ∧ G 8 x = G 8 c) F) (by omega) hln hpn hne (by omega)
        refine hm.ne ?_
        rw [hZ]
        unfold as_t0
        simp only [am_up_eq, am_up_ne, am_upd_eq, Nat.reduceEqDiff, not_false_eq_true]
        rw [r0 34 (by decide), r0 8 (by decide), r0 7 (by decide), am_sum_cnt, Int32.ofNat_mul]
        rfl
      have e : ∀ f, (¬ f = 4 ∧ ¬ f = 8 ∧ ¬ f = 10 ∧ ¬ f = 12 ∧ ¬ f = 17 ∧ ¬ f = 34 ∧ ¬ f = 40) ∧ ¬ f = 29 ∧ ¬ f = 36 ∧ ¬ f = 37 → as_cp (X 8 c).toNatClampNeg (G 27 j).toNatClampNeg Z f = G f := fun f hf => by
        rw [as_cp_ne hf.2.2, e0 f hf.1, r0 f hf.2.1]
      have ep : ai_p (as_cp (X 8 c).toNatClampNeg (G 27 j).toNatClampNeg Z) := by
        refine ai_p.cp ?_ hpn
        have := h.p
        unfold ai_p
        rw [e0 36 (by decide), e0 37 (by decide), e0 39 (by decide), r0 36 (by decide), r0 37 (by decide), r0 39 (by decide)]
        exact this
      have ec : ∀ f, ¬ f = 36 ∧ ¬ f = 37 → as_cp (X 8 c).toNatClampNeg (G 27 j).toNatClampNeg Z f = Z f := fun f hf => as_cp_ne hf
      have y29 : Z 29 = am_upd (G 29) j t := (e0 29 (by decide)).trans r29
      rw [← ec 4 (by decide)] at y4
      rw [← ec 8 (by decide)] at y8
      rw [← ec 10 (by decide)] at y10
      rw [← ec 12 (by decide)] at y12
      rw [← ec 17 (by decide)] at y17
      rw [← ec 29 (by decide)] at y29
      have y34 := y34.ne (ec 34 (by decide))
      generalize as_cp (X 8 c).toNatClampNeg (G 27 j).toNatClampNeg Z = Y at e ep y4 y8 y10 y12 y17 y29 y34 ⊢
      refine ⟨h.t.c0 (e 1 (by decide)), h.l.cg (e 2 (by decide)), ?_, h.a.up (e 5 (by decide)) (e 7 (by decide)) (e 9 (by decide)), ?_, h.w.cg (e 15 (by decide)), ?_, ?_, ?_, ?_, ?_, ?_, h.m.c0 (e 25 (by decide)) (e 26 (by decide)), h.j.cg (e 28 (by decide)) (e 32 (by decide)) (e 33 (by decide)), ?_, ?_, h.d.cg (e 41 (by decide)), h.o.cg (e 42 (by decide)) (e 43 (by decide)) (e 44 (by decide)), h.e.ne (e 47 (by decide)) (e 48 (by decide)) (e 49 (by decide)) (e 50 (by decide)) (e 51 (by decide)), h.r.cg (e 46 (by decide)) (e 50 (by decide)) (e 52 (by decide))⟩
      · intro d hd
        rw [y4]
        by_cases ed : d = t.toNatClampNeg
        · rw [ed, am_upd_eq]
          exact Or.inr hp
        · rw [am_upd_ne ed]
          exact h.b d hd
      · intro d hd
        obtain ⟨b1, b2, b3⟩ := h.c d hd
        rw [y8, e 7 (by decide), e 9 (by decide), e 14 (by decide)]
        refine ⟨b1, ?_, b3⟩
        by_cases ed : d = c
        · rw [ed, am_upd_eq]
          exact hp
        · rw [am_upd_ne ed]
          exact b2
      · intro d hd
        rw [e 7 (by decide), y10]
        by_cases ed : d = c
        · rw [ed, am_upd_eq]
          refine ⟨z - 1, rfl, by omega, fun _ => ?_⟩
          rcases Nat.eq_zero_or_pos (z - 1) with w | w
          · rw [w] at q0
            exact absurd rfl q0
          · exact w
        · rw [am_upd_ne ed]
          exact h.s d hd
      · intro d hd
        rw [e 16 (by decide), y17]
        by_cases ed : d = c
        · rw [ed, am_upd_eq]
          exact ⟨0, rfl, by decide, fun x hx => absurd hx (Nat.not_lt_zero x)⟩
        · rw [am_upd_ne ed]
          exact h.q d hd
      · intro d hd
        rw [y12]
        by_cases ed : d = c
        · rw [ed, am_upd_eq]
          exact ⟨0, rfl, Nat.zero_le _⟩
        · rw [am_upd_ne ed]
          exact h.k d hd
      · intro d hd
        obtain ⟨b1, b2⟩ := h.z d hd
        unfold aw_Z at b1 ⊢
        rw [e 11 (by decide), y12, e 14 (by decide), e 16 (by decide), y17, e 7 (by decide), am_upd_ne (by omega), am_upd_ne (by omega)]
        exact ⟨b1, b2⟩
      · exact h.v.go ht (e 27 (by decide)) (e 28 (by decide)) y29 (e 30 (by decide))
      · unfold ai_u
        rw [e 27 (by decide), y29, e 7 (by decide), y8, e 9 (by decide)]
        refine ⟨u1, fun k hk d hd h7 q => ?_⟩
        by_cases ed : d = c
        · rw [ed, am_upd_eq]
          by_cases ek : k = j
          · rw [ek]
          · rw [am_upd_ne ek, ed, c3] at q
            exact absurd q (hno k hk)
        · rw [am_upd_ne ed]
          by_cases ek : k = j
          · rw [ek, am_upd_eq] at q
            exact absurd (huq d hd h7 q.symm) ed
          · rw [am_upd_ne ek] at q
            exact h.u.2 k hk d hd h7 q
      · exact y34
      · exact ep
  · rw [if_neg g]
    refine ⟨h.t.c0 (r0 1 (by decide)), h.l.cg (r0 2 (by decide)), h.b.cg (r0 4 (by decide)), h.a.up (r0 5 (by decide)) (r0 7 (by decide)) (r0 9 (by decide)), h.c.cg (r0 7 (by decide)) (r0 8 (by decide)) (r0 9 (by decide)) (r0 14 (by decide)), h.w.cg (r0 15 (by decide)), h.s.c0 (r0 7 (by decide)) (r0 10 (by decide)), h.q.cg (r0 16 (by decide)) (r0 17 (by decide)), h.k.c0 (r0 12 (by decide)), h.z.cg (r0 7 (by decide)) (r0 11 (by decide)) (r0 12 (by decide)) (r0 14 (by decide)) (r0 16 (by decide)) (r0 17 (by decide)), ?_, ?_, h.m.c0 (r0 25 (by decide)) (r0 26 (by decide)), h.j.cg (r0 28 (by decide)) (r0 32 (by decide)) (r0 33 (by decide)), h.g.ne (r0 34 (by decide)), h.p.cg (r0 36 (by decide)) (r0 37 (by decide)) (r0 39 (by decide)), h.d.cg (r0 41 (by decide)), h.o.cg (r0 42 (by decide)) (r0 43 (by decide)) (r0 44 (by decide)), h.e.ne (r0 47 (by decide)) (r0 48 (by decide)) (r0 49 (by decide)) (r0 50 (by decide)) (r0 51 (by decide)), h.r.cg (r0 46 (by decide)) (r0 50 (by decide)) (r0 52 (by decide))⟩
    · exact h.v.go ht (r0 27 (by decide)) (r0 28 (by decide)) r29 (r0 30 (by decide))
    · unfold ai_u
      rw [r0 27 (by decide), r29, r0 7 (by decide), r0 8 (by decide), r0 9 (by decide)]
      refine ⟨u1, fun k hk d hd h7 q => ?_⟩
      by_cases ek : k = j
      · rw [ek, am_upd_eq] at q
        obtain ⟨t1, t2, t3, t4⟩ := h.a.t hd h7 q.symm
        rw [ek]
        refine Classical.byContradiction fun z => g ⟨t3, ?_⟩
        rw [t4]
        exact fun w => z w.symm
      · rw [am_upd_ne ek] at q
        exact h.u.2 k hk d hd h7 q
end
