/-! the turn keeps what holds: units' rest, jobs, borders, treaties, players -/
section
variable {G X : am_G} {n F T i : Nat}
theorem ai.rt (h : ai G n F T i) {k : Nat} (hk : k < n) : ai (as_rs k (G, n)).1 (as_rs k (G, n)).2 F T i := by
  obtain ⟨-, -, -, hh, e, h1, h2⟩ := h.v k hk
  obtain ⟨m, m1, m2, -⟩ := as_rt_h e h1 h2
  have e : ∀ f, ¬ f = 30 ∧ ¬ f = 31 → as_rt k G f = G f := fun f hf => as_rt_ne hf
  unfold as_rs
  dsimp only
  rw [m1]
  by_cases q : Int32.ofNat m ≤ 0
  · rw [if_pos q]
    refine h.dr30 hk e fun x hx hne => ?_
    rw [as_rt_at hne]
    exact (h.v x hx).2.2.2
  · rw [if_neg q]
    refine h.f30 e fun x hx => ?_
    by_cases ex : x = k
    · rw [ex]
      refine ⟨m, m1, ?_, m2⟩
      rcases Nat.eq_zero_or_pos m with w | w
      · rw [w] at q
        exact absurd (Int32.le_refl _) q
      · exact w
    · show as_pz (as_rt k G 30 x) 10
      rw [as_rt_at ex]
      exact (h.v x hx).2.2.2
theorem as_rs_n (k : Nat) (X : am_G × Nat) (hk : k < X.2) : k ≤ (as_rs k X).2 := by
  unfold as_rs
  split
  · show k ≤ X.2 - 1
    omega
  · show k ≤ X.2
    omega
theorem ai.rs : ∀ (k : Nat) (X : am_G × Nat), k ≤ X.2 → ai X.1 X.2 F T i → ai (as_dn as_rs k X).1 (as_dn as_rs k X).2 F T i
  | 0, _, _, h => h
  | k + 1, X, hk, h => by
    unfold as_dn
    exact ai.rs k _ (as_rs_n k X hk) (h.rt hk)
theorem ai.jb (h : ai G n F T i) {k : Nat} (hk : k < n) : ai (as_jb k G) n F T i := by
  have hj := h.j k hk
  unfold as_jb
  by_cases q : 0 < G 33 k
  · have ha : am_at (G 28 k) ≤ 0 := hj.resolve_right fun z => by
      rw [z.2] at q
      exact absurd q (by decide)
    rw [if_pos q]
    by_cases q2 : G 33 k - 1 = 0
    · rw [if_pos q2]
      have e : ∀ f, ¬ f = 33 ∧ ¬ f = 3 ∧ ¬ f = 32 → am_up (am_up (am_up G 33 k (G 33 k - 1)) 3 (G 29 k).toNatClampNeg (G 3 (G 29 k).toNatClampNeg ||| G 32 k)) 32 k 0 f = G f := fun f hf => by rw [am_up_ne hf.2.2, am_up_ne hf.2.1, am_up_ne hf.1]
      refine ⟨h.t.c0 (e 1 (by decide)), h.l.cg (e 2 (by decide)), h.b.cg (e 4 (by decide)), h.a.up (e 5 (by decide)) (e 7 (by decide)) (e 9 (by decide)), h.c.cg (e 7 (by decide)) (e 8 (by decide)) (e 9 (by decide)) (e 14 (by decide)), h.w.cg (e 15 (by decide)), h.s.c0 (e 7 (by decide)) (e 10 (by decide)), h.q.cg (e 16 (by decide)) (e 17 (by decide)), h.k.c0 (e 12 (by decide)), h.z.cg (e 7 (by decide)) (e 11 (by decide)) (e 12 (by decide)) (e 14 (by decide)) (e 16 (by decide)) (e 17 (by decide)), h.v.ne (e 27 (by decide)) (e 28 (by decide)) (e 29 (by decide)) (e 30 (by decide)), h.u.cg (e 7 (by decide)) (e 8 (by decide)) (e 9 (by decide)) (e 27 (by decide)) (e 29 (by decide)), h.m.c0 (e 25 (by decide)) (e 26 (by decide)), ?_, h.g.ne (e 34 (by decide)), h.p.cg (e 36 (by decide)) (e 37 (by decide)) (e 39 (by decide)), h.d.cg (e 41 (by decide)), h.o.cg (e 42 (by decide)) (e 43 (by decide)) (e 44 (by decide)), h.e.ne (e 47 (by decide)) (e 48 (by decide)) (e 49 (by decide)) (e 50 (by decide)) (e 51 (by decide)), h.r.cg (e 46 (by decide)) (e 50 (by decide)) (e 52 (by decide))⟩
      intro d hd
      have hd2 := h.j d hd
      rw [e 28 (by decide), am_up_eq, am_up_ne (show ¬ 32 = 3 by decide), am_up_ne (show ¬ 32 = 33 by decide), am_up_ne (show ¬ 33 = 32 by decide), am_up_ne (show ¬ 33 = 3 by decide), am_up_eq]
      by_cases ed : d = k
      · left
        rw [ed]
        exact ha
      · rw [am_upd_ne ed, am_upd_ne ed]
        exact hd2
    · rw [if_neg q2]
      have e : ∀ f, ¬ f = 33 → am_up G 33 k (G 33 k - 1) f = G f := fun f hf => am_up_ne hf
      refine ⟨h.t.c0 (e 1 (by decide)), h.l.cg (e 2 (by decide)), h.b.cg (e 4 (by decide)), h.a.up (e 5 (by decide)) (e 7 (by decide)) (e 9 (by decide)), h.c.cg (e 7 (by decide)) (e 8 (by decide)) (e 9 (by decide)) (e 14 (by decide)), h.w.cg (e 15 (by decide)), h.s.c0 (e 7 (by decide)) (e 10 (by decide)), h.q.cg (e 16 (by decide)) (e 17 (by decide)), h.k.c0 (e 12 (by decide)), h.z.cg (e 7 (by decide)) (e 11 (by decide)) (e 12 (by decide)) (e 14 (by decide)) (e 16 (by decide)) (e 17 (by decide)), h.v.ne (e 27 (by decide)) (e 28 (by decide)) (e 29 (by decide)) (e 30 (by decide)), h.u.cg (e 7 (by decide)) (e 8 (by decide)) (e 9 (by decide)) (e 27 (by decide)) (e 29 (by decide)), h.m.c0 (e 25 (by decide)) (e 26 (by decide)), ?_, h.g.ne (e 34 (by decide)), h.p.cg (e 36 (by decide)) (e 37 (by decide)) (e 39 (by decide)), h.d.cg (e 41 (by decide)), h.o.cg (e 42 (by decide)) (e 43 (by decide)) (e 44 (by decide)), h.e.ne (e 47 (by decide)) (e 48 (by decide)) (e 49 (by decide)) (e 50 (by decide)) (e 51 (by decide)), h.r.cg (e 46 (by decide)) (e 50 (by decide)) (e 52 (by decide))⟩
      intro d hd
      have hd2 := h.j d hd
      rw [e 28 (by decide), e 32 (by decide), am_up_eq]
      by_cases ed : d = k
      · left
        rw [ed]
        exact ha
      · rw [am_upd_ne ed]
        exact hd2
  · rw [if_neg q]
    exact h
theorem ai.jbs (h : ai G n F T i) : ∀ k, k ≤ n → ai (am_it as_jb G k) n F T i
  | 0, _ => h
  | k + 1, hk => (ai.jbs h k (by omega)).jb (by omega)
theorem as_oi4 {o : Option Nat} (h : ∀ k, o = some k → k < 4) : am_oi o = -1 ∨ aw_P (am_oi o) := by
  rcases o with _ | k
  · exact Or.inl rfl
  · exact Or.inr (aw_Pk (h k rfl))
theorem as_so_P {u : Nat → Int32} {x : Int32} : as_so u x = -1 ∨ aw_P (as_so u x) := by
  unfold as_so
  rcases e : am_find (fun i => as_sq u i ∧ Int32.ofNat i = x) 0 4 with _ | k
  · show (if am_cnt (as_sq u) 4 = 1 then am_oi (am_last (as_sq u) 4) else -1) = -1 ∨ aw_P (if am_cnt (as_sq u) 4 = 1 then am_oi (am_last (as_sq u) 4) else -1)
    by_cases q : am_cnt (as_sq u) 4 = 1
    · rw [if_pos q]
      exact as_oi4 fun k hk => (am_last_lt hk).1
    · rw [if_neg q]
      exact Or.inl rfl
  · right
    have := (am_find_ge 4 0 k e).2.1
    exact aw_Pk (show k < 4 by omega)
theorem ai.bd (h : ai G n F T i) {t : Nat} (ht : t < 64) : ai (as_bd F t G) n F T i := by
  have e : ∀ f, ¬ f = 4 → as_bd F t G f = G f := fun f hf => as_bd_ne hf
  refine ⟨h.t.c0 (e 1 (by decide)), h.l.cg (e 2 (by decide)), ?_, h.a.up (e 5 (by decide)) (e 7 (by decide)) (e 9 (by decide)), h.c.cg (e 7 (by decide)) (e 8 (by decide)) (e 9 (by decide)) (e 14 (by decide)), h.w.cg (e 15 (by decide)), h.s.c0 (e 7 (by decide)) (e 10 (by decide)), h.q.cg (e 16 (by decide)) (e 17 (by decide)), h.k.c0 (e 12 (by decide)), h.z.cg (e 7 (by decide)) (e 11 (by decide)) (e 12 (by decide)) (e 14 (by decide)) (e 16 (by decide)) (e 17 (by decide)), h.v.ne (e 27 (by decide)) (e 28 (by decide)) (e 29 (by decide)) (e 30 (by decide)), h.u.cg (e 7 (by decide)) (e 8 (by decide)) (e 9 (by decide)) (e 27 (by decide)) (e 29 (by decide)), h.m.c0 (e 25 (by decide)) (e 26 (by decide)), h.j.cg (e 28 (by decide)) (e 32 (by decide)) (e 33 (by decide)), h.g.ne (e 34 (by decide)), h.p.cg (e 36 (by decide)) (e 37 (by decide)) (e 39 (by decide)), h.d.cg (e 41 (by decide)), h.o.cg (e 42 (by decide)) (e 43 (by decide)) (e 44 (by decide)), h.e.ne (e 47 (by decide)) (e 48 (by decide)) (e 49 (by decide)) (e 50 (by decide)) (e 51 (by decide)), h.r.cg (e 46 (by decide)) (e 50 (by decide)) (e 52 (by decide))⟩
  intro d hd
  unfold as_bd
  rw [am_up_eq]
  by_cases ed : d = t
  · rw [ed, am_upd_eq]
    unfold as_ft
    by_cases q : G 5 (Int32.ofNat t).toNatClampNeg = -1
    · rw [if_pos q]
      exact as_so_P
    · rw [if_neg q]
      obtain ⟨c1, -⟩ := h.a.c (am_Ik (show t < 64 by omega) (by decide)) q
      exact Or.inr (h.ho _ c1)
  · rw [am_upd_ne ed]
    exact h.b d hd
theorem ai.bds (h : ai G n F T i) : ∀ k, k ≤ 64 → ai (am_it (as_bd F) G k) n F T i
  | 0, _ => h
  | k + 1, hk => (ai.bds h k (by omega)).bd (by omega)
theorem ai.lz (h : ai G n F T i) {k : Nat} (hk : k < T) : ai (as_lz k G) n F T i := by
  have e : ∀ f, ¬ f = 49 ∧ ¬ f = 50 → as_lz k G f = G f := fun f hf => as_lz_ne hf
  refine ⟨h.t.c0 (e 1 (by decide)), h.l.cg (e 2 (by decide)), h.b.cg (e 4 (by decide)), h.a.up (e 5 (by decide)) (e 7 (by decide)) (e 9 (by decide)), h.c.cg (e 7 (by decide)) (e 8 (by decide)) (e 9 (by decide)) (e 14 (by decide)), h.w.cg (e 15 (by decide)), h.s.c0 (e 7 (by decide)) (e 10 (by decide)), h.q.cg (e 16 (by decide)) (e 17 (by decide)), h.k.c0 (e 12 (by decide)), h.z.cg (e 7 (by decide)) (e 11 (by decide)) (e 12 (by decide)) (e 14 (by decide)) (e 16 (by decide)) (e 17 (by decide)), h.v.ne (e 27 (by decide)) (e 28 (by decide)) (e 29 (by decide)) (e 30 (by decide)), h.u.cg (e 7 (by decide)) (e 8 (by decide)) (e 9 (by decide)) (e 27 (by decide)) (e 29 (by decide)), h.m.c0 (e 25 (by decide)) (e 26 (by decide)), h.j.cg (e 28 (by decide)) (e 32 (by decide)) (e 33 (by decide)), h.g.ne (e 34 (by decide)), h.p.cg (e 36 (by decide)) (e 37 (by decide)) (e 39 (by decide)), h.d.cg (e 41 (by decide)), h.o.cg (e 42 (by decide)) (e 43 (by decide)) (e 44 (by decide)), ?_, ?_⟩
  · intro d hd
    obtain ⟨a1, a2, a3, a4⟩ := h.e d hd
    rw [e 47 (by decide), e 48 (by decide), e 51 (by decide)]
    refine ⟨a1, a2, a3, ?_⟩
    by_cases ed : d = k
    · rw [ed] at a4 ⊢
      unfold as_lz
      by_cases q : G 50 k = 0
      · obtain ⟨b1, b2⟩ := a4 q
        rw [if_pos q, am_up_eq, am_upd_eq, am_up_ne (by decide), am_up_eq, am_upd_eq]
        by_cases q2 : G 49 k - 1 = 0
        · rw [if_pos q2]
          exact fun z => absurd z (by decide)
        · rw [if_neg q2]
          refine fun _ => ⟨?_, b2⟩
          have h1 := Int32.le_iff_toInt_le.mp b1
          have h3 := (G 49 k).toInt_lt
          have t1 : (1 : Int32).toInt = 1 := rfl
          have ee : (G 49 k - 1).toInt = (G 49 k).toInt - 1 := by
            rw [Int32.toInt_sub, t1]
            exact Int.bmod_eq_of_le (by omega) (by omega)
          rw [Int32.le_iff_toInt_le, ee, t1]
          refine Classical.byContradiction fun w => q2 (Int32.toInt_inj.mp ?_)
          rw [ee]
          have t0 : (0 : Int32).toInt = 0 := rfl
          omega
      · rw [if_neg q]
        exact a4
    · rw [as_lz_at ed, as_lz_at ed]
      exact a4
  · obtain ⟨b1, b2⟩ := h.r
    unfold ai_r
    rw [e 46 (by decide), e 52 (by decide)]
    refine ⟨fun d hd hd2 => ?_, b2⟩
    rw [as_lz_at (by omega)]
    exact b1 d hd hd2
theorem ai.lzs (h : ai G n F T i) : ∀ k, k ≤ T → ai (am_it as_lz G k) n F T i
  | 0, _ => h
  | k + 1, hk => (ai.lzs h k (by omega)).lz (by omega)
theorem aw_CO.mz {G : am_G} {b l q z : Nat} (h : aw_CO G b) (hb : b < 2147483648) (hl : l < 4) (hq : q < 4) (hne : ¬ q = l) (hz : z ≤ (G 34 l).toNatClampNeg) : aw_CO (am_up (am_up G 34 l (G 34 l - Int32.ofNat z)) 34 q (G 34 q + Int32.ofNat z)) b := by
  obtain ⟨c, h1, h2⟩ := h
  have hc : c l ≤ b := by
    rcases (show l = 0 ∨ l = 1 ∨ l = 2 ∨ l = 3 by omega) with rfl | rfl | rfl | rfl <;> omega
  rw [h1 l hl, am_tcN (by omega)] at hz
  rw [h1 l hl, h1 q hq, ← Int32.ofNat_sub _ _ hz, ← Int32.ofNat_add]
  refine ⟨fun x => if x = q then c q + z else if x = l then c l - z else c x, fun x hx => ?_, ?_⟩
  · rw [am_up_eq]
    show _ = Int32.ofNat (if x = q then c q + z else if x = l then c l - z else c x)
    by_cases e : x = q
    · rw [if_pos e, e, am_upd_eq]
    · rw [if_neg e, am_upd_ne e, am_up_eq]
      by_cases e2 : x = l
      · rw [if_pos e2, e2, am_upd_eq]
      · rw [if_neg e2, am_upd_ne e2, h1 x hx]
  · show (if 0 = q then c q + z else if 0 = l then c l - z else c 0) + (if 1 = q then c q + z else if 1 = l then c l - z else c 1) + (if 2 = q then c q + z else if 2 = l then c l - z else c 2) + (if 3 = q then c q + z else if 3 = l then c l - z else c 3) ≤ b
    rcases (show q = 0 ∨ q = 1 ∨ q = 2 ∨ q = 3 by omega) with rfl | rfl | rfl | rfl <;> rcases (show l = 0 ∨ l = 1 ∨ l = 2 ∨ l = 3 by omega) with rfl | rfl | rfl | rfl <;> simp only [Nat.reduceEqDiff, if_true, if_false, not_true_eq_false] at hne ⊢ <;> omega
theorem as_pdN {x y : Nat} (hx : x < 2147483648) (hy : y < 2147483648) : as_pd (Int32.ofNat x) (Int32.ofNat y) = Int32.ofNat (min x y) := by
  unfold as_pd
  by_cases h : x < y
  · rw [if_pos ((am_ltN hx hy).mpr h), Nat.min_eq_left (by omega)]
  · rw [if_neg fun q => h ((am_ltN hx hy).mp q), Nat.min_eq_right (by omega)]
theorem ai.tb (h : ai G n F T i) (hi : i ≤ 700) {k : Nat} (hk : k < T) : ai (as_tb k G) n F T i := by
  have e : ∀ f, ¬ f = 34 ∧ ¬ f = 38 ∧ ¬ f = 40 ∧ ¬ f = 50 ∧ ¬ f = 51 → as_tb k G f = G f := fun f hf => as_tb_ne hf
  refine ⟨h.t.c0 (e 1 (by decide)), h.l.cg (e 2 (by decide)), h.b.cg (e 4 (by decide)), h.a.up (e 5 (by decide)) (e 7 (by decide)) (e 9 (by decide)), h.c.cg (e 7 (by decide)) (e 8 (by decide)) (e 9 (by decide)) (e 14 (by decide)), h.w.cg (e 15 (by decide)), h.s.c0 (e 7 (by decide)) (e 10 (by decide)), h.q.cg (e 16 (by decide)) (e 17 (by decide)), h.k.c0 (e 12 (by decide)), h.z.cg (e 7 (by decide)) (e 11 (by decide)) (e 12 (by decide)) (e 14 (by decide)) (e 16 (by decide)) (e 17 (by decide)), h.v.ne (e 27 (by decide)) (e 28 (by decide)) (e 29 (by decide)) (e 30 (by decide)), h.u.cg (e 7 (by decide)) (e 8 (by decide)) (e 9 (by decide)) (e 27 (by decide)) (e 29 (by decide)), h.m.c0 (e 25 (by decide)) (e 26 (by decide)), h.j.cg (e 28 (by decide)) (e 32 (by decide)) (e 33 (by decide)), ?_, h.p.cg (e 36 (by decide)) (e 37 (by decide)) (e 39 (by decide)), h.d.cg (e 41 (by decide)), h.o.cg (e 42 (by decide)) (e 43 (by decide)) (e 44 (by decide)), ?_, ?_⟩
  · obtain ⟨a1, a2, a3, -⟩ := h.e k hk
    unfold as_tb
    by_cases q : G 46 k = 2 ∧ G 50 k = 0
    · rw [if_pos q]
      obtain ⟨a, ha, hb⟩ := h.r.2 k hk q.1
      obtain ⟨x, hx, hy⟩ := h.g.at (p := (G 47 k).toNatClampNeg) a1.I.2
      have hmz := h.g.mz (l := (G 47 k).toNatClampNeg) (q := (G 48 k).toNatClampNeg) (z := min x a) (by omega) a1.I.2 a2.I.2 (aw_P.ne a1 a2 a3) (by rw [hy, am_tcN (by omega)]; exact Nat.min_le_left _ _)
      dsimp only
      rw [hb, hy, as_pdN (by omega) (by omega)]
      have e34 : am_gn (am_gv' G (G 47 k).toNatClampNeg 5 (Int32.ofNat (min x a))) (G 48 k).toNatClampNeg 1 (Int32.ofNat (min x a)) 34 = am_up (am_up G 34 (G 47 k).toNatClampNeg (G 34 (G 47 k).toNatClampNeg - Int32.ofNat (min x a))) 34 (G 48 k).toNatClampNeg (G 34 (G 48 k).toNatClampNeg + Int32.ofNat (min x a)) 34 := by
        unfold am_gn am_gv'
        rw [am_up_ne (show ¬ 34 = 40 by decide), am_up_eq, am_up_ne (show ¬ 34 = 40 by decide), am_up_eq, am_upd_ne (aw_P.ne a1 a2 a3), am_up_eq, am_up_eq]
      split
      · exact hmz.ne (by rw [am_up_ne (by decide), am_up_ne (by decide), am_up_ne (by decide), e34])
      · exact hmz.ne e34
    · rw [if_neg q]
      exact h.g
  · exact as_tb_IT h.e
  · obtain ⟨b1, b2⟩ := h.r
    unfold ai_r
    rw [e 46 (by decide), e 52 (by decide)]
    refine ⟨fun d hd hd2 => ?_, b2⟩
    rw [as_tb_at (by decide) (by omega)]
    exact b1 d hd hd2
theorem ai.tbs (h : ai G n F T i) (hi : i ≤ 700) : ∀ k, k ≤ T → ai (am_it as_tb G k) n F T i
  | 0, _ => h
  | k + 1, hk => (ai.tbs h hi k (by omega)).tb hi (by omega)
theorem ai.le (h : ai G n F T i) {p : Int32} (hp : aw_P p) : ai (as_le G p) n F T i := by
  unfold as_le
  split
  · exact h
  · next q =>
    rw [not_or] at q
    obtain ⟨x1, -, -⟩ := h.p p.toNatClampNeg hp.I.2
    obtain ⟨c, c1, c2⟩ := x1.resolve_left q.1
    obtain ⟨Z, hZ⟩ : ∃ Z, Z = am_up G 35 p.toNatClampNeg (G 35 p.toNatClampNeg - (12 + 6 * G 36 p.toNatClampNeg)) := ⟨_, rfl⟩
    rw [← hZ, c2]
    have hpz : ai_p Z := by
      have := h.p
      unfold ai_p
      rw [hZ, am_up_ne (show ¬ 36 = 35 by decide), am_up_ne (show ¬ 37 = 35 by decide), am_up_ne (show ¬ 39 = 35 by decide)]
      exact this
    have e : ∀ f, ¬ f = 35 ∧ ¬ f = 36 ∧ ¬ f = 37 → am_kn Z p.toNatClampNeg (Int32.ofNat c) f = G f := fun f hf => by rw [am_kn_ne hf.2, hZ, am_up_ne hf.1]
    refine ⟨h.t.c0 (e 1 (by decide)), h.l.cg (e 2 (by decide)), h.b.cg (e 4 (by decide)), h.a.up (e 5 (by decide)) (e 7 (by decide)) (e 9 (by decide)), h.c.cg (e 7 (by decide)) (e 8 (by decide)) (e 9 (by decide)) (e 14 (by decide)), h.w.cg (e 15 (by decide)), h.s.c0 (e 7 (by decide)) (e 10 (by decide)), h.q.cg (e 16 (by decide)) (e 17 (by decide)), h.k.c0 (e 12 (by decide)), h.z.cg (e 7 (by decide)) (e 11 (by decide)) (e 12 (by decide)) (e 14 (by decide)) (e 16 (by decide)) (e 17 (by decide)), h.v.ne (e 27 (by decide)) (e 28 (by decide)) (e 29 (by decide)) (e 30 (by decide)), h.u.cg (e 7 (by decide)) (e 8 (by decide)) (e 9 (by decide)) (e 27 (by decide)) (e 29 (by decide)), h.m.c0 (e 25 (by decide)) (e 26 (by decide)), h.j.cg (e 28 (by decide)) (e 32 (by decide)) (e 33 (by decide)), h.g.ne (e 34 (by decide)), ?_, h.d.cg (e 41 (by decide)), h.o.cg (e 42 (by decide)) (e 43 (by decide)) (e 44 (by decide)), h.e.ne (e 47 (by decide)) (e 48 (by decide)) (e 49 (by decide)) (e 50 (by decide)) (e 51 (by decide)), h.r.cg (e 46 (by decide)) (e 50 (by decide)) (e 52 (by decide))⟩
    exact hpz.kn hp.I.2 c1
theorem as_kw_d {p : Int32} {y : Nat} (hy : y < 2147483648) : ∀ (m : Nat) (G : am_G) (n : Nat) (x : Nat), x < 2147483648 → G 34 p.toNatClampNeg = Int32.ofNat y → (∃ x', x' ≤ x ∧ (as_kw p m G n (Int32.ofNat x)).2.2 = Int32.ofNat x') ∧ (as_kw p m G n (Int32.ofNat x)).1 34 = G 34
  | 0, G, n, x, _, _ => ⟨⟨x, Nat.le_refl _, rfl⟩, rfl⟩
  | m + 1, G, n, x, hx, h => by
    unfold as_kw
    rw [h]
    by_cases q : y < x
    · rw [if_pos ((am_ltN hy hx).mpr q)]
      rcases am_last (fun k => G 27 k = p) n with _ | j
      · exact ⟨⟨x, Nat.le_refl _, rfl⟩, rfl⟩
      · obtain ⟨⟨x', a, b⟩, c⟩ := as_kw_d hy m (am_dr G n j) (n - 1) (x - 1) (by omega) (by rw [am_dr_f34]; exact h)
        show (∃ x', x' ≤ x ∧ (as_kw p m (am_dr G n j) (n - 1) (Int32.ofNat x - 1)).2.2 = Int32.ofNat x') ∧ (as_kw p m (am_dr G n j) (n - 1) (Int32.ofNat x - 1)).1 34 = G 34
        rw [show Int32.ofNat x - 1 = Int32.ofNat (x - 1) from (Int32.ofNat_sub x 1 (by omega)).symm]
        exact ⟨⟨x', by omega, b⟩, c.trans am_dr_f34⟩
    · rw [if_neg fun z => q ((am_ltN hy hx).mp z)]
      exact ⟨⟨x, Nat.le_refl _, rfl⟩, rfl⟩
theorem ai.fi (h : ai G n F T i) (hi : i ≤ 700) {p : Int32} (hp : aw_P p) {x : Nat} (hx : x < 2147483648) : ai (as_fi G p (Int32.ofNat x)) n F T i := by
  have e : ∀ f, ¬ f = 34 ∧ ¬ f = 40 → as_fi G p (Int32.ofNat x) f = G f := fun f hf => as_fi_ne hf
  refine ⟨h.t.c0 (e 1 (by decide)), h.l.cg (e 2 (by decide)), h.b.cg (e 4 (by decide)), h.a.up (e 5 (by decide)) (e 7 (by decide)) (e 9 (by decide)), h.c.cg (e 7 (by decide)) (e 8 (by decide)) (e 9 (by decide)) (e 14 (by decide)), h.w.cg (e 15 (by decide)), h.s.c0 (e 7 (by decide)) (e 10 (by decide)), h.q.cg (e 16 (by decide)) (e 17 (by decide)), h.k.c0 (e 12 (by decide)), h.z.cg (e 7 (by decide)) (e 11 (by decide)) (e 12 (by decide)) (e 14 (by decide)) (e 16 (by decide)) (e 17 (by decide)), h.v.ne (e 27 (by decide)) (e 28 (by decide)) (e 29 (by decide)) (e 30 (by decide)), h.u.cg (e 7 (by decide)) (e 8 (by decide)) (e 9 (by decide)) (e 27 (by decide)) (e 29 (by decide)), h.m.c0 (e 25 (by decide)) (e 26 (by decide)), h.j.cg (e 28 (by decide)) (e 32 (by decide)) (e 33 (by decide)), ?_, h.p.cg (e 36 (by decide)) (e 37 (by decide)) (e 39 (by decide)), h.d.cg (e 41 (by decide)), h.o.cg (e 42 (by decide)) (e 43 (by decide)) (e 44 (by decide)), h.e.ne (e 47 (by decide)) (e 48 (by decide)) (e 49 (by decide)) (e 50 (by decide)) (e 51 (by decide)), h.r.cg (e 46 (by decide)) (e 50 (by decide)) (e 52 (by decide))⟩
  obtain ⟨y, hy, hyy⟩ := h.g.at (p := p.toNatClampNeg) hp.I.2
  unfold as_fi
  dsimp only
  rw [hyy]
  have key : Int32.ofNat y - (Int32.ofNat x - if Int32.ofNat y < Int32.ofNat x then Int32.ofNat x - Int32.ofNat y else 0) = Int32.ofNat (y - min x y) := by
    by_cases q : y < x
    · rw [if_pos ((am_ltN (by omega) hx).mpr q), ← Int32.ofNat_sub _ _ (by omega), ← Int32.ofNat_sub _ _ (by omega), ← Int32.ofNat_sub _ _ (by omega)]
      congr 1
      omega
    · rw [if_neg fun z => q ((am_ltN (by omega) hx).mp z), Int32.sub_zero, ← Int32.ofNat_sub _ _ (by omega)]
      congr 1
      omega
  rw [key]
  refine (h.g.dec (x := y - min x y) (p := p.toNatClampNeg) (by omega) hp.I.2 (by rw [hyy, am_tcN (by omega)]; exact Nat.sub_le _ _)).ne ?_
  rw [am_up_eq, am_up_eq, am_up_ne (by decide), am_up_ne (by decide)]
theorem as_mnyB : ∀ x, x < 32 → am_mny (Int32.ofNat (32 * x)) = Int32.ofNat (am_mny (Int32.ofNat (32 * x))).toNatClampNeg ∧ (am_mny (Int32.ofNat (32 * x))).toNatClampNeg ≤ 10 := by decide +kernel
theorem as_dueN (h : ai G n F T i) (hn : n ≤ 40) {p : Int32} : ∃ x, x ≤ 1000 ∧ as_due G p n F = Int32.ofNat x := by
  have hF := h.a.1
  obtain ⟨z, z1, z2⟩ := am_sum_natx (g := fun c => if G 7 c = 1 ∧ G 8 c = p then am_mny (G 14 c) else 0) (b := 10) (x0 := 0) (x := 0) rfl F (fun c hc => by
    split
    · obtain ⟨x, hx, e⟩ := h.hB c hc
      rw [e]
      exact ⟨_, (as_mnyB x hx).2, (as_mnyB x hx).1⟩
    · exact ⟨0, Nat.zero_le _, rfl⟩)
  have hc1 := am_cnt_le (p := fun x => G 7 x = 1 ∧ G 8 x = p) F
  have hc2 := am_cnt_le (p := fun j => G 27 j = p) n
  unfold as_due
  rw [z2, am_sum_cnt]
  generalize am_cnt (fun x => G 7 x = 1 ∧ G 8 x = p) F = a at hc1
  generalize am_cnt (fun j => G 27 j = p) n = b at hc2
  rw [show (2 : Int32) = Int32.ofNat 2 from rfl, ← Int32.ofNat_mul]
  by_cases q : 2 * a ≤ b
  · rw [← Int32.ofNat_sub _ _ q]
    have : am_mx 0 (Int32.ofNat (b - 2 * a)) = Int32.ofNat (b - 2 * a) := by
      unfold am_mx
      split
      · rfl
      · next w =>
        have := Int32.not_lt.mp w
        have := (am_le_nat (b := 0) (show b - 2 * a ≤ 100000 by omega) (by omega)).mp this
        rw [Nat.le_zero.mp this]
        rfl
    rw [this, ← Int32.ofNat_add]
    exact ⟨_, by omega, rfl⟩
  · have : am_mx 0 (Int32.ofNat b - Int32.ofNat (2 * a)) = 0 := by
      have := (by decide : ∀ a, a < 13 → ∀ b, b < 41 → ¬ 2 * a ≤ b → am_mx 0 (Int32.ofNat b - Int32.ofNat (2 * a)) = 0) a (by omega) b (by omega) q
      exact this
    rw [this, Int32.add_zero]
    exact ⟨z, by omega, rfl⟩
theorem ai.kp (h : ai G n F T i) (hi : i ≤ 700) (hn : n ≤ 40) {p : Int32} (hp : aw_P p) : ai (as_kp p F (G, n)).1 (as_kp p F (G, n)).2 F T i := by
  obtain ⟨x, x1, x2⟩ := as_dueN h hn (p := p)
  obtain ⟨y, hy, hyy⟩ := h.g.at (p := p.toNatClampNeg) hp.I.2
  have hk := as_kw_ind (p := p) (P := fun G n => ai G n F T i) (fun G n j h hj => h.dr hj) 40 G n (as_due G p n F) h
  obtain ⟨⟨x', c1, c2⟩, -⟩ := as_kw_d (p := p) (y := y) (by omega) 40 G n x (by omega) hyy
  unfold as_kp
  dsimp only
  rw [x2] at hk ⊢
  rw [c2]
  exact ai.fi hk hi hp (by omega)
theorem ai.pp (h : ai G n F T i) (hi : i ≤ 700) (hn : n ≤ 40) {p : Nat} (hp : p < 4) : ai (as_pp F p (G, n)).1 (as_pp F p (G, n)).2 F T i := by
  unfold as_pp
  exact (h.le (aw_Pk hp)).kp hi hn (aw_Pk hp)
end
