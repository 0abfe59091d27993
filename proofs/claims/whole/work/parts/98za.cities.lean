/-! the cities' turn keeps what holds -/
section
variable {G X : am_G} {n F T i j : Nat}
theorem ai_n.mono {b b' : Nat} (h : ai_n G n b) (hb : b ≤ b') : ai_n G n b' := by
  obtain ⟨u, m, h1, h2, h3, h4⟩ := h
  exact ⟨u, m, h1, by omega, h3, h4⟩
theorem am_wk3 {l m : Int32} : ∃ z, z ≤ 3 ∧ am_wk l m = Int32.ofNat z := by
  unfold am_wk
  split
  · split
    · exact ⟨2, by decide, rfl⟩
    · exact ⟨3, by decide, rfl⟩
  · split
    · split
      · exact ⟨1, by decide, rfl⟩
      · exact ⟨2, by decide, rfl⟩
    · split
      · exact ⟨0, by decide, rfl⟩
      · exact ⟨1, by decide, rfl⟩
theorem as_yw_le {l : Int64} {c : Nat} : ∃ a, a ≤ 300 ∧ as_yw G l c = Int32.ofNat a := by
  obtain ⟨x0, x1, x2⟩ := am_wk3 (l := G 2 (G 9 c).toNatClampNeg) (m := G 3 (G 9 c).toNatClampNeg)
  have hm : ∀ x, x ≤ 3 → ∃ y, y ≤ 3 ∧ am_mx (Int32.ofNat x) 1 = Int32.ofNat y := by decide +kernel
  obtain ⟨y, y1, y2⟩ := hm x0 x1
  unfold as_yw am_all
  rw [x2, y2]
  obtain ⟨z, z1, z2⟩ := am_sum_natx (g := fun k => if am_lb l k then am_wk (G 2 k) (G 3 k) else 0) (b := 3) (x0 := y) rfl 64 (fun k _ => by
    show ∃ z, z ≤ 3 ∧ (if am_lb l k then am_wk (G 2 k) (G 3 k) else 0) = Int32.ofNat z
    split
    · exact am_wk3
    · exact ⟨0, by decide, rfl⟩)
  exact ⟨z, by omega, z2⟩
theorem as_ea_x {c z : Nat} {f : Int32} (hz : G 10 c = Int32.ofNat z) (h1 : 1 ≤ z) (h2 : z ≤ 1000) : ∃ a z', as_ea G c f = am_up (am_up G 11 c a) 10 c (Int32.ofNat z') ∧ 1 ≤ z' ∧ z' ≤ z + 1 := by
  have e1 : ((1 : Int32) < Int32.ofNat z) = (1 < z) := am_lt_nat (a := 1) (by decide) (by omega)
  unfold as_ea
  rw [hz]
  split
  · refine ⟨0, if 1 < z then z - 1 else 1, ?_, ?_, ?_⟩
    · congr 1
      by_cases q : 1 < z
      · rw [if_pos q, if_pos (show (1 : Int32) < Int32.ofNat z from e1.mpr q)]
        exact (Int32.ofNat_sub z 1 (by omega)).symm
      · rw [if_neg q, if_neg (show ¬ (1 : Int32) < Int32.ofNat z from fun w => q (e1.mp w))]
        rfl
    · split <;> omega
    · split <;> omega
  · split
    · exact ⟨_, z + 1, by rw [am_succ], by omega, Nat.le_refl _⟩
    · exact ⟨G 11 c + (f - 2 * Int32.ofNat z), z, by rw [am_up_id (G := am_up G 11 c (G 11 c + (f - 2 * Int32.ofNat z))) (f := 10) (k := c) (v := Int32.ofNat z) (by rw [am_up_ne (by decide)]; exact hz)], h1, Nat.le_succ _⟩
theorem ai.ea (h : ai G n F T j) {c z : Nat} (hc : c < F) {f : Int32} (hz : G 10 c = Int32.ofNat z) (h1 : 1 ≤ z) (h2 : z ≤ 1000) (h3 : z ≤ j) : ai (as_ea G c f) n F T j := by
  obtain ⟨a, z', e, z1, z2⟩ := as_ea_x (f := f) hz h1 h2
  have ne : ∀ x, ¬ x = 10 ∧ ¬ x = 11 → as_ea G c f x = G x := fun x hx => as_ea_ne hx
  refine ⟨h.t.c0 (ne 1 (by decide)), h.l.cg (ne 2 (by decide)), h.b.cg (ne 4 (by decide)), h.a.up (ne 5 (by decide)) (ne 7 (by decide)) (ne 9 (by decide)), h.c.cg (ne 7 (by decide)) (ne 8 (by decide)) (ne 9 (by decide)) (ne 14 (by decide)), h.w.cg (ne 15 (by decide)), ?_, h.q.cg (ne 16 (by decide)) (ne 17 (by decide)), h.k.c0 (ne 12 (by decide)), ?_, h.v.ne (ne 27 (by decide)) (ne 28 (by decide)) (ne 29 (by decide)) (ne 30 (by decide)), h.u.cg (ne 7 (by decide)) (ne 8 (by decide)) (ne 9 (by decide)) (ne 27 (by decide)) (ne 29 (by decide)), h.m.c0 (ne 25 (by decide)) (ne 26 (by decide)), h.j.cg (ne 28 (by decide)) (ne 32 (by decide)) (ne 33 (by decide)), h.g.ne (ne 34 (by decide)), h.p.cg (ne 36 (by decide)) (ne 37 (by decide)) (ne 39 (by decide)), h.d.cg (ne 41 (by decide)), h.o.cg (ne 42 (by decide)) (ne 43 (by decide)) (ne 44 (by decide)), h.e.ne (ne 47 (by decide)) (ne 48 (by decide)) (ne 49 (by decide)) (ne 50 (by decide)) (ne 51 (by decide)), h.r.cg (ne 46 (by decide)) (ne 50 (by decide)) (ne 52 (by decide))⟩
  · intro d hd
    rw [ne 7 (by decide), e, am_up_eq, am_up_ne (by decide)]
    by_cases ed : d = c
    · rw [ed, am_upd_eq]
      exact ⟨z', rfl, by omega, fun _ => z1⟩
    · rw [am_upd_ne ed]
      exact h.s d hd
  · intro d hd
    obtain ⟨x1, x2⟩ := h.z d hd
    unfold aw_Z at x1 ⊢
    rw [ne 7 (by decide), ne 12 (by decide), ne 14 (by decide), ne 16 (by decide), ne 17 (by decide), as_ea_at (by omega)]
    exact ⟨x1, x2⟩
theorem ai.up12 (h : ai G n F T j) {c k : Nat} (hc : c < F) (hk : k ≤ 300 * j) : ai (am_up G 12 c (Int32.ofNat k)) n F T j := by
  have e : ∀ f, ¬ f = 12 → am_up G 12 c (Int32.ofNat k) f = G f := fun f hf => am_up_ne hf
  refine ⟨h.t.c0 (e 1 (by decide)), h.l.cg (e 2 (by decide)), h.b.cg (e 4 (by decide)), h.a.up (e 5 (by decide)) (e 7 (by decide)) (e 9 (by decide)), h.c.cg (e 7 (by decide)) (e 8 (by decide)) (e 9 (by decide)) (e 14 (by decide)), h.w.cg (e 15 (by decide)), h.s.c0 (e 7 (by decide)) (e 10 (by decide)), h.q.cg (e 16 (by decide)) (e 17 (by decide)), ?_, ?_, h.v.ne (e 27 (by decide)) (e 28 (by decide)) (e 29 (by decide)) (e 30 (by decide)), h.u.cg (e 7 (by decide)) (e 8 (by decide)) (e 9 (by decide)) (e 27 (by decide)) (e 29 (by decide)), h.m.c0 (e 25 (by decide)) (e 26 (by decide)), h.j.cg (e 28 (by decide)) (e 32 (by decide)) (e 33 (by decide)), h.g.ne (e 34 (by decide)), h.p.cg (e 36 (by decide)) (e 37 (by decide)) (e 39 (by decide)), h.d.cg (e 41 (by decide)), h.o.cg (e 42 (by decide)) (e 43 (by decide)) (e 44 (by decide)), h.e.ne (e 47 (by decide)) (e 48 (by decide)) (e 49 (by decide)) (e 50 (by decide)) (e 51 (by decide)), h.r.cg (e 46 (by decide)) (e 50 (by decide)) (e 52 (by decide))⟩
  · intro d hd
    rw [am_up_eq]
    by_cases ed : d = c
    · rw [ed, am_upd_eq]
      exact ⟨k, rfl, hk⟩
    · rw [am_upd_ne ed]
      exact h.k d hd
  · intro d hd
    obtain ⟨x1, x2⟩ := h.z d hd
    unfold aw_Z at x1 ⊢
    rw [e 7 (by decide), e 11 (by decide), e 14 (by decide), e 16 (by decide), e 17 (by decide), am_up_eq, am_upd_ne (by omega)]
    exact ⟨x1, x2⟩
theorem ai.bu (h : ai G n F T j) (hj : j ≤ 700) {c : Nat} (hc : c < F) (h7 : G 7 c = 1) {b : Nat} (hm : ai_n G n b) (hb : b + 1 ≤ 20 * j) : ai (as_bu G n c).1 (as_bu G n c).2 F T j ∧ ai_n (as_bu G n c).1 (as_bu G n c).2 (b + 1) := by
  unfold as_bu
  by_cases hh : ¬ G 17 c = 0 ∧ am_co (G 16 (6 * c)) ≤ G 12 c ∧ as_cm G n c (G 16 (6 * c))
  · rw [if_pos hh]
    obtain ⟨q, q1, q2, q3⟩ := h.q c hc
    have hq0 := as_q0 q1 hh.1
    have hw := q3 0 hq0
    rw [Nat.add_zero] at hw
    obtain ⟨k, k1, k2⟩ := h.k c hc
    obtain ⟨a, a1, a2⟩ := am_co24 hw
    have hak : a ≤ k := by
      have := hh.2.1
      rw [a2, k1, am_leN (by omega) (by omega)] at this
      exact this
    have e12 : G 12 c - am_co (G 16 (6 * c)) = Int32.ofNat (k - a) := by
      rw [a2, k1]
      exact (Int32.ofNat_sub k a hak).symm
    rw [e12]
    have hZ0 := h.up12 (k := k - a) hc (by omega)
    have r0 : ∀ f, ¬ f = 12 → am_up G 12 c (Int32.ofNat (k - a)) f = G f := fun f hf => am_up_ne hf
    obtain ⟨Z0, eZ0⟩ : ∃ Z0, Z0 = am_up G 12 c (Int32.ofNat (k - a)) := ⟨_, rfl⟩
    rw [← eZ0] at hZ0 r0 ⊢
    rw [show (G 17 c).toNatClampNeg = q by rw [q1, am_tcn (by omega)]]
    obtain ⟨t1, t2⟩ := as_tk_q (k := c) (p := 0) (q := q) hZ0.q hZ0.z hc (by rw [r0 17 (by decide)]; exact q1) q2 hq0
    have r1 : ∀ f, ¬ f = 16 ∧ ¬ f = 17 → as_tk Z0 c 0 q f = Z0 f := fun f hf => as_tk_n2 hf
    have hZ1 : ai (as_tk Z0 c 0 q) n F T j := by
      refine ⟨hZ0.t.c0 (r1 1 (by decide)), hZ0.l.cg (r1 2 (by decide)), hZ0.b.cg (r1 4 (by decide)), hZ0.a.up (r1 5 (by decide)) (r1 7 (by decide)) (r1 9 (by decide)), hZ0.c.cg (r1 7 (by decide)) (r1 8 (by decide)) (r1 9 (by decide)) (r1 14 (by decide)), hZ0.w.cg (r1 15 (by decide)), hZ0.s.c0 (r1 7 (by decide)) (r1 10 (by decide)), ?_, hZ0.k.c0 (r1 12 (by decide)), ?_, hZ0.v.ne (r1 27 (by decide)) (r1 28 (by decide)) (r1 29 (by decide)) (r1 30 (by decide)), hZ0.u.cg (r1 7 (by decide)) (r1 8 (by decide)) (r1 9 (by decide)) (r1 27 (by decide)) (r1 29 (by decide)), hZ0.m.c0 (r1 25 (by decide)) (r1 26 (by decide)), hZ0.j.cg (r1 28 (by decide)) (r1 32 (by decide)) (r1 33 (by decide)), hZ0.g.ne (r1 34 (by decide)), hZ0.p.cg (r1 36 (by decide)) (r1 37 (by decide)) (r1 39 (by decide)), hZ0.d.cg (r1 41 (by decide)), hZ0.o.cg (r1 42 (by decide)) (r1 43 (by decide)) (r1 44 (by decide)), hZ0.e.ne (r1 47 (by decide)) (r1 48 (by decide)) (r1 49 (by decide)) (r1 50 (by decide)) (r1 51 (by decide)), hZ0.r.cg (r1 46 (by decide)) (r1 50 (by decide)) (r1 52 (by decide))⟩
      · exact t1
      · exact t2
    obtain ⟨Z1, eZ1⟩ : ∃ Z1, Z1 = as_tk Z0 c 0 q := ⟨_, rfl⟩
    rw [← eZ1] at hZ1 r1 ⊢
    have r2 : ∀ f, ¬ f = 12 ∧ ¬ f = 16 ∧ ¬ f = 17 → Z1 f = G f := fun f hf => by rw [r1 f hf.2, r0 f hf.1]
    have hm1 : ai_n Z1 n b := hm.c0 (r2 25 (by decide)) (r2 26 (by decide))
    by_cases h5 : 5 ≤ G 16 (6 * c)
    · rw [if_pos h5]
      have e : ∀ f, ¬ f = 14 → am_up Z1 14 c (G 14 c ||| (1 <<< (G 16 (6 * c) &&& 31))) f = Z1 f := fun f hf => am_up_ne hf
      constructor
      · show ai (am_up Z1 14 c (G 14 c ||| (1 <<< (G 16 (6 * c) &&& 31)))) n F T j
        refine ⟨hZ1.t.c0 (e 1 (by decide)), hZ1.l.cg (e 2 (by decide)), hZ1.b.cg (e 4 (by decide)), hZ1.a.up (e 5 (by decide)) (e 7 (by decide)) (e 9 (by decide)), ?_, hZ1.w.cg (e 15 (by decide)), hZ1.s.c0 (e 7 (by decide)) (e 10 (by decide)), hZ1.q.cg (e 16 (by decide)) (e 17 (by decide)), hZ1.k.c0 (e 12 (by decide)), ?_, hZ1.v.ne (e 27 (by decide)) (e 28 (by decide)) (e 29 (by decide)) (e 30 (by decide)), hZ1.u.cg (e 7 (by decide)) (e 8 (by decide)) (e 9 (by decide)) (e 27 (by decide)) (e 29 (by decide)), hZ1.m.c0 (e 25 (by decide)) (e 26 (by decide)), hZ1.j.cg (e 28 (by decide)) (e 32 (by decide)) (e 33 (by decide)), hZ1.g.ne (e 34 (by decide)), hZ1.p.cg (e 36 (by decide)) (e 37 (by decide)) (e 39 (by decide)), hZ1.d.cg (e 41 (by decide)), hZ1.o.cg (e 42 (by decide)) (e 43 (by decide)) (e 44 (by decide)), hZ1.e.ne (e 47 (by decide)) (e 48 (by decide)) (e 49 (by decide)) (e 50 (by decide)) (e 51 (by decide)), hZ1.r.cg (e 46 (by decide)) (e 50 (by decide)) (e 52 (by decide))⟩
        · intro d hd
          obtain ⟨b1, b2, b3, b4⟩ := hZ1.c d hd
          rw [e 7 (by decide), e 8 (by decide), e 9 (by decide), am_up_eq]
          refine ⟨b1, b2, b3, ?_⟩
          by_cases ed : d = c
          · rw [ed, am_upd_eq]
            obtain ⟨x, x1, x2⟩ := h.hB c hc
            obtain ⟨y, y1, y2⟩ := am_I59 hw h5
            rw [x2, y2]
            exact aw_B_or' x x1 y y1
          · rw [am_upd_ne ed]
            exact b4
        · intro d hd
          obtain ⟨x1, x2⟩ := hZ1.z d hd
          unfold aw_Z at x1 ⊢
          rw [e 7 (by decide), e 11 (by decide), e 12 (by decide), e 16 (by decide), e 17 (by decide), am_up_eq, am_upd_ne (by omega)]
          exact ⟨x1, x2⟩
      · exact (hm1.c0 (e 25 (by decide)) (e 26 (by decide))).mono (Nat.le_succ _)
    · rw [if_neg h5]
      have e : ∀ f, ¬ f = 10 → am_up Z1 10 c (if G 16 (6 * c) = 0 then G 10 c - 1 else G 10 c) f = Z1 f := fun f hf => am_up_ne hf
      have hZ2 : ai (am_up Z1 10 c (if G 16 (6 * c) = 0 then G 10 c - 1 else G 10 c)) n F T j := by
        refine ⟨hZ1.t.c0 (e 1 (by decide)), hZ1.l.cg (e 2 (by decide)), hZ1.b.cg (e 4 (by decide)), hZ1.a.up (e 5 (by decide)) (e 7 (by decide)) (e 9 (by decide)), hZ1.c.cg (e 7 (by decide)) (e 8 (by decide)) (e 9 (by decide)) (e 14 (by decide)), hZ1.w.cg (e 15 (by decide)), ?_, hZ1.q.cg (e 16 (by decide)) (e 17 (by decide)), hZ1.k.c0 (e 12 (by decide)), hZ1.z.cg (e 7 (by decide)) (e 11 (by decide)) (e 12 (by decide)) (e 14 (by decide)) (e 16 (by decide)) (e 17 (by decide)), hZ1.v.ne (e 27 (by decide)) (e 28 (by decide)) (e 29 (by decide)) (e 30 (by decide)), hZ1.u.cg (e 7 (by decide)) (e 8 (by decide)) (e 9 (by decide)) (e 27 (by decide)) (e 29 (by decide)), hZ1.m.c0 (e 25 (by decide)) (e 26 (by decide)), hZ1.j.cg (e 28 (by decide)) (e 32 (by decide)) (e 33 (by decide)), hZ1.g.ne (e 34 (by decide)), hZ1.p.cg (e 36 (by decide)) (e 37 (by decide)) (e 39 (by decide)), hZ1.d.cg (e 41 (by decide)), hZ1.o.cg (e 42 (by decide)) (e 43 (by decide)) (e 44 (by decide)), hZ1.e.ne (e 47 (by decide)) (e 48 (by decide)) (e 49 (by decide)) (e 50 (by decide)) (e 51 (by decide)), hZ1.r.cg (e 46 (by decide)) (e 50 (by decide)) (e 52 (by decide))⟩
        · intro d hd
          rw [e 7 (by decide), am_up_eq]
          by_cases ed : d = c
          · rw [ed, am_upd_eq]
            obtain ⟨z, z1, z2, z3⟩ := h.s c hc
            have z3 := z3 h7
            have hcm := hh.2.2.2
            rw [if_neg h5] at hcm
            rw [z1] at hcm ⊢
            by_cases w : G 16 (6 * c) = 0
            · rw [if_pos w, show Int32.ofNat z - 1 = Int32.ofNat (z - 1) from (Int32.ofNat_sub z 1 (by omega)).symm]
              have := hcm.2.resolve_left fun y => y w
              rw [show (2 : Int32) = Int32.ofNat 2 from rfl, am_le_nat (by decide) (by omega)] at this
              exact ⟨z - 1, rfl, by omega, fun _ => by omega⟩
            · rw [if_neg w]
              exact ⟨z, rfl, z2, fun _ => z3⟩
          · rw [am_upd_ne ed]
            exact hZ1.s d hd
      have hm2 := hm1.c0 (e 25 (by decide)) (e 26 (by decide))
      generalize am_up Z1 10 c (if G 16 (6 * c) = 0 then G 10 c - 1 else G 10 c) = Z2 at hZ2 hm2 e
      have e2 : ∀ f, ¬ f = 10 ∧ ¬ f = 12 ∧ ¬ f = 16 ∧ ¬ f = 17 → Z2 f = G f := fun f hf => by rw [e f hf.1, r2 f hf.2]
      have hp := h.ho c hc
      have ht := h.hp c hc
      have hmk : ∀ f, ¬ (24 ≤ f ∧ f ≤ 33) → am_mk Z2 n (G 8 c) (G 16 (6 * c)) (G 9 c) f = Z2 f := fun f hf => am_mk_ne hf
      have hk5 := am_I5 hw h5
      constructor
      · show ai (am_mk Z2 n (G 8 c) (G 16 (6 * c)) (G 9 c)) (n + 1) F T j
        refine ⟨hZ2.t.c0 (hmk 1 (by decide)), hZ2.l.cg (hmk 2 (by decide)), hZ2.b.cg (hmk 4 (by decide)), hZ2.a.up (hmk 5 (by decide)) (hmk 7 (by decide)) (hmk 9 (by decide)), hZ2.c.cg (hmk 7 (by decide)) (hmk 8 (by decide)) (hmk 9 (by decide)) (hmk 14 (by decide)), hZ2.w.cg (hmk 15 (by decide)), hZ2.s.c0 (hmk 7 (by decide)) (hmk 10 (by decide)), hZ2.q.cg (hmk 16 (by decide)) (hmk 17 (by decide)), hZ2.k.c0 (hmk 12 (by decide)), hZ2.z.cg (hmk 7 (by decide)) (hmk 11 (by decide)) (hmk 12 (by decide)) (hmk 14 (by decide)) (hmk 16 (by decide)) (hmk 17 (by decide)), ?_, ?_, ?_, ?_, hZ2.g.ne (hmk 34 (by decide)), hZ2.p.cg (hmk 36 (by decide)) (hmk 37 (by decide)) (hmk 39 (by decide)), hZ2.d.cg (hmk 41 (by decide)), hZ2.o.cg (hmk 42 (by decide)) (hmk 43 (by decide)) (hmk 44 (by decide)), hZ2.e.ne (hmk 47 (by decide)) (hmk 48 (by decide)) (hmk 49 (by decide)) (hmk 50 (by decide)) (hmk 51 (by decide)), hZ2.r.cg (hmk 46 (by decide)) (hmk 50 (by decide)) (hmk 52 (by decide))⟩
        · exact hZ2.v.mk hp hk5 ht
        · refine hZ2.u.mk (fun x hx w => ?_) (fun d hd h7d w => ?_)
          · rw [e2 29 (by decide)] at w
            rw [e2 27 (by decide)]
            exact h.u.2 x hx c hc h7 w
          · rw [e2 7 (by decide)] at h7d
            rw [e2 9 (by decide)] at w
            rw [e2 8 (by decide)]
            have i1 := (h.a.t hc h7 w).2.2.2
            have i2 := (h.a.t hd h7d rfl).2.2.2
            rw [← i1, i2]
        · exact (hm2.mk).mono hb
        · exact hZ2.j.mk
      · show ai_n (am_mk Z2 n (G 8 c) (G 16 (6 * c)) (G 9 c)) (n + 1) (b + 1)
        exact hm2.mk
  · rw [if_neg hh]
    exact ⟨h, hm.mono (Nat.le_succ _)⟩
theorem ai.tr (h : ai G n F T j) {c : Nat} {t : Int32} (hg : aw_CO (as_tr G c t) (4000 * j)) : ai (as_tr G c t) n F T j := by
  have e : ∀ f, ¬ f = 34 ∧ ¬ f = 35 ∧ ¬ f = 40 → as_tr G c t f = G f := fun f hf => as_tr_ne hf
  refine ⟨h.t.c0 (e 1 (by decide)), h.l.cg (e 2 (by decide)), h.b.cg (e 4 (by decide)), h.a.up (e 5 (by decide)) (e 7 (by decide)) (e 9 (by decide)), h.c.cg (e 7 (by decide)) (e 8 (by decide)) (e 9 (by decide)) (e 14 (by decide)), h.w.cg (e 15 (by decide)), h.s.c0 (e 7 (by decide)) (e 10 (by decide)), h.q.cg (e 16 (by decide)) (e 17 (by decide)), h.k.c0 (e 12 (by decide)), h.z.cg (e 7 (by decide)) (e 11 (by decide)) (e 12 (by decide)) (e 14 (by decide)) (e 16 (by decide)) (e 17 (by decide)), h.v.ne (e 27 (by decide)) (e 28 (by decide)) (e 29 (by decide)) (e 30 (by decide)), h.u.cg (e 7 (by decide)) (e 8 (by decide)) (e 9 (by decide)) (e 27 (by decide)) (e 29 (by decide)), h.m.c0 (e 25 (by decide)) (e 26 (by decide)), h.j.cg (e 28 (by decide)) (e 32 (by decide)) (e 33 (by decide)), ?_, h.p.cg (e 36 (by decide)) (e 37 (by decide)) (e 39 (by decide)), h.d.cg (e 41 (by decide)), h.o.cg (e 42 (by decide)) (e 43 (by decide)) (e 44 (by decide)), h.e.ne (e 47 (by decide)) (e 48 (by decide)) (e 49 (by decide)) (e 50 (by decide)) (e 51 (by decide)), h.r.cg (e 46 (by decide)) (e 50 (by decide)) (e 52 (by decide))⟩
  exact hg
theorem ai.cu (h : ai G n F T j) {c : Nat} : ai (as_cu G c) n F T j := by
  have e : ∀ f, ¬ f = 13 → as_cu G c f = G f := fun f hf => am_up_ne hf
  exact ⟨h.t.c0 (e 1 (by decide)), h.l.cg (e 2 (by decide)), h.b.cg (e 4 (by decide)), h.a.up (e 5 (by decide)) (e 7 (by decide)) (e 9 (by decide)), h.c.cg (e 7 (by decide)) (e 8 (by decide)) (e 9 (by decide)) (e 14 (by decide)), h.w.cg (e 15 (by decide)), h.s.c0 (e 7 (by decide)) (e 10 (by decide)), h.q.cg (e 16 (by decide)) (e 17 (by decide)), h.k.c0 (e 12 (by decide)), h.z.cg (e 7 (by decide)) (e 11 (by decide)) (e 12 (by decide)) (e 14 (by decide)) (e 16 (by decide)) (e 17 (by decide)), h.v.ne (e 27 (by decide)) (e 28 (by decide)) (e 29 (by decide)) (e 30 (by decide)), h.u.cg (e 7 (by decide)) (e 8 (by decide)) (e 9 (by decide)) (e 27 (by decide)) (e 29 (by decide)), h.m.c0 (e 25 (by decide)) (e 26 (by decide)), h.j.cg (e 28 (by decide)) (e 32 (by decide)) (e 33 (by decide)), h.g.ne (e 34 (by decide)), h.p.cg (e 36 (by decide)) (e 37 (by decide)) (e 39 (by decide)), h.d.cg (e 41 (by decide)), h.o.cg (e 42 (by decide)) (e 43 (by decide)) (e 44 (by decide)), h.e.ne (e 47 (by decide)) (e 48 (by decide)) (e 49 (by decide)) (e 50 (by decide)) (e 51 (by decide)), h.r.cg (e 46 (by decide)) (e 50 (by decide)) (e 52 (by decide))⟩
theorem as_cu_ne {c f : Nat} (h : ¬ f = 13) : as_cu G c f = G f := am_up_ne h
/-- between two cities' turns -/
def ac_J (Y : am_G) (m F T i x : Nat) : Prop := ai Y m F T (i + 1) ∧ ai_n Y m (20 * i + x) ∧ aw_CO Y (4000 * i + 300 * x)
theorem ac_J.cy {Y : am_G} {m x : Nat} (h : ac_J Y m F T i x) (hi : i ≤ 600) (hx : x ≤ 11) {c : Nat} (hc : c < F) (h7 : Y 7 c = 1) (h10 : ∃ z, Y 10 c = Int32.ofNat z ∧ 1 ≤ z ∧ z ≤ 1 + i) (h12 : ∃ w, Y 12 c = Int32.ofNat w ∧ w ≤ 300 * i) {f w t : Int32} (hw : ∃ a, a ≤ 300 ∧ w = Int32.ofNat a) (ht : ∃ a, a ≤ 130 ∧ t = Int32.ofNat a) : ac_J (as_cy f w t c (Y, m)).1 (as_cy f w t c (Y, m)).2 F T i (x + 1) := by
  obtain ⟨hA, hm, hg⟩ := h
  obtain ⟨z, z1, z2, z3⟩ := h10
  obtain ⟨k, k1, k2⟩ := h12
  obtain ⟨a, a1, a2⟩ := hw
  obtain ⟨b, b1, b2⟩ := ht
  have hco := as_cy_CO (x := f) (w := w) (t := t) (c := c) (s := (Y, m)) hg (hA.ho c hc) b2 b1 (fun p hp => (hA.p p hp).2.2)
  have h1 := hA.ea (f := f) hc z1 z2 (by omega) (by omega)
  have ne : ∀ x, ¬ x = 10 ∧ ¬ x = 11 → as_ea Y c f x = Y x := fun x hx => as_ea_ne hx
  have e12 : as_ea Y c f 12 c + w = Int32.ofNat (k + a) := by rw [ne 12 (by decide), k1, a2, ← Int32.ofNat_add]
  have h2 := h1.up12 (k := k + a) hc (by omega)
  have h3 := h2.bu (c := c) (b := 20 * i + x) (by omega) hc (by rw [am_up_ne (by decide), ne 7 (by decide)]; exact h7) (hm.c0 (by rw [am_up_ne (by decide), ne 25 (by decide)]) (by rw [am_up_ne (by decide), ne 26 (by decide)])) (by omega)
  obtain ⟨h3, h4⟩ := h3
  have e : as_cy f w t c (Y, m) = (as_cu (as_tr (as_bu (am_up (as_ea Y c f) 12 c (Int32.ofNat (k + a))) m c).1 c t) c, (as_bu (am_up (as_ea Y c f) 12 c (Int32.ofNat (k + a))) m c).2) := by
    rw [← e12]
    rfl
  rw [e] at hco ⊢
  generalize as_bu (am_up (as_ea Y c f) 12 c (Int32.ofNat (k + a))) m c = B at h3 h4 hco ⊢
  have hco : aw_CO (as_cu (as_tr B.1 c t) c) (4000 * i + 300 * x + 300) := hco
  have hco2 : aw_CO (as_tr B.1 c t) (4000 * i + 300 * x + 300) := hco.ne (as_cu_ne (G := as_tr B.1 c t) (c := c) (f := 34) (by decide)).symm
  have h5 := h3.tr (c := c) (t := t) (hco2.mono (by omega))
  have h6 := h5.cu (c := c)
  refine ⟨h6, ?_, hco.mono (by omega)⟩
  show ai_n (as_cu (as_tr B.1 c t) c) B.2 (20 * i + (x + 1))
  refine h4.c0 ?_ ?_
  · rw [as_cu_ne (by decide), as_tr_ne (by decide)]
  · rw [as_cu_ne (by decide), as_tr_ne (by decide)]
end
