/-! endTurn -/
theorem ar_p_cg {G X : am_G} {n T c : Nat} {p : Int64} (h : ∀ f, ¬ (19 ≤ f ∧ f ≤ 23) → X f = G f) (ht : am_I (G 9 c) 64) (hw : aw_we G c) : ar_p X n T c p = ar_p G n T c p :=
  (ar_po (G := X) (X := X) (n := n) (T := T) (c := c) (p := p) (fun _ _ => rfl) (by rw [h 9 (by decide)]; exact ht) (by unfold aw_we; rw [h 15 (by decide)]; exact hw)).symm.trans (ar_po (G := G) (X := X) (n := n) (T := T) (c := c) (p := p) h ht hw)
theorem ar_t_cg {G X : am_G} {n F T : Nat} (h : ∀ f, ¬ (19 ≤ f ∧ f ≤ 23) → X f = G f) (ht : ∀ c, c < F → am_I (G 9 c) 64) (hw : ∀ c, c < F → aw_we G c) : ∀ k, k ≤ F → ar_t X n T k = ar_t G n T k
  | 0, _ => rfl
  | k + 1, hk => by
    unfold ar_t
    rw [h 7 (by decide), ar_t_cg h ht hw k (by omega), ar_p_cg h (ht k (by omega)) (hw k (by omega))]
theorem ar_l_cg {G X : am_G} {n F T : Nat} (h : ∀ f, ¬ (19 ≤ f ∧ f ≤ 23) → X f = G f) (ht : ∀ c, c < F → am_I (G 9 c) 64) (hw : ∀ c, c < F → aw_we G c) {c : Nat} (hc : c < F) : ar_l X n T c = ar_l G n T c := by
  unfold ar_l
  rw [h 7 (by decide), ar_t_cg h ht hw c (by omega), ar_p_cg h (ht c hc) (hw c hc)]
section
variable {K : aw_K} {A : aw_A} {G Q : am_G} {M : aw_M} {L : Nat → Int64} {r : am_H} {n F T i : Nat}
theorem as_te_cg {f w t f' w' t' : Nat → Int32} {s : am_G × Nat} (h : ∀ c, c ∈ as_li s.1 F → f c = f' c ∧ w c = w' c ∧ t c = t' c) : as_te F T f w t s = as_te F T f' w' t' s := by
  unfold as_te as_t2
  rw [as_cyl_congr _ s h]
theorem as_te_ne {x : Nat} {f w t : Nat → Int32} {s : am_G × Nat} (h : ¬ (3 ≤ x ∧ x ≤ 4) ∧ ¬ (10 ≤ x ∧ x ≤ 14) ∧ ¬ x = 16 ∧ ¬ x = 17 ∧ ¬ (24 ≤ x ∧ x ≤ 38) ∧ ¬ x = 40 ∧ ¬ (49 ≤ x ∧ x ≤ 51)) : (as_te F T f w t s).1 x = s.1 x := by
  unfold as_te
  rw [as_dn_ne (by omega)]
  dsimp only
  rw [as_t4_ne (by omega), as_t2_ne (by omega)]
theorem ac_endTurn (hW : aw_W K A G n F T) (hN : aw_N K r) (hS : aw_S r) (hi : i ≤ 600) (hA : ai G n F T i) : ac_call K A G Q M L r i 129 [.ref 12] 236 [.ref 40, am_U, am_U, am_U] [] 0 := by
  have m236 := fun h => mr236 (L := L) (r := h) hW.hn hW.n40 hW.hF hW.F12 hW.hT hW.T40 hA.hb (hA.IC hi) hA.hp hA.hB hA.v hA.e hA.a hA.b hA.g (by omega) (fun p hp => (hA.p p hp).2.2)
  obtain ⟨X, hX⟩ : ∃ X, X = am_up G 0 0 0 := ⟨_, rfl⟩
  have r0 : ∀ f, ¬ f = 0 → X f = G f := fun f hf => by rw [hX, am_up_ne hf]
  have hWX : aw_W K A X n F T := by rw [hX]; exact hW.W0
  have hAX : ai X n F T i := by rw [hX]; exact hA.g0
  obtain ⟨p1, -, p3⟩ := ar_pa (L := L) (n := n) (T := T) hAX.hp hAX.w F (Nat.le_refl F)
  obtain ⟨P, hP⟩ : ∃ P, P = as_pp0 G L n F T := ⟨_, rfl⟩
  have hP2 : am_it (as_pa n T) (X, L, 0) F = P := by rw [hP, hX]; rfl
  rw [hP2] at p1 p3
  rw [← hP] at m236
  have hAP : ai P.1 n F T i := by
    exact ⟨hAX.t.c0 (p1 1 (by decide)), hAX.l.cg (p1 2 (by decide)), hAX.b.cg (p1 4 (by decide)), hAX.a.up (p1 5 (by decide)) (p1 7 (by decide)) (p1 9 (by decide)), hAX.c.cg (p1 7 (by decide)) (p1 8 (by decide)) (p1 9 (by decide)) (p1 14 (by decide)), hAX.w.cg (p1 15 (by decide)), hAX.s.c0 (p1 7 (by decide)) (p1 10 (by decide)), hAX.q.cg (p1 16 (by decide)) (p1 17 (by decide)), hAX.k.c0 (p1 12 (by decide)), hAX.z.cg (p1 7 (by decide)) (p1 11 (by decide)) (p1 12 (by decide)) (p1 14 (by decide)) (p1 16 (by decide)) (p1 17 (by decide)), hAX.v.ne (p1 27 (by decide)) (p1 28 (by decide)) (p1 29 (by decide)) (p1 30 (by decide)), hAX.u.cg (p1 7 (by decide)) (p1 8 (by decide)) (p1 9 (by decide)) (p1 27 (by decide)) (p1 29 (by decide)), hAX.m.c0 (p1 25 (by decide)) (p1 26 (by decide)), hAX.j.cg (p1 28 (by decide)) (p1 32 (by decide)) (p1 33 (by decide)), hAX.g.ne (p1 34 (by decide)), hAX.p.cg (p1 36 (by decide)) (p1 37 (by decide)) (p1 39 (by decide)), hAX.d.cg (p1 41 (by decide)), hAX.o.cg (p1 42 (by decide)) (p1 43 (by decide)) (p1 44 (by decide)), hAX.e.ne (p1 47 (by decide)) (p1 48 (by decide)) (p1 49 (by decide)) (p1 50 (by decide)) (p1 51 (by decide)), hAX.r.cg (p1 46 (by decide)) (p1 50 (by decide)) (p1 52 (by decide))⟩
  have hWP : aw_W K A P.1 n F T := hWX.up (p1 24 (by decide)) (p1 6 (by decide)) (p1 45 (by decide)) (p1 42 (by decide)) (p1 7 (by decide))
  obtain ⟨K', A', Q', M', r', x1, x2, x3, x4⟩ := mc129p (Q := Q) (M := M) hWP hN hS (hAP.IC hi) hAP.ho hAP.hp hAP.hB hAP.v hAP.e hAP.a hAP.u.1 hAP.l hAP.w
  have eL : ∀ c, c ∈ as_li P.1 F → P.2.1 c = ar_l P.1 n T c := fun c hc => by
    obtain ⟨c1, -⟩ := as_li_mem.mp hc
    rw [p3 c, if_pos c1]
    exact (ar_l_cg p1 hAX.hp hAX.w c1).symm
  have eT := as_te_cg (F := F) (T := T) (f := fun c => as_yf P.1 (P.2.1 c) c) (w := fun c => as_yw P.1 (P.2.1 c) c) (t := fun c => as_yt P.1 (P.2.1 c) c) (f' := fun c => as_yf P.1 (ar_l P.1 n T c) c) (w' := fun c => as_yw P.1 (ar_l P.1 n T c) c) (t' := fun c => as_yt P.1 (ar_l P.1 n T c) c) (s := (P.1, n)) (fun c hc => by
    rw [eL c hc]
    exact ⟨rfl, rfl, rfl⟩)
  have hte := hAP.te (f := fun c => as_yf P.1 (ar_l P.1 n T c) c) hi hWP.hn hWP.n40 (fun c => as_yw_le (G := P.1) (l := ar_l P.1 n T c) (c := c)) (fun c => as_yt_le (G := P.1) (l := ar_l P.1 n T c) (c := c))
  have e0 := as_te_ne (F := F) (T := T) (x := 0) (f := fun c => as_yf P.1 (ar_l P.1 n T c) c) (w := fun c => as_yw P.1 (ar_l P.1 n T c) c) (t := fun c => as_yt P.1 (ar_l P.1 n T c) c) (s := (P.1, n)) (by decide)
  rw [eT] at m236
  generalize as_te F T (fun c => as_yf P.1 (ar_l P.1 n T c) c) (fun c => as_yw P.1 (ar_l P.1 n T c) c) (fun c => as_yt P.1 (ar_l P.1 n T c) c) (P.1, n) = Z at x1 x2 m236 hte e0
  have e0 : Z.1 0 = P.1 0 := e0
  have e1 : P.1 1 0 = G 1 0 := by rw [p1 1 (by decide), r0 1 (by decide)]
  rw [e1] at x1
  obtain ⟨t, t1, t2⟩ := hA.t
  have et : G 1 0 + 1 = Int32.ofNat (t + 1) := by rw [t2, am_succ]
  refine ⟨K', A', am_up Z.1 1 0 (G 1 0 + 1), Q', M', P.2.1, r', Z.2, F, T, .inl (some (.int (G 1 0 + 1))), some (.int (G 1 0 + 1)), ?_, m236, ⟨?_, rfl⟩, ⟨_, rfl⟩, ?_, x4, x3.mono (by decide) (by decide), ?_⟩
  · rw [← x1, show aw_H K A G Q M r = aw_H K A P.1 Q M r from (aw_H_cg fun f hf => (p1 f hf.2).trans (r0 f hf.1)).symm]
  · rw [am_up_ne (by decide), e0, p1 0 (by decide), hX, am_up_eq, am_upd_eq]
  · exact x2.up (am_up_ne (by decide)) (am_up_ne (by decide)) (am_up_ne (by decide)) (am_up_ne (by decide)) (am_up_ne (by decide))
  · have e : ∀ f, ¬ f = 1 → am_up Z.1 1 0 (G 1 0 + 1) f = Z.1 f := fun f hf => am_up_ne hf
    refine ⟨?_, hte.l.cg (e 2 (by decide)), hte.b.cg (e 4 (by decide)), hte.a.up (e 5 (by decide)) (e 7 (by decide)) (e 9 (by decide)), hte.c.cg (e 7 (by decide)) (e 8 (by decide)) (e 9 (by decide)) (e 14 (by decide)), hte.w.cg (e 15 (by decide)), hte.s.c0 (e 7 (by decide)) (e 10 (by decide)), hte.q.cg (e 16 (by decide)) (e 17 (by decide)), hte.k.c0 (e 12 (by decide)), hte.z.cg (e 7 (by decide)) (e 11 (by decide)) (e 12 (by decide)) (e 14 (by decide)) (e 16 (by decide)) (e 17 (by decide)), hte.v.ne (e 27 (by decide)) (e 28 (by decide)) (e 29 (by decide)) (e 30 (by decide)), hte.u.cg (e 7 (by decide)) (e 8 (by decide)) (e 9 (by decide)) (e 27 (by decide)) (e 29 (by decide)), hte.m.c0 (e 25 (by decide)) (e 26 (by decide)), hte.j.cg (e 28 (by decide)) (e 32 (by decide)) (e 33 (by decide)), hte.g.ne (e 34 (by decide)), hte.p.cg (e 36 (by decide)) (e 37 (by decide)) (e 39 (by decide)), hte.d.cg (e 41 (by decide)), hte.o.cg (e 42 (by decide)) (e 43 (by decide)) (e 44 (by decide)), hte.e.ne (e 47 (by decide)) (e 48 (by decide)) (e 49 (by decide)) (e 50 (by decide)) (e 51 (by decide)), hte.r.cg (e 46 (by decide)) (e 50 (by decide)) (e 52 (by decide))⟩
    exact ⟨t + 1, by omega, by rw [am_up_eq, am_upd_eq]; exact et⟩
end
