/-! WHAT HOLDS BETWEEN CALLS -/
def ai_t (G : am_G) (i : Nat) : Prop := ∃ t, t ≤ i ∧ G 1 0 = Int32.ofNat t
def ai_l (G : am_G) : Prop := ∀ t, t < 64 → am_I (G 2 t) 6
def ai_b (G : am_G) : Prop := ∀ t, t < 64 → G 4 t = -1 ∨ aw_P (G 4 t)
def ai_c (G : am_G) (F : Nat) : Prop := ∀ c, c < F → (G 7 c = 0 ∨ G 7 c = 1) ∧ aw_P (G 8 c) ∧ am_I (G 9 c) 64 ∧ aw_B (G 14 c)
def ai_w (G : am_G) (F : Nat) : Prop := ∀ c, c < F → aw_we G c
def ai_s (G : am_G) (F i : Nat) : Prop := ∀ c, c < F → ∃ z, G 10 c = Int32.ofNat z ∧ z ≤ 1 + i ∧ (G 7 c = 1 → 1 ≤ z)
def ai_q (G : am_G) (F : Nat) : Prop := ∀ c, c < F → ∃ q, G 17 c = Int32.ofNat q ∧ q ≤ 6 ∧ ∀ j, j < q → am_I (G 16 (6 * c + j)) 10
def ai_k (G : am_G) (F i : Nat) : Prop := ∀ c, c < F → ∃ w, G 12 c = Int32.ofNat w ∧ w ≤ 300 * i
def ai_z (G : am_G) (F : Nat) : Prop := ∀ c, F ≤ c → aw_Z G c ∧ G 7 c = 0
def ai_u (G : am_G) (n F : Nat) : Prop := (∀ i, i < n → ∀ j, j < n → G 29 i = G 29 j → G 27 i = G 27 j) ∧ ∀ k, k < n → ∀ c, c < F → G 7 c = 1 → G 29 k = G 9 c → G 27 k = G 8 c
def ai_n (G : am_G) (n b : Nat) : Prop := ∃ (u : Nat) (m : Nat → Nat), G 25 0 = Int32.ofNat u ∧ u ≤ b ∧ (∀ k, k < n → G 26 k = Int32.ofNat (m k) ∧ m k < u) ∧ ∀ j k, j < k → k < n → m j < m k
def ai_j (G : am_G) (n : Nat) : Prop := ∀ k, k < n → am_at (G 28 k) ≤ 0 ∨ G 32 k = 0 ∧ G 33 k = 0
def ai_p (G : am_G) : Prop := ∀ p, p < 4 → (G 36 p = -1 ∨ ∃ c, c < 10 ∧ G 36 p = Int32.ofNat c) ∧ am_I (G 37 p) 1024 ∧ ∃ q, q ≤ 100 ∧ G 39 p = Int32.ofNat q
def ai_d (G : am_G) : Prop := ∀ c, c < 10 → am_I (G 41 c) 1024 ∧ ∃ z, z ≤ 2 ∧ am_mny (G 41 c) = Int32.ofNat z
def ai_o (G : am_G) : Prop := ∀ j, j < 16 → G 42 j = 0 ∨ (∃ k, k < 4 ∧ G 42 j = Int32.ofNat (k + 1) ∧ (k = 3 → ∃ c, c < 10 ∧ G 44 j = Int32.ofNat c) ∧ (k = 2 → ∃ a, a ≤ 50 ∧ G 44 j = Int32.ofNat a)) ∧ (∃ t, 1 ≤ t ∧ t ≤ 20 ∧ G 43 j = Int32.ofNat t) ∧ ¬ j / 4 = j % 4
def ai_r (G : am_G) (T : Nat) : Prop := (∀ k, T ≤ k → k < 40 → G 50 k = 0) ∧ ∀ k, k < T → G 46 k = 2 → ∃ a, a ≤ 50 ∧ G 52 k = Int32.ofNat a
def ai (G : am_G) (n F T i : Nat) : Prop :=
  ai_t G i ∧ ai_l G ∧ ai_b G ∧ aw_CA G F ∧ ai_c G F ∧ ai_w G F ∧ ai_s G F i ∧ ai_q G F ∧ ai_k G F i ∧ ai_z G F ∧ aw_IU G n ∧ ai_u G n F ∧ ai_n G n (20 * i) ∧ ai_j G n ∧ aw_CO G (4000 * i) ∧ ai_p G ∧ ai_d G ∧ ai_o G ∧ aw_IT G T ∧ ai_r G T
section
variable {G G' : am_G} {n F T i : Nat}
theorem ai.t (h : ai G n F T i) : ai_t G i := h.1
theorem ai.l (h : ai G n F T i) : ai_l G := h.2.1
theorem ai.b (h : ai G n F T i) : ai_b G := h.2.2.1
theorem ai.a (h : ai G n F T i) : aw_CA G F := h.2.2.2.1
theorem ai.c (h : ai G n F T i) : ai_c G F := h.2.2.2.2.1
theorem ai.w (h : ai G n F T i) : ai_w G F := h.2.2.2.2.2.1
theorem ai.s (h : ai G n F T i) : ai_s G F i := h.2.2.2.2.2.2.1
theorem ai.q (h : ai G n F T i) : ai_q G F := h.2.2.2.2.2.2.2.1
theorem ai.k (h : ai G n F T i) : ai_k G F i := h.2.2.2.2.2.2.2.2.1
theorem ai.z (h : ai G n F T i) : ai_z G F := h.2.2.2.2.2.2.2.2.2.1
theorem ai.v (h : ai G n F T i) : aw_IU G n := h.2.2.2.2.2.2.2.2.2.2.1
theorem ai.u (h : ai G n F T i) : ai_u G n F := h.2.2.2.2.2.2.2.2.2.2.2.1
theorem ai.m (h : ai G n F T i) : ai_n G n (20 * i) := h.2.2.2.2.2.2.2.2.2.2.2.2.1
theorem ai.j (h : ai G n F T i) : ai_j G n := h.2.2.2.2.2.2.2.2.2.2.2.2.2.1
theorem ai.g (h : ai G n F T i) : aw_CO G (4000 * i) := h.2.2.2.2.2.2.2.2.2.2.2.2.2.2.1
theorem ai.p (h : ai G n F T i) : ai_p G := h.2.2.2.2.2.2.2.2.2.2.2.2.2.2.2.1
theorem ai.d (h : ai G n F T i) : ai_d G := h.2.2.2.2.2.2.2.2.2.2.2.2.2.2.2.2.1
theorem ai.o (h : ai G n F T i) : ai_o G := h.2.2.2.2.2.2.2.2.2.2.2.2.2.2.2.2.2.1
theorem ai.e (h : ai G n F T i) : aw_IT G T := h.2.2.2.2.2.2.2.2.2.2.2.2.2.2.2.2.2.2.1
theorem ai.r (h : ai G n F T i) : ai_r G T := h.2.2.2.2.2.2.2.2.2.2.2.2.2.2.2.2.2.2.2
theorem ai_t.cg (h : ai_t G i) (e1 : G' 1 = G 1) : ai_t G' (i + 1) := by
  obtain ⟨t, h1, h2⟩ := h
  exact ⟨t, by omega, by rw [e1]; exact h2⟩
theorem ai_l.cg (h : ai_l G) (e2 : G' 2 = G 2) : ai_l G' := by
  unfold ai_l
  rw [e2]
  exact h
theorem ai_b.cg (h : ai_b G) (e4 : G' 4 = G 4) : ai_b G' := by
  unfold ai_b
  rw [e4]
  exact h
theorem ai_c.cg (h : ai_c G F) (e7 : G' 7 = G 7) (e8 : G' 8 = G 8) (e9 : G' 9 = G 9) (e14 : G' 14 = G 14) : ai_c G' F := by
  unfold ai_c
  rw [e7, e8, e9, e14]
  exact h
theorem ai_w.cg (h : ai_w G F) (e15 : G' 15 = G 15) : ai_w G' F := by
  unfold ai_w aw_we
  rw [e15]
  exact h
theorem ai_s.cg (h : ai_s G F i) (e7 : G' 7 = G 7) (e10 : G' 10 = G 10) : ai_s G' F (i + 1) := by
  intro c hc
  obtain ⟨z, h1, h2, h3⟩ := h c hc
  rw [e7, e10]
  exact ⟨z, h1, by omega, h3⟩
theorem ai_q.cg (h : ai_q G F) (e16 : G' 16 = G 16) (e17 : G' 17 = G 17) : ai_q G' F := by
  unfold ai_q
  rw [e16, e17]
  exact h
theorem ai_k.cg (h : ai_k G F i) (e12 : G' 12 = G 12) : ai_k G' F (i + 1) := by
  intro c hc
  obtain ⟨w, h1, h2⟩ := h c hc
  rw [e12]
  exact ⟨w, h1, by omega⟩
theorem ai_z.cg (h : ai_z G F) (e7 : G' 7 = G 7) (e11 : G' 11 = G 11) (e12 : G' 12 = G 12) (e14 : G' 14 = G 14) (e16 : G' 16 = G 16) (e17 : G' 17 = G 17) : ai_z G' F := by
  unfold ai_z aw_Z
  rw [e7, e11, e12, e14, e16, e17]
  exact h
theorem ai_u.cg (h : ai_u G n F) (e7 : G' 7 = G 7) (e8 : G' 8 = G 8) (e9 : G' 9 = G 9) (e27 : G' 27 = G 27) (e29 : G' 29 = G 29) : ai_u G' n F := by
  unfold ai_u
  rw [e7, e8, e9, e27, e29]
  exact h
theorem ai_n.cg (h : ai_n G n (20 * i)) (e25 : G' 25 = G 25) (e26 : G' 26 = G 26) : ai_n G' n (20 * (i + 1)) := by
  obtain ⟨u, m, h1, h2, h3, h4⟩ := h
  refine ⟨u, m, by rw [e25]; exact h1, by omega, ?_, h4⟩
  rw [e26]
  exact h3
theorem ai_j.cg (h : ai_j G n) (e28 : G' 28 = G 28) (e32 : G' 32 = G 32) (e33 : G' 33 = G 33) : ai_j G' n := by
  unfold ai_j
  rw [e28, e32, e33]
  exact h
theorem aw_CO.cg (h : aw_CO G (4000 * i)) (e34 : G' 34 = G 34) : aw_CO G' (4000 * (i + 1)) := (h.ne e34).mono (by omega)
theorem ai_p.cg (h : ai_p G) (e36 : G' 36 = G 36) (e37 : G' 37 = G 37) (e39 : G' 39 = G 39) : ai_p G' := by
  unfold ai_p
  rw [e36, e37, e39]
  exact h
theorem ai_d.cg (h : ai_d G) (e41 : G' 41 = G 41) : ai_d G' := by
  unfold ai_d
  rw [e41]
  exact h
theorem ai_o.cg (h : ai_o G) (e42 : G' 42 = G 42) (e43 : G' 43 = G 43) (e44 : G' 44 = G 44) : ai_o G' := by
  unfold ai_o
  rw [e42, e43, e44]
  exact h
theorem ai_r.cg (h : ai_r G T) (e46 : G' 46 = G 46) (e50 : G' 50 = G 50) (e52 : G' 52 = G 52) : ai_r G' T := by
  unfold ai_r
  rw [e46, e50, e52]
  exact h
/-- the rows that one call may leave: all but 0 and 19 to 23 -/
theorem ai.cg (h : ai G n F T i) (e : ∀ f, ¬ f = 0 ∧ ¬ (19 ≤ f ∧ f ≤ 23) → G' f = G f) : ai G' n F T (i + 1) :=
  ⟨h.t.cg (e 1 (by decide)), h.l.cg (e 2 (by decide)), h.b.cg (e 4 (by decide)), h.a.up (e 5 (by decide)) (e 7 (by decide)) (e 9 (by decide)), h.c.cg (e 7 (by decide)) (e 8 (by decide)) (e 9 (by decide)) (e 14 (by decide)), h.w.cg (e 15 (by decide)), h.s.cg (e 7 (by decide)) (e 10 (by decide)), h.q.cg (e 16 (by decide)) (e 17 (by decide)), h.k.cg (e 12 (by decide)), h.z.cg (e 7 (by decide)) (e 11 (by decide)) (e 12 (by decide)) (e 14 (by decide)) (e 16 (by decide)) (e 17 (by decide)), h.v.ne (e 27 (by decide)) (e 28 (by decide)) (e 29 (by decide)) (e 30 (by decide)), h.u.cg (e 7 (by decide)) (e 8 (by decide)) (e 9 (by decide)) (e 27 (by decide)) (e 29 (by decide)), h.m.cg (e 25 (by decide)) (e 26 (by decide)), h.j.cg (e 28 (by decide)) (e 32 (by decide)) (e 33 (by decide)), h.g.cg (e 34 (by decide)), h.p.cg (e 36 (by decide)) (e 37 (by decide)) (e 39 (by decide)), h.d.cg (e 41 (by decide)), h.o.cg (e 42 (by decide)) (e 43 (by decide)) (e 44 (by decide)), h.e.ne (e 47 (by decide)) (e 48 (by decide)) (e 49 (by decide)) (e 50 (by decide)) (e 51 (by decide)), h.r.cg (e 46 (by decide)) (e 50 (by decide)) (e 52 (by decide))⟩
theorem ai.g0 (h : ai G n F T i) {v : Int32} : ai (am_up G 0 0 v) n F T i := by
  have e : ∀ f, ¬ f = 0 → am_up G 0 0 v f = G f := fun f hf => am_up_ne hf
  obtain ⟨t, t1, t2⟩ := h.t
  refine ⟨⟨t, t1, by rw [e 1 (by decide)]; exact t2⟩, h.l.cg (e 2 (by decide)), h.b.cg (e 4 (by decide)), h.a.up (e 5 (by decide)) (e 7 (by decide)) (e 9 (by decide)), h.c.cg (e 7 (by decide)) (e 8 (by decide)) (e 9 (by decide)) (e 14 (by decide)), h.w.cg (e 15 (by decide)), ?_, h.q.cg (e 16 (by decide)) (e 17 (by decide)), ?_, h.z.cg (e 7 (by decide)) (e 11 (by decide)) (e 12 (by decide)) (e 14 (by decide)) (e 16 (by decide)) (e 17 (by decide)), h.v.ne (e 27 (by decide)) (e 28 (by decide)) (e 29 (by decide)) (e 30 (by decide)), h.u.cg (e 7 (by decide)) (e 8 (by decide)) (e 9 (by decide)) (e 27 (by decide)) (e 29 (by decide)), ?_, h.j.cg (e 28 (by decide)) (e 32 (by decide)) (e 33 (by decide)), h.g.ne (e 34 (by decide)), h.p.cg (e 36 (by decide)) (e 37 (by decide)) (e 39 (by decide)), h.d.cg (e 41 (by decide)), h.o.cg (e 42 (by decide)) (e 43 (by decide)) (e 44 (by decide)), h.e.ne (e 47 (by decide)) (e 48 (by decide)) (e 49 (by decide)) (e 50 (by decide)) (e 51 (by decide)), h.r.cg (e 46 (by decide)) (e 50 (by decide)) (e 52 (by decide))⟩
  · have := h.s
    unfold ai_s
    rw [e 7 (by decide), e 10 (by decide)]
    exact this
  · have := h.k
    unfold ai_k
    rw [e 12 (by decide)]
    exact this
  · have := h.m
    unfold ai_n
    rw [e 25 (by decide), e 26 (by decide)]
    exact this
/-- what the lemmas of the turn ask of a city -/
theorem ai.IC (h : ai G n F T i) (hi : i ≤ 600) : ∀ c, c < F → G 7 c = 1 → aw_IC G c := fun c hc h7 => by
  obtain ⟨z, z1, z2, z3⟩ := h.s c hc
  obtain ⟨q, q1, q2, q3⟩ := h.q c hc
  refine ⟨(h.c c hc).2.1, (h.c c hc).2.2.1, ⟨z, z1, z3 h7, by omega⟩, q, q1, q2, fun h0 => ?_⟩
  have := q3 0 h0
  rw [Nat.add_zero] at this
  exact this
theorem ai.hb (h : ai G n F T i) : ∀ c, c < F → G 7 c = 0 ∨ G 7 c = 1 := fun c hc => (h.c c hc).1
theorem ai.ho (h : ai G n F T i) : ∀ c, c < F → aw_P (G 8 c) := fun c hc => (h.c c hc).2.1
theorem ai.hp (h : ai G n F T i) : ∀ c, c < F → am_I (G 9 c) 64 := fun c hc => (h.c c hc).2.2.1
theorem ai.hB (h : ai G n F T i) : ∀ c, c < F → aw_B (G 14 c) := fun c hc => (h.c c hc).2.2.2
theorem ai.uo (h : ai G n F T i) : ∀ k, k < n → aw_P (G 27 k) := fun k hk => (h.v k hk).1
theorem ai.uk (h : ai G n F T i) : ∀ k, k < n → am_I (G 28 k) 5 := fun k hk => (h.v k hk).2.1
end
/-! A CALL of both -/
def ac_ok (hs : List Nat) : am_Res → Option Value → Int32 → Prop
  | .inl w, v, c => c = 0 ∧ w = v
  | .inr E, _, c => ∃ j, hs[j]? = some E ∧ c = Int32.ofNat (j + 1)
def ac_kd (kd : Nat) (v : Option Value) : Prop := if kd = 0 then ∃ x : Int32, v = some (.int x) else if kd = 1 then ∃ x : Int64, v = some (.long x) else v = none
def ac_call (K : aw_K) (A : aw_A) (G Q : am_G) (M : aw_M) (L : Nat → Int64) (r : am_H) (i cid : Nat) (cargs : List Value) (rid : Nat) (rargs : List Value) (hs : List Nat) (kd : Nat) : Prop :=
  ∃ K' A' G' Q' M' L' r' n' F' T' res v, am_exec cid 0 cargs [] (aw_H K A G Q M r) = some (res, aw_H K' A' G' Q' M' r') ∧ (∀ h, am_exec rid 0 rargs [] (am_ov G L h) = some (.inl v, am_ov G' L' h)) ∧ ac_ok hs res v (G' 0 0) ∧ ac_kd kd v ∧ aw_W K' A' G' n' F' T' ∧ aw_N K' r' ∧ aw_R r r' 30 4000 ∧ ai G' n' F' T' (i + 1)
theorem aw_H_cg {K : aw_K} {A : aw_A} {G X Q : am_G} {M : aw_M} {r : am_H} (e : ∀ f, ¬ f = 0 ∧ ¬ (19 ≤ f ∧ f ≤ 23) → X f = G f) : aw_H K A X Q M r = aw_H K A G Q M r := by
  have h1 : aw_fx A X Q M = aw_fx A G Q M := by
    funext a
    unfold aw_fx aw_os
    rw [e 1 (by decide), e 2 (by decide), e 3 (by decide), e 4 (by decide), e 6 (by decide), e 24 (by decide), e 25 (by decide), e 41 (by decide), e 42 (by decide), e 45 (by decide)]
  have h2 : aw_dy A X Q M = aw_dy A G Q M := by
    funext q
    unfold aw_dy aw_un aw_cc aw_wo aw_tr aw_of aw_ba aw_sz aw_n aw_pl aw_le
    rw [e 8 (by decide), e 9 (by decide), e 10 (by decide), e 11 (by decide), e 12 (by decide), e 13 (by decide), e 14 (by decide), e 15 (by decide), e 16 (by decide), e 17 (by decide), e 24 (by decide), e 26 (by decide), e 27 (by decide), e 28 (by decide), e 29 (by decide), e 30 (by decide), e 31 (by decide), e 32 (by decide), e 33 (by decide), e 34 (by decide), e 35 (by decide), e 36 (by decide), e 37 (by decide), e 38 (by decide), e 39 (by decide), e 40 (by decide), e 42 (by decide), e 43 (by decide), e 44 (by decide), e 45 (by decide), e 46 (by decide), e 47 (by decide), e 48 (by decide), e 49 (by decide), e 50 (by decide), e 51 (by decide), e 52 (by decide)]
  unfold aw_H
  rw [h1, h2]
theorem aw_H0 {K : aw_K} {A : aw_A} {G Q : am_G} {M : aw_M} {r : am_H} {v : Int32} : aw_H K A (am_up G 0 0 v) Q M r = aw_H K A G Q M r := aw_H_cg fun _ h => am_up_ne h.1
theorem aw_N.x {K : aw_K} {r : am_H} (h : aw_N K r) : aw_N K (aw_x r) := h.mono (fun _ q => q) (Nat.le_succ _)
theorem aw_R.rfl {r : am_H} {a b : Nat} : aw_R r r a b := ⟨fun _ _ => Eq.refl _, Nat.le_refl _, Nat.le_add_right _ _, Nat.le_add_right _ _⟩
theorem aw_W.W0 {K : aw_K} {A : aw_A} {G : am_G} {n F T : Nat} (h : aw_W K A G n F T) {v : Int32} : aw_W K A (am_up G 0 0 v) n F T := h.up (am_up_ne (by decide)) (am_up_ne (by decide)) (am_up_ne (by decide)) (am_up_ne (by decide)) (am_up_ne (by decide))
section
variable {K : aw_K} {A : aw_A} {G Q : am_G} {M : aw_M} {L : Nat → Int64} {r : am_H} {n F T i cid rid kd : Nat} {cargs rargs : List Value} {hs : List Nat}
theorem ac_thr (hW : aw_W K A G n F T) (hN : aw_N K r) (hA : ai G n F T i) {E : Nat} {v : Option Value} (j : Nat) {w : Int32} (hw : w = Int32.ofNat (j + 1)) (hj : hs[j]? = some E) (hk : ac_kd kd v) (hc : am_exec cid 0 cargs [] (aw_H K A G Q M r) = some (.inr E, aw_H K A G Q M (aw_x r))) (hr : ∀ h, am_exec rid 0 rargs [] (am_ov G L h) = some (.inl v, am_ov (am_up G 0 0 w) L h)) : ac_call K A G Q M L r i cid cargs rid rargs hs kd := by
  refine ⟨K, A, am_up G 0 0 w, Q, M, L, aw_x r, n, F, T, .inr E, v, ?_, hr, ⟨j, hj, by rw [am_up_eq, am_upd_eq]; exact hw⟩, hk, hW.W0, hN.x, aw_R.x.mono (by decide) (by decide), hA.cg fun f hf => am_up_ne hf.1⟩
  rw [hc, aw_H0]
theorem ac_rd (hW : aw_W K A G n F T) (hN : aw_N K r) (hA : ai G n F T i) {v : Option Value} (hk : ac_kd kd v) {Q' : am_G} {M' : aw_M} (hc : am_exec cid 0 cargs [] (aw_H K A G Q M r) = some (.inl v, aw_H K A G Q' M' r)) (hr : ∀ h, am_exec rid 0 rargs [] (am_ov G L h) = some (.inl v, am_ov (am_up G 0 0 0) L h)) : ac_call K A G Q M L r i cid cargs rid rargs hs kd := by
  refine ⟨K, A, am_up G 0 0 0, Q', M', L, r, n, F, T, .inl v, v, ?_, hr, ⟨by rw [am_up_eq, am_upd_eq], rfl⟩, hk, hW.W0, hN, aw_R.rfl, hA.cg fun f hf => am_up_ne hf.1⟩
  rw [hc, aw_H0]
theorem ac_rd0 (hW : aw_W K A G n F T) (hN : aw_N K r) (hA : ai G n F T i) {v : Option Value} (hk : ac_kd kd v) {Q' : am_G} {M' : aw_M} (hc : am_exec cid 0 cargs [] (aw_H K A (am_up G 0 0 0) Q M r) = some (.inl v, aw_H K A (am_up G 0 0 0) Q' M' r)) (hr : ∀ h, am_exec rid 0 rargs [] (am_ov G L h) = some (.inl v, am_ov (am_up G 0 0 0) L h)) : ac_call K A G Q M L r i cid cargs rid rargs hs kd := by
  rw [aw_H0, aw_H0] at hc
  exact ac_rd hW hN hA hk hc hr
theorem ac_wr {K' : aw_K} {A' : aw_A} {G' Q' : am_G} {M' : aw_M} {r' : am_H} {n' F' T' : Nat} {v : Option Value} (hk : ac_kd kd v) (hc : am_exec cid 0 cargs [] (aw_H K A G Q M r) = some (.inl v, aw_H K' A' G' Q' M' r')) (hr : ∀ h, am_exec rid 0 rargs [] (am_ov G L h) = some (.inl v, am_ov (am_up G' 0 0 0) L h)) (hW : aw_W K' A' G' n' F' T') (hN : aw_N K' r') (hR : aw_R r r' 30 4000) (hA : ai G' n' F' T' (i + 1)) : ac_call K A G Q M L r i cid cargs rid rargs hs kd := by
  refine ⟨K', A', am_up G' 0 0 0, Q', M', L, r', n', F', T', .inl v, v, ?_, hr, ⟨by rw [am_up_eq, am_upd_eq], rfl⟩, hk, hW.W0, hN, hR, hA.g0⟩
  rw [hc, aw_H0]
theorem ac_w (hW : aw_W K A G n F T) (hN : aw_N K r) (G' : am_G) {v : Option Value} (hk : ac_kd kd v) (hc : am_exec cid 0 cargs [] (aw_H K A G Q M r) = some (.inl v, aw_H K A G' Q M r)) (hr : ∀ h, am_exec rid 0 rargs [] (am_ov G L h) = some (.inl v, am_ov (am_up G' 0 0 0) L h)) (e6 : G' 6 = G 6) (e7 : G' 7 = G 7) (e24 : G' 24 = G 24) (e42 : G' 42 = G 42) (e45 : G' 45 = G 45) (hA : ai G' n F T (i + 1)) : ac_call K A G Q M L r i cid cargs rid rargs hs kd :=
  ac_wr hk hc hr (hW.up e24 e6 e45 e42 e7) hN aw_R.rfl hA
theorem ac_w0 (hW : aw_W K A G n F T) (hN : aw_N K r) (G' : am_G) {v : Option Value} (hk : ac_kd kd v) (hc : am_exec cid 0 cargs [] (aw_H K A (am_up G 0 0 0) Q M r) = some (.inl v, aw_H K A G' Q M r)) (hr : ∀ h, am_exec rid 0 rargs [] (am_ov G L h) = some (.inl v, am_ov G' L h)) (e0 : G' 0 0 = 0) (e6 : G' 6 = am_up G 0 0 0 6) (e7 : G' 7 = am_up G 0 0 0 7) (e24 : G' 24 = am_up G 0 0 0 24) (e42 : G' 42 = am_up G 0 0 0 42) (e45 : G' 45 = am_up G 0 0 0 45) (hA : ai G' n F T (i + 1)) : ac_call K A G Q M L r i cid cargs rid rargs hs kd := by
  rw [aw_H0] at hc
  exact ⟨K, A, G', Q, M, L, r, n, F, T, .inl v, v, hc, hr, ⟨e0, rfl⟩, hk, hW.W0.up e24 e6 e45 e42 e7, hN, aw_R.rfl, hA⟩
end
