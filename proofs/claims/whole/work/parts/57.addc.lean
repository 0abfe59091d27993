/-! A CITY JOINS THE LIST -/
def aw_kc (K : aw_K) (u n d : Nat) : aw_K := fun a => if a = u then (2, n) else if a = u + 1 then (3, n) else if a = d then (6, 1) else if K a = (6, 1) then (0, 0) else K a
def aw_ac (A : aw_A) (u n d N m : Nat) : aw_A := fun f => if f = 1 then am_upd (A 1) n u else if f = 2 then am_upd (A 2) n (u + 1) else if f = 5 then am_upd (A 5) 1 d else if f = 6 then am_upd (A 6) 1 N else if f = 7 then am_upd (A 7) m n else if f = 8 then am_upd (A 8) 0 (m + 1) else A f
/-- a city is founded: all but the border -/
def am_fn0 (G : am_G) (F : Nat) (p t : Int32) : am_G := am_up (am_up (am_up (am_up (am_up (am_up (am_up (am_up (am_up (am_up G 6 0 (Int32.ofNat (F + 1))) 7 F 1) 8 F p) 9 F t) 10 F 1) 13 F 5) 15 (3 * F) 1) 15 (3 * F + 1) 1) 15 (3 * F + 2) 1) 5 t.toNatClampNeg (Int32.ofNat F)
/-- nothing is there of a city not founded yet -/
def aw_Z (G : am_G) (F : Nat) : Prop := G 11 F = 0 ∧ G 12 F = 0 ∧ G 14 F = 0 ∧ G 17 F = 0 ∧ ∀ j, j < 6 → G 16 (6 * F + j) = 0
def aw_q0 (Q : am_G) (F : Nat) : am_G := am_up (am_up (am_up (am_up Q 3 1 (Q 3 1 + 1)) 0 F 0) 1 F 0) 2 F 0
section
variable {K : aw_K} {A : aw_A} {G Q : am_G} {M : aw_M} {r : am_H} {n F T : Nat}
theorem am_fn0_6 {p t : Int32} : am_fn0 G F p t 6 0 = Int32.ofNat (F + 1) := by
  unfold am_fn0
  simp only [am_up_ne, am_up_eq, am_upd_eq, Nat.reduceEqDiff, not_false_eq_true]
theorem am_fn0_ne {p t : Int32} {x : Nat} (h : ¬ (5 ≤ x ∧ x ≤ 10) ∧ ¬ x = 13 ∧ ¬ x = 15) : am_fn0 G F p t x = G x := by
  unfold am_fn0
  rw [am_up_ne (by omega), am_up_ne (by omega), am_up_ne (by omega), am_up_ne (by omega), am_up_ne (by omega), am_up_ne (by omega), am_up_ne (by omega), am_up_ne (by omega), am_up_ne (by omega), am_up_ne (by omega)]
theorem am_fn0_7 {p t : Int32} : am_fn0 G F p t 7 = am_upd (G 7) F 1 := by
  unfold am_fn0
  simp only [am_up_ne, am_up_eq, Nat.reduceEqDiff, not_false_eq_true]
theorem am_fn0_f0 {p t : Int32} : am_fn0 G F p t 0 = G 0 := am_fn0_ne (by decide)
theorem am_fn0_f1 {p t : Int32} : am_fn0 G F p t 1 = G 1 := am_fn0_ne (by decide)
theorem am_fn0_f2 {p t : Int32} : am_fn0 G F p t 2 = G 2 := am_fn0_ne (by decide)
theorem am_fn0_f3 {p t : Int32} : am_fn0 G F p t 3 = G 3 := am_fn0_ne (by decide)
theorem am_fn0_f4 {p t : Int32} : am_fn0 G F p t 4 = G 4 := am_fn0_ne (by decide)
theorem am_fn0_f11 {p t : Int32} : am_fn0 G F p t 11 = G 11 := am_fn0_ne (by decide)
theorem am_fn0_f12 {p t : Int32} : am_fn0 G F p t 12 = G 12 := am_fn0_ne (by decide)
theorem am_fn0_f14 {p t : Int32} : am_fn0 G F p t 14 = G 14 := am_fn0_ne (by decide)
theorem am_fn0_f16 {p t : Int32} : am_fn0 G F p t 16 = G 16 := am_fn0_ne (by decide)
theorem am_fn0_f17 {p t : Int32} : am_fn0 G F p t 17 = G 17 := am_fn0_ne (by decide)
theorem am_fn0_f18 {p t : Int32} : am_fn0 G F p t 18 = G 18 := am_fn0_ne (by decide)
theorem am_fn0_f19 {p t : Int32} : am_fn0 G F p t 19 = G 19 := am_fn0_ne (by decide)
theorem am_fn0_f20 {p t : Int32} : am_fn0 G F p t 20 = G 20 := am_fn0_ne (by decide)
theorem am_fn0_f21 {p t : Int32} : am_fn0 G F p t 21 = G 21 := am_fn0_ne (by decide)
theorem am_fn0_f22 {p t : Int32} : am_fn0 G F p t 22 = G 22 := am_fn0_ne (by decide)
theorem am_fn0_f23 {p t : Int32} : am_fn0 G F p t 23 = G 23 := am_fn0_ne (by decide)
theorem am_fn0_f24 {p t : Int32} : am_fn0 G F p t 24 = G 24 := am_fn0_ne (by decide)
theorem am_fn0_f25 {p t : Int32} : am_fn0 G F p t 25 = G 25 := am_fn0_ne (by decide)
theorem am_fn0_f26 {p t : Int32} : am_fn0 G F p t 26 = G 26 := am_fn0_ne (by decide)
theorem am_fn0_f27 {p t : Int32} : am_fn0 G F p t 27 = G 27 := am_fn0_ne (by decide)
theorem am_fn0_f28 {p t : Int32} : am_fn0 G F p t 28 = G 28 := am_fn0_ne (by decide)
theorem am_fn0_f29 {p t : Int32} : am_fn0 G F p t 29 = G 29 := am_fn0_ne (by decide)
theorem am_fn0_f30 {p t : Int32} : am_fn0 G F p t 30 = G 30 := am_fn0_ne (by decide)
theorem am_fn0_f31 {p t : Int32} : am_fn0 G F p t 31 = G 31 := am_fn0_ne (by decide)
theorem am_fn0_f32 {p t : Int32} : am_fn0 G F p t 32 = G 32 := am_fn0_ne (by decide)
theorem am_fn0_f33 {p t : Int32} : am_fn0 G F p t 33 = G 33 := am_fn0_ne (by decide)
theorem am_fn0_f34 {p t : Int32} : am_fn0 G F p t 34 = G 34 := am_fn0_ne (by decide)
theorem am_fn0_f35 {p t : Int32} : am_fn0 G F p t 35 = G 35 := am_fn0_ne (by decide)
theorem am_fn0_f36 {p t : Int32} : am_fn0 G F p t 36 = G 36 := am_fn0_ne (by decide)
theorem am_fn0_f37 {p t : Int32} : am_fn0 G F p t 37 = G 37 := am_fn0_ne (by decide)
theorem am_fn0_f38 {p t : Int32} : am_fn0 G F p t 38 = G 38 := am_fn0_ne (by decide)
theorem am_fn0_f39 {p t : Int32} : am_fn0 G F p t 39 = G 39 := am_fn0_ne (by decide)
theorem am_fn0_f40 {p t : Int32} : am_fn0 G F p t 40 = G 40 := am_fn0_ne (by decide)
theorem am_fn0_f41 {p t : Int32} : am_fn0 G F p t 41 = G 41 := am_fn0_ne (by decide)
theorem am_fn0_f42 {p t : Int32} : am_fn0 G F p t 42 = G 42 := am_fn0_ne (by decide)
theorem am_fn0_f43 {p t : Int32} : am_fn0 G F p t 43 = G 43 := am_fn0_ne (by decide)
theorem am_fn0_f44 {p t : Int32} : am_fn0 G F p t 44 = G 44 := am_fn0_ne (by decide)
theorem am_fn0_f45 {p t : Int32} : am_fn0 G F p t 45 = G 45 := am_fn0_ne (by decide)
theorem am_fn0_f46 {p t : Int32} : am_fn0 G F p t 46 = G 46 := am_fn0_ne (by decide)
theorem am_fn0_f47 {p t : Int32} : am_fn0 G F p t 47 = G 47 := am_fn0_ne (by decide)
theorem am_fn0_f48 {p t : Int32} : am_fn0 G F p t 48 = G 48 := am_fn0_ne (by decide)
theorem am_fn0_f49 {p t : Int32} : am_fn0 G F p t 49 = G 49 := am_fn0_ne (by decide)
theorem am_fn0_f50 {p t : Int32} : am_fn0 G F p t 50 = G 50 := am_fn0_ne (by decide)
theorem am_fn0_f51 {p t : Int32} : am_fn0 G F p t 51 = G 51 := am_fn0_ne (by decide)
theorem am_fn0_f52 {p t : Int32} : am_fn0 G F p t 52 = G 52 := am_fn0_ne (by decide)
def aw_nc (F : Nat) (p : Nat) (t : Int32) (w : Nat) : List Value := [.int (Int32.ofNat F), .int t, .ref p, .int 1, .int 0, .int 0, .int 5, .int 0, .ref w, .int 0, .int 1, .int 1, .int 1, .long 0, .int 0, .int 0, .int 0]
theorem aw_cc_fn {p t : Int32} {u d N m : Nat} (h : aw_Z G F) : aw_cc (aw_ac A u F d N m) (am_fn0 G F p t) (aw_q0 Q F) (aw_mu M 0 F 0) F = aw_nc F (aw_pa p) t (u + 1) := by
  obtain ⟨h1, h2, h3, h4, -⟩ := h
  have e2 : aw_ac A u F d N m 2 F = u + 1 := (show am_upd (A 2) F (u + 1) F = u + 1 from am_upd_eq)
  unfold aw_cc am_fn0 aw_q0 aw_nc
  simp only [e2, am_up_ne, am_up_eq, am_upd_eq, aw_mu_eq, Nat.reduceEqDiff, not_false_eq_true, h1, h2, h3, h4, am_upd_ne (show ¬ 3 * F = 3 * F + 2 by omega), am_upd_ne (show ¬ 3 * F = 3 * F + 1 by omega), am_upd_ne (show ¬ 3 * F + 1 = 3 * F + 2 by omega)]
theorem aw_ac_6 {u d N m : Nat} : aw_ac A u F d N m 6 1 = N := (show am_upd (A 6) 1 N 1 = N from am_upd_eq)
theorem aw_ac_8 {u d N m : Nat} : aw_ac A u F d N m 8 0 = m + 1 := (show am_upd (A 8) 0 (m + 1) 0 = m + 1 from am_upd_eq)
theorem aw_addc (hW : aw_W K A G n F T) (hN : aw_N K r) (hF : F < 12) (hZ : aw_Z G F) (h7 : G 7 F = 0) {p t : Int32} {h' : am_H} (had : aw_ad (aw_H K A (am_up G 6 0 (Int32.ofNat (F + 1))) Q M (am_new (am_new r (2, aw_nc F (aw_pa p) t (r.2.1 + 1)) 17) (50, am_row 6 fun _ => 0) 6)) h' 22 (A 5 1) (A 8 0) r.2.1 (Q 3 1) (aw_ba A G 1)) : ∃ K' A' r', h' = aw_H K' A' (am_fn0 G F p t) (aw_q0 Q F) (aw_mu M 0 F 0) r' ∧ aw_W K' A' (am_fn0 G F p t) n (F + 1) T ∧ aw_R r r' 3 300 ∧ aw_N K' r' := by
  obtain ⟨d', vs', a1, a2, a3, a4, a5, a6, a7, a8, a9⟩ := had
  have hV := hW.V
  have hm12 := hW.m12
  have hn9 := hW.m9
  obtain ⟨y1, y2, y3⟩ := hW.b (i := 1) (by decide)
  rw [hW.szC] at y1
  have hvl : (aw_ba A G 1).length = A 6 1 := by
    rw [aw_ba_1, List.length_map, List.length_range]
  rw [hvl] at a4 a9
  have hvs : ∀ j, j < A 8 0 → (aw_ba A G 1)[j]? = some (.ref (A 1 (A 7 j))) := fun j hj => by
    rw [aw_ba_1, aw_mapget (by omega), if_pos hj]
  have h88 := hN.1
  have hnew0 : ∀ a, r.2.1 ≤ a → K a = (0, 0) := hN.2
  have huK := hnew0 r.2.1 (Nat.le_refl _)
  have hwK := hnew0 (r.2.1 + 1) (Nat.le_succ _)
  have hs2 : (aw_H K A (am_up G 6 0 (Int32.ofNat (F + 1))) Q M (am_new (am_new r (2, aw_nc F (aw_pa p) t (r.2.1 + 1)) 17) (50, am_row 6 fun _ => 0) 6)).2 = (r.2.1 + 1 + 1, r.2.2 + 17 + 6) := rfl
  rw [hs2] at a9
  -- what is known of the row's address
  have hd' : ¬ aw_fa d' ∧ (¬ d' = r.2.1 ∧ ¬ d' = r.2.1 + 1) ∧ (K d' = (6, 1) ∨ K d' = (0, 0)) ∧ 12 ≤ d' ∧ d' < h'.2.1 ∧ r.2.1 + 2 ≤ h'.2.1 ∧ h'.2.1 ≤ r.2.1 + 3 ∧ h'.2.2 ≤ r.2.2 + 300 := by
    rcases a9 with ⟨e1, e2, e3⟩ | ⟨e1, e2, e3⟩
    · subst e1
      have hB : K (A 5 1) = (6, 1) := by
        rcases y3 with y3 | y3
        · omega
        · exact y3.2
      have h1 : 1 ≤ (K (A 5 1)).1 := by rw [hB]; exact Nat.le_of_ble_eq_true rfl
      have h2 := hN.lt h1
      have h3 := hV.1 _ h1
      rw [e3]
      exact ⟨h3, ⟨by omega, by omega⟩, Or.inl hB, by unfold aw_fa at h3; omega, by show A 5 1 < r.2.1 + 1 + 1; omega, Nat.le_refl _, by show r.2.1 + 1 + 1 ≤ r.2.1 + 3; omega, by show r.2.2 + 17 + 6 ≤ r.2.2 + 300; omega⟩
    · have e1 : d' = r.2.1 + 1 + 1 := e1
      subst e1
      rw [e3]
      exact ⟨by unfold aw_fa; omega, ⟨by omega, by omega⟩, Or.inr (hnew0 _ (by omega)), by omega, by show r.2.1 + 1 + 1 < r.2.1 + 1 + 1 + 1; omega, by show r.2.1 + 2 ≤ r.2.1 + 1 + 1 + 1; omega, by show r.2.1 + 1 + 1 + 1 ≤ r.2.1 + 3; omega, by show r.2.2 + 17 + 6 + vs'.length ≤ r.2.2 + 300; omega⟩
  obtain ⟨g1, ⟨g2, g2'⟩, g3, g4, g5, g7, g8, g9⟩ := hd'
  have huf : ¬ aw_fa r.2.1 := by unfold aw_fa; omega
  have hwf : ¬ aw_fa (r.2.1 + 1) := by unfold aw_fa; omega
  -- the new map of addresses
  have kU : aw_kc K r.2.1 F d' r.2.1 = (2, F) := if_pos rfl
  have kWo : aw_kc K r.2.1 F d' (r.2.1 + 1) = (3, F) := by
    unfold aw_kc
    rw [if_neg (by omega), if_pos rfl]
  have kD : aw_kc K r.2.1 F d' d' = (6, 1) := by
    unfold aw_kc
    rw [if_neg g2, if_neg g2', if_pos rfl]
  have kO : ∀ {b}, 1 ≤ (K b).1 → ¬ K b = (6, 1) → aw_kc K r.2.1 F d' b = K b := fun {b} hb h6 => by
    unfold aw_kc
    rw [if_neg (fun e => by rw [e, huK] at hb; exact absurd hb (by decide)), if_neg (fun e => by rw [e, hwK] at hb; exact absurd hb (by decide)), if_neg (fun e => by
      subst e
      rcases g3 with g3 | g3
      · exact h6 g3
      · rw [g3] at hb; exact absurd hb (by decide)), if_neg h6]
  have kI : ∀ {b}, 1 ≤ (aw_kc K r.2.1 F d' b).1 → b = r.2.1 ∨ b = r.2.1 + 1 ∨ b = d' ∨ (¬ b = r.2.1 ∧ ¬ b = d' ∧ ¬ K b = (6, 1) ∧ aw_kc K r.2.1 F d' b = K b ∧ 1 ≤ (K b).1) := fun {b} hb => by
    by_cases e1 : b = r.2.1
    · exact Or.inl e1
    by_cases e1' : b = r.2.1 + 1
    · exact Or.inr (Or.inl e1')
    by_cases e2 : b = d'
    · exact Or.inr (Or.inr (Or.inl e2))
    have e3 : aw_kc K r.2.1 F d' b = if K b = (6, 1) then (0, 0) else K b := by
      unfold aw_kc
      rw [if_neg e1, if_neg e1', if_neg e2]
    by_cases e4 : K b = (6, 1)
    · rw [e3, if_pos e4] at hb; exact absurd hb (by decide)
    · rw [if_neg e4] at e3
      exact Or.inr (Or.inr (Or.inr ⟨e1, e2, e4, e3, by rw [e3] at hb; exact hb⟩))
  have hWn : aw_W (aw_kc K r.2.1 F d') (aw_ac A r.2.1 F d' vs'.length (A 8 0)) (am_fn0 G F p t) n (F + 1) T := by
    obtain ⟨⟨v1, v2, v3, v4⟩, ⟨hn0, hn40⟩, ⟨hF0, hF12⟩, ⟨hT9, hT40⟩, ⟨u1, u2⟩, ⟨c1, c2⟩, ⟨t1, t2⟩, ⟨o1, o2⟩, ⟨b1, b2⟩, hl⟩ := hW
    have ne : ∀ {a q}, K a = q → 1 ≤ q.1 → ¬ q.1 = 6 → aw_kc K r.2.1 F d' a = q := fun {a q} e h h6 => by rw [kO (by rw [e]; exact h) (by rw [e]; exact fun z => h6 (by rw [z])), e]
    have cl : ∀ {b}, 1 ≤ (aw_kc K r.2.1 F d' b).1 → aw_kc K r.2.1 F d' b = (2, F) ∨ aw_kc K r.2.1 F d' b = (3, F) ∨ aw_kc K r.2.1 F d' b = (6, 1) ∨ (¬ K b = (6, 1) ∧ aw_kc K r.2.1 F d' b = K b ∧ 1 ≤ (K b).1) := fun {b} hb => by
      rcases kI hb with rfl | rfl | rfl | ⟨-, -, x3, x4, x5⟩
      · exact Or.inl kU
      · exact Or.inr (Or.inl kWo)
      · exact Or.inr (Or.inr (Or.inl kD))
      · exact Or.inr (Or.inr (Or.inr ⟨x3, x4, x5⟩))
    refine ⟨⟨?_, ?_, ⟨ne v3.1 (by decide) (by decide), ne v3.2.1 (by decide) (by decide), ne v3.2.2.1 (by decide) (by decide), ne v3.2.2.2 (by decide) (by decide)⟩, ⟨ne v4.1 (by decide) (by decide), ne v4.2.1 (by decide) (by decide), ne v4.2.2.1 (by decide) (by decide), ne v4.2.2.2 (by decide) (by decide)⟩⟩, ⟨by rw [am_fn0_f24]; exact hn0, hn40⟩, ⟨am_fn0_6, by omega⟩, ⟨by rw [am_fn0_f45]; exact hT9, hT40⟩, ⟨?_, ?_⟩, ⟨?_, ?_⟩, ⟨?_, ?_⟩, ⟨?_, ?_⟩, ⟨?_, ?_⟩, ?_⟩
    · intro a h
      rcases kI h with rfl | rfl | rfl | ⟨-, -, -, -, h5⟩
      · exact huf
      · exact hwf
      · exact g1
      · exact v1 a h5
    · intro a b h e
      have hb : 1 ≤ (aw_kc K r.2.1 F d' b).1 := by rw [e]; exact h
      have nu : ∀ {x}, ¬ K x = (2, F) ∧ ¬ K x = (3, F) := fun {x} => ⟨fun q => by
        have := c2 x (Or.inl (by rw [q])); rw [q] at this; exact absurd this (Nat.lt_irrefl F), fun q => by
        have := c2 x (Or.inr (by rw [q])); rw [q] at this; exact absurd this (Nat.lt_irrefl F)⟩
      rcases kI h with rfl | rfl | rfl | ⟨-, -, x3, x4, x5⟩ <;> rcases kI hb with rfl | rfl | rfl | ⟨-, -, z3, z4, z5⟩
      · rfl
      · rw [kU, kWo] at e; cases e
      · rw [kU, kD] at e; cases e
      · rw [kU, z4] at e; exact absurd e nu.1
      · rw [kU, kWo] at e; cases e
      · rfl
      · rw [kWo, kD] at e; cases e
      · rw [kWo, z4] at e; exact absurd e nu.2
      · rw [kU, kD] at e; cases e
      · rw [kWo, kD] at e; cases e
      · rfl
      · rw [kD, z4] at e; exact absurd e z3
      · rw [kU, x4] at e; exact absurd e.symm nu.1
      · rw [kWo, x4] at e; exact absurd e.symm nu.2
      · rw [kD, x4] at e; exact absurd e.symm x3
      · rw [x4, z4] at e; exact v2 a b x5 e
    · intro j hj
      exact ne (u1 j hj) (Nat.le_refl 1) (by show ¬ 1 = 6; decide)
    · intro a h
      rcases cl (by omega : 1 ≤ (aw_kc K r.2.1 F d' a).1) with x | x | x | ⟨-, x4, x5⟩
      · rw [x] at h; exact absurd h (by show ¬ 2 = 1; decide)
      · rw [x] at h; exact absurd h (by show ¬ 3 = 1; decide)
      · rw [x] at h; exact absurd h (by decide)
      · rw [x4] at h ⊢; exact u2 a h
    · intro c hc
      by_cases e : c = F
      · subst e
        rw [show aw_ac A r.2.1 c d' vs'.length (A 8 0) 1 c = r.2.1 from (show am_upd (A 1) c r.2.1 c = r.2.1 from am_upd_eq), show aw_ac A r.2.1 c d' vs'.length (A 8 0) 2 c = r.2.1 + 1 from (show am_upd (A 2) c (r.2.1 + 1) c = r.2.1 + 1 from am_upd_eq)]
        exact ⟨kU, kWo⟩
      · rw [show aw_ac A r.2.1 F d' vs'.length (A 8 0) 1 c = A 1 c from (show am_upd (A 1) F r.2.1 c = A 1 c from am_upd_ne e), show aw_ac A r.2.1 F d' vs'.length (A 8 0) 2 c = A 2 c from (show am_upd (A 2) F (r.2.1 + 1) c = A 2 c from am_upd_ne e)]
        exact ⟨ne (c1 c (by omega)).1 (by show 1 ≤ 2; decide) (by show ¬ 2 = 6; decide), ne (c1 c (by omega)).2 (by show 1 ≤ 3; decide) (by show ¬ 3 = 6; decide)⟩
    · intro a h
      rcases cl (by omega : 1 ≤ (aw_kc K r.2.1 F d' a).1) with x | x | x | ⟨-, x4, x5⟩
      · rw [x]; exact Nat.lt_succ_self F
      · rw [x]; exact Nat.lt_succ_self F
      · rw [x] at h; exact absurd h (by decide)
      · rw [x4] at h ⊢; exact Nat.lt_succ_of_lt (c2 a h)
    · intro j hj
      exact ne (t1 j hj) (by show 1 ≤ 4; decide) (by show ¬ 4 = 6; decide)
    · intro a h
      rcases cl (by omega : 1 ≤ (aw_kc K r.2.1 F d' a).1) with x | x | x | ⟨-, x4, x5⟩
      · rw [x] at h; exact absurd h (by show ¬ 2 = 4; decide)
      · rw [x] at h; exact absurd h (by show ¬ 3 = 4; decide)
      · rw [x] at h; exact absurd h (by decide)
      · rw [x4] at h ⊢; exact t2 a h
    · intro j hj h0
      rw [am_fn0_f42] at h0
      exact ne (o1 j hj h0) (by show 1 ≤ 5; decide) (by show ¬ 5 = 6; decide)
    · intro a h
      rw [am_fn0_f42]
      rcases cl (by omega : 1 ≤ (aw_kc K r.2.1 F d' a).1) with x | x | x | ⟨-, x4, x5⟩
      · rw [x] at h; exact absurd h (by show ¬ 2 = 5; decide)
      · rw [x] at h; exact absurd h (by show ¬ 3 = 5; decide)
      · rw [x] at h; exact absurd h (by decide)
      · rw [x4] at h ⊢; exact o2 a h
    · intro x hx
      obtain ⟨z1, z2, z3⟩ := b1 x hx
      have : x = 0 ∨ x = 1 ∨ x = 2 := by omega
      rcases this with rfl | rfl | rfl
      · rw [aw_sz_0] at z1 ⊢
        unfold aw_n at z1 ⊢
        rw [am_fn0_f45]
        refine ⟨z1, z2, ?_⟩
        rcases z3 with z3 | z3
        · exact Or.inl z3
        · exact Or.inr ⟨z3.1, by rw [show aw_ac A r.2.1 F d' vs'.length (A 8 0) 5 0 = A 5 0 from rfl, kO (by rw [z3.2]; exact Nat.le_of_ble_eq_true rfl) (by rw [z3.2]; exact fun z => absurd (congrArg Prod.snd z) (by decide)), z3.2]⟩
      · rw [aw_sz_1, aw_ac_8]
        refine ⟨a3, ?_, Or.inr ⟨?_, kD⟩⟩
        · show vs'.length ≤ 100
          rcases a9 with ⟨e1, e2, e3⟩ | ⟨e1, e2, e3⟩
          · omega
          · have := hm12
            omega
        · show ¬ vs'.length = 0
          omega
      · rw [aw_sz_2] at z1 ⊢
        unfold aw_n at z1 ⊢
        rw [am_fn0_f24]
        refine ⟨z1, z2, ?_⟩
        rcases z3 with z3 | z3
        · exact Or.inl z3
        · exact Or.inr ⟨z3.1, by rw [show aw_ac A r.2.1 F d' vs'.length (A 8 0) 5 2 = A 5 2 from rfl, kO (by rw [z3.2]; exact Nat.le_of_ble_eq_true rfl) (by rw [z3.2]; exact fun z => absurd (congrArg Prod.snd z) (by decide)), z3.2]⟩
    · intro a h
      rcases kI (by omega : 1 ≤ (aw_kc K r.2.1 F d' a).1) with rfl | rfl | rfl | ⟨-, -, x3, x4, x5⟩
      · rw [kU] at h; exact absurd h (by show ¬ 2 = 6; decide)
      · rw [kWo] at h; exact absurd h (by show ¬ 3 = 6; decide)
      · rw [kD]
        refine ⟨by decide, ?_⟩
        show ¬ vs'.length = 0
        omega
      · rw [x4] at h ⊢
        have := b2 a h
        have h2 : ¬ (K a).2 = 1 := fun z => x3 (aw_eta h z)
        have h3 : aw_ac A r.2.1 F d' vs'.length (A 8 0) 6 (K a).2 = A 6 (K a).2 := am_upd_ne h2
        rw [h3]
        exact this
    · unfold aw_lc at hl ⊢
      rw [aw_ac_8, List.range_succ, List.map_append, List.range_succ, List.filter_append, am_fn0_7]
      have e1 : (List.range (A 8 0)).map (aw_ac A r.2.1 F d' vs'.length (A 8 0) 7) = (List.range (A 8 0)).map (A 7) := List.map_congr_left fun i hi => (show am_upd (A 7) (A 8 0) F i = A 7 i from am_upd_ne (Nat.ne_of_lt (List.mem_range.mp hi)))
      have e2 : (List.range F).filter (fun c => decide (am_upd (G 7) F 1 c = 1)) = (List.range F).filter fun c => decide (G 7 c = 1) := List.filter_congr fun c hc => by rw [am_upd_ne (Nat.ne_of_lt (List.mem_range.mp hc))]
      rw [e1, e2, hl]
      have e3 : List.map (aw_ac A r.2.1 F d' vs'.length (A 8 0) 7) [A 8 0] = [F] := by
        show [am_upd (A 7) (A 8 0) F (A 8 0)] = _
        rw [am_upd_eq]
      have e4 : List.filter (fun c => decide (am_upd (G 7) F 1 c = 1)) [F] = [F] := by
        simp [am_upd_eq]
      rw [e3, e4]
  refine ⟨aw_kc K r.2.1 F d', aw_ac A r.2.1 F d' vs'.length (A 8 0), h', ?_, hWn, ⟨?_, by omega, g8, g9⟩, ⟨by omega, ?_⟩⟩
  · refine (aw_self (fun b c hb => ?_) (fun b c hb hd => ?_)).symm
    · have hf := aw_fx_some hb
      by_cases e : b = 22
      · subst e
        rw [a1, ← hb]
        unfold aw_fx
        simp only [if_neg (show ¬ 22 = 12 by decide), if_neg (show ¬ 22 = 13 by decide), if_neg (show ¬ 22 = 14 by decide), if_neg (show ¬ 22 = 15 by decide), if_neg (show ¬ 22 = 16 by decide), if_neg (show ¬ 22 = 17 by decide), if_neg (show ¬ 22 = 18 by decide), if_neg (show ¬ 22 = 19 by decide), if_neg (show ¬ 22 = 20 by decide), if_neg (show ¬ 22 = 21 by decide), if_true, aw_ac_8]
        unfold aw_q0
        simp only [am_up_ne, am_up_eq, am_upd_eq, Nat.reduceEqDiff, not_false_eq_true]
        rfl
      · have e9 : aw_fx (aw_ac A r.2.1 F d' vs'.length (A 8 0)) (am_fn0 G F p t) (aw_q0 Q F) (aw_mu M 0 F 0) b = aw_fx A (am_up G 6 0 (Int32.ofNat (F + 1))) Q M b := by
          unfold aw_fx aw_os aw_q0
          simp only [if_neg e, am_fn0_6, am_up_eq, am_upd_eq, am_up_ne, aw_mu_ne, Nat.reduceEqDiff, not_false_eq_true, am_fn0_f0, am_fn0_f1, am_fn0_f2, am_fn0_f3, am_fn0_f4, am_fn0_f11, am_fn0_f12, am_fn0_f14, am_fn0_f16, am_fn0_f17, am_fn0_f18, am_fn0_f19, am_fn0_f20, am_fn0_f21, am_fn0_f22, am_fn0_f23, am_fn0_f24, am_fn0_f25, am_fn0_f26, am_fn0_f27, am_fn0_f28, am_fn0_f29, am_fn0_f30, am_fn0_f31, am_fn0_f32, am_fn0_f33, am_fn0_f34, am_fn0_f35, am_fn0_f36, am_fn0_f37, am_fn0_f38, am_fn0_f39, am_fn0_f40, am_fn0_f41, am_fn0_f42, am_fn0_f43, am_fn0_f44, am_fn0_f45, am_fn0_f46, am_fn0_f47, am_fn0_f48, am_fn0_f49, am_fn0_f50, am_fn0_f51, am_fn0_f52]
          rfl
        rw [e9] at hb
        rw [a8 b e (fun q => g1 (by rw [← q]; exact hf))]
        exact aw_fix hb
    · have h1 : 1 ≤ (aw_kc K r.2.1 F d' b).1 := by
        rcases Nat.lt_or_ge (aw_kc K r.2.1 F d' b).1 1 with e | e
        · unfold aw_dy at hd
          rw [show (aw_kc K r.2.1 F d' b).1 = 0 by omega] at hd
          cases hd
        · exact e
      have hb22 : ¬ b = 22 := fun e => by
        rw [e] at hb
        cases hb
      rcases kI h1 with rfl | rfl | rfl | ⟨x1, x2, x3, x4, x5⟩
      · rw [kU, aw_dy2 rfl, aw_cc_fn hZ] at hd
        rw [a8 _ hb22 (fun e => g2 e.symm), ← hd, aw_rest huf (by rw [huK])]
        show (am_new (am_new r (2, aw_nc F (aw_pa p) t (r.2.1 + 1)) 17) (50, am_row 6 fun _ => 0) 6).1 r.2.1 = _
        rw [aw_newn (show ¬ r.2.1 = r.2.1 + 1 by omega)]
        exact aw_newa
      · rw [kWo, aw_dy3 rfl] at hd
        rw [a8 _ hb22 (fun e => g2' e.symm), ← hd, aw_rest hwf (by rw [hwK])]
        refine (aw_newa (h := am_new r (2, aw_nc F (aw_pa p) t (r.2.1 + 1)) 17)).trans ?_
        refine congrArg (fun z => some (50, z)) ?_
        unfold aw_wo am_row
        refine List.map_congr_left fun j hj => ?_
        rw [am_fn0_f16]
        exact congrArg Value.int (hZ.2.2.2.2 j (List.mem_range.mp hj)).symm
      · rw [kD, aw_dy6 rfl] at hd
        rw [a2, ← hd]
        refine congrArg (fun z => some (53, z)) ?_
        rw [aw_ba_1, aw_ac_8]
        refine List.ext_getElem? fun j => ?_
        rcases Nat.lt_or_ge j vs'.length with q | q
        · rw [aw_ac_6, aw_mapget q]
          rcases Nat.lt_trichotomy j (A 8 0) with z | z | z
          · rw [a5 j z, hvs j z, if_pos (by omega)]
            have e1 : aw_ac A r.2.1 F b vs'.length (A 8 0) 7 j = A 7 j := (show am_upd (A 7) (A 8 0) F j = A 7 j from am_upd_ne (by omega))
            rw [e1]
            have e2 := (hW.li z).1
            exact congrArg (fun z => some (Value.ref z)) (show am_upd (A 1) F r.2.1 (A 7 j) = A 1 (A 7 j) from am_upd_ne (by omega)).symm
          · rw [z, a6, if_pos (by omega)]
            have e1 : aw_ac A r.2.1 F b vs'.length (A 8 0) 7 (A 8 0) = F := (show am_upd (A 7) (A 8 0) F (A 8 0) = F from am_upd_eq)
            rw [e1]
            exact congrArg (fun z => some (Value.ref z)) (show am_upd (A 1) F r.2.1 F = r.2.1 from am_upd_eq).symm
          · rw [a7 j z q, if_neg (by omega)]
        · rw [List.getElem?_eq_none (by omega), List.getElem?_eq_none (by rw [List.length_map, List.length_range, aw_ac_6]; exact q)]
      · rw [x4] at hd
        rw [a8 b hb22 x2]
        have e9 : aw_dy (aw_ac A r.2.1 F d' vs'.length (A 8 0)) (am_fn0 G F p t) (aw_q0 Q F) (aw_mu M 0 F 0) (K b) = aw_dy A (am_up G 6 0 (Int32.ofNat (F + 1))) Q M (K b) := by
          by_cases c1 : (K b).1 = 2
          · have c2 : (K b).2 < F := hW.c' (Or.inl c1)
            have c3 : ¬ (K b).2 = F := by omega
            rw [aw_dy2 c1, aw_dy2 c1]
            have e2 : aw_ac A r.2.1 F d' vs'.length (A 8 0) 2 (K b).2 = A 2 (K b).2 := (show am_upd (A 2) F (r.2.1 + 1) (K b).2 = A 2 (K b).2 from am_upd_ne c3)
            unfold aw_cc am_fn0 aw_q0
            simp only [e2, am_up_ne, am_up_eq, am_upd_ne c3, aw_mu_eq, Nat.reduceEqDiff, not_false_eq_true, am_upd_ne (show ¬ 3 * (K b).2 = 3 * F + 2 by omega), am_upd_ne (show ¬ 3 * (K b).2 = 3 * F + 1 by omega), am_upd_ne (show ¬ 3 * (K b).2 = 3 * F by omega), am_upd_ne (show ¬ 3 * (K b).2 + 1 = 3 * F + 2 by omega), am_upd_ne (show ¬ 3 * (K b).2 + 1 = 3 * F + 1 by omega), am_upd_ne (show ¬ 3 * (K b).2 + 1 = 3 * F by omega), am_upd_ne (show ¬ 3 * (K b).2 + 2 = 3 * F + 2 by omega), am_upd_ne (show ¬ 3 * (K b).2 + 2 = 3 * F + 1 by omega), am_upd_ne (show ¬ 3 * (K b).2 + 2 = 3 * F by omega)]
          · by_cases c6 : (K b).1 = 6
            · rw [aw_dy6 c6, aw_dy6 c6]
              have h7 := (hW.b' c6).1
              have h8 : ¬ (K b).2 = 1 := fun z => x3 (aw_eta c6 z)
              have : (K b).2 = 0 ∨ (K b).2 = 2 := by omega
              rcases this with z | z
              · rw [z, aw_ba_0, aw_ba_0]
                unfold aw_n
                rw [am_fn0_f45, am_up_ne (by decide)]
                try rfl
              · rw [z, aw_ba_2, aw_ba_2]
                unfold aw_n
                rw [am_fn0_f24, am_up_ne (by decide)]
                try rfl
            · unfold aw_dy aw_un aw_wo aw_tr aw_of aw_pl aw_le
              simp only [if_neg c1, if_neg c6, am_up_ne, Nat.reduceEqDiff, not_false_eq_true, am_fn0_f0, am_fn0_f1, am_fn0_f2, am_fn0_f3, am_fn0_f4, am_fn0_f11, am_fn0_f12, am_fn0_f14, am_fn0_f16, am_fn0_f17, am_fn0_f18, am_fn0_f19, am_fn0_f20, am_fn0_f21, am_fn0_f22, am_fn0_f23, am_fn0_f24, am_fn0_f25, am_fn0_f26, am_fn0_f27, am_fn0_f28, am_fn0_f29, am_fn0_f30, am_fn0_f31, am_fn0_f32, am_fn0_f33, am_fn0_f34, am_fn0_f35, am_fn0_f36, am_fn0_f37, am_fn0_f38, am_fn0_f39, am_fn0_f40, am_fn0_f41, am_fn0_f42, am_fn0_f43, am_fn0_f44, am_fn0_f45, am_fn0_f46, am_fn0_f47, am_fn0_f48, am_fn0_f49, am_fn0_f50, am_fn0_f51, am_fn0_f52]
              try rfl
        rw [e9] at hd
        exact aw_dyn hV x5 hd
  · intro x hx
    have hx1 : ¬ x = 22 := by omega
    have hx2 : ¬ x = d' := fun e => by
      rcases hx with hx | hx
      · omega
      · exact g1 (by rw [← e]; exact Or.inr (Or.inr (by omega)))
    rw [a8 x hx1 hx2]
    have hx3 : (K x).1 = 0 := by
      rcases Nat.lt_or_ge (K x).1 1 with z | z
      · omega
      · exact absurd (show aw_fa x by unfold aw_fa; omega) (hV.1 x z)
    have hx4 : aw_fx A (am_up G 6 0 (Int32.ofNat (F + 1))) Q M x = none := by
      unfold aw_fx
      repeat rw [if_neg (by omega)]
    show (aw_fx A (am_up G 6 0 (Int32.ofNat (F + 1))) Q M x).or ((aw_dy A (am_up G 6 0 (Int32.ofNat (F + 1))) Q M (K x)).or ((am_new (am_new r (2, aw_nc F (aw_pa p) t (r.2.1 + 1)) 17) (50, am_row 6 fun _ => 0) 6).1 x)) = r.1 x
    rw [hx4]
    unfold aw_dy
    rw [hx3]
    show (am_new (am_new r (2, aw_nc F (aw_pa p) t (r.2.1 + 1)) 17) (50, am_row 6 fun _ => 0) 6).1 x = r.1 x
    rw [aw_newn (show ¬ x = r.2.1 + 1 by omega), aw_newn (by omega)]
  · intro a ha
    have e1 : ¬ a = r.2.1 := by omega
    have e0 : ¬ a = r.2.1 + 1 := by omega
    have e2 : ¬ a = d' := by omega
    show aw_kc K r.2.1 F d' a = (0, 0)
    unfold aw_kc
    rw [if_neg e1, if_neg e0, if_neg e2, hnew0 a (by omega)]
    rfl
end
