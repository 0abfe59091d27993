/-! THE LAW'S RUN from the start -/
theorem al_Kc (a : Nat) : al_Kk a = (0, 0) ∨ ((a = 25 ∨ a = 28 ∨ a = 30 ∨ a = 32) ∧ (al_Kk a).1 = 7) ∨ ((a = 26 ∨ a = 29 ∨ a = 31 ∨ a = 33) ∧ (al_Kk a).1 = 8) := by
  by_cases h : a = 25 ∨ a = 28 ∨ a = 30 ∨ a = 32
  · refine Or.inr (Or.inl ⟨h, ?_⟩)
    rcases h with rfl | rfl | rfl | rfl <;> rfl
  · by_cases h2 : a = 26 ∨ a = 29 ∨ a = 31 ∨ a = 33
    · refine Or.inr (Or.inr ⟨h2, ?_⟩)
      rcases h2 with rfl | rfl | rfl | rfl <;> rfl
    · left
      unfold al_Kk
      repeat rw [if_neg (by omega)]
theorem al_V : aw_V al_Kk := by
  refine ⟨fun a ha => ?_, fun a b ha hb => ?_, ⟨rfl, rfl, rfl, rfl⟩, rfl, rfl, rfl, rfl⟩
  · unfold aw_fa
    rcases al_Kc a with h | ⟨h, -⟩ | ⟨h, -⟩
    · rw [h] at ha
      exact absurd ha (by decide)
    · omega
    · omega
  · rcases al_Kc a with h | ⟨h, h1⟩ | ⟨h, h1⟩
    · rw [h] at ha
      exact absurd ha (by decide)
    · rcases al_Kc b with g | ⟨g, g1⟩ | ⟨g, g1⟩
      · rw [g] at hb
        rw [← hb] at h1
        exact absurd h1 (by decide)
      · rcases h with rfl | rfl | rfl | rfl <;> rcases g with rfl | rfl | rfl | rfl <;> first | rfl | exact absurd hb (by decide)
      · rw [hb, h1] at g1
        exact absurd g1 (by decide)
    · rcases al_Kc b with g | ⟨g, g1⟩ | ⟨g, g1⟩
      · rw [g] at hb
        rw [← hb] at h1
        exact absurd h1 (by decide)
      · rw [hb, h1] at g1
        exact absurd g1 (by decide)
      · rcases h with rfl | rfl | rfl | rfl <;> rcases g with rfl | rfl | rfl | rfl <;> first | rfl | exact absurd hb (by decide)
theorem al_Kn {a k : Nat} (h : (al_Kk a).1 = k) (hk : ¬ k = 0 ∧ ¬ k = 7 ∧ ¬ k = 8) : False := by
  rcases al_Kc a with q | ⟨-, q⟩ | ⟨-, q⟩
  · rw [q] at h
    exact hk.1 h.symm
  · exact hk.2.1 (h.symm.trans q)
  · exact hk.2.2 (h.symm.trans q)
theorem al_W : aw_W al_Kk al_A al_G 0 0 0 := by
  refine ⟨al_V, ⟨rfl, by decide⟩, ⟨rfl, by decide⟩, ⟨rfl, by decide⟩, ⟨fun k hk => absurd hk (Nat.not_lt_zero k), fun a h => (al_Kn h (by decide)).elim⟩, ⟨fun k hk => absurd hk (Nat.not_lt_zero k), fun a h => h.elim (fun h => (al_Kn h (by decide)).elim) fun h => (al_Kn h (by decide)).elim⟩, ⟨fun k hk => absurd hk (Nat.not_lt_zero k), fun a h => (al_Kn h (by decide)).elim⟩, ⟨fun j _ h => absurd rfl h, fun a h => (al_Kn h (by decide)).elim⟩, ⟨fun i hi => ?_, fun a h => (al_Kn h (by decide)).elim⟩, rfl⟩
  refine ⟨?_, Nat.zero_le _, Or.inl ⟨rfl, rfl⟩⟩
  rcases (show i = 0 ∨ i = 1 ∨ i = 2 by omega) with rfl | rfl | rfl
  · exact Nat.le_refl 0
  · exact Nat.le_refl 0
  · exact Nat.le_refl 0
theorem al_ai : ai al_G 0 0 0 0 := by
  have g2 : ∀ t, t < 64 → al_G 2 t = 1 := fun t h => if_pos h
  have g4 : ∀ t, t < 64 → al_G 4 t = -1 := fun t h => if_pos h
  have g5 : ∀ t, t < 64 → al_G 5 t = -1 := fun t h => if_pos h
  have g36 : ∀ p, p < 4 → al_G 36 p = -1 := fun t h => if_pos h
  have g39 : ∀ p, p < 4 → al_G 39 p = 50 := fun t h => if_pos h
  refine ⟨⟨0, Nat.le_refl 0, rfl⟩, fun t ht => ?_, fun t ht => Or.inl (g4 t ht), ⟨by decide, fun t ht => Or.inl (g5 t ht), fun c hc => absurd hc (Nat.not_lt_zero c)⟩, fun c hc => absurd hc (Nat.not_lt_zero c), fun c hc => absurd hc (Nat.not_lt_zero c), fun c hc => absurd hc (Nat.not_lt_zero c), fun c hc => absurd hc (Nat.not_lt_zero c), fun c hc => absurd hc (Nat.not_lt_zero c), fun c _ => ⟨⟨rfl, rfl, rfl, rfl, fun _ _ => rfl⟩, rfl⟩, fun k hk => absurd hk (Nat.not_lt_zero k), ⟨fun k hk => absurd hk (Nat.not_lt_zero k), fun k hk => absurd hk (Nat.not_lt_zero k)⟩, ⟨0, fun _ => 0, rfl, Nat.le_refl 0, fun k hk => absurd hk (Nat.not_lt_zero k), fun j k _ hk => absurd hk (Nat.not_lt_zero k)⟩, fun k hk => absurd hk (Nat.not_lt_zero k), ⟨fun _ => 0, fun _ _ => rfl, Nat.le_refl 0⟩, fun p hp => ⟨Or.inl (g36 p hp), ?_, 50, by decide, g39 p hp⟩, fun c hc => ⟨?_, 0, by decide, ?_⟩, fun j _ => Or.inl rfl, fun k hk => absurd hk (Nat.not_lt_zero k), ⟨fun _ _ _ => rfl, fun k hk => absurd hk (Nat.not_lt_zero k)⟩⟩
  · rw [g2 t ht]
    exact ⟨by decide, by decide⟩
  · show am_I 0 1024
    exact ⟨by decide, by decide⟩
  · show am_I 0 1024
    exact ⟨by decide, by decide⟩
  · show am_mny 0 = Int32.ofNat 0
    decide
section
variable {N : Nat} {xs : Nat → Int32}
theorem al_h00 : am_h0 N xs = al_h (am_h0 N xs) [] 0 := by
  refine Prod.ext (funext fun k => ?_) rfl
  show (am_h0 N xs).1 k = if k < 12 then (am_h0 N xs).1 k else ([] : List am_C)[k - 12]?
  by_cases h : k < 12
  · rw [if_pos h]
  · rw [if_neg h]
    show (if k < 9 then _ else if k = 9 then _ else if k = 10 then _ else if k = 11 then _ else none) = _
    rw [if_neg (by omega), if_neg (by omega), if_neg (by omega), if_neg (by omega)]
    rfl
theorem al_hj {b : am_H} {s n : Nat} {c : am_C} : am_new (al_h b al_c s) c n = al_j (al_h b al_c s) [c] (s + n) := by
  refine Prod.ext (funext fun k => ?_) rfl
  show (if k = 40 then some c else (al_h b al_c s).1 k) = if k < 40 then (al_h b al_c s).1 k else [c][k - 40]?
  by_cases h : k < 40
  · rw [if_pos h, if_neg (by omega)]
  · rw [if_neg h]
    by_cases h2 : k = 40
    · rw [if_pos h2, h2]
      rfl
    · rw [if_neg h2, al_h1 (by omega), List.getElem?_eq_none (show 28 ≤ k - 12 by omega), List.getElem?_eq_none (show 1 ≤ k - 40 by omega)]
theorem al_S0 {s s2 : Nat} (hs : s2 ≤ 99000) : al_S xs N (am_new (am_ov al_G (fun _ => 0) (fun k => if k < 40 then (al_h (am_h0 N xs) al_c s).1 k else none, 87, s2)) (51, [.long 0]) 1) 0 := by
  refine ⟨al_Kk, al_A, al_G, al_Q, fun _ _ => 0, fun _ => 0, am_ov al_G (fun _ => 0) (fun k => if k < 12 then (am_h0 N xs).1 k else if k = 87 then some (51, [.long 0]) else none, 88, s2 + 1), 0, 0, 0, 0, ?_, al_ov2, al_W, ⟨Nat.le_refl 88, fun a ha => ?_⟩, ⟨fun k hk => ?_, ?_, ?_⟩, al_ai, ?_, ?_, ?_, ?_⟩
  · refine Prod.ext (funext fun k => ?_) rfl
    show (if k = 87 then some (51, [.long 0]) else (am_ov al_G (fun _ => 0) (fun k => if k < 40 then (al_h (am_h0 N xs) al_c s).1 k else none, 87, s2)).1 k) = (aw_fx al_A al_G al_Q (fun _ _ => 0) k).or ((aw_dy al_A al_G al_Q (fun _ _ => 0) (al_Kk k)).or ((am_ov al_G (fun _ => 0) (fun k => if k < 12 then (am_h0 N xs).1 k else if k = 87 then some (51, [.long 0]) else none, 88, s2 + 1)).1 k))
    by_cases h : k < 40
    · rw [if_neg (by omega), al_ov1 (by omega), al_ov1 (by omega)]
      show (if k < 40 then (al_h (am_h0 N xs) al_c s).1 k else none) = _
      rw [if_pos h, al_H]
      show (aw_fx al_A al_G al_Q (fun _ _ => 0) k).or ((aw_dy al_A al_G al_Q (fun _ _ => 0) (al_Kk k)).or (if k < 12 then (am_h0 N xs).1 k else none)) = (aw_fx al_A al_G al_Q (fun _ _ => 0) k).or ((aw_dy al_A al_G al_Q (fun _ _ => 0) (al_Kk k)).or (if k < 12 then (am_h0 N xs).1 k else if k = 87 then some (51, [.long 0]) else none))
      rw [if_neg (show ¬ k = 87 by omega)]
    · have hK : al_Kk k = (0, 0) := by
        rcases al_Kc k with q | ⟨q, -⟩ | ⟨q, -⟩
        · exact q
        · omega
        · omega
      rw [aw_fx_none40 h, hK]
      show _ = (am_ov al_G (fun _ => 0) (fun k => if k < 12 then (am_h0 N xs).1 k else if k = 87 then some (51, [.long 0]) else none, 88, s2 + 1)).1 k
      by_cases h2 : 40 ≤ k ∧ k ≤ 86
      · rw [if_neg (by omega)]
        show (if k = 40 then some (12, am_mo al_G) else if 40 < k ∧ k ≤ 86 then (am_ci[k - 41]?).map (am_rc al_G fun _ => 0) else _) = if k = 40 then some (12, am_mo al_G) else if 40 < k ∧ k ≤ 86 then (am_ci[k - 41]?).map (am_rc al_G fun _ => 0) else _
        by_cases h3 : k = 40
        · rw [if_pos h3, if_pos h3]
        · rw [if_neg h3, if_neg h3, if_pos ⟨by omega, h2.2⟩, if_pos ⟨by omega, h2.2⟩]
      · rw [al_ov1 h2, al_ov1 h2]
        show (if k = 87 then some (51, [Value.long 0]) else if k < 40 then _ else none) = if k < 12 then _ else if k = 87 then some (51, [Value.long 0]) else none
        rw [if_neg h, if_neg (show ¬ k < 12 by omega)]
  · have ha : 88 ≤ a := ha
    rcases al_Kc a with q | ⟨q, -⟩ | ⟨q, -⟩
    · exact q
    · omega
    · omega
  · rw [al_ov1 (by omega)]
    show (if k < 12 then (am_h0 N xs).1 k else _) = _
    rw [if_pos (by omega)]
    exact if_pos hk
  · rw [al_ov1 (by decide)]
    rfl
  · rw [al_ov1 (by decide)]
    rfl
  · rw [al_ov1 (by decide)]
    rfl
  · rw [al_ov1 (by decide)]
    rfl
  · show 88 ≤ 100 + 31 * 0
    decide
  · show s2 + 1 ≤ 100000 + 4010 * 0
    omega
theorem al_run (hN : N ≤ 3072) : ∃ h1 : am_H, am_exec 291 0 (am_ent (am_nL 291) [.ref 11]) [] (am_h0 N xs) = some (.inl (some (.int 1)), h1) ∧ h1.2.1 ≤ 601036 ∧ h1.2.2 ≤ 7293034 := by
  obtain ⟨s1, hs1⟩ : ∃ s1, s1 = 5 + 8 + 3 + 64 + 64 + 64 + 2 + 3 + 16 + 3 + 3 + 3 + 10 + 8 + 8 + 10 + 8 + 8 + 8 + 8 + 8 + 8 + 6 + 24 + 3 + 2425 + 1 + 1 := ⟨_, rfl⟩
  have c1 := mi109 (b := am_h0 N xs) (s := 5) rfl
  rw [← hs1] at c1
  obtain ⟨s2, hs2, c2⟩ := mi151_all (b := al_h (am_h0 N xs) al_c s1) (s := s1 + 53)
  have hS := al_S0 (N := N) (xs := xs) (s := s1) (s2 := s2) (by omega)
  obtain ⟨h1, e1, j, hj, hS1⟩ := al_loop hN 512 0 _ (by omega) (by decide) hS
  have n0 : am_new (am_h0 N xs) (11, am_def 11) 5 = al_h (am_h0 N xs) [(11, [.null, .null, .null, .null, .int 0])] 5 := by
    rw [al_d11]
    exact (congrArg (fun h => am_new h (11, [.null, .null, .null, .null, .int 0]) 5) al_h00).trans al_hw
  refine ⟨h1, ?_, ?_, ?_⟩
  · show am_exec 291 0 [.ref 11, am_U, am_U, am_U, am_U, am_U, am_U, am_U] [] (am_h0 N xs) = _
    rw [am_e291_0, n0]
    show am_exec 291 3 [.ref 11, am_U, am_U, am_U, am_U, am_U, am_U, am_U] [.ref 12] _ = _
    rw [am_e291_3, c1]
    show am_exec 291 7 [.ref 11, am_U, am_U, am_U, am_U, am_U, am_U, am_U] [.ref 12] (al_h (am_h0 N xs) al_c s1) = _
    rw [am_e291_7 rfl, al_hj]
    show am_exec 291 11 [.ref 11, .ref 12, am_U, am_U, am_U, am_U, am_U, am_U] [.ref 40] _ = _
    rw [am_e291_11, c2]
    show am_exec 291 15 [.ref 11, .ref 12, am_U, am_U, am_U, am_U, am_U, am_U] [.ref 40] _ = _
    rw [am_e291_15 rfl]
    show am_exec 291 19 [.ref 11, .ref 12, .ref 40, am_U, am_U, am_U, am_U, am_U] [.ref 87] (am_new (am_ov al_G (fun _ => 0) (fun k => if k < 40 then (al_h (am_h0 N xs) al_c s1).1 k else none, 87, s2)) (51, [.long 0]) 1) = _
    rw [am_e291_19 rfl]
    exact e1
  · obtain ⟨K, A, G, Q, M, L, r, n, F, T, y, rfl, -, -, -, -, -, -, -, q1, q2⟩ := hS1
    show r.2.1 ≤ _
    omega
  · obtain ⟨K, A, G, Q, M, L, r, n, F, T, y, rfl, -, -, -, -, -, -, -, q1, q2⟩ := hS1
    show r.2.2 ≤ _
    omega
end
