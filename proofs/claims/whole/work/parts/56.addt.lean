/-! A TREATY JOINS THE LIST -/
def aw_kt (K : aw_K) (u n d : Nat) : aw_K := fun a => if a = u then (4, n) else if a = d then (6, 0) else if K a = (6, 0) then (0, 0) else K a
def aw_at (A : aw_A) (u n d N : Nat) : aw_A := fun f => if f = 3 then am_upd (A 3) n u else if f = 5 then am_upd (A 5) 0 d else if f = 6 then am_upd (A 6) 0 N else A f
/-- a treaty is agreed -/
def am_ag (G : am_G) (T : Nat) (k f t n w : Int32) : am_G := am_up (am_up (am_up (am_up (am_up (am_up (am_up G 46 T k) 47 T f) 48 T t) 49 T n) 52 T w) 51 T (-1)) 45 0 (Int32.ofNat (T + 1))
section
variable {K : aw_K} {A : aw_A} {G Q : am_G} {M : aw_M} {r : am_H} {n F T : Nat}
theorem am_ag_45 {k f t nn w : Int32} : am_ag G T k f t nn w 45 0 = Int32.ofNat (T + 1) := by
  unfold am_ag
  rw [am_up_eq, am_upd_eq]
theorem am_ag_ne {k f t nn w : Int32} {x : Nat} (h : ¬ (45 ≤ x ∧ x ≤ 49) ∧ ¬ x = 51 ∧ ¬ x = 52) : am_ag G T k f t nn w x = G x := by
  unfold am_ag
  rw [am_up_ne (by omega), am_up_ne (by omega), am_up_ne (by omega), am_up_ne (by omega), am_up_ne (by omega), am_up_ne (by omega), am_up_ne (by omega)]
theorem am_ag_row {k f t nn w : Int32} {x j : Nat} (h : 46 ≤ x ∧ x ≤ 52) (hj : ¬ j = T) : am_ag G T k f t nn w x j = G x j := by
  have : x = 46 ∨ x = 47 ∨ x = 48 ∨ x = 49 ∨ x = 50 ∨ x = 51 ∨ x = 52 := by omega
  unfold am_ag
  rcases this with rfl | rfl | rfl | rfl | rfl | rfl | rfl <;> simp only [am_up_ne, am_up_eq, am_upd_ne hj, Nat.reduceEqDiff, not_false_eq_true]
theorem am_ag_f0 {k f t nn w : Int32} : am_ag G T k f t nn w 0 = G 0 := am_ag_ne (by decide)
theorem am_ag_f1 {k f t nn w : Int32} : am_ag G T k f t nn w 1 = G 1 := am_ag_ne (by decide)
theorem am_ag_f2 {k f t nn w : Int32} : am_ag G T k f t nn w 2 = G 2 := am_ag_ne (by decide)
theorem am_ag_f3 {k f t nn w : Int32} : am_ag G T k f t nn w 3 = G 3 := am_ag_ne (by decide)
theorem am_ag_f4 {k f t nn w : Int32} : am_ag G T k f t nn w 4 = G 4 := am_ag_ne (by decide)
theorem am_ag_f5 {k f t nn w : Int32} : am_ag G T k f t nn w 5 = G 5 := am_ag_ne (by decide)
theorem am_ag_f6 {k f t nn w : Int32} : am_ag G T k f t nn w 6 = G 6 := am_ag_ne (by decide)
theorem am_ag_f7 {k f t nn w : Int32} : am_ag G T k f t nn w 7 = G 7 := am_ag_ne (by decide)
theorem am_ag_f8 {k f t nn w : Int32} : am_ag G T k f t nn w 8 = G 8 := am_ag_ne (by decide)
theorem am_ag_f9 {k f t nn w : Int32} : am_ag G T k f t nn w 9 = G 9 := am_ag_ne (by decide)
theorem am_ag_f10 {k f t nn w : Int32} : am_ag G T k f t nn w 10 = G 10 := am_ag_ne (by decide)
theorem am_ag_f11 {k f t nn w : Int32} : am_ag G T k f t nn w 11 = G 11 := am_ag_ne (by decide)
theorem am_ag_f12 {k f t nn w : Int32} : am_ag G T k f t nn w 12 = G 12 := am_ag_ne (by decide)
theorem am_ag_f13 {k f t nn w : Int32} : am_ag G T k f t nn w 13 = G 13 := am_ag_ne (by decide)
theorem am_ag_f14 {k f t nn w : Int32} : am_ag G T k f t nn w 14 = G 14 := am_ag_ne (by decide)
theorem am_ag_f15 {k f t nn w : Int32} : am_ag G T k f t nn w 15 = G 15 := am_ag_ne (by decide)
theorem am_ag_f16 {k f t nn w : Int32} : am_ag G T k f t nn w 16 = G 16 := am_ag_ne (by decide)
theorem am_ag_f17 {k f t nn w : Int32} : am_ag G T k f t nn w 17 = G 17 := am_ag_ne (by decide)
theorem am_ag_f18 {k f t nn w : Int32} : am_ag G T k f t nn w 18 = G 18 := am_ag_ne (by decide)
theorem am_ag_f19 {k f t nn w : Int32} : am_ag G T k f t nn w 19 = G 19 := am_ag_ne (by decide)
theorem am_ag_f20 {k f t nn w : Int32} : am_ag G T k f t nn w 20 = G 20 := am_ag_ne (by decide)
theorem am_ag_f21 {k f t nn w : Int32} : am_ag G T k f t nn w 21 = G 21 := am_ag_ne (by decide)
theorem am_ag_f22 {k f t nn w : Int32} : am_ag G T k f t nn w 22 = G 22 := am_ag_ne (by decide)
theorem am_ag_f23 {k f t nn w : Int32} : am_ag G T k f t nn w 23 = G 23 := am_ag_ne (by decide)
theorem am_ag_f24 {k f t nn w : Int32} : am_ag G T k f t nn w 24 = G 24 := am_ag_ne (by decide)
theorem am_ag_f25 {k f t nn w : Int32} : am_ag G T k f t nn w 25 = G 25 := am_ag_ne (by decide)
theorem am_ag_f26 {k f t nn w : Int32} : am_ag G T k f t nn w 26 = G 26 := am_ag_ne (by decide)
theorem am_ag_f27 {k f t nn w : Int32} : am_ag G T k f t nn w 27 = G 27 := am_ag_ne (by decide)
theorem am_ag_f28 {k f t nn w : Int32} : am_ag G T k f t nn w 28 = G 28 := am_ag_ne (by decide)
theorem am_ag_f29 {k f t nn w : Int32} : am_ag G T k f t nn w 29 = G 29 := am_ag_ne (by decide)
theorem am_ag_f30 {k f t nn w : Int32} : am_ag G T k f t nn w 30 = G 30 := am_ag_ne (by decide)
theorem am_ag_f31 {k f t nn w : Int32} : am_ag G T k f t nn w 31 = G 31 := am_ag_ne (by decide)
theorem am_ag_f32 {k f t nn w : Int32} : am_ag G T k f t nn w 32 = G 32 := am_ag_ne (by decide)
theorem am_ag_f33 {k f t nn w : Int32} : am_ag G T k f t nn w 33 = G 33 := am_ag_ne (by decide)
theorem am_ag_f34 {k f t nn w : Int32} : am_ag G T k f t nn w 34 = G 34 := am_ag_ne (by decide)
theorem am_ag_f35 {k f t nn w : Int32} : am_ag G T k f t nn w 35 = G 35 := am_ag_ne (by decide)
theorem am_ag_f36 {k f t nn w : Int32} : am_ag G T k f t nn w 36 = G 36 := am_ag_ne (by decide)
theorem am_ag_f37 {k f t nn w : Int32} : am_ag G T k f t nn w 37 = G 37 := am_ag_ne (by decide)
theorem am_ag_f38 {k f t nn w : Int32} : am_ag G T k f t nn w 38 = G 38 := am_ag_ne (by decide)
theorem am_ag_f39 {k f t nn w : Int32} : am_ag G T k f t nn w 39 = G 39 := am_ag_ne (by decide)
theorem am_ag_f40 {k f t nn w : Int32} : am_ag G T k f t nn w 40 = G 40 := am_ag_ne (by decide)
theorem am_ag_f41 {k f t nn w : Int32} : am_ag G T k f t nn w 41 = G 41 := am_ag_ne (by decide)
theorem am_ag_f42 {k f t nn w : Int32} : am_ag G T k f t nn w 42 = G 42 := am_ag_ne (by decide)
theorem am_ag_f43 {k f t nn w : Int32} : am_ag G T k f t nn w 43 = G 43 := am_ag_ne (by decide)
theorem am_ag_f44 {k f t nn w : Int32} : am_ag G T k f t nn w 44 = G 44 := am_ag_ne (by decide)
theorem am_ag_f50 {k f t nn w : Int32} : am_ag G T k f t nn w 50 = G 50 := am_ag_ne (by decide)
def aw_nt (k f t nn w : Int32) : List Value := [.int k, .int f, .int t, .int w, .int nn, .int 0, .int (-1)]
theorem aw_tr_ag {k f t nn w : Int32} (h : G 50 T = 0) : aw_tr (am_ag G T k f t nn w) T = aw_nt k f t nn w := by
  unfold aw_tr am_ag aw_nt
  simp only [am_up_ne, am_up_eq, am_upd_eq, Nat.reduceEqDiff, not_false_eq_true, h]
theorem aw_at_6 {u n d N : Nat} : aw_at A u n d N 6 0 = N := (show am_upd (A 6) 0 N 0 = N from am_upd_eq)
theorem aw_addt (hW : aw_W K A G n F T) (hN : aw_N K r) (hT : T < 40) (h50 : G 50 T = 0) {o : Nat} (ho : K o = (0, 0)) (hof : ¬ aw_fa o) (hoN : o < r.2.1) {k f t nn w : Int32} (hro : r.1 o = some (7, aw_nt k f t nn w)) {h' : am_H} (had : aw_ad (aw_H K A G Q M r) h' 19 (A 5 0) T o (Q 3 0) (aw_ba A G 0)) : ∃ K' A' r', h' = aw_H K' A' (am_ag G T k f t nn w) (am_up Q 3 0 (Q 3 0 + 1)) M r' ∧ aw_W K' A' (am_ag G T k f t nn w) n F (T + 1) ∧ aw_R r r' 1 300 ∧ aw_N K' r' := by
  obtain ⟨d', vs', a1, a2, a3, a4, a5, a6, a7, a8, a9⟩ := had
  have hV := hW.V
  have hn9 := hW.T9
  obtain ⟨y1, y2, y3⟩ := hW.b (i := 0) (by decide)
  rw [hW.szT] at y1
  have hvl : (aw_ba A G 0).length = A 6 0 := by
    rw [aw_ba_0, List.length_map, List.length_range]
  rw [hvl] at a4 a9
  have hvs : ∀ j, j < T → (aw_ba A G 0)[j]? = some (.ref (A 3 j)) := fun j hj => by
    rw [aw_ba_0, aw_mapget (by omega), aw_ne hW.hT hn9, if_pos hj]
  have h88 := hN.1
  have hnew0 : ∀ a, r.2.1 ≤ a → K a = (0, 0) := hN.2
  have huK := ho
  have hs2 : (aw_H K A G Q M r).2 = (r.2.1, r.2.2) := rfl
  rw [hs2] at a9
  -- what is known of the row's address
  have hd' : ¬ aw_fa d' ∧ ¬ d' = o ∧ (K d' = (6, 0) ∨ K d' = (0, 0)) ∧ 12 ≤ d' ∧ d' < h'.2.1 ∧ r.2.1 ≤ h'.2.1 ∧ h'.2.1 ≤ r.2.1 + 1 ∧ h'.2.2 ≤ r.2.2 + 300 := by
    rcases a9 with ⟨e1, e2, e3⟩ | ⟨e1, e2, e3⟩
    · subst e1
      have hB : K (A 5 0) = (6, 0) := by
        rcases y3 with y3 | y3
        · omega
        · exact y3.2
      have h1 : 1 ≤ (K (A 5 0)).1 := by rw [hB]; exact Nat.le_of_ble_eq_true rfl
      have h2 := hN.lt h1
      have h3 := hV.1 _ h1
      rw [e3]
      exact ⟨h3, fun e => by rw [e, ho] at hB; exact absurd (congrArg Prod.fst hB) (show ¬ 0 = 6 by decide), Or.inl hB, by unfold aw_fa at h3; omega, h2, Nat.le_refl _, by show r.2.1 ≤ r.2.1 + 1; omega, by show r.2.2 ≤ r.2.2 + 300; omega⟩
    · have e1 : d' = r.2.1 := e1
      subst e1
      rw [e3]
      exact ⟨by unfold aw_fa; omega, by omega, Or.inr (hnew0 _ (Nat.le_refl _)), by omega, by show r.2.1 < r.2.1 + 1; omega, by show r.2.1 ≤ r.2.1 + 1; omega, by show r.2.1 + 1 ≤ r.2.1 + 1; omega, by show r.2.2 + vs'.length ≤ r.2.2 + 300; omega⟩
  obtain ⟨g1, g2, g3, g4, g5, g7, g8, g9⟩ := hd'
  have huf := hof
  -- the new map of addresses
  have kU : aw_kt K o T d' o = (4, T) := if_pos rfl
  have kD : aw_kt K o T d' d' = (6, 0) := by
    unfold aw_kt
    rw [if_neg g2, if_pos rfl]
  have kO : ∀ {b}, 1 ≤ (K b).1 → ¬ K b = (6, 0) → aw_kt K o T d' b = K b := fun {b} hb h6 => by
    unfold aw_kt
    rw [if_neg (fun e => by rw [e, huK] at hb; exact absurd hb (by decide)), if_neg (fun e => by
      subst e
      rcases g3 with g3 | g3
      · exact h6 g3
      · rw [g3] at hb; exact absurd hb (by decide)), if_neg h6]
  have kI : ∀ {b}, 1 ≤ (aw_kt K o T d' b).1 → b = o ∨ b = d' ∨ (¬ b = o ∧ ¬ b = d' ∧ ¬ K b = (6, 0) ∧ aw_kt K o T d' b = K b ∧ 1 ≤ (K b).1) := fun {b} hb => by
    by_cases e1 : b = o
    · exact Or.inl e1
    by_cases e2 : b = d'
    · exact Or.inr (Or.inl e2)
    have e3 : aw_kt K o T d' b = if K b = (6, 0) then (0, 0) else K b := by
      unfold aw_kt
      rw [if_neg e1, if_neg e2]
    by_cases e4 : K b = (6, 0)
    · rw [e3, if_pos e4] at hb; exact absurd hb (by decide)
    · rw [if_neg e4] at e3
      exact Or.inr (Or.inr ⟨e1, e2, e4, e3, by rw [e3] at hb; exact hb⟩)
  have hWn : aw_W (aw_kt K o T d') (aw_at A o T d' vs'.length) (am_ag G T k f t nn w) n F (T + 1) := by
    obtain ⟨⟨v1, v2, v3, v4⟩, ⟨hn0, hn40⟩, ⟨hF, hF12⟩, ⟨hT9, hT40⟩, ⟨u1, u2⟩, ⟨c1, c2⟩, ⟨t1, t2⟩, ⟨o1, o2⟩, ⟨b1, b2⟩, hl⟩ := hW
    have ne : ∀ {a q}, K a = q → 1 ≤ q.1 → ¬ q.1 = 6 → aw_kt K o T d' a = q := fun {a q} e h h6 => by rw [kO (by rw [e]; exact h) (by rw [e]; exact fun z => h6 (by rw [z])), e]
    refine ⟨⟨?_, ?_, ⟨ne v3.1 (by decide) (by decide), ne v3.2.1 (by decide) (by decide), ne v3.2.2.1 (by decide) (by decide), ne v3.2.2.2 (by decide) (by decide)⟩, ⟨ne v4.1 (by decide) (by decide), ne v4.2.1 (by decide) (by decide), ne v4.2.2.1 (by decide) (by decide), ne v4.2.2.2 (by decide) (by decide)⟩⟩, ⟨by rw [am_ag_f24]; exact hn0, hn40⟩, ⟨by rw [am_ag_f6]; exact hF, hF12⟩, ⟨am_ag_45, by omega⟩, ⟨?_, ?_⟩, ⟨?_, ?_⟩, ⟨?_, ?_⟩, ⟨?_, ?_⟩, ⟨?_, ?_⟩, ?_⟩
    · intro a h
      rcases kI h with rfl | rfl | ⟨-, -, -, -, h5⟩
      · exact huf
      · exact g1
      · exact v1 a h5
    · intro a b h e
      have hb : 1 ≤ (aw_kt K o T d' b).1 := by rw [e]; exact h
      have nu : ∀ {x}, 1 ≤ (K x).1 → ¬ K x = (4, T) := fun {x} _ q => by
        have := t2 x (by rw [q]); rw [q] at this; exact absurd this (Nat.lt_irrefl T)
      rcases kI h with rfl | rfl | ⟨-, -, x3, x4, x5⟩ <;> rcases kI hb with rfl | rfl | ⟨-, -, z3, z4, z5⟩
      · rfl
      · rw [kU, kD] at e; cases e
      · rw [kU, z4] at e; exact absurd e (nu z5)
      · rw [kU, kD] at e; cases e
      · rfl
      · rw [kD, z4] at e; exact absurd e z3
      · rw [kU, x4] at e; exact absurd e.symm (nu x5)
      · rw [kD, x4] at e; exact absurd e.symm x3
      · rw [x4, z4] at e; exact v2 a b x5 e
    · intro j hj
      exact ne (u1 j hj) (Nat.le_refl 1) (by show ¬ 1 = 6; decide)
    · intro a h
      rcases kI (by omega : 1 ≤ (aw_kt K o T d' a).1) with rfl | rfl | ⟨-, -, -, x4, x5⟩
      · rw [kU] at h; exact absurd h (by show ¬ 4 = 1; decide)
      · rw [kD] at h; exact absurd h (by decide)
      · rw [x4] at h ⊢; exact u2 a h
    · intro c hc
      exact ⟨ne (c1 c hc).1 (by show 1 ≤ 2; decide) (by show ¬ 2 = 6; decide), ne (c1 c hc).2 (by show 1 ≤ 3; decide) (by show ¬ 3 = 6; decide)⟩
    · intro a h
      rcases kI (by omega : 1 ≤ (aw_kt K o T d' a).1) with rfl | rfl | ⟨-, -, -, x4, x5⟩
      · rw [kU] at h; exact absurd h (by show ¬ (4 = 2 ∨ 4 = 3); decide)
      · rw [kD] at h; exact absurd h (by decide)
      · rw [x4] at h ⊢; exact c2 a h
    · intro j hj
      by_cases e : j = T
      · subst e
        show aw_kt K o j d' (am_upd (A 3) j o j) = (4, j)
        rw [am_upd_eq, kU]
      · show aw_kt K o T d' (am_upd (A 3) T o j) = (4, j)
        rw [am_upd_ne e]
        exact ne (t1 j (by omega)) (by show 1 ≤ 4; decide) (by show ¬ 4 = 6; decide)
    · intro a h
      rcases kI (by omega : 1 ≤ (aw_kt K o T d' a).1) with rfl | rfl | ⟨-, -, -, x4, x5⟩
      · rw [kU]; exact Nat.lt_succ_self T
      · rw [kD] at h; exact absurd h (by decide)
      · rw [x4] at h ⊢; exact Nat.lt_succ_of_lt (t2 a h)
    · intro j hj h0
      rw [am_ag_f42] at h0
      exact ne (o1 j hj h0) (by show 1 ≤ 5; decide) (by show ¬ 5 = 6; decide)
    · intro a h
      rw [am_ag_f42]
      rcases kI (by omega : 1 ≤ (aw_kt K o T d' a).1) with rfl | rfl | ⟨-, -, -, x4, x5⟩
      · rw [kU] at h; exact absurd h (by show ¬ 4 = 5; decide)
      · rw [kD] at h; exact absurd h (by decide)
      · rw [x4] at h ⊢; exact o2 a h
    · intro x hx
      obtain ⟨z1, z2, z3⟩ := b1 x hx
      have : x = 0 ∨ x = 1 ∨ x = 2 := by omega
      rcases this with rfl | rfl | rfl
      · rw [aw_sz_0, aw_ne am_ag_45 (by omega)]
        refine ⟨a3, ?_, Or.inr ⟨?_, kD⟩⟩
        · show vs'.length ≤ 100
          rcases a9 with ⟨e1, e2, e3⟩ | ⟨e1, e2, e3⟩
          · omega
          · omega
        · show ¬ vs'.length = 0
          omega
      · rw [aw_sz_1] at z1 ⊢
        refine ⟨z1, z2, ?_⟩
        rcases z3 with z3 | z3
        · exact Or.inl z3
        · exact Or.inr ⟨z3.1, by rw [show aw_at A o T d' vs'.length 5 1 = A 5 1 from rfl, kO (by rw [z3.2]; exact Nat.le_of_ble_eq_true rfl) (by rw [z3.2]; exact fun z => absurd (congrArg Prod.snd z) (by decide)), z3.2]⟩
      · rw [aw_sz_2] at z1 ⊢
        unfold aw_n at z1 ⊢
        rw [am_ag_f24]
        refine ⟨z1, z2, ?_⟩
        rcases z3 with z3 | z3
        · exact Or.inl z3
        · exact Or.inr ⟨z3.1, by rw [show aw_at A o T d' vs'.length 5 2 = A 5 2 from rfl, kO (by rw [z3.2]; exact Nat.le_of_ble_eq_true rfl) (by rw [z3.2]; exact fun z => absurd (congrArg Prod.snd z) (by decide)), z3.2]⟩
    · intro a h
      rcases kI (by omega : 1 ≤ (aw_kt K o T d' a).1) with rfl | rfl | ⟨-, -, x3, x4, x5⟩
      · rw [kU] at h; exact absurd h (by show ¬ 4 = 6; decide)
      · rw [kD]
        refine ⟨by decide, ?_⟩
        show ¬ vs'.length = 0
        omega
      · rw [x4] at h ⊢
        have := b2 a h
        have h2 : ¬ (K a).2 = 0 := fun z => x3 (aw_eta h z)
        have h3 : aw_at A o T d' vs'.length 6 (K a).2 = A 6 (K a).2 := am_upd_ne h2
        rw [h3]
        exact this
    · unfold aw_lc at hl ⊢
      rw [am_ag_f7]
      exact hl
  refine ⟨aw_kt K o T d', aw_at A o T d' vs'.length, h', ?_, hWn, ⟨?_, g7, g8, g9⟩, ⟨by omega, ?_⟩⟩
  · refine (aw_self (fun b c hb => ?_) (fun b c hb hd => ?_)).symm
    · have hf := aw_fx_some hb
      by_cases e : b = 19
      · subst e
        rw [a1, ← hb]
        unfold aw_fx
        simp only [if_neg (show ¬ 19 = 12 by decide), if_neg (show ¬ 19 = 13 by decide), if_neg (show ¬ 19 = 14 by decide), if_neg (show ¬ 19 = 15 by decide), if_neg (show ¬ 19 = 16 by decide), if_neg (show ¬ 19 = 17 by decide), if_neg (show ¬ 19 = 18 by decide), if_true, am_ag_45, am_up_eq, am_upd_eq]
        rfl
      · have e9 : aw_fx (aw_at A o T d' vs'.length) (am_ag G T k f t nn w) (am_up Q 3 0 (Q 3 0 + 1)) M b = aw_fx A G Q M b := by
          unfold aw_fx aw_os
          simp only [if_neg e, am_ag_f0, am_ag_f1, am_ag_f2, am_ag_f3, am_ag_f4, am_ag_f5, am_ag_f6, am_ag_f7, am_ag_f8, am_ag_f9, am_ag_f10, am_ag_f11, am_ag_f12, am_ag_f13, am_ag_f14, am_ag_f15, am_ag_f16, am_ag_f17, am_ag_f18, am_ag_f19, am_ag_f20, am_ag_f21, am_ag_f22, am_ag_f23, am_ag_f24, am_ag_f25, am_ag_f26, am_ag_f27, am_ag_f28, am_ag_f29, am_ag_f30, am_ag_f31, am_ag_f32, am_ag_f33, am_ag_f34, am_ag_f35, am_ag_f36, am_ag_f37, am_ag_f38, am_ag_f39, am_ag_f40, am_ag_f41, am_ag_f42, am_ag_f43, am_ag_f44, am_ag_f50]
          rfl
        rw [e9] at hb
        rw [a8 b e (fun q => g1 (by rw [← q]; exact hf))]
        exact aw_fix hb
    · have h1 : 1 ≤ (aw_kt K o T d' b).1 := by
        rcases Nat.lt_or_ge (aw_kt K o T d' b).1 1 with e | e
        · unfold aw_dy at hd
          rw [show (aw_kt K o T d' b).1 = 0 by omega] at hd
          cases hd
        · exact e
      have hb19 : ¬ b = 19 := fun e => by
        rw [e] at hb
        cases hb
      rcases kI h1 with rfl | rfl | ⟨x1, x2, x3, x4, x5⟩
      · rw [kU, aw_dy4 rfl, aw_tr_ag h50] at hd
        rw [a8 _ hb19 (fun e => g2 e.symm), ← hd, aw_rest huf (by rw [huK]), hro]
      · rw [kD, aw_dy6 rfl] at hd
        rw [a2, ← hd]
        refine congrArg (fun z => some (53, z)) ?_
        rw [aw_ba_0, aw_ne am_ag_45 (by omega)]
        refine List.ext_getElem? fun j => ?_
        rcases Nat.lt_or_ge j vs'.length with q | q
        · rw [aw_at_6, aw_mapget q]
          rcases Nat.lt_trichotomy j T with z | z | z
          · rw [a5 j z, hvs j z, if_pos (by omega)]
            exact congrArg (fun z => some (Value.ref z)) (am_upd_ne (by omega)).symm
          · subst z
            rw [a6, if_pos (by omega)]
            exact congrArg (fun z => some (Value.ref z)) am_upd_eq.symm
          · rw [a7 j z q, if_neg (by omega)]
        · rw [List.getElem?_eq_none (by omega), List.getElem?_eq_none (by rw [List.length_map, List.length_range, aw_at_6]; exact q)]
      · rw [x4] at hd
        rw [a8 b hb19 x2]
        have e9 : aw_dy (aw_at A o T d' vs'.length) (am_ag G T k f t nn w) (am_up Q 3 0 (Q 3 0 + 1)) M (K b) = aw_dy A G Q M (K b) := by
          by_cases c1 : (K b).1 = 4
          · have c2 : ¬ (K b).2 = T := Nat.ne_of_lt (hW.t' c1)
            rw [aw_dy4 c1, aw_dy4 c1]
            unfold aw_tr
            rw [am_ag_row (by decide) c2, am_ag_row (by decide) c2, am_ag_row (by decide) c2, am_ag_row (by decide) c2, am_ag_row (by decide) c2, am_ag_row (by decide) c2, am_ag_row (by decide) c2]
          · by_cases c6 : (K b).1 = 6
            · rw [aw_dy6 c6, aw_dy6 c6]
              have h7 := (hW.b' c6).1
              have h8 : ¬ (K b).2 = 0 := fun z => x3 (aw_eta c6 z)
              have : (K b).2 = 1 ∨ (K b).2 = 2 := by omega
              rcases this with z | z
              · rw [z, aw_ba_1, aw_ba_1]
                rfl
              · rw [z, aw_ba_2, aw_ba_2]
                unfold aw_n
                rw [am_ag_f24]
                rfl
            · unfold aw_dy aw_un aw_cc aw_wo aw_of aw_pl aw_le
              simp only [if_neg c1, if_neg c6, am_ag_f0, am_ag_f1, am_ag_f2, am_ag_f3, am_ag_f4, am_ag_f5, am_ag_f6, am_ag_f7, am_ag_f8, am_ag_f9, am_ag_f10, am_ag_f11, am_ag_f12, am_ag_f13, am_ag_f14, am_ag_f15, am_ag_f16, am_ag_f17, am_ag_f18, am_ag_f19, am_ag_f20, am_ag_f21, am_ag_f22, am_ag_f23, am_ag_f24, am_ag_f25, am_ag_f26, am_ag_f27, am_ag_f28, am_ag_f29, am_ag_f30, am_ag_f31, am_ag_f32, am_ag_f33, am_ag_f34, am_ag_f35, am_ag_f36, am_ag_f37, am_ag_f38, am_ag_f39, am_ag_f40, am_ag_f41, am_ag_f42, am_ag_f43, am_ag_f44, am_ag_f50]
              rfl
        rw [e9] at hd
        exact aw_dyn hV x5 hd
  · intro x hx
    have hx1 : ¬ x = 19 := by omega
    have hx2 : ¬ x = d' := fun e => by
      rcases hx with hx | hx
      · omega
      · exact g1 (by rw [← e]; exact Or.inr (Or.inr (by omega)))
    rw [a8 x hx1 hx2]
    have hx3 : (K x).1 = 0 := by
      rcases Nat.lt_or_ge (K x).1 1 with z | z
      · omega
      · exact absurd (show aw_fa x by unfold aw_fa; omega) (hV.1 x z)
    have hx4 : aw_fx A G Q M x = none := by
      unfold aw_fx
      repeat rw [if_neg (by omega)]
    show (aw_fx A G Q M x).or ((aw_dy A G Q M (K x)).or (r.1 x)) = r.1 x
    rw [hx4]
    unfold aw_dy
    rw [hx3]
    rfl
  · intro a ha
    have e1 : ¬ a = o := by omega
    have e2 : ¬ a = d' := by omega
    show aw_kt K o T d' a = (0, 0)
    unfold aw_kt
    rw [if_neg e1, if_neg e2, hnew0 a (by omega)]
    rfl
end
