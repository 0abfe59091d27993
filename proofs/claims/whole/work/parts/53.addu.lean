/-! A UNIT JOINS THE LIST: addUnit -/
theorem aw_eta {q : Nat × Nat} {a b : Nat} (h1 : q.1 = a) (h2 : q.2 = b) : q = (a, b) := Prod.ext h1 h2
theorem aw_self {K : aw_K} {A : aw_A} {G Q : am_G} {M : aw_M} {h : am_H} (h1 : ∀ b c, aw_fx A G Q M b = some c → h.1 b = some c) (h2 : ∀ b c, aw_fx A G Q M b = none → aw_dy A G Q M (K b) = some c → h.1 b = some c) : aw_H K A G Q M h = h := by
  refine Prod.ext (funext fun b => ?_) rfl
  show (aw_fx A G Q M b).or ((aw_dy A G Q M (K b)).or (h.1 b)) = h.1 b
  cases e1 : aw_fx A G Q M b with
  | some c => exact (h1 b c e1).symm
  | none => cases e2 : aw_dy A G Q M (K b) with
    | some c => exact (h2 b c e1 e2).symm
    | none => rfl
theorem aw_fx_some {A : aw_A} {G Q : am_G} {M : aw_M} {b : Nat} {c : am_C} (h : aw_fx A G Q M b = some c) : aw_fa b := by
  refine Classical.byContradiction fun q => ?_
  rw [aw_fx_none q] at h
  cases h
def aw_kb (K : aw_K) (u n d i : Nat) : aw_K := fun a => if a = u then (1, n) else if a = d then (6, i) else if K a = (6, i) then (0, 0) else K a
def aw_ab (A : aw_A) (u n d i N : Nat) : aw_A := fun f => if f = 0 then am_upd (A 0) n u else if f = 5 then am_upd (A 5) i d else if f = 6 then am_upd (A 6) i N else A f
section
variable {K : aw_K} {A : aw_A} {G Q : am_G} {M : aw_M} {r : am_H} {n F T : Nat}
theorem aw_ba_2 : aw_ba A G 2 = (List.range (A 6 2)).map fun j => if j < aw_n G 24 then Value.ref (A 0 j) else Value.null := rfl
theorem am_mk_24 {p k t : Int32} : am_mk G n p k t 24 0 = Int32.ofNat (n + 1) := by
  unfold am_mk
  simp only [am_up_ne, am_up_eq, am_upd_eq, Nat.reduceEqDiff, not_false_eq_true]
theorem am_mk_25 {p k t : Int32} : am_mk G n p k t 25 0 = G 25 0 + 1 := by
  unfold am_mk
  simp only [am_up_eq, am_upd_eq]
theorem am_mk_ne {p k t : Int32} {f : Nat} (h : ¬ (24 ≤ f ∧ f ≤ 33)) : am_mk G n p k t f = G f := by
  unfold am_mk
  rw [am_up_ne (by omega), am_up_ne (by omega), am_up_ne (by omega), am_up_ne (by omega), am_up_ne (by omega), am_up_ne (by omega), am_up_ne (by omega), am_up_ne (by omega), am_up_ne (by omega), am_up_ne (by omega)]
theorem am_mk_row {p k t : Int32} {f j : Nat} (h : 26 ≤ f ∧ f ≤ 33) (hj : ¬ j = n) : am_mk G n p k t f j = G f j := by
  have : f = 26 ∨ f = 27 ∨ f = 28 ∨ f = 29 ∨ f = 30 ∨ f = 31 ∨ f = 32 ∨ f = 33 := by omega
  unfold am_mk
  rcases this with rfl | rfl | rfl | rfl | rfl | rfl | rfl | rfl <;> simp only [am_up_ne, am_up_eq, am_upd_ne hj, Nat.reduceEqDiff, not_false_eq_true]
theorem am_mk_f0 {p k t : Int32} : am_mk G n p k t 0 = G 0 := am_mk_ne (by decide)
theorem am_mk_f1 {p k t : Int32} : am_mk G n p k t 1 = G 1 := am_mk_ne (by decide)
theorem am_mk_f2 {p k t : Int32} : am_mk G n p k t 2 = G 2 := am_mk_ne (by decide)
theorem am_mk_f3 {p k t : Int32} : am_mk G n p k t 3 = G 3 := am_mk_ne (by decide)
theorem am_mk_f4 {p k t : Int32} : am_mk G n p k t 4 = G 4 := am_mk_ne (by decide)
theorem am_mk_f5 {p k t : Int32} : am_mk G n p k t 5 = G 5 := am_mk_ne (by decide)
theorem am_mk_f6 {p k t : Int32} : am_mk G n p k t 6 = G 6 := am_mk_ne (by decide)
theorem am_mk_f7 {p k t : Int32} : am_mk G n p k t 7 = G 7 := am_mk_ne (by decide)
theorem am_mk_f8 {p k t : Int32} : am_mk G n p k t 8 = G 8 := am_mk_ne (by decide)
theorem am_mk_f9 {p k t : Int32} : am_mk G n p k t 9 = G 9 := am_mk_ne (by decide)
theorem am_mk_f10 {p k t : Int32} : am_mk G n p k t 10 = G 10 := am_mk_ne (by decide)
theorem am_mk_f11 {p k t : Int32} : am_mk G n p k t 11 = G 11 := am_mk_ne (by decide)
theorem am_mk_f12 {p k t : Int32} : am_mk G n p k t 12 = G 12 := am_mk_ne (by decide)
theorem am_mk_f13 {p k t : Int32} : am_mk G n p k t 13 = G 13 := am_mk_ne (by decide)
theorem am_mk_f14 {p k t : Int32} : am_mk G n p k t 14 = G 14 := am_mk_ne (by decide)
theorem am_mk_f15 {p k t : Int32} : am_mk G n p k t 15 = G 15 := am_mk_ne (by decide)
theorem am_mk_f16 {p k t : Int32} : am_mk G n p k t 16 = G 16 := am_mk_ne (by decide)
theorem am_mk_f17 {p k t : Int32} : am_mk G n p k t 17 = G 17 := am_mk_ne (by decide)
theorem am_mk_f18 {p k t : Int32} : am_mk G n p k t 18 = G 18 := am_mk_ne (by decide)
theorem am_mk_f19 {p k t : Int32} : am_mk G n p k t 19 = G 19 := am_mk_ne (by decide)
theorem am_mk_f20 {p k t : Int32} : am_mk G n p k t 20 = G 20 := am_mk_ne (by decide)
theorem am_mk_f21 {p k t : Int32} : am_mk G n p k t 21 = G 21 := am_mk_ne (by decide)
theorem am_mk_f22 {p k t : Int32} : am_mk G n p k t 22 = G 22 := am_mk_ne (by decide)
theorem am_mk_f23 {p k t : Int32} : am_mk G n p k t 23 = G 23 := am_mk_ne (by decide)
theorem am_mk_f34 {p k t : Int32} : am_mk G n p k t 34 = G 34 := am_mk_ne (by decide)
theorem am_mk_f35 {p k t : Int32} : am_mk G n p k t 35 = G 35 := am_mk_ne (by decide)
theorem am_mk_f36 {p k t : Int32} : am_mk G n p k t 36 = G 36 := am_mk_ne (by decide)
theorem am_mk_f37 {p k t : Int32} : am_mk G n p k t 37 = G 37 := am_mk_ne (by decide)
theorem am_mk_f38 {p k t : Int32} : am_mk G n p k t 38 = G 38 := am_mk_ne (by decide)
theorem am_mk_f39 {p k t : Int32} : am_mk G n p k t 39 = G 39 := am_mk_ne (by decide)
theorem am_mk_f40 {p k t : Int32} : am_mk G n p k t 40 = G 40 := am_mk_ne (by decide)
theorem am_mk_f41 {p k t : Int32} : am_mk G n p k t 41 = G 41 := am_mk_ne (by decide)
theorem am_mk_f42 {p k t : Int32} : am_mk G n p k t 42 = G 42 := am_mk_ne (by decide)
theorem am_mk_f43 {p k t : Int32} : am_mk G n p k t 43 = G 43 := am_mk_ne (by decide)
theorem am_mk_f44 {p k t : Int32} : am_mk G n p k t 44 = G 44 := am_mk_ne (by decide)
theorem am_mk_f45 {p k t : Int32} : am_mk G n p k t 45 = G 45 := am_mk_ne (by decide)
theorem am_mk_f46 {p k t : Int32} : am_mk G n p k t 46 = G 46 := am_mk_ne (by decide)
theorem am_mk_f47 {p k t : Int32} : am_mk G n p k t 47 = G 47 := am_mk_ne (by decide)
theorem am_mk_f48 {p k t : Int32} : am_mk G n p k t 48 = G 48 := am_mk_ne (by decide)
theorem am_mk_f49 {p k t : Int32} : am_mk G n p k t 49 = G 49 := am_mk_ne (by decide)
theorem am_mk_f50 {p k t : Int32} : am_mk G n p k t 50 = G 50 := am_mk_ne (by decide)
theorem am_mk_f51 {p k t : Int32} : am_mk G n p k t 51 = G 51 := am_mk_ne (by decide)
theorem am_mk_f52 {p k t : Int32} : am_mk G n p k t 52 = G 52 := am_mk_ne (by decide)
/-- the new unit's values -/
def aw_nu (num k t : Int32) (p : Nat) : List Value := [.int num, .ref p, .int k, .int t, .int 10, .int (am_mv k), .int 0, .int 0]
theorem aw_un_mk {p k t : Int32} : aw_un (am_mk G n p k t) n = aw_nu (G 25 0) k t (aw_pa p) := by
  unfold aw_un am_mk aw_nu
  simp only [am_up_ne, am_up_eq, am_upd_eq, Nat.reduceEqDiff, not_false_eq_true]
theorem aw_ab_6 {u d i N : Nat} : aw_ab A u n d i N 6 i = N := (show am_upd (A 6) i N i = N from am_upd_eq)
theorem aw_addu (hW : aw_W K A G n F T) (hN : aw_N K r) (hS : aw_S r) (hn : n < 40) {p k t : Int32} {h' : am_H} (had : aw_ad (aw_H K A (am_up G 25 0 (G 25 0 + 1)) Q M (am_new r (9, aw_nu (G 25 0) k t (aw_pa p)) 8)) h' 23 (A 5 2) n r.2.1 (Q 3 2) (aw_ba A G 2)) : ∃ K' A' r', h' = aw_H K' A' (am_mk G n p k t) (am_up Q 3 2 (Q 3 2 + 1)) M r' ∧ aw_W K' A' (am_mk G n p k t) (n + 1) F T ∧ aw_R r r' 2 300 ∧ aw_N K' r' ∧ (∀ f, ¬ f = 0 → ¬ f = 5 → ¬ f = 6 → A' f = A f) ∧ (∀ j, j < n → A' 0 j = A 0 j) ∧ A' 0 n = r.2.1 := by
  obtain ⟨d', vs', a1, a2, a3, a4, a5, a6, a7, a8, a9⟩ := had
  have hV := hW.V
  have hn9 := hW.n9
  obtain ⟨y1, y2, y3⟩ := hW.b (i := 2) (by decide)
  rw [hW.szU] at y1
  have hvl : (aw_ba A G 2).length = A 6 2 := by
    rw [aw_ba_2, List.length_map, List.length_range]
  rw [hvl] at a4 a9
  have hvs : ∀ j, j < n → (aw_ba A G 2)[j]? = some (.ref (A 0 j)) := fun j hj => by
    rw [aw_ba_2, aw_mapget (by omega), aw_ne hW.hn hn9, if_pos hj]
  have h88 := hN.1
  have hnew0 : ∀ a, r.2.1 ≤ a → K a = (0, 0) := hN.2
  have huK := hnew0 r.2.1 (Nat.le_refl _)
  have hs2 : (aw_H K A (am_up G 25 0 (G 25 0 + 1)) Q M (am_new r (9, aw_nu (G 25 0) k t (aw_pa p)) 8)).2 = (r.2.1 + 1, r.2.2 + 8) := rfl
  rw [hs2] at a9
  -- what is known of the row's address
  have hd' : ¬ aw_fa d' ∧ ¬ d' = r.2.1 ∧ (K d' = (6, 2) ∨ K d' = (0, 0)) ∧ 12 ≤ d' ∧ d' < h'.2.1 ∧ (∀ b, K b = (6, 2) → ¬ b = d' → r.2.1 < d') ∧ r.2.1 + 1 ≤ h'.2.1 ∧ h'.2.1 ≤ r.2.1 + 2 ∧ h'.2.2 ≤ r.2.2 + 300 := by
    rcases a9 with ⟨e1, e2, e3⟩ | ⟨e1, e2, e3⟩
    · subst e1
      have hB : K (A 5 2) = (6, 2) := by
        rcases y3 with y3 | y3
        · omega
        · exact y3.2
      have h1 : 1 ≤ (K (A 5 2)).1 := by rw [hB]; exact Nat.le_of_ble_eq_true rfl
      have h2 := hN.lt h1
      have h3 := hV.1 _ h1
      rw [e3]
      exact ⟨h3, by omega, Or.inl hB, by unfold aw_fa at h3; omega, by show A 5 2 < r.2.1 + 1; omega, fun b hb hne => absurd (hV.2.1 _ _ h1 (hb.trans hB.symm)) hne, Nat.le_refl _, by show r.2.1 + 1 ≤ r.2.1 + 2; omega, by show r.2.2 + 8 ≤ r.2.2 + 300; omega⟩
    · have e1 : d' = r.2.1 + 1 := e1
      subst e1
      rw [e3]
      exact ⟨by unfold aw_fa; omega, by omega, Or.inr (hnew0 _ (by omega)), by omega, by show r.2.1 + 1 < r.2.1 + 1 + 1; omega, fun b _ _ => by omega, by show r.2.1 + 1 ≤ r.2.1 + 1 + 1; omega, by show r.2.1 + 1 + 1 ≤ r.2.1 + 2; omega, by show r.2.2 + 8 + vs'.length ≤ r.2.2 + 300; omega⟩
  obtain ⟨g1, g2, g3, g4, g5, g6, g7, g8, g9⟩ := hd'
  have huf : ¬ aw_fa r.2.1 := by unfold aw_fa; omega
  -- the new map of addresses
  have kU : aw_kb K r.2.1 n d' 2 r.2.1 = (1, n) := if_pos rfl
  have kD : aw_kb K r.2.1 n d' 2 d' = (6, 2) := by
    unfold aw_kb
    rw [if_neg g2, if_pos rfl]
  have kO : ∀ {b}, 1 ≤ (K b).1 → ¬ K b = (6, 2) → aw_kb K r.2.1 n d' 2 b = K b := fun {b} hb h6 => by
    unfold aw_kb
    rw [if_neg (fun e => by rw [e, huK] at hb; exact absurd hb (by decide)), if_neg (fun e => by
      subst e
      rcases g3 with g3 | g3
      · exact h6 g3
      · rw [g3] at hb; exact absurd hb (by decide)), if_neg h6]
  have kI : ∀ {b}, 1 ≤ (aw_kb K r.2.1 n d' 2 b).1 → b = r.2.1 ∨ b = d' ∨ (¬ b = r.2.1 ∧ ¬ b = d' ∧ ¬ K b = (6, 2) ∧ aw_kb K r.2.1 n d' 2 b = K b ∧ 1 ≤ (K b).1) := fun {b} hb => by
    by_cases e1 : b = r.2.1
    · exact Or.inl e1
    by_cases e2 : b = d'
    · exact Or.inr (Or.inl e2)
    have e3 : aw_kb K r.2.1 n d' 2 b = if K b = (6, 2) then (0, 0) else K b := by
      unfold aw_kb
      rw [if_neg e1, if_neg e2]
    by_cases e4 : K b = (6, 2)
    · rw [e3, if_pos e4] at hb; exact absurd hb (by decide)
    · rw [if_neg e4] at e3
      exact Or.inr (Or.inr ⟨e1, e2, e4, e3, by rw [e3] at hb; exact hb⟩)
  have hWn : aw_W (aw_kb K r.2.1 n d' 2) (aw_ab A r.2.1 n d' 2 vs'.length) (am_mk G n p k t) (n + 1) F T := by
    obtain ⟨⟨v1, v2, v3, v4⟩, ⟨-, hn40⟩, ⟨hF, hF12⟩, ⟨hT, hT40⟩, ⟨u1, u2⟩, ⟨c1, c2⟩, ⟨t1, t2⟩, ⟨o1, o2⟩, ⟨b1, b2⟩, hl⟩ := hW
    have ne : ∀ {a q}, K a = q → 1 ≤ q.1 → ¬ q.1 = 6 → aw_kb K r.2.1 n d' 2 a = q := fun {a q} e h h6 => by rw [kO (by rw [e]; exact h) (by rw [e]; exact fun z => h6 (by rw [z])), e]
    refine ⟨⟨?_, ?_, ⟨ne v3.1 (by decide) (by decide), ne v3.2.1 (by decide) (by decide), ne v3.2.2.1 (by decide) (by decide), ne v3.2.2.2 (by decide) (by decide)⟩, ⟨ne v4.1 (by decide) (by decide), ne v4.2.1 (by decide) (by decide), ne v4.2.2.1 (by decide) (by decide), ne v4.2.2.2 (by decide) (by decide)⟩⟩, ⟨am_mk_24, by omega⟩, ⟨by rw [am_mk_f6]; exact hF, hF12⟩, ⟨by rw [am_mk_f45]; exact hT, hT40⟩, ⟨?_, ?_⟩, ⟨?_, ?_⟩, ⟨?_, ?_⟩, ⟨?_, ?_⟩, ⟨?_, ?_⟩, ?_⟩
    · intro a h
      rcases kI h with rfl | rfl | ⟨-, -, -, -, h5⟩
      · exact huf
      · exact g1
      · exact v1 a h5
    · intro a b h e
      have hb : 1 ≤ (aw_kb K r.2.1 n d' 2 b).1 := by rw [e]; exact h
      have nu : ∀ {x}, 1 ≤ (K x).1 → ¬ K x = (1, n) := fun {x} _ q => by
        have := u2 x (by rw [q]); rw [q] at this; exact absurd this (Nat.lt_irrefl n)
      rcases kI h with rfl | rfl | ⟨-, -, x3, x4, x5⟩ <;> rcases kI hb with rfl | rfl | ⟨-, -, z3, z4, z5⟩
      · rfl
      · rw [kU, kD] at e; cases e
      · rw [kU, z4] at e; exact absurd e (nu z5)
      · rw [kU, kD] at e; cases e
      · rfl
      · rw [kD, z4] at e; exact absurd e z3
      · rw [kU, x4] at e; exact absurd e.symm (nu x5)
      · rw [kD, x4] at e; exact absurd e.symm x3
      · rw [x4, z4] at e; exact v2 a b x5 e
    · intro j hj
      by_cases e : j = n
      · subst e
        show aw_kb K r.2.1 j d' 2 (am_upd (A 0) j r.2.1 j) = (1, j)
        rw [am_upd_eq, kU]
      · show aw_kb K r.2.1 n d' 2 (am_upd (A 0) n r.2.1 j) = (1, j)
        rw [am_upd_ne e]
        exact ne (u1 j (by omega)) (Nat.le_refl 1) (by show ¬ 1 = 6; decide)
    · intro a h
      rcases kI (by omega : 1 ≤ (aw_kb K r.2.1 n d' 2 a).1) with rfl | rfl | ⟨-, -, -, x4, x5⟩
      · rw [kU]; exact Nat.lt_succ_self n
      · rw [kD] at h; exact absurd h (by decide)
      · rw [x4] at h ⊢; exact Nat.lt_succ_of_lt (u2 a h)
    · intro c hc
      exact ⟨ne (c1 c hc).1 (by show 1 ≤ 2; decide) (by show ¬ 2 = 6; decide), ne (c1 c hc).2 (by show 1 ≤ 3; decide) (by show ¬ 3 = 6; decide)⟩
    · intro a h
      rcases kI (by omega : 1 ≤ (aw_kb K r.2.1 n d' 2 a).1) with rfl | rfl | ⟨-, -, -, x4, x5⟩
      · rw [kU] at h; exact absurd h (by show ¬ (1 = 2 ∨ 1 = 3); decide)
      · rw [kD] at h; exact absurd h (by decide)
      · rw [x4] at h ⊢; exact c2 a h
    · intro j hj
      exact ne (t1 j hj) (by show 1 ≤ 4; decide) (by show ¬ 4 = 6; decide)
    · intro a h
      rcases kI (by omega : 1 ≤ (aw_kb K r.2.1 n d' 2 a).1) with rfl | rfl | ⟨-, -, -, x4, x5⟩
      · rw [kU] at h; exact absurd h (by show ¬ 1 = 4; decide)
      · rw [kD] at h; exact absurd h (by decide)
      · rw [x4] at h ⊢; exact t2 a h
    · intro j hj h0
      rw [am_mk_f42] at h0
      exact ne (o1 j hj h0) (by show 1 ≤ 5; decide) (by show ¬ 5 = 6; decide)
    · intro a h
      rw [am_mk_f42]
      rcases kI (by omega : 1 ≤ (aw_kb K r.2.1 n d' 2 a).1) with rfl | rfl | ⟨-, -, -, x4, x5⟩
      · rw [kU] at h; exact absurd h (by show ¬ 1 = 5; decide)
      · rw [kD] at h; exact absurd h (by decide)
      · rw [x4] at h ⊢; exact o2 a h
    · intro x hx
      obtain ⟨z1, z2, z3⟩ := b1 x hx
      have : x = 0 ∨ x = 1 ∨ x = 2 := by omega
      rcases this with rfl | rfl | rfl
      · rw [aw_sz_0] at z1 ⊢
        unfold aw_n at z1 ⊢
        rw [am_mk_f45]
        refine ⟨z1, z2, ?_⟩
        rcases z3 with z3 | z3
        · exact Or.inl z3
        · exact Or.inr ⟨z3.1, by rw [show aw_ab A r.2.1 n d' 2 vs'.length 5 0 = A 5 0 from rfl, kO (by rw [z3.2]; exact Nat.le_of_ble_eq_true rfl) (by rw [z3.2]; exact fun z => absurd (congrArg Prod.snd z) (by decide)), z3.2]⟩
      · rw [aw_sz_1] at z1 ⊢
        refine ⟨z1, z2, ?_⟩
        rcases z3 with z3 | z3
        · exact Or.inl z3
        · exact Or.inr ⟨z3.1, by rw [show aw_ab A r.2.1 n d' 2 vs'.length 5 1 = A 5 1 from rfl, kO (by rw [z3.2]; exact Nat.le_of_ble_eq_true rfl) (by rw [z3.2]; exact fun z => absurd (congrArg Prod.snd z) (by decide)), z3.2]⟩
      · rw [aw_sz_2, aw_ne am_mk_24 (by omega)]
        refine ⟨a3, ?_, Or.inr ⟨?_, kD⟩⟩
        · show vs'.length ≤ 100
          rcases a9 with ⟨e1, e2, e3⟩ | ⟨e1, e2, e3⟩
          · omega
          · omega
        · show ¬ vs'.length = 0
          omega
    · intro a h
      rcases kI (by omega : 1 ≤ (aw_kb K r.2.1 n d' 2 a).1) with rfl | rfl | ⟨-, -, x3, x4, x5⟩
      · rw [kU] at h; exact absurd h (by show ¬ 1 = 6; decide)
      · rw [kD]
        refine ⟨by decide, ?_⟩
        show ¬ vs'.length = 0
        omega
      · rw [x4] at h ⊢
        have := b2 a h
        have h2 : ¬ (K a).2 = 2 := fun z => x3 (aw_eta h z)
        have h3 : aw_ab A r.2.1 n d' 2 vs'.length 6 (K a).2 = A 6 (K a).2 := am_upd_ne h2
        rw [h3]
        exact this
    · unfold aw_lc at hl ⊢
      rw [am_mk_f7]
      exact hl
  refine ⟨aw_kb K r.2.1 n d' 2, aw_ab A r.2.1 n d' 2 vs'.length, h', ?_, hWn, ⟨?_, by omega, by omega, g9⟩, ⟨by omega, ?_⟩, ?_, ?_, ?_⟩
  · refine (aw_self (fun b c hb => ?_) (fun b c hb hd => ?_)).symm
    · have hf := aw_fx_some hb
      by_cases e : b = 23
      · subst e
        rw [a1, ← hb]
        unfold aw_fx
        simp only [if_neg (show ¬ 23 = 12 by decide), if_neg (show ¬ 23 = 13 by decide), if_neg (show ¬ 23 = 14 by decide), if_neg (show ¬ 23 = 15 by decide), if_neg (show ¬ 23 = 16 by decide), if_neg (show ¬ 23 = 17 by decide), if_neg (show ¬ 23 = 18 by decide), if_neg (show ¬ 23 = 19 by decide), if_neg (show ¬ 23 = 20 by decide), if_neg (show ¬ 23 = 21 by decide), if_neg (show ¬ 23 = 22 by decide), if_true, am_mk_24, am_up_eq, am_upd_eq]
        rfl
      · have e9 : aw_fx (aw_ab A r.2.1 n d' 2 vs'.length) (am_mk G n p k t) (am_up Q 3 2 (Q 3 2 + 1)) M b = aw_fx A (am_up G 25 0 (G 25 0 + 1)) Q M b := by
          unfold aw_fx aw_os
          simp only [if_neg e, am_up_eq, am_upd_eq, am_up_ne, Nat.reduceEqDiff, not_false_eq_true, am_mk_25, am_mk_f0, am_mk_f1, am_mk_f2, am_mk_f3, am_mk_f4, am_mk_f5, am_mk_f6, am_mk_f7, am_mk_f8, am_mk_f9, am_mk_f10, am_mk_f11, am_mk_f12, am_mk_f13, am_mk_f14, am_mk_f15, am_mk_f16, am_mk_f17, am_mk_f18, am_mk_f19, am_mk_f20, am_mk_f21, am_mk_f22, am_mk_f23, am_mk_f34, am_mk_f35, am_mk_f36, am_mk_f37, am_mk_f38, am_mk_f39, am_mk_f40, am_mk_f41, am_mk_f42, am_mk_f43, am_mk_f44, am_mk_f45, am_mk_f46, am_mk_f47, am_mk_f48, am_mk_f49, am_mk_f50, am_mk_f51, am_mk_f52]
          rfl
        rw [e9] at hb
        rw [a8 b e (fun q => g1 (by rw [← q]; exact hf))]
        exact aw_fix hb
    · have h1 : 1 ≤ (aw_kb K r.2.1 n d' 2 b).1 := by
        rcases Nat.lt_or_ge (aw_kb K r.2.1 n d' 2 b).1 1 with e | e
        · unfold aw_dy at hd
          rw [show (aw_kb K r.2.1 n d' 2 b).1 = 0 by omega] at hd
          cases hd
        · exact e
      have hb23 : ¬ b = 23 := fun e => by
        rw [e] at hb
        cases hb
      rcases kI h1 with rfl | rfl | ⟨x1, x2, x3, x4, x5⟩
      · rw [kU, aw_dy1 rfl, aw_un_mk] at hd
        rw [a8 _ hb23 (fun e => g2 e.symm), ← hd, aw_rest huf (by rw [huK])]
        exact aw_newa
      · rw [kD, aw_dy6 rfl] at hd
        rw [a2, ← hd]
        refine congrArg (fun z => some (53, z)) ?_
        rw [aw_ba_2, aw_ne am_mk_24 (by omega)]
        refine List.ext_getElem? fun j => ?_
        rcases Nat.lt_or_ge j vs'.length with q | q
        · rw [aw_ab_6, aw_mapget q]
          rcases Nat.lt_trichotomy j n with z | z | z
          · rw [a5 j z, hvs j z, if_pos (by omega)]
            exact congrArg (fun z => some (Value.ref z)) (am_upd_ne (by omega)).symm
          · subst z
            rw [a6, if_pos (by omega)]
            exact congrArg (fun z => some (Value.ref z)) am_upd_eq.symm
          · rw [a7 j z q, if_neg (by omega)]
        · rw [List.getElem?_eq_none (by omega), List.getElem?_eq_none (by rw [List.length_map, List.length_range, aw_ab_6]; exact q)]
      · rw [x4] at hd
        rw [a8 b hb23 x2]
        have e9 : aw_dy (aw_ab A r.2.1 n d' 2 vs'.length) (am_mk G n p k t) (am_up Q 3 2 (Q 3 2 + 1)) M (K b) = aw_dy A (am_up G 25 0 (G 25 0 + 1)) Q M (K b) := by
          by_cases c1 : (K b).1 = 1
          · have c2 : ¬ (K b).2 = n := Nat.ne_of_lt (hW.u' c1)
            rw [aw_dy1 c1, aw_dy1 c1]
            unfold aw_un
            rw [am_mk_row (by decide) c2, am_mk_row (by decide) c2, am_mk_row (by decide) c2, am_mk_row (by decide) c2, am_mk_row (by decide) c2, am_mk_row (by decide) c2, am_mk_row (by decide) c2, am_mk_row (by decide) c2]
            simp only [am_up_ne, Nat.reduceEqDiff, not_false_eq_true]
          · by_cases c6 : (K b).1 = 6
            · rw [aw_dy6 c6, aw_dy6 c6]
              have h7 := (hW.b' c6).1
              have h8 : ¬ (K b).2 = 2 := fun z => x3 (aw_eta c6 z)
              have : (K b).2 = 0 ∨ (K b).2 = 1 := by omega
              rcases this with z | z
              · rw [z, aw_ba_0, aw_ba_0]
                unfold aw_n
                rw [am_mk_f45, am_up_ne (by decide)]
                rfl
              · rw [z, aw_ba_1, aw_ba_1]
                rfl
            · unfold aw_dy aw_cc aw_wo aw_tr aw_of aw_pl aw_le
              simp only [if_neg c1, if_neg c6, am_up_ne, Nat.reduceEqDiff, not_false_eq_true, am_mk_f0, am_mk_f1, am_mk_f2, am_mk_f3, am_mk_f4, am_mk_f5, am_mk_f6, am_mk_f7, am_mk_f8, am_mk_f9, am_mk_f10, am_mk_f11, am_mk_f12, am_mk_f13, am_mk_f14, am_mk_f15, am_mk_f16, am_mk_f17, am_mk_f18, am_mk_f19, am_mk_f20, am_mk_f21, am_mk_f22, am_mk_f23, am_mk_f34, am_mk_f35, am_mk_f36, am_mk_f37, am_mk_f38, am_mk_f39, am_mk_f40, am_mk_f41, am_mk_f42, am_mk_f43, am_mk_f44, am_mk_f45, am_mk_f46, am_mk_f47, am_mk_f48, am_mk_f49, am_mk_f50, am_mk_f51, am_mk_f52]
              rfl
        rw [e9] at hd
        exact aw_dyn hV x5 hd
  · intro x hx
    have hx1 : ¬ x = 23 := by omega
    have hx2 : ¬ x = d' := fun e => by
      rcases hx with hx | hx
      · omega
      · exact g1 (by rw [← e]; exact Or.inr (Or.inr (by omega)))
    rw [a8 x hx1 hx2]
    have hx3 : (K x).1 = 0 := by
      rcases Nat.lt_or_ge (K x).1 1 with z | z
      · omega
      · exact absurd (show aw_fa x by unfold aw_fa; omega) (hV.1 x z)
    have hx4 : aw_fx A (am_up G 25 0 (G 25 0 + 1)) Q M x = none := by
      unfold aw_fx
      repeat rw [if_neg (by omega)]
    show (aw_fx A (am_up G 25 0 (G 25 0 + 1)) Q M x).or ((aw_dy A (am_up G 25 0 (G 25 0 + 1)) Q M (K x)).or ((am_new r (9, aw_nu (G 25 0) k t (aw_pa p)) 8).1 x)) = r.1 x
    rw [hx4]
    unfold aw_dy
    rw [hx3]
    exact aw_newn (by omega)
  · intro a ha
    have e1 : ¬ a = r.2.1 := by omega
    have e2 : ¬ a = d' := by omega
    show aw_kb K r.2.1 n d' 2 a = (0, 0)
    unfold aw_kb
    rw [if_neg e1, if_neg e2, hnew0 a (by omega)]
    rfl
  · intro f h0 h5 h6
    show (if f = 0 then _ else if f = 5 then _ else if f = 6 then _ else A f) = A f
    rw [if_neg h0, if_neg h5, if_neg h6]
  · intro j hj
    show am_upd (A 0) n r.2.1 j = A 0 j
    exact am_upd_ne (by omega)
  · show am_upd (A 0) n r.2.1 n = r.2.1
    exact am_upd_eq
end
