/-! A UNIT IS TAKEN OUT OF THE LIST -/
theorem am_down {α : Type} (f : Nat → α) (a : Nat) : ∀ b, a ≤ b → (∀ k, a ≤ k → k < b → f (k + 1) = f k) → f b = f a := by
  intro b hb
  induction b with
  | zero => intro _; rw [show a = 0 by omega]
  | succ b ih =>
    intro h
    rcases Nat.eq_or_lt_of_le hb with e | e
    · rw [e]
    · rw [h b (by omega) (by omega)]
      exact ih (by omega) fun k h1 h2 => h k h1 (by omega)
def aw_ku (K : aw_K) (i : Nat) : aw_K := fun a => if (K a).1 = 1 then if (K a).2 = i then (0, 0) else if i < (K a).2 then (1, (K a).2 - 1) else K a else K a
def aw_au (A : aw_A) (i : Nat) : aw_A := fun f => if f = 0 then fun j => if j < i then A 0 j else A 0 (j + 1) else A f
theorem am_upup {G : am_G} {a k : Nat} {v w : Int32} : am_up (am_up G a k v) a k w = am_up G a k w := by
  funext b
  by_cases e : b = a
  · subst e
    rw [am_up_eq, am_up_eq, am_up_eq]
    funext j
    by_cases e2 : j = k
    · subst e2; rw [am_upd_eq, am_upd_eq]
    · rw [am_upd_ne e2, am_upd_ne e2, am_upd_ne e2]
  · rw [am_up_ne e, am_up_ne e, am_up_ne e]
theorem am_dr_row {G : am_G} {n i f j : Nat} (hf : 26 ≤ f ∧ f ≤ 33) : am_dr G n i f j = if i ≤ j ∧ j < n - 1 then G f (j + 1) else G f j := by
  unfold am_dr am_sh8
  rw [if_pos hf, am_up_ne (show ¬ f = 24 by omega)]
theorem am_dr_ne {G : am_G} {n i f : Nat} (hf : ¬ (26 ≤ f ∧ f ≤ 33)) (h24 : ¬ f = 24) : am_dr G n i f = G f := by
  unfold am_dr am_sh8
  rw [if_neg hf, am_up_ne h24]
theorem am_dr_f0 {G : am_G} {n i : Nat} : am_dr G n i 0 = G 0 := am_dr_ne (by decide) (by decide)
theorem am_dr_f1 {G : am_G} {n i : Nat} : am_dr G n i 1 = G 1 := am_dr_ne (by decide) (by decide)
theorem am_dr_f2 {G : am_G} {n i : Nat} : am_dr G n i 2 = G 2 := am_dr_ne (by decide) (by decide)
theorem am_dr_f3 {G : am_G} {n i : Nat} : am_dr G n i 3 = G 3 := am_dr_ne (by decide) (by decide)
theorem am_dr_f4 {G : am_G} {n i : Nat} : am_dr G n i 4 = G 4 := am_dr_ne (by decide) (by decide)
theorem am_dr_f5 {G : am_G} {n i : Nat} : am_dr G n i 5 = G 5 := am_dr_ne (by decide) (by decide)
theorem am_dr_f6 {G : am_G} {n i : Nat} : am_dr G n i 6 = G 6 := am_dr_ne (by decide) (by decide)
theorem am_dr_f7 {G : am_G} {n i : Nat} : am_dr G n i 7 = G 7 := am_dr_ne (by decide) (by decide)
theorem am_dr_f8 {G : am_G} {n i : Nat} : am_dr G n i 8 = G 8 := am_dr_ne (by decide) (by decide)
theorem am_dr_f9 {G : am_G} {n i : Nat} : am_dr G n i 9 = G 9 := am_dr_ne (by decide) (by decide)
theorem am_dr_f10 {G : am_G} {n i : Nat} : am_dr G n i 10 = G 10 := am_dr_ne (by decide) (by decide)
theorem am_dr_f11 {G : am_G} {n i : Nat} : am_dr G n i 11 = G 11 := am_dr_ne (by decide) (by decide)
theorem am_dr_f12 {G : am_G} {n i : Nat} : am_dr G n i 12 = G 12 := am_dr_ne (by decide) (by decide)
theorem am_dr_f13 {G : am_G} {n i : Nat} : am_dr G n i 13 = G 13 := am_dr_ne (by decide) (by decide)
theorem am_dr_f14 {G : am_G} {n i : Nat} : am_dr G n i 14 = G 14 := am_dr_ne (by decide) (by decide)
theorem am_dr_f15 {G : am_G} {n i : Nat} : am_dr G n i 15 = G 15 := am_dr_ne (by decide) (by decide)
theorem am_dr_f16 {G : am_G} {n i : Nat} : am_dr G n i 16 = G 16 := am_dr_ne (by decide) (by decide)
theorem am_dr_f17 {G : am_G} {n i : Nat} : am_dr G n i 17 = G 17 := am_dr_ne (by decide) (by decide)
theorem am_dr_f18 {G : am_G} {n i : Nat} : am_dr G n i 18 = G 18 := am_dr_ne (by decide) (by decide)
theorem am_dr_f19 {G : am_G} {n i : Nat} : am_dr G n i 19 = G 19 := am_dr_ne (by decide) (by decide)
theorem am_dr_f20 {G : am_G} {n i : Nat} : am_dr G n i 20 = G 20 := am_dr_ne (by decide) (by decide)
theorem am_dr_f21 {G : am_G} {n i : Nat} : am_dr G n i 21 = G 21 := am_dr_ne (by decide) (by decide)
theorem am_dr_f22 {G : am_G} {n i : Nat} : am_dr G n i 22 = G 22 := am_dr_ne (by decide) (by decide)
theorem am_dr_f23 {G : am_G} {n i : Nat} : am_dr G n i 23 = G 23 := am_dr_ne (by decide) (by decide)
theorem am_dr_f25 {G : am_G} {n i : Nat} : am_dr G n i 25 = G 25 := am_dr_ne (by decide) (by decide)
theorem am_dr_f34 {G : am_G} {n i : Nat} : am_dr G n i 34 = G 34 := am_dr_ne (by decide) (by decide)
theorem am_dr_f35 {G : am_G} {n i : Nat} : am_dr G n i 35 = G 35 := am_dr_ne (by decide) (by decide)
theorem am_dr_f36 {G : am_G} {n i : Nat} : am_dr G n i 36 = G 36 := am_dr_ne (by decide) (by decide)
theorem am_dr_f37 {G : am_G} {n i : Nat} : am_dr G n i 37 = G 37 := am_dr_ne (by decide) (by decide)
theorem am_dr_f38 {G : am_G} {n i : Nat} : am_dr G n i 38 = G 38 := am_dr_ne (by decide) (by decide)
theorem am_dr_f39 {G : am_G} {n i : Nat} : am_dr G n i 39 = G 39 := am_dr_ne (by decide) (by decide)
theorem am_dr_f40 {G : am_G} {n i : Nat} : am_dr G n i 40 = G 40 := am_dr_ne (by decide) (by decide)
theorem am_dr_f41 {G : am_G} {n i : Nat} : am_dr G n i 41 = G 41 := am_dr_ne (by decide) (by decide)
theorem am_dr_f42 {G : am_G} {n i : Nat} : am_dr G n i 42 = G 42 := am_dr_ne (by decide) (by decide)
theorem am_dr_f43 {G : am_G} {n i : Nat} : am_dr G n i 43 = G 43 := am_dr_ne (by decide) (by decide)
theorem am_dr_f44 {G : am_G} {n i : Nat} : am_dr G n i 44 = G 44 := am_dr_ne (by decide) (by decide)
theorem am_dr_f45 {G : am_G} {n i : Nat} : am_dr G n i 45 = G 45 := am_dr_ne (by decide) (by decide)
theorem am_dr_f46 {G : am_G} {n i : Nat} : am_dr G n i 46 = G 46 := am_dr_ne (by decide) (by decide)
theorem am_dr_f47 {G : am_G} {n i : Nat} : am_dr G n i 47 = G 47 := am_dr_ne (by decide) (by decide)
theorem am_dr_f48 {G : am_G} {n i : Nat} : am_dr G n i 48 = G 48 := am_dr_ne (by decide) (by decide)
theorem am_dr_f49 {G : am_G} {n i : Nat} : am_dr G n i 49 = G 49 := am_dr_ne (by decide) (by decide)
theorem am_dr_f50 {G : am_G} {n i : Nat} : am_dr G n i 50 = G 50 := am_dr_ne (by decide) (by decide)
theorem am_dr_f51 {G : am_G} {n i : Nat} : am_dr G n i 51 = G 51 := am_dr_ne (by decide) (by decide)
theorem am_dr_f52 {G : am_G} {n i : Nat} : am_dr G n i 52 = G 52 := am_dr_ne (by decide) (by decide)
theorem am_dr_24 {G : am_G} {n i : Nat} : am_dr G n i 24 0 = Int32.ofNat (n - 1) := by
  unfold am_dr am_sh8
  rw [if_neg (by omega), am_up_eq, am_upd_eq]
section
variable {K : aw_K} {A : aw_A} {G Q : am_G} {M : aw_M} {r : am_H} {n F T : Nat}
theorem aw_sz_0 : aw_sz A G 0 = aw_n G 45 := if_pos (Eq.refl 0)
theorem aw_sz_1 : aw_sz A G 1 = A 8 0 := (if_neg (by decide)).trans (if_pos (Eq.refl 1))
theorem aw_sz_2 : aw_sz A G 2 = aw_n G 24 := (if_neg (by decide)).trans (if_neg (by decide))
theorem aw_ku_ne {i a : Nat} (h : ¬ (K a).1 = 1) : aw_ku K i a = K a := if_neg h
theorem aw_ku_eq {i a : Nat} (h : (K a).1 = 1) (h2 : (K a).2 = i) : aw_ku K i a = (0, 0) := by
  unfold aw_ku
  rw [if_pos h, if_pos h2]
theorem aw_ku_gt {i a : Nat} (h : (K a).1 = 1) (h2 : i < (K a).2) : aw_ku K i a = (1, (K a).2 - 1) := by
  unfold aw_ku
  rw [if_pos h, if_neg (by omega), if_pos h2]
theorem aw_ku_lt {i a : Nat} (h : (K a).1 = 1) (h2 : (K a).2 < i) : aw_ku K i a = K a := by
  unfold aw_ku
  rw [if_pos h, if_neg (by omega), if_neg (by omega)]
theorem aw_ku_le {i a : Nat} : (aw_ku K i a).1 ≤ (K a).1 := by
  unfold aw_ku
  split
  · next h => split
              · omega
              · split
                · rw [h]; exact Nat.le_refl 1
                · exact Nat.le_refl _
  · exact Nat.le_refl _
/-- the code of an address that is not gone -/
theorem aw_ku_1 {i a : Nat} (h : 1 ≤ (aw_ku K i a).1) : (aw_ku K i a).1 = (K a).1 := by
  by_cases h1 : (K a).1 = 1
  · rcases Nat.lt_trichotomy (K a).2 i with h2 | h2 | h2
    · rw [aw_ku_lt h1 h2]
    · rw [aw_ku_eq h1 h2] at h; exact absurd h (by decide)
    · rw [aw_ku_gt h1 h2, h1]
  · rw [aw_ku_ne h1]
theorem aw_W.ku (hW : aw_W K A G n F T) {i : Nat} (hi : i < n) : aw_W (aw_ku K i) (aw_au A i) (am_dr G n i) (n - 1) F T := by
  obtain ⟨⟨v1, v2, v3, v4⟩, ⟨hn, hn40⟩, ⟨hF, hF12⟩, ⟨hT, hT40⟩, ⟨u1, u2⟩, ⟨c1, c2⟩, ⟨t1, t2⟩, ⟨o1, o2⟩, ⟨b1, b2⟩, hl⟩ := hW
  have ne : ∀ {a q}, K a = q → ¬ q.1 = 1 → aw_ku K i a = q := fun {a q} e h => by rw [aw_ku_ne (by rw [e]; exact h), e]
  refine ⟨⟨fun a h => v1 a (by have := aw_ku_le (K := K) (i := i) (a := a); omega), ?_, ⟨ne v3.1 (by decide), ne v3.2.1 (by decide), ne v3.2.2.1 (by decide), ne v3.2.2.2 (by decide)⟩, ⟨ne v4.1 (by decide), ne v4.2.1 (by decide), ne v4.2.2.1 (by decide), ne v4.2.2.2 (by decide)⟩⟩, ⟨am_dr_24, by omega⟩, ⟨by rw [am_dr_f6]; exact hF, hF12⟩, ⟨by rw [am_dr_f45]; exact hT, hT40⟩, ⟨?_, ?_⟩, ⟨?_, ?_⟩, ⟨?_, ?_⟩, ⟨?_, ?_⟩, ⟨?_, ?_⟩, ?_⟩
  · -- no two addresses alike
    intro a b h e
    have ha := aw_ku_1 h
    have hb : (aw_ku K i b).1 = (K b).1 := aw_ku_1 (by rw [e]; exact h)
    by_cases h1 : (K a).1 = 1
    · have h2 : (K b).1 = 1 := by rw [← hb, e, ha, h1]
      have g : ∀ {x}, (K x).1 = 1 → 1 ≤ (aw_ku K i x).1 → ¬ (K x).2 = i := fun {x} hx h9 q => by rw [aw_ku_eq hx q] at h9; exact absurd h9 (by decide)
      have ga := g h1 h
      have gb := g h2 (by rw [e]; exact h)
      have e2 := congrArg Prod.snd e
      have e3 : (K b).2 = (K a).2 := by
        rcases Nat.lt_or_gt_of_ne ga with x | x <;> rcases Nat.lt_or_gt_of_ne gb with y | y
        · rw [aw_ku_lt h1 x, aw_ku_lt h2 y] at e2; exact e2
        · rw [aw_ku_lt h1 x, aw_ku_gt h2 y] at e2; dsimp only at e2; omega
        · rw [aw_ku_gt h1 x, aw_ku_lt h2 y] at e2; dsimp only at e2; omega
        · rw [aw_ku_gt h1 x, aw_ku_gt h2 y] at e2; dsimp only at e2; omega
      exact v2 a b (by omega) (Prod.ext (h2.trans h1.symm) e3)
    · have h2 : ¬ (K b).1 = 1 := fun q => h1 (by rw [← ha, ← e, hb, q])
      rw [aw_ku_ne h1, aw_ku_ne h2] at e
      rw [aw_ku_ne h1] at h
      exact v2 a b h e
  · intro k hk
    show aw_ku K i (if k < i then A 0 k else A 0 (k + 1)) = (1, k)
    by_cases e : k < i
    · rw [if_pos e, aw_ku_lt (by rw [u1 k (by omega)]) (by rw [u1 k (by omega)]; exact e), u1 k (by omega)]
    · rw [if_neg e, aw_ku_gt (by rw [u1 (k + 1) (by omega)]) (by rw [u1 (k + 1) (by omega)]; show i < k + 1; omega), u1 (k + 1) (by omega)]
      rfl
  · intro a h
    have h1 : (K a).1 = 1 := by rw [← aw_ku_1 (show 1 ≤ (aw_ku K i a).1 by omega), h]
    have h2 := u2 a h1
    rcases Nat.lt_trichotomy (K a).2 i with x | x | x
    · rw [aw_ku_lt h1 x]; omega
    · rw [aw_ku_eq h1 x] at h; cases h
    · rw [aw_ku_gt h1 x]; show (K a).2 - 1 < n - 1; omega
  · intro c hc
    exact ⟨ne (c1 c hc).1 (by show ¬ 2 = 1; decide), ne (c1 c hc).2 (by show ¬ 3 = 1; decide)⟩
  · intro a h
    have h1 := aw_ku_1 (K := K) (i := i) (a := a) (by omega)
    rw [aw_ku_ne (by omega)]
    exact c2 a (by omega)
  · intro k hk
    exact ne (t1 k hk) (by show ¬ 4 = 1; decide)
  · intro a h
    have h1 := aw_ku_1 (K := K) (i := i) (a := a) (by omega)
    rw [aw_ku_ne (by omega)]
    exact t2 a (by omega)
  · intro j hj h0
    rw [am_dr_f42] at h0
    exact ne (o1 j hj h0) (by show ¬ 5 = 1; decide)
  · intro a h
    have h1 := aw_ku_1 (K := K) (i := i) (a := a) (by omega)
    rw [aw_ku_ne (by omega), am_dr_f42]
    exact o2 a (by omega)
  · intro x hx
    obtain ⟨y1, y2, y3⟩ := b1 x hx
    refine ⟨?_, y2, ?_⟩
    · have : x = 0 ∨ x = 1 ∨ x = 2 := by omega
      rcases this with rfl | rfl | rfl
      · rw [aw_sz_0] at y1 ⊢
        unfold aw_n at y1 ⊢
        rw [am_dr_f45]
        exact y1
      · rw [aw_sz_1] at y1 ⊢
        exact y1
      · rw [aw_sz_2, aw_ne am_dr_24 (by omega)]
        rw [aw_sz_2, aw_ne hn (by omega)] at y1
        exact Nat.le_trans (Nat.sub_le n 1) y1
    · rcases y3 with y3 | y3
      · exact Or.inl y3
      · exact Or.inr ⟨y3.1, ne y3.2 (by show ¬ 6 = 1; decide)⟩
  · intro a h
    have h1 := aw_ku_1 (K := K) (i := i) (a := a) (by omega)
    rw [aw_ku_ne (by omega)]
    exact b2 a (by omega)
  · unfold aw_lc at hl ⊢
    rw [am_dr_f7]
    exact hl
theorem aw_ba_0 : aw_ba A G 0 = (List.range (A 6 0)).map fun j => if j < aw_n G 45 then Value.ref (A 3 j) else Value.null := rfl
theorem aw_ba_1 : aw_ba A G 1 = (List.range (A 6 1)).map fun j => if j < A 8 0 then Value.ref (A 1 (A 7 j)) else Value.null := rfl
theorem aw_rm_map {N n i : Nat} {g g' : Nat → Value} (hi : i < n) (hn : n ≤ N) (h1 : ∀ j, j < i → g' j = g j) (h2 : ∀ j, i ≤ j → j < n - 1 → g' j = g (j + 1)) (h3 : g' (n - 1) = .null) (h4 : ∀ j, n ≤ j → j < N → g' j = g j) : aw_rm ((List.range N).map g) i n = (List.range N).map g' := by
  refine List.ext_getElem? fun j => ?_
  unfold aw_rm
  have hl : (((List.range N).map g).take i ++ (((List.range N).map g).drop (i + 1)).take (n - 1 - i) ++ ((List.range N).map g).drop (n - 1)).length = N := by
    simp only [List.length_append, List.length_take, List.length_drop, List.length_map, List.length_range]
    omega
  have get : ∀ x, ((List.range N).map g)[x]? = if x < N then some (g x) else none := fun x => by
    by_cases e : x < N
    · rw [if_pos e, aw_mapget e]
    · rw [if_neg e, List.getElem?_eq_none (by rw [List.length_map, List.length_range]; omega)]
  have get' : ((List.range N).map g')[j]? = if j < N then some (g' j) else none := by
    by_cases e : j < N
    · rw [if_pos e, aw_mapget e]
    · rw [if_neg e, List.getElem?_eq_none (by rw [List.length_map, List.length_range]; omega)]
  rw [get', List.getElem?_set, hl]
  by_cases e0 : n - 1 = j
  · subst e0
    rw [if_pos rfl, if_pos (by omega), if_pos (by omega), h3]
  rw [if_neg e0]
  rcases Nat.lt_or_ge j (n - 1) with e1 | e1
  · rw [List.getElem?_append_left (by simp only [List.length_append, List.length_take, List.length_drop, List.length_map, List.length_range]; omega), if_pos (by omega)]
    rcases Nat.lt_or_ge j i with e2 | e2
    · rw [List.getElem?_append_left (by simp only [List.length_take, List.length_map, List.length_range]; omega), List.getElem?_take, if_pos e2, get, if_pos (by omega), h1 j e2]
    · rw [List.getElem?_append_right (by simp only [List.length_take, List.length_map, List.length_range]; omega), List.getElem?_take, List.length_take, List.length_map, List.length_range, show min i N = i by omega, if_pos (by omega), List.getElem?_drop, get, if_pos (by omega), h2 j e2 e1, show i + 1 + (j - i) = j + 1 by omega]
  · rw [List.getElem?_append_right (by simp only [List.length_append, List.length_take, List.length_drop, List.length_map, List.length_range]; omega), List.getElem?_drop, get]
    rw [show n - 1 + (j - (((List.range N).map g).take i ++ (((List.range N).map g).drop (i + 1)).take (n - 1 - i)).length) = j by
      simp only [List.length_append, List.length_take, List.length_drop, List.length_map, List.length_range]
      omega]
    by_cases e2 : j < N
    · rw [if_pos e2, if_pos e2, h4 j (by omega) e2]
    · rw [if_neg e2, if_neg e2]
theorem mc256_u (hW : aw_W K A G n F T) {i : Nat} (hi : i < n) : am_exec 256 0 [.ref 23, .int (Int32.ofNat i), am_U, am_U] [] (aw_H K A G Q M r) = some (.inl (some (.ref (A 0 i))), aw_H (aw_ku K i) (aw_au A i) (am_dr G n i) (am_up Q 3 2 (Q 3 2 + 1)) M (am_set r (A 0 i) (9, aw_un G i))) := by
  obtain ⟨y1, y2, y3⟩ := hW.b (i := 2) (by decide)
  rw [hW.szU] at y1
  have hn40 := hW.n40
  have hV := hW.V
  have hB : K (A 5 2) = (6, 2) := by
    rcases y3 with y3 | y3
    · omega
    · exact y3.2
  have hUi := hW.u hi
  have h6 : (K (A 5 2)).1 = 6 := by rw [hB]
  have c0 : (aw_H K A G Q M r).1 23 = some (0, [.int (Q 3 2), .ref (A 5 2), .int (Int32.ofNat n)]) := by
    rw [aw_fix (a := 23) rfl, hW.hn]
  have c1 : (aw_H K A G Q M r).1 (A 5 2) = some (53, aw_ba A G 2) := by
    rw [aw_dyn hV (by omega) (aw_dy6 h6), hB]
  have hnf : ∀ x, 1 ≤ (K x).1 → ¬ x = 23 := fun x hx e => hV.1 x hx (by subst e; exact Or.inl (by decide))
  have had : ¬ 23 = A 5 2 := fun e => hnf _ (by omega : 1 ≤ (K (A 5 2)).1) e.symm
  have hv : (aw_ba A G 2)[i]? = some (.ref (A 0 i)) := by
    unfold aw_ba
    rw [aw_mapget (by omega), if_pos (by rw [hW.szU]; exact hi)]
    rfl
  have hlen : (aw_ba A G 2).length = A 6 2 := by
    unfold aw_ba
    rw [List.length_map, List.length_range]
  rw [mc256 c0 c1 had hi (by rw [hlen]; exact y1) (by omega) hv (fun x hx => by
    unfold aw_ba at hx
    obtain ⟨j, hj, e⟩ := List.mem_map.mp hx
    rw [hW.szU] at e
    by_cases hjn : j < n
    · rw [if_pos hjn] at e
      subst e
      have h1 := hW.u hjn
      have h2 : (aw_H K A G Q M r).1 (A 0 j) = some (9, _) := aw_dyn hV (by rw [h1]; exact Nat.le_refl 1) (aw_dy1 (by rw [h1]))
      show am_fitq _ 53 (.ref (A 0 j)) = true
      unfold am_fitq
      dsimp only
      rw [h2]
      rfl
    · rw [if_neg hjn] at e
      subst e
      rfl)]
  refine congrArg (fun z => some (Sum.inl (some (Value.ref (A 0 i))), z)) ?_
  refine Prod.ext (funext fun b => ?_) rfl
  show (if b = A 5 2 then some (53, aw_rm (aw_ba A G 2) i n) else if b = 23 then some (0, [.int (Q 3 2 + 1), .ref (A 5 2), .int (Int32.ofNat (n - 1))]) else (aw_H K A G Q M r).1 b) = (aw_H (aw_ku K i) (aw_au A i) (am_dr G n i) (am_up Q 3 2 (Q 3 2 + 1)) M (am_set r (A 0 i) (9, aw_un G i))).1 b
  have hV' := (hW.ku hi).V
  by_cases e1 : b = A 5 2
  · subst e1
    have hB' : aw_ku K i (A 5 2) = (6, 2) := by rw [aw_ku_ne (by omega), hB]
    rw [if_pos rfl, aw_dyn hV' (by rw [hB']; exact Nat.le_of_ble_eq_true rfl) (aw_dy6 (by rw [hB'])), hB']
    refine congrArg (fun z => some (53, z)) ?_
    have hs := (hW.ku hi).szU
    unfold aw_ba
    rw [hW.szU, hs]
    refine aw_rm_map hi y1 ?_ ?_ ?_ ?_
    · intro j hj
      rw [if_pos (by omega), if_pos (by omega)]
      show Value.ref (if j < i then A 0 j else A 0 (j + 1)) = .ref (A 0 j)
      rw [if_pos hj]
    · intro j hj hj2
      rw [if_pos (by omega), if_pos (by omega)]
      show Value.ref (if j < i then A 0 j else A 0 (j + 1)) = .ref (A 0 (j + 1))
      rw [if_neg (by omega)]
    · rw [if_neg (by omega)]
    · intro j hj hj2
      rw [if_neg (by omega), if_neg (by omega)]
  rw [if_neg e1]
  by_cases e2 : b = 23
  · subst e2
    rw [if_pos rfl, aw_fix (a := 23) rfl, am_dr_24, am_up_eq, am_upd_eq]
    rfl
  rw [if_neg e2]
  show (aw_fx A G Q M b).or ((aw_dy A G Q M (K b)).or (r.1 b)) = (aw_fx (aw_au A i) (am_dr G n i) (am_up Q 3 2 (Q 3 2 + 1)) M b).or ((aw_dy (aw_au A i) (am_dr G n i) (am_up Q 3 2 (Q 3 2 + 1)) M (aw_ku K i b)).or ((am_set r (A 0 i) (9, aw_un G i)).1 b))
  have f1 : aw_fx (aw_au A i) (am_dr G n i) (am_up Q 3 2 (Q 3 2 + 1)) M b = aw_fx A G Q M b := by
    unfold aw_fx aw_os
    simp only [if_neg e2, am_dr_f0, am_dr_f1, am_dr_f2, am_dr_f3, am_dr_f4, am_dr_f5, am_dr_f6, am_dr_f7, am_dr_f8, am_dr_f9, am_dr_f10, am_dr_f11, am_dr_f12, am_dr_f13, am_dr_f14, am_dr_f15, am_dr_f16, am_dr_f17, am_dr_f18, am_dr_f19, am_dr_f20, am_dr_f21, am_dr_f22, am_dr_f23, am_dr_f25, am_dr_f34, am_dr_f35, am_dr_f36, am_dr_f37, am_dr_f38, am_dr_f39, am_dr_f40, am_dr_f41, am_dr_f42, am_dr_f43, am_dr_f44, am_dr_f45, am_dr_f46, am_dr_f47, am_dr_f48, am_dr_f49, am_dr_f50, am_dr_f51, am_dr_f52]
    rfl
  rw [f1]
  refine congrArg (Option.or (aw_fx A G Q M b)) ?_
  have hUrow : ∀ j j', (∀ f, 26 ≤ f ∧ f ≤ 33 → am_dr G n i f j = G f j') → aw_un (am_dr G n i) j = aw_un G j' := fun j j' h => by
    unfold aw_un
    rw [h 26 (by decide), h 27 (by decide), h 28 (by decide), h 29 (by decide), h 30 (by decide), h 31 (by decide), h 32 (by decide), h 33 (by decide)]
  by_cases h1 : (K b).1 = 1
  · have hb := hW.u' h1
    have hbA : b = A 0 (K b).2 := hV.2.1 _ _ (by rw [hW.u hb]; exact Nat.le_refl 1) (by rw [hW.u hb]; exact Prod.ext h1 rfl)
    rcases Nat.lt_trichotomy (K b).2 i with x | x | x
    · rw [aw_ku_lt h1 x, aw_dy1 h1, aw_dy1 h1, hUrow (K b).2 (K b).2 (fun f hf => by rw [am_dr_row hf, if_neg (by omega)])]
      rfl
    · rw [aw_ku_eq h1 x, aw_dy1 h1, x]
      have e3 : b = A 0 i := by rw [x] at hbA; exact hbA
      show some (9, aw_un G i) = (am_set r (A 0 i) (9, aw_un G i)).1 b
      rw [e3, aw_seta]
    · rw [aw_ku_gt h1 x, aw_dy1 h1, aw_dy1 rfl, hUrow ((K b).2 - 1) (K b).2 (fun f hf => by rw [am_dr_row hf, if_pos (by omega), show (K b).2 - 1 + 1 = (K b).2 by omega])]
      rfl
  · rw [aw_ku_ne h1, aw_setn (show ¬ b = A 0 i from fun e => h1 (by rw [e, hUi]))]
    refine congrArg (fun z => Option.or z (r.1 b)) ?_
    by_cases h5 : (K b).1 = 6
    · rw [aw_dy6 h5, aw_dy6 h5]
      have h7 := (hW.b' h5).1
      have h8 : ¬ (K b).2 = 2 := fun e => e1 (hV.2.1 _ _ (by omega) (by rw [hB]; exact Prod.ext h5 e))
      have : (K b).2 = 0 ∨ (K b).2 = 1 := by omega
      rcases this with e | e
      · rw [e, aw_ba_0, aw_ba_0]
        unfold aw_n
        rw [am_dr_f45]
        rfl
      · rw [e, aw_ba_1, aw_ba_1]
        rfl
    · unfold aw_dy
      rw [if_neg h1, if_neg h1]
      unfold aw_cc aw_wo aw_tr aw_of aw_pl aw_le
      simp only [if_neg h5, am_dr_f0, am_dr_f1, am_dr_f2, am_dr_f3, am_dr_f4, am_dr_f5, am_dr_f6, am_dr_f7, am_dr_f8, am_dr_f9, am_dr_f10, am_dr_f11, am_dr_f12, am_dr_f13, am_dr_f14, am_dr_f15, am_dr_f16, am_dr_f17, am_dr_f18, am_dr_f19, am_dr_f20, am_dr_f21, am_dr_f22, am_dr_f23, am_dr_f25, am_dr_f34, am_dr_f35, am_dr_f36, am_dr_f37, am_dr_f38, am_dr_f39, am_dr_f40, am_dr_f41, am_dr_f42, am_dr_f43, am_dr_f44, am_dr_f45, am_dr_f46, am_dr_f47, am_dr_f48, am_dr_f49, am_dr_f50, am_dr_f51, am_dr_f52]
      rfl
end
