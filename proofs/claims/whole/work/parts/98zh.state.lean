/-! THE LAW'S STATE between two calls -/
/-- numbers where nothing of the class lies -/
def al_o (a : Nat) : Prop := a < 12 ∨ 40 ≤ a ∧ a ≤ 87
theorem al_fx {A : aw_A} {G Q : am_G} {M : aw_M} {a : Nat} (h : al_o a) : aw_fx A G Q M a = none := by
  unfold al_o at h
  unfold aw_fx
  repeat rw [if_neg (by omega)]
theorem al_K {K : aw_K} (hV : aw_V K) {a : Nat} (h : al_o a) : (K a).1 = 0 := by
  unfold al_o at h
  refine Classical.byContradiction fun q => hV.1 a (by omega) ?_
  unfold aw_fa
  omega
section
variable {K : aw_K} {A : aw_A} {G Q : am_G} {M : aw_M} {L : Nat → Int64} {r : am_H} {n F T i : Nat}
theorem al_at (hV : aw_V K) {a : Nat} (h : al_o a) : (aw_H K A G Q M r).1 a = r.1 a := by
  show (aw_fx A G Q M a).or ((aw_dy A G Q M (K a)).or (r.1 a)) = _
  rw [al_fx h]
  unfold aw_dy
  rw [al_K hV h]
  rfl
theorem al_set (hV : aw_V K) {a : Nat} {c : am_C} (h : al_o a) : am_set (aw_H K A G Q M r) a c = aw_H K A G Q M (am_set r a c) := by
  refine Prod.ext (funext fun b => ?_) rfl
  show (if b = a then some c else (aw_H K A G Q M r).1 b) = (aw_fx A G Q M b).or ((aw_dy A G Q M (K b)).or (if b = a then some c else r.1 b))
  by_cases e : b = a
  · subst e
    rw [if_pos rfl, if_pos rfl, al_fx h]
    unfold aw_dy
    rw [al_K hV h]
    rfl
  · rw [if_neg e, if_neg e]
    rfl
theorem al_ov (hV : aw_V K) {G' : am_G} : am_ov G' L (aw_H K A G Q M r) = aw_H K A G Q M (am_ov G' L r) := by
  refine Prod.ext (funext fun b => ?_) rfl
  by_cases e : 40 ≤ b ∧ b ≤ 86
  · rw [al_at hV (Or.inr ⟨e.1, by omega⟩)]
    show (if b = 40 then some (12, am_mo G') else if 40 < b ∧ b ≤ 86 then (am_ci[b - 41]?).map (am_rc G' L) else (aw_H K A G Q M r).1 b) = if b = 40 then some (12, am_mo G') else if 40 < b ∧ b ≤ 86 then (am_ci[b - 41]?).map (am_rc G' L) else r.1 b
    by_cases e2 : b = 40
    · rw [if_pos e2, if_pos e2]
    · rw [if_neg e2, if_neg e2, if_pos ⟨by omega, e.2⟩, if_pos ⟨by omega, e.2⟩]
  · show (if b = 40 then some (12, am_mo G') else if 40 < b ∧ b ≤ 86 then (am_ci[b - 41]?).map (am_rc G' L) else (aw_H K A G Q M r).1 b) = (aw_fx A G Q M b).or ((aw_dy A G Q M (K b)).or (if b = 40 then some (12, am_mo G') else if 40 < b ∧ b ≤ 86 then (am_ci[b - 41]?).map (am_rc G' L) else r.1 b))
    rw [if_neg (by omega), if_neg (by omega), if_neg (by omega), if_neg (by omega)]
    rfl
theorem al_ov1 {a : Nat} (h : ¬ (40 ≤ a ∧ a ≤ 86)) : (am_ov G L r).1 a = r.1 a := by
  show (if a = 40 then some (12, am_mo G) else if 40 < a ∧ a ≤ 86 then (am_ci[a - 41]?).map (am_rc G L) else r.1 a) = r.1 a
  rw [if_neg (by omega), if_neg (by omega)]
theorem al_ov2 {G' : am_G} {L' : Nat → Int64} : am_ov G L (am_ov G' L' r) = am_ov G L r := by
  refine Prod.ext (funext fun b => ?_) rfl
  show (if b = 40 then some (12, am_mo G) else if 40 < b ∧ b ≤ 86 then (am_ci[b - 41]?).map (am_rc G L) else (am_ov G' L' r).1 b) = if b = 40 then some (12, am_mo G) else if 40 < b ∧ b ≤ 86 then (am_ci[b - 41]?).map (am_rc G L) else r.1 b
  by_cases e : b = 40
  · rw [if_pos e, if_pos e]
  · rw [if_neg e, if_neg e]
    by_cases e2 : 40 < b ∧ b ≤ 86
    · rw [if_pos e2, if_pos e2]
    · rw [if_neg e2, if_neg e2, al_ov1 (by omega)]
/-- the rest keeps the reference's cells when it keeps those numbers -/
theorem al_ovk {r' : am_H} (h : am_ov G L r = r) (e : ∀ x, 40 ≤ x ∧ x ≤ 86 → r'.1 x = r.1 x) : am_ov G L r' = r' := by
  refine Prod.ext (funext fun b => ?_) rfl
  by_cases e2 : 40 ≤ b ∧ b ≤ 86
  · rw [e b e2, ← congrFun (congrArg Prod.fst h) b]
    show (if b = 40 then some (12, am_mo G) else if 40 < b ∧ b ≤ 86 then (am_ci[b - 41]?).map (am_rc G L) else r'.1 b) = if b = 40 then some (12, am_mo G) else if 40 < b ∧ b ≤ 86 then (am_ci[b - 41]?).map (am_rc G L) else r.1 b
    by_cases e3 : b = 40
    · rw [if_pos e3, if_pos e3]
    · rw [if_neg e3, if_neg e3, if_pos ⟨by omega, e2.2⟩, if_pos ⟨by omega, e2.2⟩]
  · exact al_ov1 e2
end
def al_S (xs : Nat → Int32) (N : Nat) (h : am_H) (i : Nat) : Prop := ∃ K A G Q M L r n F T y, h = aw_H K A G Q M r ∧ am_ov G L r = r ∧ aw_W K A G n F T ∧ aw_N K r ∧ aw_S r ∧ ai G n F T i ∧ r.1 87 = some (51, [.long y]) ∧ r.1 11 = some (60, (List.range N).map fun j => .int (xs j)) ∧ r.2.1 ≤ 100 + 31 * i ∧ r.2.2 ≤ 100000 + 4010 * i
def al_wr (wid : Nat) (wargs : List Value) (cid : Nat) (cargs : List Value) (hs : List Nat) (kd : Nat) (f : Option Value → Option Int64) : Prop := ∀ h h', am_isa h 12 11 = true → (∀ v y, am_exec cid 0 cargs [] h = some (.inl v, h') → ac_kd kd v → h'.1 87 = some (51, [.long y]) → am_exec wid 0 wargs [] h = some (.inl (some (.int 0)), (f v).elim h' fun z => am_set h' 87 (51, [.long z]))) ∧ ∀ j E, hs[j]? = some E → am_exec cid 0 cargs [] h = some (.inr E, h') → am_exec wid 0 wargs [] h = some (.inl (some (.int (Int32.ofNat (j + 1)))), am_new h' (70, []) 0)
section
variable {xs : Nat → Int32} {N : Nat} {h : am_H} {i : Nat}
theorem al_S.sc (hS : al_S xs N h i) : h.1 11 = some (60, (List.range N).map fun j => .int (xs j)) := by
  obtain ⟨K, A, G, Q, M, L, r, n, F, T, y, rfl, -, s3, -, -, -, -, s8, -⟩ := hS
  rw [al_at s3.V (Or.inl (by decide))]
  exact s8
theorem al_S.c12 (hS : al_S xs N h i) : am_isa h 12 11 = true := by
  obtain ⟨K, A, G, Q, M, L, r, n, F, T, y, rfl, -⟩ := hS
  unfold am_isa
  rw [aw_fix (a := 12) (c := (11, [.ref 13, .ref 34, .ref 38, .ref 39, .int (G 1 0)])) rfl]
  rfl
theorem al_S.c40 (hS : al_S xs N h i) : am_isa h 40 12 = true := by
  obtain ⟨K, A, G, Q, M, L, r, n, F, T, y, rfl, s2, s3, -⟩ := hS
  unfold am_isa
  rw [al_at s3.V (Or.inr (by decide)), ← s2]
  rfl
theorem al_call (hS : al_S xs N h i) (hi : i ≤ 600) {wid cid rid kd : Nat} {wargs cargs rargs : List Value} {hs : List Nat} {f : Option Value → Option Int64} (hc : ∀ {K A G Q M L r n F T}, aw_W K A G n F T → aw_N K r → aw_S r → i ≤ 600 → ai G n F T i → ac_call K A G Q M L r i cid cargs rid rargs hs kd) (hw : al_wr wid wargs cid cargs hs kd f) (hl : hs.length ≤ 3) : ∃ c v h2 h3, am_exec wid 0 wargs [] h = some (.inl (some (.int c)), h2) ∧ am_exec rid 0 rargs [] h2 = some (.inl v, h3) ∧ ac_kd kd v ∧ am_exec 152 0 [.ref 40] [] h3 = some (.inl (some (.int c)), h3) ∧ (c = 0 → ∀ z, f v = some z → h3.1 87 = some (51, [.long z])) ∧ am_isa h2 40 12 = true ∧ h2.1 11 = some (60, (List.range N).map fun j => .int (xs j)) ∧ al_S xs N h3 (i + 1) := by
  have h12 := hS.c12
  obtain ⟨K, A, G, Q, M, L, r, n, F, T, y, e, s2, s3, s4, s5, s6, s7, s8, s9, s10⟩ := hS
  obtain ⟨K', A', G', Q', M', L', r', n', F', T', res, v, x1, x2, x3, x4, x5, x6, x7, x8⟩ := hc (K := K) (A := A) (G := G) (Q := Q) (M := M) (L := L) (r := r) (n := n) (F := F) (T := T) s3 s4 s5 hi s6
  rw [← e] at x1
  obtain ⟨w1, w2⟩ := hw h _ h12
  have o2 := al_ovk s2 (r' := r') (fun x hx => x7.1 x (Or.inr ⟨hx.1, by omega⟩))
  have o7 : r'.1 87 = some (51, [.long y]) := by rw [x7.1 87 (Or.inr (by decide))]; exact s7
  have o8 : r'.1 11 = some (60, (List.range N).map fun j => .int (xs j)) := by rw [x7.1 11 (Or.inl (by decide))]; exact s8
  have go : ∀ (c : Int32) (q : am_H) (y' : Int64), am_exec wid 0 wargs [] h = some (.inl (some (.int c)), aw_H K' A' G' Q' M' q) → (∀ x, 40 ≤ x ∧ x ≤ 86 → q.1 x = r'.1 x) → aw_N K' q → aw_S q → q.1 87 = some (51, [.long y']) → q.1 11 = r'.1 11 → q.2.1 ≤ r'.2.1 + 1 → q.2.2 ≤ r'.2.2 → G' 0 0 = c → (c = 0 → ∀ z, f v = some z → y' = z) → ∃ c v h2 h3, am_exec wid 0 wargs [] h = some (.inl (some (.int c)), h2) ∧ am_exec rid 0 rargs [] h2 = some (.inl v, h3) ∧ ac_kd kd v ∧ am_exec 152 0 [.ref 40] [] h3 = some (.inl (some (.int c)), h3) ∧ (c = 0 → ∀ z, f v = some z → h3.1 87 = some (51, [.long z])) ∧ am_isa h2 40 12 = true ∧ h2.1 11 = some (60, (List.range N).map fun j => .int (xs j)) ∧ al_S xs N h3 (i + 1) := by
    intro c q y' g1 g2 g3 g4 g5 g6 g7 g8 g9 g10
    have oq := al_ovk o2 g2
    have eo : am_ov G L (aw_H K' A' G' Q' M' q) = aw_H K' A' G' Q' M' q := by rw [al_ov x5.V, oq]
    have y2 := x2 (aw_H K' A' G' Q' M' q)
    rw [eo, al_ov x5.V] at y2
    have m152 := mr152 (G := G') (L := L') (r := aw_H K' A' G' Q' M' q)
    rw [al_ov x5.V, g9] at m152
    have q87 : (am_ov G' L' q).1 87 = some (51, [.long y']) := by rw [al_ov1 (by decide)]; exact g5
    have q11 : (am_ov G' L' q).1 11 = some (60, (List.range N).map fun j => .int (xs j)) := by rw [al_ov1 (by decide), g6]; exact o8
    refine ⟨c, v, _, _, g1, y2, x4, m152, fun hc0 z hz => ?_, ?_, ?_, K', A', G', Q', M', L', am_ov G' L' q, n', F', T', y', rfl, al_ov2, x5, ⟨g3.1, g3.2⟩, ?_, x8, q87, q11, ?_, ?_⟩
    · rw [al_at x5.V (Or.inr (by decide)), q87, g10 hc0 z hz]
    · unfold am_isa
      rw [al_at x5.V (Or.inr (by decide)), ← oq]
      rfl
    · rw [al_at x5.V (Or.inl (by decide)), g6]
      exact o8
    · refine ⟨fun k hk => ?_, ?_, ?_⟩
      · rw [al_ov1 (by omega)]
        exact g4.1 k hk
      · rw [al_ov1 (by decide)]
        exact g4.2.1
      · rw [al_ov1 (by decide)]
        exact g4.2.2
    · show q.2.1 ≤ _
      have := x7.2.2.1
      omega
    · show q.2.2 ≤ _
      have := x7.2.2.2
      omega
  rcases res with w | E
  · obtain ⟨c0, rfl⟩ := x3
    have g1 := w1 w y x1 x4 (by rw [al_at x5.V (Or.inr (by decide))]; exact o7)
    rcases hf : f w with _ | z
    · rw [hf] at g1
      exact go 0 r' y g1 (fun _ _ => rfl) x6 (x7.S s5) o7 rfl (Nat.le_succ _) (Nat.le_refl _) c0 (fun _ z hz => by cases hf.symm.trans hz)
    · rw [hf] at g1
      have g1 : am_exec wid 0 wargs [] h = some (.inl (some (.int 0)), am_set (aw_H K' A' G' Q' M' r') 87 (51, [.long z])) := g1
      rw [al_set x5.V (Or.inr (by decide))] at g1
      refine go 0 (am_set r' 87 (51, [.long z])) z g1 (fun x hx => aw_setn (by omega)) ⟨x6.1, x6.2⟩ ?_ aw_seta (aw_setn (by decide)) (Nat.le_succ _) (Nat.le_refl _) c0 (fun _ z' hz => ?_)
      · obtain ⟨t1, t2, t3⟩ := x7.S s5
        refine ⟨fun k hk => ?_, ?_, ?_⟩
        · rw [aw_setn (by omega)]
          exact t1 k hk
        · rw [aw_setn (by decide)]
          exact t2
        · rw [aw_setn (by decide)]
          exact t3
      · exact Option.some.inj (hf.symm.trans hz)
  · obtain ⟨j, j1, j2⟩ := x3
    have hj3 : j < hs.length := by
      rcases Nat.lt_or_ge j hs.length with q | q
      · exact q
      · rw [List.getElem?_eq_none q] at j1
        cases j1
    have g1 := w2 j E j1 x1
    rw [aw_Hnew x6] at g1
    have h88 := x6.1
    have hn : ∀ x, x < 88 → (am_new r' (70, []) 0).1 x = r'.1 x := fun x hx => by
      show (if x = r'.2.1 then some (70, []) else r'.1 x) = r'.1 x
      rw [if_neg (by omega)]
    refine go (Int32.ofNat (j + 1)) (am_new r' (70, []) 0) y g1 (fun x hx => hn x (by omega)) x6.new ?_ (by rw [hn 87 (by decide)]; exact o7) (hn 11 (by decide)) (Nat.le_refl _) (Nat.le_refl _) j2 (fun c0 => ?_)
    · obtain ⟨t1, t2, t3⟩ := x7.S s5
      refine ⟨fun k hk => ?_, ?_, ?_⟩
      · rw [hn k (by omega)]
        exact t1 k hk
      · rw [hn 9 (by decide)]
        exact t2
      · rw [hn 10 (by decide)]
        exact t3
    · have := (am_z0 (show j + 1 ≤ 100000 by omega)).mp c0
      omega
end
