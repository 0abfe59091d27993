/-! THE PLANS OF ALL CITIES, the same on both sides -/
theorem ap_B_cg {f v f' v' : Nat → Nat} : ∀ (d s k g : Nat), (∀ i, i < s + d → f i = f' i ∧ v i = v' i) → ap_B f v d s k g = ap_B f' v' d s k g
  | 0, _, _, _, _ => rfl
  | d + 1, s, k, g, h => by
    have i1 := ap_B_cg (f := f) (v := v) (f' := f') (v' := v') d (s + 1) k g (fun i hi => h i (by omega))
    have i2 := ap_B_cg (f := f) (v := v) (f' := f') (v' := v') d (s + 1) (k - 1) (g - f s) (fun i hi => h i (by omega))
    obtain ⟨e1, e2⟩ := h s (by omega)
    have eB : ∀ f v : Nat → Nat, ap_B f v (d + 1) s k g = ap_mx (ap_B f v d (s + 1) k g) (if k = 0 then none else ap_pl (v s) (ap_B f v d (s + 1) (k - 1) (g - f s))) := fun _ _ => rfl
    rw [eB, eB, i1, i2, e2, e1]
theorem ap_c_cg {f f' : Nat → Nat} {a : Nat} : ∀ l : List Nat, (∀ i, i ∈ l → f i = f' i) → ap_c f a l = ap_c f' a l
  | [], _ => rfl
  | x :: l, h => by rw [ap_c, ap_c, ap_c_cg l (fun i hi => h i (List.mem_cons_of_mem x hi)), h x List.mem_cons_self]
theorem as_tl_cg {O O' : Nat → Int32} {v : Int64} : ∀ S, (∀ i, i < S → O i = O' i) → as_tl O v S = as_tl O' v S
  | 0, _ => rfl
  | S + 1, h => by rw [as_tl, as_tl, as_tl_cg S (fun i hi => h i (by omega)), h S (by omega)]
/-- the number of the best set, of the tiles O -/
def ap_N (G : am_G) (c : Nat) (O : Nat → Int32) (S m nd : Nat) : Nat := (ap_B (fun i => (as_fo G (O i).toNatClampNeg).toNatClampNeg) (ap_v fun i => (as_wo G c (O i).toNatClampNeg).toNatClampNeg) S 0 m (min nd (ap_m (fun i => (as_fo G (O i).toNatClampNeg).toNatClampNeg) (List.range' 0 S) m))).getD 0
theorem ap_N_cg {G : am_G} {c S m nd : Nat} {O O' : Nat → Int32} (h : ∀ i, i < S → O i = O' i) : ap_N G c O S m nd = ap_N G c O' S m nd := by
  unfold ap_N ap_m
  have hl : ∀ i, i ∈ List.range' 0 S → (as_fo G (O i).toNatClampNeg).toNatClampNeg = (as_fo G (O' i).toNatClampNeg).toNatClampNeg := fun i hi => by
    have := List.mem_range'_1.mp hi
    rw [h i (by omega)]
  rw [ap_c_cg _ hl, ap_c_cg _ hl, ap_c_cg _ hl, ap_c_cg _ hl, ap_B_cg (f' := fun i => (as_fo G (O' i).toNatClampNeg).toNatClampNeg) (v' := ap_v fun i => (as_wo G c (O' i).toNatClampNeg).toNatClampNeg) S 0 m _ (fun i hi => ⟨by rw [h i (by omega)], by
    show (as_wo G c (O i).toNatClampNeg).toNatClampNeg * ap_K + 2 ^ (23 - i) = (as_wo G c (O' i).toNatClampNeg).toNatClampNeg * ap_K + 2 ^ (23 - i)
    rw [h i (by omega)]⟩)]
theorem ap_O.N {G X : am_G} {c S : Nat} {O : Nat → Int32} (h : ap_O G X c S O) (hw : aw_we G c) {m g : Nat} : ap_B (fun i => (X 21 i).toNatClampNeg) (ap_v fun i => (X 22 i).toNatClampNeg) S 0 m g = ap_B (fun i => (as_fo G (O i).toNatClampNeg).toNatClampNeg) (ap_v fun i => (as_wo G c (O i).toNatClampNeg).toNatClampNeg) S 0 m g := by
  refine ap_B_cg S 0 m g (fun i hi => ⟨?_, ?_⟩)
  · have := (h.f (i := i) (by omega))
    rw [this.2.2, am_tcn (by omega)]
  · have h2 := (h.w hw (i := i) (by omega))
    show (X 22 i).toNatClampNeg * ap_K + 2 ^ (23 - i) = (as_wo G c (O i).toNatClampNeg).toNatClampNeg * ap_K + 2 ^ (23 - i)
    rw [h2.2.2, am_tcn (by omega)]
theorem ap_O.m {G X : am_G} {c S : Nat} {O : Nat → Int32} (h : ap_O G X c S O) {k : Nat} : ap_m (fun i => (X 21 i).toNatClampNeg) (List.range' 0 S) k = ap_m (fun i => (as_fo G (O i).toNatClampNeg).toNatClampNeg) (List.range' 0 S) k := by
  have hl : ∀ i, i ∈ List.range' 0 S → (X 21 i).toNatClampNeg = (as_fo G (O i).toNatClampNeg).toNatClampNeg := fun i hi => by
    have h0 := List.mem_range'_1.mp hi
    have := (h.f (i := i) (by omega))
    rw [this.2.2, am_tcn (by omega)]
  unfold ap_m
  rw [ap_c_cg _ hl, ap_c_cg _ hl, ap_c_cg _ hl, ap_c_cg _ hl]
theorem ap_po' {G X : am_G} {c S : Nat} {O : Nat → Int32} (h : ap_O G X c S O) (hw : aw_we G c) (hS : S ≤ 24) {m nd : Nat} (hm : m ≤ S) : ap_B (fun i => (as_fo G (O i).toNatClampNeg).toNatClampNeg) (ap_v fun i => (as_wo G c (O i).toNatClampNeg).toNatClampNeg) S 0 m (min nd (ap_m (fun i => (as_fo G (O i).toNatClampNeg).toNatClampNeg) (List.range' 0 S) m)) = some (ap_N G c O S m nd) ∧ (as_po m S nd X).1 = as_tl O (Int64.ofNat (ap_N G c O S m nd)) S := by
  obtain ⟨N, h1, h2⟩ := ap_po h hw hS (nd := nd) hm
  rw [h.N hw, h.m] at h1
  have e : ap_N G c O S m nd = N := by
    unfold ap_N
    rw [h1]
    rfl
  rw [e]
  exact ⟨h1, h2⟩
/-- the i-th tile that can be worked -/
theorem ar_u {G : am_G} {n T c : Nat} {p : Int64} : ∀ k, k ≤ 64 → am_it (as_sp G n T c p) (am_up G 19 0 0) k 19 0 = Int32.ofNat (am_cnt (fun t => as_cw G n T c t p) k) ∧ ∀ i, i < am_cnt (fun t => as_cw G n T c t p) k → ∃ u, u < k ∧ as_cw G n T c u p ∧ am_cnt (fun t => as_cw G n T c t p) u = i ∧ am_it (as_sp G n T c p) (am_up G 19 0 0) k 20 i = Int32.ofNat u ∧ am_it (as_sp G n T c p) (am_up G 19 0 0) k 21 i = as_fo G u ∧ am_it (as_sp G n T c p) (am_up G 19 0 0) k 22 i = as_wo G c u := by
  intro k
  induction k with
  | zero =>
    intro _
    refine ⟨?_, fun i hi => absurd hi (Nat.not_lt_zero i)⟩
    show am_up G 19 0 0 19 0 = Int32.ofNat 0
    rw [am_up_eq, am_upd_eq]
    rfl
  | succ k ih =>
    intro hk
    obtain ⟨a2, a3⟩ := ih (by omega)
    have hle := am_cnt_le (p := fun t => as_cw G n T c t p) k
    have hJ := am_tcn (show am_cnt (fun t => as_cw G n T c t p) k ≤ 100000 by omega)
    have hc1 : am_cnt (fun t => as_cw G n T c t p) (k + 1) = am_cnt (fun t => as_cw G n T c t p) k + if as_cw G n T c k p then 1 else 0 := rfl
    rw [hc1, am_it]
    generalize am_it (as_sp G n T c p) (am_up G 19 0 0) k = X at a2 a3 ⊢
    generalize hm : am_cnt (fun t => as_cw G n T c t p) k = m at a2 a3 hle hJ ⊢
    unfold as_sp
    by_cases e : as_cw G n T c k p
    · rw [if_pos e, if_pos e, a2, hJ]
      have x20 : am_up (am_up (am_up (am_up X 20 m (Int32.ofNat k)) 21 m (as_fo G k)) 22 m (as_wo G c k)) 19 0 (Int32.ofNat m + 1) 20 = am_upd (X 20) m (Int32.ofNat k) := by rw [am_up_ne (by decide), am_up_ne (by decide), am_up_ne (by decide), am_up_eq]
      have x21 : am_up (am_up (am_up (am_up X 20 m (Int32.ofNat k)) 21 m (as_fo G k)) 22 m (as_wo G c k)) 19 0 (Int32.ofNat m + 1) 21 = am_upd (X 21) m (as_fo G k) := by rw [am_up_ne (by decide), am_up_ne (by decide), am_up_eq, am_up_ne (by decide)]
      have x22 : am_up (am_up (am_up (am_up X 20 m (Int32.ofNat k)) 21 m (as_fo G k)) 22 m (as_wo G c k)) 19 0 (Int32.ofNat m + 1) 22 = am_upd (X 22) m (as_wo G c k) := by rw [am_up_ne (by decide), am_up_eq, am_up_ne (by decide), am_up_ne (by decide)]
      rw [x20, x21, x22]
      refine ⟨by rw [am_up_eq, am_upd_eq, am_succ], fun i hi => ?_⟩
      by_cases e2 : i = m
      · rw [e2, am_upd_eq, am_upd_eq, am_upd_eq]
        exact ⟨k, by omega, e, hm, rfl, rfl, rfl⟩
      · rw [am_upd_ne e2, am_upd_ne e2, am_upd_ne e2]
        obtain ⟨u, u1, u2⟩ := a3 i (by omega)
        exact ⟨u, by omega, u2⟩
    · rw [if_neg e, if_neg e, Nat.add_zero]
      refine ⟨a2, fun i hi => ?_⟩
      obtain ⟨u, u1, u2⟩ := a3 i hi
      exact ⟨u, by omega, u2⟩
theorem am_cnt_lt {p : Nat → Prop} [DecidablePred p] {u v : Nat} (h : u < v) (hp : p u) : am_cnt p u < am_cnt p v := by
  have h1 := am_cnt_add (p := p) (k := u + 1) (v - (u + 1))
  rw [show u + 1 + (v - (u + 1)) = v by omega] at h1
  have h2 : am_cnt p (u + 1) = am_cnt p u + 1 := by
    show _ + (if p u then 1 else 0) = _
    rw [if_pos hp]
  omega
theorem am_cnt_inj {p : Nat → Prop} [DecidablePred p] {u v : Nat} (hu : p u) (hv : p v) (h : am_cnt p u = am_cnt p v) : u = v := by
  rcases Nat.lt_trichotomy u v with q | q | q
  · have := am_cnt_lt q hu
    omega
  · exact q
  · have := am_cnt_lt q hv
    omega
theorem ar_u' {G X : am_G} {n T c : Nat} {p : Int64} (h : ∀ f, ¬ (19 ≤ f ∧ f ≤ 23) → X f = G f) : as_ns X n T c p = as_ns G n T c p ∧ ∀ i, i < as_ns G n T c p → ∃ u, u < 64 ∧ as_xs X n T c p 20 i = Int32.ofNat u ∧ as_xs G n T c p 20 i = Int32.ofNat u ∧ as_xs X n T c p 21 i = as_fo G u ∧ as_xs X n T c p 22 i = as_wo G c u := by
  have hcw : ∀ t, as_cw X n T c t p ↔ as_cw G n T c t p := fun t => as_cw_congr h
  have en : ∀ k, am_cnt (fun t => as_cw X n T c t p) k = am_cnt (fun t => as_cw G n T c t p) k := fun k => am_cnt_cg fun t _ => hcw t
  refine ⟨en 64, fun i hi => ?_⟩
  obtain ⟨u, u1, u2, u3, u4, u5, u6⟩ := (ar_u (G := X) (n := n) (T := T) (c := c) (p := p) 64 (Nat.le_refl _)).2 i (by rw [en]; exact hi)
  obtain ⟨v, v1, v2, v3, v4, -, -⟩ := (ar_u (G := G) (n := n) (T := T) (c := c) (p := p) 64 (Nat.le_refl _)).2 i hi
  have euv : u = v := am_cnt_inj (p := fun t => as_cw G n T c t p) ((hcw u).mp u2) v2 (by rw [v3, ← en]; exact u3)
  refine ⟨u, u1, u4, by rw [euv]; exact v4, ?_, ?_⟩
  · refine u5.trans ?_
    unfold as_fo
    rw [h 2 (by decide), h 3 (by decide)]
  · refine u6.trans ?_
    unfold as_wo as_fo
    rw [h 2 (by decide), h 3 (by decide), h 15 (by decide)]
/-- the plan of a city, what is taken before it -/
def ar_p (G : am_G) (n T c : Nat) (p : Int64) : Int64 := as_tl (as_xs G n T c p 20) (Int64.ofNat (ap_N G c (as_xs G n T c p 20) (as_ns G n T c p) (min (as_ns G n T c p) (G 10 c).toNatClampNeg) (as_nd G c (G 10 c).toNatClampNeg))) (as_ns G n T c p)
def ar_t (G : am_G) (n T : Nat) : Nat → Int64
  | 0 => 0
  | k + 1 => if G 7 k = 1 then ar_t G n T k ||| ar_p G n T k (ar_t G n T k) else ar_t G n T k
def ar_l (G : am_G) (n T c : Nat) : Int64 := if G 7 c = 1 then ar_p G n T c (ar_t G n T c) else 0
theorem ar_l_1 {G : am_G} {n T c : Nat} (h : G 7 c = 1) : ar_l G n T c = ar_p G n T c (ar_t G n T c) := if_pos h
theorem ar_po {G X : am_G} {n T c : Nat} {p : Int64} (h : ∀ f, ¬ (19 ≤ f ∧ f ≤ 23) → X f = G f) (ht : am_I (G 9 c) 64) (hw : aw_we G c) : (as_po (min (as_ns X n T c p) (X 10 c).toNatClampNeg) (as_ns X n T c p) (as_nd X c (X 10 c).toNatClampNeg) (as_xs X n T c p)).1 = ar_p G n T c p := by
  obtain ⟨e1, e2⟩ := ar_u' (n := n) (T := T) (c := c) (p := p) h
  have hO : ap_O G (as_xs X n T c p) c (as_ns G n T c p) (as_xs G n T c p 20) := fun i hi => by
    obtain ⟨u, u1, u2, u3, u4, u5⟩ := e2 i hi
    exact ⟨u, u1, u3, u2, u4, u5⟩
  have e3 : as_nd X c (X 10 c).toNatClampNeg = as_nd G c (G 10 c).toNatClampNeg := by
    unfold as_nd
    rw [h 10 (by decide), h 2 (by decide), h 3 (by decide), h 9 (by decide)]
  rw [e1, e3, h 10 (by decide)]
  exact (ap_po' hO hw (as_cw_24 ht) (Nat.min_le_left _ _)).2
theorem ar_pa {G : am_G} {L : Nat → Int64} {n F T : Nat} (hcp : ∀ c, c < F → am_I (G 9 c) 64) (hw : ∀ c, c < F → aw_we G c) : ∀ k, k ≤ F → (∀ f, ¬ (19 ≤ f ∧ f ≤ 23) → (am_it (as_pa n T) (G, L, 0) k).1 f = G f) ∧ (am_it (as_pa n T) (G, L, 0) k).2.2 = ar_t G n T k ∧ ∀ c, (am_it (as_pa n T) (G, L, 0) k).2.1 c = if c < k then ar_l G n T c else L c := by
  intro k
  induction k with
  | zero =>
    intro _
    refine ⟨fun _ _ => rfl, rfl, fun c => ?_⟩
    rw [if_neg (Nat.not_lt_zero c)]
    rfl
  | succ k ih =>
    intro hk
    obtain ⟨i1, i2, i3⟩ := ih (by omega)
    rw [am_it]
    refine ⟨fun f hf => by rw [as_pa_ne hf, i1 f hf], ?_⟩
    have hpo := ar_po (n := n) (T := T) (p := (am_it (as_pa n T) (G, L, 0) k).2.2) i1 (hcp k (by omega)) (hw k (by omega))
    generalize am_it (as_pa n T) (G, L, 0) k = s at i1 i2 i3 hpo ⊢
    unfold as_pa
    rw [i1 7 (by decide), ar_t]
    by_cases h7 : G 7 k = 1
    · rw [if_pos h7, if_pos h7, hpo, i2]
      refine ⟨rfl, fun c => ?_⟩
      show am_upd s.2.1 k (ar_p G n T k (ar_t G n T k)) c = _
      by_cases e : c = k
      · rw [e, am_upd_eq, if_pos (Nat.lt_succ_self k), ar_l, if_pos h7]
      · rw [am_upd_ne e, i3 c]
        by_cases h : c < k
        · rw [if_pos h, if_pos (by omega)]
        · rw [if_neg h, if_neg (by omega)]
    · rw [if_neg h7, if_neg h7]
      refine ⟨i2, fun c => ?_⟩
      show am_upd s.2.1 k 0 c = _
      by_cases e : c = k
      · rw [e, am_upd_eq, if_pos (Nat.lt_succ_self k), ar_l, if_neg h7]
      · rw [am_upd_ne e, i3 c]
        by_cases h : c < k
        · rw [if_pos h, if_pos (by omega)]
        · rw [if_neg h, if_neg (by omega)]
