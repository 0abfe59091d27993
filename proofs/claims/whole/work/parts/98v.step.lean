/-! a step: what the class asks is what the reference asks -/
theorem as_df_none {q : Nat → Prop} [DecidablePred q] {w : Nat → Int32} : ∀ {n}, as_df q w n = none → ∀ k, k < n → ¬ q k
  | 0, _, k, hk => absurd hk (Nat.not_lt_zero k)
  | n + 1, h, k, hk => by
    unfold as_df at h
    split at h
    · cases h
    · next hp =>
      rcases (show k < n ∨ k = n by omega) with a | a
      · exact as_df_none h k a
      · rw [a]
        intro hq
        refine hp ⟨hq, ?_⟩
        rw [h]
        rfl
theorem am_up_id {G : am_G} {f k : Nat} {v : Int32} (h : G f k = v) : am_up G f k v = G := by
  funext x
  by_cases e : x = f
  · rw [e, am_up_eq]
    funext y
    by_cases e2 : y = k
    · rw [e2, am_upd_eq, h]
    · rw [am_upd_ne e2]
  · rw [am_up_ne e]
theorem am_mx_sub {m x : Int32} (hx : x = 1 ∨ x = 2) (h : x ≤ m) : am_mx (m - x) 0 = m - x := by
  have h1 := Int32.le_iff_toInt_le.mp h
  have h3 := m.toInt_lt
  have e : (m - x).toInt = m.toInt - x.toInt := by
    rw [Int32.toInt_sub]
    have : x.toInt = 1 ∨ x.toInt = 2 := by rcases hx with rfl | rfl <;> first | exact Or.inl rfl | exact Or.inr rfl
    exact Int.bmod_eq_of_le (by omega) (by omega)
  have h0 : 0 ≤ m - x := by
    rw [Int32.le_iff_toInt_le, e]
    have : (0 : Int32).toInt = 0 := rfl
    omega
  unfold am_mx
  split
  · next q => exact Int32.le_antisymm h0 (Int32.le_of_lt q)
  · rfl
theorem as_dst {x y : Int32} (hx : 0 ≤ x ∧ x ≤ 7) (hy : 0 ≤ y ∧ y ≤ 7) : am_I (8 * y + x) 64 := by
  obtain ⟨a, a1, rfl⟩ := (am_Ib (m := 7) (by decide) hx.1 hx.2).cases
  obtain ⟨b, b1, rfl⟩ := (am_Ib (m := 7) (by decide) hy.1 hy.2).cases
  rw [show (8 : Int32) = Int32.ofNat 8 from rfl, ← Int32.ofNat_mul, ← Int32.ofNat_add]
  exact am_Ik (by omega) (by decide)
section
variable {G : am_G} {n F T i j : Nat} {t : Int32}
theorem as_wy_0 (h : G 2 t.toNatClampNeg = 0 ∨ ¬ as_ct G t ≤ G 31 j) : as_wy G n T j t = 0 := by
  unfold as_wy
  rw [if_pos h]
theorem as_on_k (hu : ai_u G n F) {k : Nat} (hk : k < n) (h : G 29 k = t) : am_on G n t = G 27 k := by
  unfold am_on
  rcases e : am_find (fun j => G 29 j = t) 0 n with _ | f
  · exact absurd h (am_find_none n 0 e k (Nat.zero_le _) (by omega))
  · obtain ⟨-, f2, f3⟩ := am_find_ge n 0 f e
    exact hu.1 f (by omega) k hk (by rw [f3, h])
theorem as_on_0 (h : ∀ k, k < n → ¬ G 29 k = t) : am_on G n t = -1 := by
  unfold am_on
  rcases e : am_find (fun j => G 29 j = t) 0 n with _ | f
  · rfl
  · obtain ⟨-, f2, f3⟩ := am_find_ge n 0 f e
    exact absurd f3 (h f (by omega))
theorem aw_P.n1 {p : Int32} (h : aw_P p) : ¬ p = -1 := fun q => by
  have := h.1
  rw [q] at this
  exact absurd this (by decide)
theorem as_wy_2 (hA : ai G n F T i) (h0 : ¬ (G 2 t.toNatClampNeg = 0 ∨ ¬ as_ct G t ≤ G 31 j)) {f : Nat} (hf : as_foe G T (G 27 j) t n = some f) : as_wy G n T j t = if am_at (G 28 j) ≤ 0 then 0 else 2 := by
  obtain ⟨f1, f2, f3⟩ := as_foe_lt hf
  have ho := as_on_k hA.u f1 f2
  unfold as_wy
  rw [if_neg h0, ho, if_pos ⟨(hA.uo f f1).n1, f3.1⟩]
  by_cases q : am_at (G 28 j) ≤ 0
  · rw [if_pos q, if_neg fun z => z.2 q]
  · rw [if_neg q, if_pos ⟨f3, q⟩]
abbrev as_cw' (G : am_G) (T : Nat) (t p : Int32) : Prop := ¬ G 5 t.toNatClampNeg = -1 ∧ am_war G (G 8 (G 5 t.toNatClampNeg).toNatClampNeg) p T
theorem as_ctu (hA : ai G n F T i) (ht : am_I t 64) (hc : ¬ G 5 t.toNatClampNeg = -1) {k : Nat} (hk : k < n) (h : G 29 k = t) : G 27 k = G 8 (G 5 t.toNatClampNeg).toNatClampNeg := by
  obtain ⟨c1, c2, c3, -⟩ := hA.a.c ht hc
  exact hA.u.2 k hk _ c1 c2 (by rw [h, c3])
theorem as_wy_3 (hA : ai G n F T i) (ht : am_I t 64) (h0 : ¬ (G 2 t.toNatClampNeg = 0 ∨ ¬ as_ct G t ≤ G 31 j)) (hf : as_foe G T (G 27 j) t n = none) (hc : as_cw' G T t (G 27 j)) : (∀ k, k < n → ¬ G 29 k = t) ∧ as_wy G n T j t = if am_at (G 28 j) ≤ 0 then 0 else 3 := by
  have hno : ∀ k, k < n → ¬ G 29 k = t := fun k hk q => as_df_none hf k hk ⟨q, by rw [as_ctu hA ht hc.1 hk q]; exact hc.2⟩
  refine ⟨hno, ?_⟩
  have ho := as_on_0 hno
  unfold as_wy
  rw [if_neg h0, ho, if_neg fun z => z.1 rfl, if_pos ⟨hc.1, hc.2.1⟩]
  by_cases q : am_at (G 28 j) ≤ 0
  · rw [if_pos q, if_neg fun z => z.2 q]
  · rw [if_neg q, if_pos ⟨hc.2, q⟩]
abbrev as_go (G : am_G) (n T j : Nat) (t : Int32) : Prop := am_cnt (fun j => G 29 j = t) n < 4 ∧ ¬ ((¬ G 5 t.toNatClampNeg = -1 ∧ ¬ G 8 (G 5 t.toNatClampNeg).toNatClampNeg = G 27 j) ∨ am_any (fun k => G 29 k = t ∧ ¬ G 27 k = G 27 j) n = true) ∧ ¬ (¬ G 4 t.toNatClampNeg = -1 ∧ ¬ G 4 t.toNatClampNeg = G 27 j ∧ ¬ am_war G (G 4 t.toNatClampNeg) (G 27 j) T ∧ ¬ am_sts G 1 (G 4 t.toNatClampNeg) (G 27 j) T) ∧ ¬ (as_zn G n T (G 29 j) (G 27 j) = true ∧ as_zn G n T t (G 27 j) = true ∧ ¬ as_ow G n t (G 27 j))
theorem as_wy_1 (hA : ai G n F T i) (hj : j < n) (h0 : ¬ (G 2 t.toNatClampNeg = 0 ∨ ¬ as_ct G t ≤ G 31 j)) (hf : as_foe G T (G 27 j) t n = none) (hc : ¬ as_cw' G T t (G 27 j)) : as_wy G n T j t = if as_go G n T j t then 1 else 0 := by
  unfold as_wy
  rw [if_neg h0]
  have ho := ai_on hA.v hA.u (t := t) (p := G 27 j)
  by_cases b : ¬ am_on G n t = -1 ∧ ¬ am_on G n t = G 27 j
  · rw [if_pos b, if_neg (show ¬ as_go G n T j t from fun z => z.2.1 (Or.inr (ho.mpr b)))]
    obtain ⟨k, k1, k2, k3⟩ := am_any_iff.mp (ho.mpr b)
    rw [if_neg]
    rw [as_on_k hA.u k1 k2]
    exact fun z => as_df_none hf k k1 ⟨k2, z.1⟩
  · rw [if_neg b]
    by_cases d : ¬ G 5 t.toNatClampNeg = -1 ∧ ¬ G 8 (G 5 t.toNatClampNeg).toNatClampNeg = G 27 j
    · rw [if_pos d, if_neg (show ¬ as_go G n T j t from fun z => z.2.1 (Or.inl d)), if_neg fun z => hc ⟨d.1, z.1⟩]
    · rw [if_neg d]
      have own : (am_on G n t = G 27 j ∨ ¬ G 5 t.toNatClampNeg = -1) ↔ as_ow G n t (G 27 j) := by
        constructor
        · rintro (z | z)
          · right
            unfold am_on at z
            rcases e : am_find (fun j => G 29 j = t) 0 n with _ | f
            · rw [e] at z
              have z : (-1 : Int32) = G 27 j := z
              exact absurd z.symm (hA.uo j hj).n1
            · rw [e] at z
              obtain ⟨-, f2, f3⟩ := am_find_ge n 0 f e
              exact am_any_iff.mpr ⟨f, by omega, f3, z⟩
          · exact Or.inl ⟨z, Classical.byContradiction fun w => d ⟨z, w⟩⟩
        · rintro (z | z)
          · exact Or.inr z.1
          · obtain ⟨k, k1, k2, k3⟩ := am_any_iff.mp z
            left
            rw [as_on_k hA.u k1 k2, k3]
      by_cases g : as_go G n T j t
      · obtain ⟨g1, g2, g3, g4⟩ := g
        rw [if_pos (show as_go G n T j t from ⟨g1, g2, g3, g4⟩), if_neg]
        rintro (z | z | z)
        · exact g4 ⟨z.1, z.2.1, fun w => z.2.2 (own.mpr w)⟩
        · exact g3 z
        · omega
      · rw [if_neg g, if_pos]
        refine Classical.byContradiction fun z => g ⟨?_, ?_, fun w => z (Or.inr (Or.inl w)), fun w => z (Or.inl ⟨w.1, w.2.1, fun y => w.2.2 (own.mp y)⟩)⟩
        · exact Classical.byContradiction fun w => z (Or.inr (Or.inr (by omega)))
        · rintro (w | w)
          · exact d w
          · exact b (ho.mp w)
theorem ai.hs (h : ai G n F T i) (hi : i ≤ 600) : ∀ c, c < F → G 7 c = 1 → 1 ≤ G 10 c := fun c hc h7 => by
  obtain ⟨z, z1, z2, z3⟩ := h.s c hc
  rw [z1]
  exact (am_le_nat (a := 1) (by decide) (by omega)).mpr (z3 h7)
theorem as_gt_0 {p : Int32} : as_gt F t p G 0 = G 0 := by
  unfold as_gt
  split
  · unfold as_tc
    split
    · rw [am_rc7_ne (by decide), am_up_ne (by decide)]
    · rw [as_cp_ne (by decide), as_t0_ne (by decide)]
  · rfl
theorem as_fg_0 {k : Nat} : (as_fg G n F k j).1 0 = G 0 := by
  have f1 : as_f1 G k j 0 = G 0 := by
    unfold as_f1
    rw [am_up_ne (by decide), am_up_ne (by decide), am_up_ne (by decide)]
  have f3 : ∀ (Y : am_G) (t p : Int32) (m x : Nat), (as_f3 F t p Y m x).1 0 = Y 0 := fun Y t p m x => by
    unfold as_f3
    split
    · exact am_dr_f0 (G := Y) (n := m) (i := x)
    · split
      · show as_gt F t p (am_up Y 29 x t) 0 = Y 0
        rw [as_gt_0, am_up_ne (by decide)]
      · rfl
  unfold as_fg
  split
  · rw [f3, am_dr_f0, f1]
  · rw [f3, f1]
end
