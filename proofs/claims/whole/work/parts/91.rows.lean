/-! THE CLASS'S OPEN TILES and the reference's spots are the same rows -/
theorem as_oq_sp {G Q : am_G} {n T c : Nat} {q p : Int64} (h : ∀ t, t < 64 → (as_op G c t q ↔ as_cw G n T c t p)) : ∀ k, k ≤ 64 → am_it (as_oq G c q) (am_up Q 4 0 0) k 4 0 = Int32.ofNat (am_cnt (fun t => as_cw G n T c t p) k) ∧ am_it (as_sp G n T c p) (am_up G 19 0 0) k 19 0 = Int32.ofNat (am_cnt (fun t => as_cw G n T c t p) k) ∧ (∀ i, i < am_cnt (fun t => as_cw G n T c t p) k → ∃ u, u < k ∧ am_it (as_oq G c q) (am_up Q 4 0 0) k 5 i = Int32.ofNat u ∧ am_it (as_sp G n T c p) (am_up G 19 0 0) k 20 i = Int32.ofNat u ∧ am_it (as_sp G n T c p) (am_up G 19 0 0) k 21 i = as_fo G u ∧ am_it (as_sp G n T c p) (am_up G 19 0 0) k 22 i = as_wo G c u) ∧ (∀ i j, i < j → j < am_cnt (fun t => as_cw G n T c t p) k → (am_it (as_oq G c q) (am_up Q 4 0 0) k 5 i).toNatClampNeg < (am_it (as_oq G c q) (am_up Q 4 0 0) k 5 j).toNatClampNeg) := by
  intro k
  induction k with
  | zero =>
    intro _
    refine ⟨?_, ?_, fun i hi => absurd hi (Nat.not_lt_zero i), fun i j _ hj => absurd hj (Nat.not_lt_zero j)⟩
    · show am_up Q 4 0 0 4 0 = Int32.ofNat 0
      rw [am_up_eq, am_upd_eq]
      rfl
    · show am_up G 19 0 0 19 0 = Int32.ofNat 0
      rw [am_up_eq, am_upd_eq]
      rfl
  | succ k ih =>
    intro hk
    obtain ⟨a1, a2, a3, a4⟩ := ih (by omega)
    have hle := am_cnt_le (p := fun t => as_cw G n T c t p) k
    have hJ := am_tcn (show am_cnt (fun t => as_cw G n T c t p) k ≤ 100000 by omega)
    have hc1 : am_cnt (fun t => as_cw G n T c t p) (k + 1) = am_cnt (fun t => as_cw G n T c t p) k + if as_cw G n T c k p then 1 else 0 := rfl
    rw [hc1, am_it, am_it]
    generalize am_it (as_sp G n T c p) (am_up G 19 0 0) k = X at a2 a3 ⊢
    generalize am_it (as_oq G c q) (am_up Q 4 0 0) k = Y at a1 a3 a4 ⊢
    generalize am_cnt (fun t => as_cw G n T c t p) k = m at a1 a2 a3 a4 hle hJ ⊢
    unfold as_sp as_oq
    by_cases e : as_cw G n T c k p
    · rw [if_pos e, if_pos e, if_pos ((h k (by omega)).mpr e), a1, a2, hJ]
      have y5 : am_up (am_up Y 5 m (Int32.ofNat k)) 4 0 (Int32.ofNat m + 1) 5 = am_upd (Y 5) m (Int32.ofNat k) := by rw [am_up_ne (by decide), am_up_eq]
      have x20 : am_up (am_up (am_up (am_up X 20 m (Int32.ofNat k)) 21 m (as_fo G k)) 22 m (as_wo G c k)) 19 0 (Int32.ofNat m + 1) 20 = am_upd (X 20) m (Int32.ofNat k) := by rw [am_up_ne (by decide), am_up_ne (by decide), am_up_ne (by decide), am_up_eq]
      have x21 : am_up (am_up (am_up (am_up X 20 m (Int32.ofNat k)) 21 m (as_fo G k)) 22 m (as_wo G c k)) 19 0 (Int32.ofNat m + 1) 21 = am_upd (X 21) m (as_fo G k) := by rw [am_up_ne (by decide), am_up_ne (by decide), am_up_eq, am_up_ne (by decide)]
      have x22 : am_up (am_up (am_up (am_up X 20 m (Int32.ofNat k)) 21 m (as_fo G k)) 22 m (as_wo G c k)) 19 0 (Int32.ofNat m + 1) 22 = am_upd (X 22) m (as_wo G c k) := by rw [am_up_ne (by decide), am_up_eq, am_up_ne (by decide), am_up_ne (by decide)]
      rw [y5, x20, x21, x22]
      refine ⟨by rw [am_up_eq, am_upd_eq, am_succ], by rw [am_up_eq, am_upd_eq, am_succ], fun i hi => ?_, fun i j hij hj => ?_⟩
      · by_cases e2 : i = m
        · rw [e2, am_upd_eq, am_upd_eq, am_upd_eq, am_upd_eq]
          exact ⟨k, by omega, rfl, rfl, rfl, rfl⟩
        · rw [am_upd_ne e2, am_upd_ne e2, am_upd_ne e2, am_upd_ne e2]
          obtain ⟨u, u1, u2⟩ := a3 i (by omega)
          exact ⟨u, by omega, u2⟩
      · have hi : ¬ i = m := by omega
        rw [am_upd_ne hi]
        by_cases e2 : j = m
        · rw [e2, am_upd_eq]
          obtain ⟨u, u1, u2, -⟩ := a3 i (by omega)
          rw [u2, am_tcn (by omega), am_tcn (by omega)]
          exact u1
        · rw [am_upd_ne e2]
          exact a4 i j hij (by omega)
    · rw [if_neg e, if_neg e, if_neg (fun z => e ((h k (by omega)).mp z)), Nat.add_zero]
      refine ⟨a1, a2, fun i hi => ?_, a4⟩
      obtain ⟨u, u1, u2⟩ := a3 i hi
      exact ⟨u, by omega, u2⟩
