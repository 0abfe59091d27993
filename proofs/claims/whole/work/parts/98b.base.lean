/-! WHAT ALL CALLS NEED -/
theorem am_20 : ((2 : Int32) = 0) = False := eq_false (by decide)
theorem am_30 : ((3 : Int32) = 0) = False := eq_false (by decide)
theorem am_Ib {t : Int32} {m : Nat} (hm : m ≤ 100000) (h1 : 0 ≤ t) (h2 : t ≤ Int32.ofNat m) : am_I t (m + 1) := by
  have a1 := Int32.le_iff_toInt_le.mp h1
  have a2 := Int32.le_iff_toInt_le.mp h2
  rw [Int32.toInt_ofNat_of_lt (by omega)] at a2
  have e0 : (0 : Int32).toInt = 0 := rfl
  rw [e0] at a1
  refine ⟨?_, ?_⟩
  · rw [Int32.lt_iff_toInt_lt, e0]
    omega
  · show t.toInt.toNat < m + 1
    omega
theorem am_I64 {t : Int32} (h : 0 ≤ t ∧ t ≤ 63) : am_I t 64 := am_Ib (m := 63) (by decide) h.1 h.2
theorem am_ofz {a : Nat} (ha : a ≤ 100000) : (Int32.ofNat a = 0) = (a = 0) := propext (am_z0 ha)
theorem am_ofl {a : Nat} (ha : a ≤ 100000) : (Int32.ofNat a ≤ 0) = (a = 0) := propext ⟨fun h => by have := (am_le_nat (b := 0) ha (by omega)).mp h; omega, fun h => by rw [h]; decide⟩
theorem am_ofg {a : Nat} (ha : a ≤ 100000) : (0 < Int32.ofNat a) = ¬ (a = 0) := propext ⟨fun h => by have := (am_lt_nat (a := 0) (by omega) ha).mp h; omega, fun h => (am_lt_nat (a := 0) (by omega) ha).mpr (by omega)⟩
section
variable {K : aw_K} {A : aw_A} {G Q : am_G} {M : aw_M} {L : Nat → Int64} {r : am_H} {n F T i : Nat}
theorem ai.tz (h : ai G n F T i) (hi : i ≤ 600) : (0 < G 1 0) = ¬ (G 1 0 = 0) := by
  obtain ⟨t, t1, t2⟩ := h.t
  rw [t2, am_ofg (by omega), am_ofz (by omega)]
theorem ai.hb' (h : ai G n F T i) : ∀ k, G 7 k = 0 ∨ G 7 k = 1 := fun k => by
  rcases Nat.lt_or_ge k F with q | q
  · exact h.hb k q
  · exact Or.inl (h.z k q).2
theorem ai_city (hW : aw_W K A G n F T) (hA : ai G n F T i) (c : Int32) : (∃ k, k < F ∧ c = Int32.ofNat k ∧ G 7 k = 1) ∨ ((∀ k, k < F → G 7 k = 1 → ¬ Int32.ofNat k = c) ∧ ¬ ((0 ≤ c ∧ c ≤ G 6 0 - 1) ∧ G 7 c.toNatClampNeg = 1)) := by
  have hF12 := hW.F12
  by_cases h : ∃ k, k < F ∧ c = Int32.ofNat k ∧ G 7 k = 1
  · exact Or.inl h
  · refine Or.inr ⟨fun k h1 h2 h3 => h ⟨k, h1, h3.symm, h2⟩, fun q => ?_⟩
    obtain ⟨⟨q1, q2⟩, q3⟩ := q
    rw [hW.hF] at q2
    rcases Nat.eq_zero_or_pos F with e | e
    · rw [e] at q2
      have := Int32.le_trans q1 q2
      exact absurd this (by decide)
    · rw [show Int32.ofNat F - 1 = Int32.ofNat (F - 1) from (Int32.ofNat_sub F 1 e).symm] at q2
      obtain ⟨k, k1, k2⟩ := (am_Ib (by omega) q1 q2).cases
      rw [k2, am_tcn (by omega)] at q3
      exact h ⟨k, by omega, k2, q3⟩
theorem mr158_1 (hW : aw_W K A G n F T) (hA : ai G n F T i) {k : Nat} (hk : k < F) (h7 : G 7 k = 1) : am_exec 158 0 [.ref 40, .int (Int32.ofNat k)] [] (am_ov G L r) = some (.inl (some (.int 1)), am_ov G L r) := by
  have hF12 := hW.F12
  rw [mr158 (fun _ _ => am_Ik (by omega) (by decide)) hA.hb', am_tcn (by omega)]
  have e : (0 ≤ Int32.ofNat k ∧ Int32.ofNat k ≤ G 6 0 - 1) ∧ G 7 k = 1 := by
    rw [hW.hF, show Int32.ofNat F - 1 = Int32.ofNat (F - 1) from (Int32.ofNat_sub F 1 (by omega)).symm, am_le_nat (by omega) (by omega)]
    exact ⟨⟨(am_le_nat (a := 0) (by omega) (by omega)).mpr (Nat.zero_le k), by omega⟩, h7⟩
  show some (Sum.inl (some (Value.int (if _ then 1 else 0))), _) = _
  rw [if_pos e]
theorem mr158_0 (hW : aw_W K A G n F T) (hA : ai G n F T i) {c : Int32} (hc : ¬ ((0 ≤ c ∧ c ≤ G 6 0 - 1) ∧ G 7 c.toNatClampNeg = 1)) : am_exec 158 0 [.ref 40, .int c] [] (am_ov G L r) = some (.inl (some (.int 0)), am_ov G L r) := by
  have hF12 := hW.F12
  rw [mr158 (fun q1 q2 => by
    rw [hW.hF] at q2
    rcases Nat.eq_zero_or_pos F with e | e
    · rw [e] at q2
      have := Int32.le_trans q1 q2
      exact absurd this (by decide)
    · rw [show Int32.ofNat F - 1 = Int32.ofNat (F - 1) from (Int32.ofNat_sub F 1 e).symm] at q2
      exact (am_Ib (by omega) q1 q2).mono (by omega)) hA.hb']
  show some (Sum.inl (some (Value.int (if _ then 1 else 0))), _) = _
  rw [if_neg hc]
theorem ai_treaty (hW : aw_W K A G n F T) (k : Int32) : (∃ j, j < T ∧ k = Int32.ofNat j) ∨ ¬ (0 ≤ k ∧ k ≤ G 45 0 - 1) := by
  have hT40 := hW.T40
  by_cases h : 0 ≤ k ∧ k ≤ G 45 0 - 1
  · left
    obtain ⟨q1, q2⟩ := h
    rw [hW.hT] at q2
    rcases Nat.eq_zero_or_pos T with e | e
    · rw [e] at q2
      have := Int32.le_trans q1 q2
      exact absurd this (by decide)
    · rw [show Int32.ofNat T - 1 = Int32.ofNat (T - 1) from (Int32.ofNat_sub T 1 e).symm] at q2
      obtain ⟨j, j1, j2⟩ := (am_Ib (by omega) q1 q2).cases
      exact ⟨j, by omega, j2⟩
  · exact Or.inr h
theorem mr205_1 (hW : aw_W K A G n F T) {j : Nat} (hj : j < T) : am_exec 205 0 [.ref 40, .int (Int32.ofNat j)] [] (am_ov G L r) = some (.inl (some (.int 1)), am_ov G L r) := by
  have hT40 := hW.T40
  rw [mr205]
  have e : 0 ≤ Int32.ofNat j ∧ Int32.ofNat j ≤ G 45 0 - 1 := by
    rw [hW.hT, show Int32.ofNat T - 1 = Int32.ofNat (T - 1) from (Int32.ofNat_sub T 1 (by omega)).symm, am_le_nat (by omega) (by omega)]
    exact ⟨(am_le_nat (a := 0) (by omega) (by omega)).mpr (Nat.zero_le j), by omega⟩
  show some (Sum.inl (some (Value.int (if _ then 1 else 0))), _) = _
  rw [if_pos e]
theorem mr205_0 {k : Int32} (hk : ¬ (0 ≤ k ∧ k ≤ G 45 0 - 1)) : am_exec 205 0 [.ref 40, .int k] [] (am_ov G L r) = some (.inl (some (.int 0)), am_ov G L r) := by
  rw [mr205]
  show some (Sum.inl (some (Value.int (if _ then 1 else 0))), _) = _
  rw [if_neg hk]
end
