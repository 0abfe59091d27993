/-! WHAT ALL CALLS NEED -/
theorem am_npp {p : Prop} : (¬ p ∨ p) = True := eq_true (Classical.em p).symm
theorem am_20 : ((2 : Int32) = 0) = False := eq_false (by decide)
theorem am_30 : ((3 : Int32) = 0) = False := eq_false (by decide)
theorem am_ne_m1_0 : (((-1) : Int32) = 0) = False := eq_false (by decide)
theorem am_ne_m1_1 : (((-1) : Int32) = 1) = False := eq_false (by decide)
theorem am_ne_m1_2 : (((-1) : Int32) = 2) = False := eq_false (by decide)
theorem am_ne_m1_3 : (((-1) : Int32) = 3) = False := eq_false (by decide)
theorem am_ne_m1_4 : (((-1) : Int32) = 4) = False := eq_false (by decide)
theorem am_ne_m1_5 : (((-1) : Int32) = 5) = False := eq_false (by decide)
theorem am_ne_m1_6 : (((-1) : Int32) = 6) = False := eq_false (by decide)
theorem am_ne_m1_7 : (((-1) : Int32) = 7) = False := eq_false (by decide)
theorem am_ne_m1_8 : (((-1) : Int32) = 8) = False := eq_false (by decide)
theorem am_ne_m1_9 : (((-1) : Int32) = 9) = False := eq_false (by decide)
theorem am_ne_m1_10 : (((-1) : Int32) = 10) = False := eq_false (by decide)
theorem am_ne_0_m1 : ((0 : Int32) = (-1)) = False := eq_false (by decide)
theorem am_ne_0_2 : ((0 : Int32) = 2) = False := eq_false (by decide)
theorem am_ne_0_3 : ((0 : Int32) = 3) = False := eq_false (by decide)
theorem am_ne_0_4 : ((0 : Int32) = 4) = False := eq_false (by decide)
theorem am_ne_0_5 : ((0 : Int32) = 5) = False := eq_false (by decide)
theorem am_ne_0_6 : ((0 : Int32) = 6) = False := eq_false (by decide)
theorem am_ne_0_7 : ((0 : Int32) = 7) = False := eq_false (by decide)
theorem am_ne_0_8 : ((0 : Int32) = 8) = False := eq_false (by decide)
theorem am_ne_0_9 : ((0 : Int32) = 9) = False := eq_false (by decide)
theorem am_ne_0_10 : ((0 : Int32) = 10) = False := eq_false (by decide)
theorem am_ne_1_m1 : ((1 : Int32) = (-1)) = False := eq_false (by decide)
theorem am_ne_1_2 : ((1 : Int32) = 2) = False := eq_false (by decide)
theorem am_ne_1_3 : ((1 : Int32) = 3) = False := eq_false (by decide)
theorem am_ne_1_4 : ((1 : Int32) = 4) = False := eq_false (by decide)
theorem am_ne_1_5 : ((1 : Int32) = 5) = False := eq_false (by decide)
theorem am_ne_1_6 : ((1 : Int32) = 6) = False := eq_false (by decide)
theorem am_ne_1_7 : ((1 : Int32) = 7) = False := eq_false (by decide)
theorem am_ne_1_8 : ((1 : Int32) = 8) = False := eq_false (by decide)
theorem am_ne_1_9 : ((1 : Int32) = 9) = False := eq_false (by decide)
theorem am_ne_1_10 : ((1 : Int32) = 10) = False := eq_false (by decide)
theorem am_ne_2_m1 : ((2 : Int32) = (-1)) = False := eq_false (by decide)
theorem am_ne_2_1 : ((2 : Int32) = 1) = False := eq_false (by decide)
theorem am_ne_2_3 : ((2 : Int32) = 3) = False := eq_false (by decide)
theorem am_ne_2_4 : ((2 : Int32) = 4) = False := eq_false (by decide)
theorem am_ne_2_5 : ((2 : Int32) = 5) = False := eq_false (by decide)
theorem am_ne_2_6 : ((2 : Int32) = 6) = False := eq_false (by decide)
theorem am_ne_2_7 : ((2 : Int32) = 7) = False := eq_false (by decide)
theorem am_ne_2_8 : ((2 : Int32) = 8) = False := eq_false (by decide)
theorem am_ne_2_9 : ((2 : Int32) = 9) = False := eq_false (by decide)
theorem am_ne_2_10 : ((2 : Int32) = 10) = False := eq_false (by decide)
theorem am_ne_3_m1 : ((3 : Int32) = (-1)) = False := eq_false (by decide)
theorem am_ne_3_1 : ((3 : Int32) = 1) = False := eq_false (by decide)
theorem am_ne_3_2 : ((3 : Int32) = 2) = False := eq_false (by decide)
theorem am_ne_3_4 : ((3 : Int32) = 4) = False := eq_false (by decide)
theorem am_ne_3_5 : ((3 : Int32) = 5) = False := eq_false (by decide)
theorem am_ne_3_6 : ((3 : Int32) = 6) = False := eq_false (by decide)
theorem am_ne_3_7 : ((3 : Int32) = 7) = False := eq_false (by decide)
theorem am_ne_3_8 : ((3 : Int32) = 8) = False := eq_false (by decide)
theorem am_ne_3_9 : ((3 : Int32) = 9) = False := eq_false (by decide)
theorem am_ne_3_10 : ((3 : Int32) = 10) = False := eq_false (by decide)
theorem am_ne_4_m1 : ((4 : Int32) = (-1)) = False := eq_false (by decide)
theorem am_ne_4_0 : ((4 : Int32) = 0) = False := eq_false (by decide)
theorem am_ne_4_1 : ((4 : Int32) = 1) = False := eq_false (by decide)
theorem am_ne_4_2 : ((4 : Int32) = 2) = False := eq_false (by decide)
theorem am_ne_4_3 : ((4 : Int32) = 3) = False := eq_false (by decide)
theorem am_ne_4_5 : ((4 : Int32) = 5) = False := eq_false (by decide)
theorem am_ne_4_6 : ((4 : Int32) = 6) = False := eq_false (by decide)
theorem am_ne_4_7 : ((4 : Int32) = 7) = False := eq_false (by decide)
theorem am_ne_4_8 : ((4 : Int32) = 8) = False := eq_false (by decide)
theorem am_ne_4_9 : ((4 : Int32) = 9) = False := eq_false (by decide)
theorem am_ne_4_10 : ((4 : Int32) = 10) = False := eq_false (by decide)
theorem am_ne_5_m1 : ((5 : Int32) = (-1)) = False := eq_false (by decide)
theorem am_ne_5_0 : ((5 : Int32) = 0) = False := eq_false (by decide)
theorem am_ne_5_1 : ((5 : Int32) = 1) = False := eq_false (by decide)
theorem am_ne_5_2 : ((5 : Int32) = 2) = False := eq_false (by decide)
theorem am_ne_5_3 : ((5 : Int32) = 3) = False := eq_false (by decide)
theorem am_ne_5_4 : ((5 : Int32) = 4) = False := eq_false (by decide)
theorem am_ne_5_6 : ((5 : Int32) = 6) = False := eq_false (by decide)
theorem am_ne_5_7 : ((5 : Int32) = 7) = False := eq_false (by decide)
theorem am_ne_5_8 : ((5 : Int32) = 8) = False := eq_false (by decide)
theorem am_ne_5_9 : ((5 : Int32) = 9) = False := eq_false (by decide)
theorem am_ne_5_10 : ((5 : Int32) = 10) = False := eq_false (by decide)
theorem am_ne_6_m1 : ((6 : Int32) = (-1)) = False := eq_false (by decide)
theorem am_ne_6_0 : ((6 : Int32) = 0) = False := eq_false (by decide)
theorem am_ne_6_1 : ((6 : Int32) = 1) = False := eq_false (by decide)
theorem am_ne_6_2 : ((6 : Int32) = 2) = False := eq_false (by decide)
theorem am_ne_6_3 : ((6 : Int32) = 3) = False := eq_false (by decide)
theorem am_ne_6_4 : ((6 : Int32) = 4) = False := eq_false (by decide)
theorem am_ne_6_5 : ((6 : Int32) = 5) = False := eq_false (by decide)
theorem am_ne_6_7 : ((6 : Int32) = 7) = False := eq_false (by decide)
theorem am_ne_6_8 : ((6 : Int32) = 8) = False := eq_false (by decide)
theorem am_ne_6_9 : ((6 : Int32) = 9) = False := eq_false (by decide)
theorem am_ne_6_10 : ((6 : Int32) = 10) = False := eq_false (by decide)
theorem am_ne_7_m1 : ((7 : Int32) = (-1)) = False := eq_false (by decide)
theorem am_ne_7_0 : ((7 : Int32) = 0) = False := eq_false (by decide)
theorem am_ne_7_1 : ((7 : Int32) = 1) = False := eq_false (by decide)
theorem am_ne_7_2 : ((7 : Int32) = 2) = False := eq_false (by decide)
theorem am_ne_7_3 : ((7 : Int32) = 3) = False := eq_false (by decide)
theorem am_ne_7_4 : ((7 : Int32) = 4) = False := eq_false (by decide)
theorem am_ne_7_5 : ((7 : Int32) = 5) = False := eq_false (by decide)
theorem am_ne_7_6 : ((7 : Int32) = 6) = False := eq_false (by decide)
theorem am_ne_7_8 : ((7 : Int32) = 8) = False := eq_false (by decide)
theorem am_ne_7_9 : ((7 : Int32) = 9) = False := eq_false (by decide)
theorem am_ne_7_10 : ((7 : Int32) = 10) = False := eq_false (by decide)
theorem am_ne_8_m1 : ((8 : Int32) = (-1)) = False := eq_false (by decide)
theorem am_ne_8_0 : ((8 : Int32) = 0) = False := eq_false (by decide)
theorem am_ne_8_1 : ((8 : Int32) = 1) = False := eq_false (by decide)
theorem am_ne_8_2 : ((8 : Int32) = 2) = False := eq_false (by decide)
theorem am_ne_8_3 : ((8 : Int32) = 3) = False := eq_false (by decide)
theorem am_ne_8_4 : ((8 : Int32) = 4) = False := eq_false (by decide)
theorem am_ne_8_5 : ((8 : Int32) = 5) = False := eq_false (by decide)
theorem am_ne_8_6 : ((8 : Int32) = 6) = False := eq_false (by decide)
theorem am_ne_8_7 : ((8 : Int32) = 7) = False := eq_false (by decide)
theorem am_ne_8_9 : ((8 : Int32) = 9) = False := eq_false (by decide)
theorem am_ne_8_10 : ((8 : Int32) = 10) = False := eq_false (by decide)
theorem am_ne_9_m1 : ((9 : Int32) = (-1)) = False := eq_false (by decide)
theorem am_ne_9_0 : ((9 : Int32) = 0) = False := eq_false (by decide)
theorem am_ne_9_1 : ((9 : Int32) = 1) = False := eq_false (by decide)
theorem am_ne_9_2 : ((9 : Int32) = 2) = False := eq_false (by decide)
theorem am_ne_9_3 : ((9 : Int32) = 3) = False := eq_false (by decide)
theorem am_ne_9_4 : ((9 : Int32) = 4) = False := eq_false (by decide)
theorem am_ne_9_5 : ((9 : Int32) = 5) = False := eq_false (by decide)
theorem am_ne_9_6 : ((9 : Int32) = 6) = False := eq_false (by decide)
theorem am_ne_9_7 : ((9 : Int32) = 7) = False := eq_false (by decide)
theorem am_ne_9_8 : ((9 : Int32) = 8) = False := eq_false (by decide)
theorem am_ne_9_10 : ((9 : Int32) = 10) = False := eq_false (by decide)
theorem am_ne_10_m1 : ((10 : Int32) = (-1)) = False := eq_false (by decide)
theorem am_ne_10_0 : ((10 : Int32) = 0) = False := eq_false (by decide)
theorem am_ne_10_1 : ((10 : Int32) = 1) = False := eq_false (by decide)
theorem am_ne_10_2 : ((10 : Int32) = 2) = False := eq_false (by decide)
theorem am_ne_10_3 : ((10 : Int32) = 3) = False := eq_false (by decide)
theorem am_ne_10_4 : ((10 : Int32) = 4) = False := eq_false (by decide)
theorem am_ne_10_5 : ((10 : Int32) = 5) = False := eq_false (by decide)
theorem am_ne_10_6 : ((10 : Int32) = 6) = False := eq_false (by decide)
theorem am_ne_10_7 : ((10 : Int32) = 7) = False := eq_false (by decide)
theorem am_ne_10_8 : ((10 : Int32) = 8) = False := eq_false (by decide)
theorem am_ne_10_9 : ((10 : Int32) = 9) = False := eq_false (by decide)
theorem am_Ib {t : Int32} {m : Nat} (hm : m ≤ 100000) (h1 : 0 ≤ t) (h2 : t ≤ Int32.ofNat m) : am_I t (m + 1) := by
  have a1 := Int32.le_iff_toInt_le.mp h1
  have a2 := Int32.le_iff_toInt_le.mp h2
  rw [Int32.toInt_ofNat_of_lt (by omega)] at a2
  have e0 : (0 : Int32).toInt = 0 := rfl
  rw [e0] at a1
  refine ⟨?_, ?_⟩
  · rw [Int32.lt_iff_toInt_lt, e0]
    omega
  · show t.toInt.toNat < m + 1
    omega
theorem am_I64 {t : Int32} (h : 0 ≤ t ∧ t ≤ 63) : am_I t 64 := am_Ib (m := 63) (by decide) h.1 h.2
theorem am_ofz {a : Nat} (ha : a ≤ 100000) : (Int32.ofNat a = 0) = (a = 0) := propext (am_z0 ha)
theorem am_ofl {a : Nat} (ha : a ≤ 100000) : (Int32.ofNat a ≤ 0) = (a = 0) := propext ⟨fun h => by have := (am_le_nat (b := 0) ha (by omega)).mp h; omega, fun h => by rw [h]; decide⟩
theorem am_ofg {a : Nat} (ha : a ≤ 100000) : (0 < Int32.ofNat a) = ¬ (a = 0) := propext ⟨fun h => by have := (am_lt_nat (a := 0) (by omega) ha).mp h; omega, fun h => (am_lt_nat (a := 0) (by omega) ha).mpr (by omega)⟩
section
variable {K : aw_K} {A : aw_A} {G Q : am_G} {M : aw_M} {L : Nat → Int64} {r : am_H} {n F T i : Nat}
theorem ai.tz (h : ai G n F T i) (hi : i ≤ 600) : (0 < G 1 0) = ¬ (G 1 0 = 0) := by
  obtain ⟨t, t1, t2⟩ := h.t
  rw [t2, am_ofg (by omega), am_ofz (by omega)]
theorem ai.hb' (h : ai G n F T i) : ∀ k, G 7 k = 0 ∨ G 7 k = 1 := fun k => by
  rcases Nat.lt_or_ge k F with q | q
  · exact h.hb k q
  · exact Or.inl (h.z k q).2
theorem ai_city (hW : aw_W K A G n F T) (hA : ai G n F T i) (c : Int32) : (∃ k, k < F ∧ c = Int32.ofNat k ∧ G 7 k = 1) ∨ ((∀ k, k < F → G 7 k = 1 → ¬ Int32.ofNat k = c) ∧ ¬ ((0 ≤ c ∧ c ≤ G 6 0 - 1) ∧ G 7 c.toNatClampNeg = 1)) := by
  have hF12 := hW.F12
  by_cases h : ∃ k, k < F ∧ c = Int32.ofNat k ∧ G 7 k = 1
  · exact Or.inl h
  · refine Or.inr ⟨fun k h1 h2 h3 => h ⟨k, h1, h3.symm, h2⟩, fun q => ?_⟩
    obtain ⟨⟨q1, q2⟩, q3⟩ := q
    rw [hW.hF] at q2
    rcases Nat.eq_zero_or_pos F with e | e
    · rw [e] at q2
      have := Int32.le_trans q1 q2
      exact absurd this (by decide)
    · rw [show Int32.ofNat F - 1 = Int32.ofNat (F - 1) from (Int32.ofNat_sub F 1 e).symm] at q2
      obtain ⟨k, k1, k2⟩ := (am_Ib (by omega) q1 q2).cases
      rw [k2, am_tcn (by omega)] at q3
      exact h ⟨k, by omega, k2, q3⟩
theorem mr158_1 (hW : aw_W K A G n F T) (hA : ai G n F T i) {k : Nat} (hk : k < F) (h7 : G 7 k = 1) : am_exec 158 0 [.ref 40, .int (Int32.ofNat k)] [] (am_ov G L r) = some (.inl (some (.int 1)), am_ov G L r) := by
  have hF12 := hW.F12
  rw [mr158 (fun _ _ => am_Ik (by omega) (by decide)) hA.hb', am_tcn (by omega)]
  have e : (0 ≤ Int32.ofNat k ∧ Int32.ofNat k ≤ G 6 0 - 1) ∧ G 7 k = 1 := by
    rw [hW.hF, show Int32.ofNat F - 1 = Int32.ofNat (F - 1) from (Int32.ofNat_sub F 1 (by omega)).symm, am_le_nat (by omega) (by omega)]
    exact ⟨⟨(am_le_nat (a := 0) (by omega) (by omega)).mpr (Nat.zero_le k), by omega⟩, h7⟩
  show some (Sum.inl (some (Value.int (if _ then 1 else 0))), _) = _
  rw [if_pos e]
theorem mr158_0 (hW : aw_W K A G n F T) (hA : ai G n F T i) {c : Int32} (hc : ¬ ((0 ≤ c ∧ c ≤ G 6 0 - 1) ∧ G 7 c.toNatClampNeg = 1)) : am_exec 158 0 [.ref 40, .int c] [] (am_ov G L r) = some (.inl (some (.int 0)), am_ov G L r) := by
  have hF12 := hW.F12
  rw [mr158 (fun q1 q2 => by
    rw [hW.hF] at q2
    rcases Nat.eq_zero_or_pos F with e | e
    · rw [e] at q2
      have := Int32.le_trans q1 q2
      exact absurd this (by decide)
    · rw [show Int32.ofNat F - 1 = Int32.ofNat (F - 1) from (Int32.ofNat_sub F 1 e).symm] at q2
      exact (am_Ib (by omega) q1 q2).mono (by omega)) hA.hb']
  show some (Sum.inl (some (Value.int (if _ then 1 else 0))), _) = _
  rw [if_neg hc]
theorem ai_treaty (hW : aw_W K A G n F T) (k : Int32) : (∃ j, j < T ∧ k = Int32.ofNat j) ∨ ¬ (0 ≤ k ∧ k ≤ G 45 0 - 1) := by
  have hT40 := hW.T40
  by_cases h : 0 ≤ k ∧ k ≤ G 45 0 - 1
  · left
    obtain ⟨q1, q2⟩ := h
    rw [hW.hT] at q2
    rcases Nat.eq_zero_or_pos T with e | e
    · rw [e] at q2
      have := Int32.le_trans q1 q2
      exact absurd this (by decide)
    · rw [show Int32.ofNat T - 1 = Int32.ofNat (T - 1) from (Int32.ofNat_sub T 1 e).symm] at q2
      obtain ⟨j, j1, j2⟩ := (am_Ib (by omega) q1 q2).cases
      exact ⟨j, by omega, j2⟩
  · exact Or.inr h
theorem mr205_1 (hW : aw_W K A G n F T) {j : Nat} (hj : j < T) : am_exec 205 0 [.ref 40, .int (Int32.ofNat j)] [] (am_ov G L r) = some (.inl (some (.int 1)), am_ov G L r) := by
  have hT40 := hW.T40
  rw [mr205]
  have e : 0 ≤ Int32.ofNat j ∧ Int32.ofNat j ≤ G 45 0 - 1 := by
    rw [hW.hT, show Int32.ofNat T - 1 = Int32.ofNat (T - 1) from (Int32.ofNat_sub T 1 (by omega)).symm, am_le_nat (by omega) (by omega)]
    exact ⟨(am_le_nat (a := 0) (by omega) (by omega)).mpr (Nat.zero_le j), by omega⟩
  show some (Sum.inl (some (Value.int (if _ then 1 else 0))), _) = _
  rw [if_pos e]
theorem mr205_0 {k : Int32} (hk : ¬ (0 ≤ k ∧ k ≤ G 45 0 - 1)) : am_exec 205 0 [.ref 40, .int k] [] (am_ov G L r) = some (.inl (some (.int 0)), am_ov G L r) := by
  rw [mr205]
  show some (Sum.inl (some (Value.int (if _ then 1 else 0))), _) = _
  rw [if_neg hk]
end
