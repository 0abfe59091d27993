/-! BITS OF TILES -/
theorem am_shn : ∀ t, t < 64 → (((Int32.ofNat t).toInt64 &&& 63).toBitVec.smod 64).toNat = t := by decide +kernel
theorem am_sr {x : Int64} {t : Nat} (ht : t < 64) : (x >>> ((Int32.ofNat t).toInt64 &&& 63)).toBitVec = x.toBitVec.sshiftRight t := by
  rw [Int64.toBitVec_shiftRight]
  show x.toBitVec.sshiftRight (((Int32.ofNat t).toInt64 &&& 63).toBitVec.smod 64).toNat = _
  rw [am_shn t ht]
theorem am_bb1 {x : Int64} : (x &&& 1 = 0) ↔ x.toBitVec.getLsbD 0 = false := by
  have h : (x &&& 1).toBitVec = BitVec.setWidth 64 (BitVec.ofBool (x.toBitVec.getLsbD 0)) := BitVec.and_one_eq_setWidth_ofBool_getLsbD
  cases e : x.toBitVec.getLsbD 0
  · have h1 : x &&& 1 = 0 := Int64.toBitVec_inj.mp (by rw [h, e]; rfl)
    exact ⟨fun _ => rfl, fun _ => h1⟩
  · have h1 : x &&& 1 = 1 := Int64.toBitVec_inj.mp (by rw [h, e]; rfl)
    rw [h1]
    exact ⟨fun q => absurd q (by decide), fun q => absurd q (by decide)⟩
/-- a tile's bit is 0 -/
theorem am_bit {x : Int64} {t : Nat} (ht : t < 64) : ((x >>> ((Int32.ofNat t).toInt64 &&& 63)) &&& 1 = 0) ↔ x.toBitVec.getLsbD t = false := by
  rw [am_bb1, am_sr ht, BitVec.getLsbD_sshiftRight]
  simp [ht]
theorem am_bit1 : ∀ u, u < 64 → ∀ t, t < 64 → ((1 : Int64) <<< ((Int32.ofNat u).toInt64 &&& 63)).toBitVec.getLsbD t = decide (t = u) := by decide +kernel
theorem am_bor {x y : Int64} {t : Nat} : (x ||| y).toBitVec.getLsbD t = (x.toBitVec.getLsbD t || y.toBitVec.getLsbD t) := by
  rw [Int64.toBitVec_or, BitVec.getLsbD_or]
/-- a tile's bit in a sum of tiles -/
theorem as_orl_bit {q : Nat → Prop} [DecidablePred q] {g : Nat → Int32} {x : Int64} {t : Nat} (ht : t < 64) : ∀ n, (∀ i, i < n → q i → am_I (g i) 64) → (((as_orl q g x n).toBitVec.getLsbD t = false) ↔ (x.toBitVec.getLsbD t = false ∧ ∀ i, i < n → q i → ¬ g i = Int32.ofNat t))
  | 0, _ => ⟨fun h => ⟨h, fun i hi => absurd hi (Nat.not_lt_zero i)⟩, fun h => h.1⟩
  | n + 1, h => by
    have ih := as_orl_bit (q := q) (g := g) (x := x) ht n (fun i hi => h i (by omega))
    unfold as_orl
    by_cases e : q n
    · obtain ⟨u, u1, u2⟩ := (h n (by omega) e).cases
      rw [if_pos e, am_bor, u2, am_bit1 u u1 t ht, Bool.or_eq_false_iff, ih]
      constructor
      · rintro ⟨⟨h1, h2⟩, h3⟩
        refine ⟨h1, fun i hi hq => ?_⟩
        by_cases e2 : i = n
        · subst e2
          rw [u2]
          intro e3
          have e4 := congrArg Int32.toNatClampNeg e3
          rw [am_tcn (by omega), am_tcn (by omega)] at e4
          exact (of_decide_eq_false h3) e4.symm
        · exact h2 i (by omega) hq
      · rintro ⟨h1, h2⟩
        refine ⟨⟨h1, fun i hi => h2 i (by omega)⟩, decide_eq_false fun e2 => ?_⟩
        exact h2 n (by omega) e (by rw [u2, e2])
    · rw [if_neg e, ih]
      constructor
      · rintro ⟨h1, h2⟩
        refine ⟨h1, fun i hi hq => ?_⟩
        by_cases e2 : i = n
        · subst e2
          exact absurd hq e
        · exact h2 i (by omega) hq
      · rintro ⟨h1, h2⟩
        exact ⟨h1, fun i hi => h2 i (by omega)⟩
