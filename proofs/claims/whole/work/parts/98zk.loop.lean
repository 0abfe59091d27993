/-! the law's loop -/
theorem al_31 {x : Int32} : ∃ k, k < 32 ∧ x &&& 31 = Int32.ofNat k := by
  refine ⟨(x &&& 31).toBitVec.toNat, ?_, ?_⟩
  · have h : (x &&& 31).toBitVec.toNat = x.toBitVec.toNat &&& 31 := by
      rw [Int32.toBitVec_and, BitVec.toNat_and]
      rfl
    rw [h]
    exact Nat.lt_of_le_of_lt Nat.and_le_right (by decide)
  · apply Int32.toBitVec_inj.mp
    show _ = BitVec.ofNat 32 (x &&& 31).toBitVec.toNat
    rw [BitVec.ofNat_toNat, BitVec.setWidth_eq]
theorem al_lt {N i : Nat} (hN : N ≤ 3072) (hi : i ≤ 600) : (Int32.ofNat N - 6 < Int32.ofNat (6 * i)) = (N < 6 * i + 6) := by
  apply propext
  have e : (Int32.ofNat N - 6).toInt = (N : Int) - 6 := by
    rw [Int32.toInt_sub, Int32.toInt_ofNat_of_lt (by omega)]
    show ((N : Int) - 6).bmod (2 ^ 32) = (N : Int) - 6
    exact Int.bmod_eq_of_le (by omega) (by omega)
  rw [Int32.lt_iff_toInt_lt, e, Int32.toInt_ofNat_of_lt (by omega)]
  omega
section
variable {xs : Nat → Int32} {N : Nat}
theorem al_S.len {h : am_H} {i : Nat} (hS : al_S xs N h i) : am_len h 11 = some (Int32.ofNat N) := by
  unfold am_len
  rw [hS.sc, Option.bind_some]
  show (if 50 ≤ 60 ∧ 60 < 70 then some (Int32.ofNat ((List.range N).map fun j => Value.int (xs j)).length) else none) = _
  rw [if_pos (by decide), List.length_map, List.length_range]
theorem al_loop (hN : N ≤ 3072) : ∀ (m i : Nat) (h : am_H), N ≤ 6 * (i + m) → i ≤ 513 → al_S xs N h i → ∃ h1, am_exec 291 23 [.ref 11, .ref 12, .ref 40, .ref 87, .int (Int32.ofNat (6 * i)), am_U, am_U, am_U] [] h = some (.inl (some (.int 1)), h1) ∧ ∃ j, j ≤ 513 ∧ al_S xs N h1 j
  | m, i, h, hm, hi, hS => by
    by_cases q : N < 6 * i + 6
    · refine ⟨h, ?_, i, hi, hS⟩
      rw [am_e291_23, hS.len, Option.bind_some, am_e291_27, if_pos (by rw [al_lt hN (by omega)]; exact q), am_e291_1907]
    · match m, hm with
      | 0, hm => exact absurd hm (by omega)
      | m + 1, hm =>
        have hi6 : i ≤ 600 := by omega
        have h6 : 6 * i + 6 ≤ N := by omega
        have st : ∃ h3, am_exec 291 37 [.ref 11, .ref 12, .ref 40, .ref 87, .int (Int32.ofNat (6 * i)), am_U, am_U, am_U] [.int (xs (6 * i))] h = am_exec 291 23 [.ref 11, .ref 12, .ref 40, .ref 87, .int (Int32.ofNat (6 * (i + 1))), am_U, am_U, am_U] [] h3 ∧ al_S xs N h3 (i + 1) := by
          obtain ⟨k, k1, k2⟩ := al_31 (x := xs (6 * i))
          match k, k1, k2 with
          | 0, _, k2 => exact al_s0 hS hi6 h6 hN k2
          | 1, _, k2 => exact al_s1 hS hi6 h6 hN k2
          | 2, _, k2 => exact al_s2 hS hi6 h6 hN k2
          | 3, _, k2 => exact al_s3 hS hi6 h6 hN k2
          | 4, _, k2 => exact al_s4 hS hi6 h6 hN k2
          | 5, _, k2 => exact al_s5 hS hi6 h6 hN k2
          | 6, _, k2 => exact al_s6 hS hi6 h6 hN k2
          | 7, _, k2 => exact al_s7 hS hi6 h6 hN k2
          | 8, _, k2 => exact al_s8 hS hi6 h6 hN k2
          | 9, _, k2 => exact al_s9 hS hi6 h6 hN k2
          | 10, _, k2 => exact al_s10 hS hi6 h6 hN k2
          | 11, _, k2 => exact al_s11 hS hi6 h6 hN k2
          | 12, _, k2 => exact al_s12 hS hi6 h6 hN k2
          | 13, _, k2 => exact al_s13 hS hi6 h6 hN k2
          | 14, _, k2 => exact al_s14 hS hi6 h6 hN k2
          | 15, _, k2 => exact al_s15 hS hi6 h6 hN k2
          | 16, _, k2 => exact al_s16 hS hi6 h6 hN k2
          | 17, _, k2 => exact al_s17 hS hi6 h6 hN k2
          | 18, _, k2 => exact al_s18 hS hi6 h6 hN k2
          | 19, _, k2 => exact al_s19 hS hi6 h6 hN k2
          | 20, _, k2 => exact al_s20 hS hi6 h6 hN k2
          | 21, _, k2 => exact al_s21 hS hi6 h6 hN k2
          | 22, _, k2 => exact al_s22 hS hi6 h6 hN k2
          | 23, _, k2 => exact al_s23 hS hi6 h6 hN k2
          | 24, _, k2 => exact al_s24 hS hi6 h6 hN k2
          | 25, _, k2 => exact al_s25 hS hi6 h6 hN k2
          | 26, _, k2 => exact al_s26 hS hi6 h6 hN k2
          | k + 27, k1, k2 =>
            refine ⟨h, ?_, hS.up⟩
            rw [am_e291_37_d (by
              right
              rw [k2, Int32.toInt_ofNat_of_lt (by omega)]
              omega), am_e291_1901 rfl, al_i6]
        obtain ⟨h3, e3, s3⟩ := st
        obtain ⟨h1, e1, e2⟩ := al_loop hN m (i + 1) h3 (by omega) (by omega) s3
        refine ⟨h1, ?_, e2⟩
        rw [am_e291_23, hS.len, Option.bind_some, am_e291_27, if_neg (by rw [al_lt hN (by omega)]; exact q), am_e291_33, al_rd hS.sc (by omega) hN, Option.bind_some, e3]
        exact e1
end
