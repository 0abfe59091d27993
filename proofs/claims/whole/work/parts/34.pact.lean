/-! the reference's stands, areAtWar -/
abbrev am_stp (G : am_G) (kind one other : Int32) (k : Nat) : Prop := G 50 k = 0 ∧ G 46 k = kind ∧ ((G 47 k = one ∧ G 48 k = other) ∨ (G 47 k = other ∧ G 48 k = one))
theorem mr171_6 {G : am_G} {L : Nat → Int64} {r : am_H} {kind one other : Int32} {n : Nat} (hn : G 45 0 = Int32.ofNat n) (hn2 : n ≤ 40) : ∀ m k, k + m = n → ∀ (x : Int32), x = 0 ∨ x = 1 → am_exec 171 6 [.ref 40, .int kind, .int one, .int other, .int x, .int (Int32.ofNat k), am_U] [] (am_ov G L r) = some (.inl (some (.int (if x = 1 ∨ ¬ am_find (am_stp G kind one other) k m = none then 1 else 0))), am_ov G L r) := by
  intro m
  induction m with
  | zero =>
    intro k hk x hx
    have c : n ≤ k := by omega
    rw [am_e171_6]
    simp only [am_e171_0, am_e171_12, am_e171_110, am_e171_15, am_e171_19, am_e171_22, am_e171_37, am_e171_26, am_e171_41, am_e171_30, am_e171_44, am_e171_33, am_e171_63, am_e171_48, am_e171_59, am_e171_97, am_e171_71, am_e171_52, am_e171_75, am_e171_55, am_e171_78, am_e171_101, am_e171_81, am_e171_85, am_e171_88, am_e171_92, am_gM0, am_pM0, am_gM1, am_pM1, am_gM2, am_lM2, am_sM2, am_gM3, am_lM3, am_sM3, am_gM4, am_lM4, am_sM4, am_gM5, am_lM5, am_sM5, am_gM6, am_pM6, am_gM7, am_lM7, am_sM7, am_gM8, am_lM8, am_sM8, am_gM9, am_lM9, am_sM9, am_gM10, am_lM10, am_sM10, am_gM11, am_lM11, am_sM11, am_gM12, am_lM12, am_sM12, am_gM13, am_lM13, am_sM13, am_gM14, am_lM14, am_sM14, am_gM15, am_lM15, am_sM15, am_gM16, am_lM16, am_sM16, am_gM17, am_lM17, am_sM17, am_gM18, am_lM18, am_sM18, am_gM19, am_pM19, am_gM20, am_lM20, am_sM20, am_gM21, am_lM21, am_sM21, am_gM22, am_lM22, am_sM22, am_gM23, am_lM23, am_sM23, am_gM24, am_pM24, am_gM25, am_pM25, am_gM26, am_lM26, am_sM26, am_gM27, am_lM27, am_sM27, am_gM28, am_lM28, am_sM28, am_gM29, am_lM29, am_sM29, am_gM30, am_lM30, am_sM30, am_gM31, am_lM31, am_sM31, am_gM32, am_lM32, am_sM32, am_gM33, am_lM33, am_sM33, am_gM34, am_lM34, am_sM34, am_gM35, am_lM35, am_sM35, am_gM36, am_lM36, am_sM36, am_gM37, am_lM37, am_sM37, am_gM38, am_lM38, am_sM38, am_gM39, am_lM39, am_sM39, am_gM40, am_lM40, am_sM40, am_gM41, am_lM41, am_sM41, am_gM42, am_lM42, am_sM42, am_gM43, am_lM43, am_sM43, am_gM44, am_lM44, am_sM44, am_gM45, am_pM45, am_gM46, am_lM46, am_sM46, am_gM47, am_lM47, am_sM47, am_gM48, am_lM48, am_sM48, am_gM49, am_lM49, am_sM49, am_gM50, am_lM50, am_sM50, am_gM51, am_lM51, am_sM51, am_gM52, am_lM52, am_sM52, am_isM, Option.bind_some, hn, am_le_nat (show n ≤ 100000 by omega) (show k ≤ 100000 by omega), c, if_true, am_find, hx]
    rcases hx with rfl | rfl <;> rfl
  | succ m ih =>
    intro k hk x hx
    have c : ¬ n ≤ k := by omega
    have hI : am_I (Int32.ofNat k) 40 := am_I.nat (by omega) (by omega)
    have h0 := ih (k + 1) (by omega) 0 (Or.inl rfl)
    have h1 := ih (k + 1) (by omega) 1 (Or.inr rfl)
    rw [am_e171_6]
    simp only [am_e171_0, am_e171_12, am_e171_110, am_e171_15, am_e171_19, am_e171_22, am_e171_37, am_e171_26, am_e171_41, am_e171_30, am_e171_44, am_e171_33, am_e171_63, am_e171_48, am_e171_59, am_e171_97, am_e171_71, am_e171_52, am_e171_75, am_e171_55, am_e171_78, am_e171_101, am_e171_81, am_e171_85, am_e171_88, am_e171_92, am_gM0, am_pM0, am_gM1, am_pM1, am_gM2, am_lM2, am_sM2, am_gM3, am_lM3, am_sM3, am_gM4, am_lM4, am_sM4, am_gM5, am_lM5, am_sM5, am_gM6, am_pM6, am_gM7, am_lM7, am_sM7, am_gM8, am_lM8, am_sM8, am_gM9, am_lM9, am_sM9, am_gM10, am_lM10, am_sM10, am_gM11, am_lM11, am_sM11, am_gM12, am_lM12, am_sM12, am_gM13, am_lM13, am_sM13, am_gM14, am_lM14, am_sM14, am_gM15, am_lM15, am_sM15, am_gM16, am_lM16, am_sM16, am_gM17, am_lM17, am_sM17, am_gM18, am_lM18, am_sM18, am_gM19, am_pM19, am_gM20, am_lM20, am_sM20, am_gM21, am_lM21, am_sM21, am_gM22, am_lM22, am_sM22, am_gM23, am_lM23, am_sM23, am_gM24, am_pM24, am_gM25, am_pM25, am_gM26, am_lM26, am_sM26, am_gM27, am_lM27, am_sM27, am_gM28, am_lM28, am_sM28, am_gM29, am_lM29, am_sM29, am_gM30, am_lM30, am_sM30, am_gM31, am_lM31, am_sM31, am_gM32, am_lM32, am_sM32, am_gM33, am_lM33, am_sM33, am_gM34, am_lM34, am_sM34, am_gM35, am_lM35, am_sM35, am_gM36, am_lM36, am_sM36, am_gM37, am_lM37, am_sM37, am_gM38, am_lM38, am_sM38, am_gM39, am_lM39, am_sM39, am_gM40, am_lM40, am_sM40, am_gM41, am_lM41, am_sM41, am_gM42, am_lM42, am_sM42, am_gM43, am_lM43, am_sM43, am_gM44, am_lM44, am_sM44, am_gM45, am_pM45, am_gM46, am_lM46, am_sM46, am_gM47, am_lM47, am_sM47, am_gM48, am_lM48, am_sM48, am_gM49, am_lM49, am_sM49, am_gM50, am_lM50, am_sM50, am_gM51, am_lM51, am_sM51, am_gM52, am_lM52, am_sM52, am_isM, Option.bind_some, hn, am_le_nat (show n ≤ 100000 by omega) (show k ≤ 100000 by omega), c, if_false, hI, am_tcn (show k ≤ 100000 by omega), am_succ, am_nli, h0, h1]
    rcases hx with rfl | rfl
    · by_cases q : am_stp G kind one other k
      · rw [show am_find (am_stp G kind one other) k (m + 1) = some k from if_pos q]
        obtain ⟨q1, q2, q3⟩ := q
        simp only [q1, q2]
        rcases q3 with ⟨q3, q4⟩ | ⟨q3, q4⟩ <;> simp [q3, q4]
      · rw [show am_find (am_stp G kind one other) k (m + 1) = am_find (am_stp G kind one other) (k + 1) m from if_neg q]
        clear ih h0 h1
        by_cases e1 : G 50 k = 0 <;> by_cases e2 : G 46 k = kind <;> by_cases e3 : G 47 k = one <;> by_cases e4 : G 48 k = other <;> by_cases e5 : G 47 k = other <;> by_cases e6 : G 48 k = one <;> simp_all
    · simp
abbrev am_sts (G : am_G) (kind one other : Int32) (n : Nat) : Prop := ¬ am_find (am_stp G kind one other) 0 n = none
theorem mr171 {G : am_G} {L : Nat → Int64} {r : am_H} {kind one other : Int32} {n : Nat} (hn : G 45 0 = Int32.ofNat n) (hn2 : n ≤ 40) : am_exec 171 0 [.ref 40, .int kind, .int one, .int other, am_U, am_U, am_U] [] (am_ov G L r) = some (.inl (some (am_bi (am_sts G kind one other n))), am_ov G L r) := by
  simp only [am_e171_0, am_e171_12, am_e171_110, am_e171_15, am_e171_19, am_e171_22, am_e171_37, am_e171_26, am_e171_41, am_e171_30, am_e171_44, am_e171_33, am_e171_63, am_e171_48, am_e171_59, am_e171_97, am_e171_71, am_e171_52, am_e171_75, am_e171_55, am_e171_78, am_e171_101, am_e171_81, am_e171_85, am_e171_88, am_e171_92, am_nli]
  have h := mr171_6 (L := L) (r := r) (kind := kind) (one := one) (other := other) hn hn2 n 0 (Nat.zero_add n) 0 (Or.inl rfl)
  simp only [show ((0 : Int32) = 1) = False from eq_false (by decide), false_or] at h
  exact h
abbrev am_war (G : am_G) (one other : Int32) (n : Nat) : Prop := ¬ one = other ∧ ¬ am_sts G 0 one other n
theorem mr172 {G : am_G} {L : Nat → Int64} {r : am_H} {one other : Int32} {n : Nat} (hn : G 45 0 = Int32.ofNat n) (hn2 : n ≤ 40) : am_exec 172 0 [.ref 40, .int one, .int other] [] (am_ov G L r) = some (.inl (some (am_bi (am_war G one other n))), am_ov G L r) := by
  by_cases h1 : one = other
  · simp only [am_e172_0, am_e172_19, am_e172_5, am_e172_12, am_e172_15, am_isM, am_bk, am_pu1, h1, not_true_eq_false, if_true, if_false, false_and, am_war, am_bi]
  · by_cases h2 : am_sts G 0 one other n
    · simp only [am_e172_0, am_e172_19, am_e172_5, am_e172_12, am_e172_15, am_isM, am_bk, am_pu1, am_b0, h1, h2, mr171 hn hn2, not_true_eq_false, not_false_eq_true, if_true, if_false, and_self, and_false, am_war, am_bi]
      simp [h2]
    · simp only [am_e172_0, am_e172_19, am_e172_5, am_e172_12, am_e172_15, am_isM, am_bk, am_pu1, am_b0, h1, h2, mr171 hn hn2, not_true_eq_false, not_false_eq_true, if_true, if_false, and_self, am_war, am_bi]
