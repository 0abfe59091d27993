/-! the reference's makesUnit -/
theorem am_up_ne {G : am_G} {a k b : Nat} {v : Int32} (h : ¬ b = a) : am_up G a k v b = G b := if_neg h
theorem am_up_eq {G : am_G} {a k : Nat} {v : Int32} : am_up G a k v a = am_upd (G a) k v := if_pos (Eq.refl a)
theorem am_upd_eq {α : Type} {g : Nat → α} {k : Nat} {v : α} : am_upd g k v k = v := if_pos (Eq.refl k)
theorem am_upd_ne {α : Type} {g : Nat → α} {k j : Nat} {v : α} (h : ¬ j = k) : am_upd g k v j = g j := if_neg h
def am_mk (G : am_G) (n : Nat) (p k t : Int32) : am_G := am_up (am_up (am_up (am_up (am_up (am_up (am_up (am_up (am_up (am_up G 26 n (G 25 0)) 27 n p) 28 n k) 29 n t) 30 n 10) 31 n (am_mv k)) 32 n 0) 33 n 0) 24 0 (Int32.ofNat (n + 1))) 25 0 (G 25 0 + 1)
theorem mr169 {G : am_G} {L : Nat → Int64} {r : am_H} {p k t : Int32} {n : Nat} (hn : G 24 0 = Int32.ofNat n) (hn2 : n ≤ 40) : am_exec 169 0 [.ref 40, .int p, .int k, .int t] [] (am_ov G L r) = some (.inl (some (.int (G 25 0 + 1 - 1))), am_ov (am_mk G n p k t) L r) := by
  have hI : am_I (Int32.ofNat n) 41 := am_I.nat (by omega) (by omega)
  simp only [am_e169_0, am_e169_4, am_e169_8, am_e169_12, am_e169_13, am_e169_17, am_e169_21, am_e169_23, am_e169_27, am_e169_31, am_e169_33, am_e169_37, am_e169_41, am_e169_43, am_e169_47, am_e169_51, am_e169_54, am_e169_58, am_e169_62, am_e169_66, am_e169_67, am_e169_71, am_e169_75, am_e169_77, am_e169_81, am_e169_85, am_e169_87, am_e169_92, am_e169_97, am_e169_102, am_e169_107, am_e169_111, am_gM0, am_pM0, am_gM1, am_pM1, am_gM2, am_lM2, am_sM2, am_gM3, am_lM3, am_sM3, am_gM4, am_lM4, am_sM4, am_gM5, am_lM5, am_sM5, am_gM6, am_pM6, am_gM7, am_lM7, am_sM7, am_gM8, am_lM8, am_sM8, am_gM9, am_lM9, am_sM9, am_gM10, am_lM10, am_sM10, am_gM11, am_lM11, am_sM11, am_gM12, am_lM12, am_sM12, am_gM13, am_lM13, am_sM13, am_gM14, am_lM14, am_sM14, am_gM15, am_lM15, am_sM15, am_gM16, am_lM16, am_sM16, am_gM17, am_lM17, am_sM17, am_gM18, am_lM18, am_sM18, am_gM19, am_pM19, am_gM20, am_lM20, am_sM20, am_gM21, am_lM21, am_sM21, am_gM22, am_lM22, am_sM22, am_gM23, am_lM23, am_sM23, am_gM24, am_pM24, am_gM25, am_pM25, am_gM26, am_lM26, am_sM26, am_gM27, am_lM27, am_sM27, am_gM28, am_lM28, am_sM28, am_gM29, am_lM29, am_sM29, am_gM30, am_lM30, am_sM30, am_gM31, am_lM31, am_sM31, am_gM32, am_lM32, am_sM32, am_gM33, am_lM33, am_sM33, am_gM34, am_lM34, am_sM34, am_gM35, am_lM35, am_sM35, am_gM36, am_lM36, am_sM36, am_gM37, am_lM37, am_sM37, am_gM38, am_lM38, am_sM38, am_gM39, am_lM39, am_sM39, am_gM40, am_lM40, am_sM40, am_gM41, am_lM41, am_sM41, am_gM42, am_lM42, am_sM42, am_gM43, am_lM43, am_sM43, am_gM44, am_lM44, am_sM44, am_gM45, am_pM45, am_gM46, am_lM46, am_sM46, am_gM47, am_lM47, am_sM47, am_gM48, am_lM48, am_sM48, am_gM49, am_lM49, am_sM49, am_gM50, am_lM50, am_sM50, am_gM51, am_lM51, am_sM51, am_gM52, am_lM52, am_sM52, am_isM, Option.bind_some, am_bk, am_pu1, mr161, am_up_ne, am_up_eq, am_upd_eq, hn, hI, am_tcn (show n ≤ 100000 by omega), am_succ, Nat.reduceEqDiff, not_false_eq_true, am_mk]
/-! drops -/
def am_sh8 (G : am_G) (k N : Nat) : am_G := fun f => if 26 ≤ f ∧ f ≤ 33 then fun j => if k ≤ j ∧ j < N then G f (j + 1) else G f j else G f
abbrev am_c8 (G : am_G) (k : Nat) : am_G := am_up (am_up (am_up (am_up (am_up (am_up (am_up (am_up G 26 k (G 26 (k + 1))) 27 k (G 27 (k + 1))) 28 k (G 28 (k + 1))) 29 k (G 29 (k + 1))) 30 k (G 30 (k + 1))) 31 k (G 31 (k + 1))) 32 k (G 32 (k + 1))) 33 k (G 33 (k + 1))
theorem am_c8_eq {G : am_G} {k f : Nat} : am_c8 G k f = if 26 ≤ f ∧ f ≤ 33 then am_upd (G f) k (G f (k + 1)) else G f := by
  by_cases h : 26 ≤ f ∧ f ≤ 33
  · rw [if_pos h]
    have : f = 26 ∨ f = 27 ∨ f = 28 ∨ f = 29 ∨ f = 30 ∨ f = 31 ∨ f = 32 ∨ f = 33 := by omega
    rcases this with rfl | rfl | rfl | rfl | rfl | rfl | rfl | rfl <;> simp only [am_c8, am_up_ne, am_up_eq, Nat.reduceEqDiff, not_false_eq_true]
  · rw [if_neg h]
    have h1 : ∀ g, 26 ≤ g → g ≤ 33 → ¬ f = g := fun g a b e => h (by omega)
    simp only [am_c8, am_up_ne (h1 33 (by decide) (by decide)), am_up_ne (h1 32 (by decide) (by decide)), am_up_ne (h1 31 (by decide) (by decide)), am_up_ne (h1 30 (by decide) (by decide)), am_up_ne (h1 29 (by decide) (by decide)), am_up_ne (h1 28 (by decide) (by decide)), am_up_ne (h1 27 (by decide) (by decide)), am_up_ne (h1 26 (by decide) (by decide))]
theorem am_sh8_step {G : am_G} {k N : Nat} (hk : k < N) : am_sh8 (am_c8 G k) (k + 1) N = am_sh8 G k N := by
  funext f
  unfold am_sh8
  rw [am_c8_eq]
  by_cases h : 26 ≤ f ∧ f ≤ 33
  · rw [if_pos h, if_pos h, if_pos h]
    funext j
    by_cases h1 : j = k
    · subst h1
      rw [if_neg (by omega), if_pos ⟨Nat.le_refl _, hk⟩]
      exact am_upd_eq
    · by_cases h2 : k + 1 ≤ j ∧ j < N
      · rw [if_pos h2, if_pos ⟨by omega, h2.2⟩]
        exact am_upd_ne (by omega)
      · rw [if_neg h2, if_neg (by omega)]
        exact am_upd_ne h1
  · rw [if_neg h, if_neg h, if_neg h]
theorem am_sh8_end {G : am_G} {k N : Nat} (hk : N ≤ k) : am_sh8 G k N = G := by
  funext f
  unfold am_sh8
  split
  · funext j
    rw [if_neg (by omega)]
  · rfl
theorem mr170_12 {L : Nat → Int64} {r : am_H} {N : Nat} (hn2 : N ≤ 40) : ∀ m k (G : am_G), G 24 0 = Int32.ofNat N → k + m = N → am_exec 170 12 [.ref 40, am_U, .int (Int32.ofNat k)] [] (am_ov G L r) = some (.inl none, am_ov (am_sh8 G k N) L r) := by
  intro m
  induction m with
  | zero =>
    intro k G hn hk
    have c : N ≤ k := by omega
    rw [am_e170_12, am_sh8_end c]
    simp only [am_e170_0, am_e170_5, am_e170_17, am_e170_10, am_e170_138, am_e170_20, am_e170_24, am_e170_29, am_e170_33, am_e170_34, am_e170_38, am_e170_43, am_e170_47, am_e170_48, am_e170_52, am_e170_57, am_e170_61, am_e170_62, am_e170_66, am_e170_71, am_e170_75, am_e170_76, am_e170_80, am_e170_85, am_e170_89, am_e170_90, am_e170_94, am_e170_99, am_e170_103, am_e170_104, am_e170_108, am_e170_113, am_e170_117, am_e170_118, am_e170_122, am_e170_127, am_e170_131, am_e170_132, am_gM0, am_pM0, am_gM1, am_pM1, am_gM2, am_lM2, am_sM2, am_gM3, am_lM3, am_sM3, am_gM4, am_lM4, am_sM4, am_gM5, am_lM5, am_sM5, am_gM6, am_pM6, am_gM7, am_lM7, am_sM7, am_gM8, am_lM8, am_sM8, am_gM9, am_lM9, am_sM9, am_gM10, am_lM10, am_sM10, am_gM11, am_lM11, am_sM11, am_gM12, am_lM12, am_sM12, am_gM13, am_lM13, am_sM13, am_gM14, am_lM14, am_sM14, am_gM15, am_lM15, am_sM15, am_gM16, am_lM16, am_sM16, am_gM17, am_lM17, am_sM17, am_gM18, am_lM18, am_sM18, am_gM19, am_pM19, am_gM20, am_lM20, am_sM20, am_gM21, am_lM21, am_sM21, am_gM22, am_lM22, am_sM22, am_gM23, am_lM23, am_sM23, am_gM24, am_pM24, am_gM25, am_pM25, am_gM26, am_lM26, am_sM26, am_gM27, am_lM27, am_sM27, am_gM28, am_lM28, am_sM28, am_gM29, am_lM29, am_sM29, am_gM30, am_lM30, am_sM30, am_gM31, am_lM31, am_sM31, am_gM32, am_lM32, am_sM32, am_gM33, am_lM33, am_sM33, am_gM34, am_lM34, am_sM34, am_gM35, am_lM35, am_sM35, am_gM36, am_lM36, am_sM36, am_gM37, am_lM37, am_sM37, am_gM38, am_lM38, am_sM38, am_gM39, am_lM39, am_sM39, am_gM40, am_lM40, am_sM40, am_gM41, am_lM41, am_sM41, am_gM42, am_lM42, am_sM42, am_gM43, am_lM43, am_sM43, am_gM44, am_lM44, am_sM44, am_gM45, am_pM45, am_gM46, am_lM46, am_sM46, am_gM47, am_lM47, am_sM47, am_gM48, am_lM48, am_sM48, am_gM49, am_lM49, am_sM49, am_gM50, am_lM50, am_sM50, am_gM51, am_lM51, am_sM51, am_gM52, am_lM52, am_sM52, am_isM, Option.bind_some, hn, am_le_nat (show N ≤ 100000 by omega) (show k ≤ 100000 by omega), c, if_true]
  | succ m ih =>
    intro k G hn hk
    have c : ¬ N ≤ k := by omega
    have hI : am_I (Int32.ofNat k) 41 := am_I.nat (by omega) (by omega)
    have hJ : am_I (Int32.ofNat (k + 1)) 41 := am_I.nat (by omega) (by omega)
    have hi := ih (k + 1) (am_c8 G k) (by rw [am_c8_eq, if_neg (by omega)]; exact hn) (by omega)
    rw [am_sh8_step (by omega)] at hi
    rw [am_e170_12]
    simp only [am_e170_0, am_e170_5, am_e170_17, am_e170_10, am_e170_138, am_e170_20, am_e170_24, am_e170_29, am_e170_33, am_e170_34, am_e170_38, am_e170_43, am_e170_47, am_e170_48, am_e170_52, am_e170_57, am_e170_61, am_e170_62, am_e170_66, am_e170_71, am_e170_75, am_e170_76, am_e170_80, am_e170_85, am_e170_89, am_e170_90, am_e170_94, am_e170_99, am_e170_103, am_e170_104, am_e170_108, am_e170_113, am_e170_117, am_e170_118, am_e170_122, am_e170_127, am_e170_131, am_e170_132, am_gM0, am_pM0, am_gM1, am_pM1, am_gM2, am_lM2, am_sM2, am_gM3, am_lM3, am_sM3, am_gM4, am_lM4, am_sM4, am_gM5, am_lM5, am_sM5, am_gM6, am_pM6, am_gM7, am_lM7, am_sM7, am_gM8, am_lM8, am_sM8, am_gM9, am_lM9, am_sM9, am_gM10, am_lM10, am_sM10, am_gM11, am_lM11, am_sM11, am_gM12, am_lM12, am_sM12, am_gM13, am_lM13, am_sM13, am_gM14, am_lM14, am_sM14, am_gM15, am_lM15, am_sM15, am_gM16, am_lM16, am_sM16, am_gM17, am_lM17, am_sM17, am_gM18, am_lM18, am_sM18, am_gM19, am_pM19, am_gM20, am_lM20, am_sM20, am_gM21, am_lM21, am_sM21, am_gM22, am_lM22, am_sM22, am_gM23, am_lM23, am_sM23, am_gM24, am_pM24, am_gM25, am_pM25, am_gM26, am_lM26, am_sM26, am_gM27, am_lM27, am_sM27, am_gM28, am_lM28, am_sM28, am_gM29, am_lM29, am_sM29, am_gM30, am_lM30, am_sM30, am_gM31, am_lM31, am_sM31, am_gM32, am_lM32, am_sM32, am_gM33, am_lM33, am_sM33, am_gM34, am_lM34, am_sM34, am_gM35, am_lM35, am_sM35, am_gM36, am_lM36, am_sM36, am_gM37, am_lM37, am_sM37, am_gM38, am_lM38, am_sM38, am_gM39, am_lM39, am_sM39, am_gM40, am_lM40, am_sM40, am_gM41, am_lM41, am_sM41, am_gM42, am_lM42, am_sM42, am_gM43, am_lM43, am_sM43, am_gM44, am_lM44, am_sM44, am_gM45, am_pM45, am_gM46, am_lM46, am_sM46, am_gM47, am_lM47, am_sM47, am_gM48, am_lM48, am_sM48, am_gM49, am_lM49, am_sM49, am_gM50, am_lM50, am_sM50, am_gM51, am_lM51, am_sM51, am_gM52, am_lM52, am_sM52, am_isM, Option.bind_some, hn, am_le_nat (show N ≤ 100000 by omega) (show k ≤ 100000 by omega), c, if_false, hI, hJ, am_tcn (show k ≤ 100000 by omega), am_tcn (show k + 1 ≤ 100000 by omega), am_succ, am_nlu, am_up_ne, Nat.reduceEqDiff, not_false_eq_true]
    exact hi
def am_dr (G : am_G) (n i : Nat) : am_G := am_sh8 (am_up G 24 0 (Int32.ofNat (n - 1))) i (n - 1)
theorem mr170 {G : am_G} {L : Nat → Int64} {r : am_H} {n i : Nat} (hn : G 24 0 = Int32.ofNat n) (hn2 : n ≤ 41) (hi : i < n) : am_exec 170 0 [.ref 40, .int (Int32.ofNat i), am_U] [] (am_ov G L r) = some (.inl none, am_ov (am_dr G n i) L r) := by
  have e : Int32.ofNat n - 1 = Int32.ofNat (n - 1) := (Int32.ofNat_sub n 1 (by omega)).symm
  simp only [am_e170_0, am_e170_5, am_e170_17, am_e170_10, am_e170_138, am_e170_20, am_e170_24, am_e170_29, am_e170_33, am_e170_34, am_e170_38, am_e170_43, am_e170_47, am_e170_48, am_e170_52, am_e170_57, am_e170_61, am_e170_62, am_e170_66, am_e170_71, am_e170_75, am_e170_76, am_e170_80, am_e170_85, am_e170_89, am_e170_90, am_e170_94, am_e170_99, am_e170_103, am_e170_104, am_e170_108, am_e170_113, am_e170_117, am_e170_118, am_e170_122, am_e170_127, am_e170_131, am_e170_132, am_gM0, am_pM0, am_gM1, am_pM1, am_gM2, am_lM2, am_sM2, am_gM3, am_lM3, am_sM3, am_gM4, am_lM4, am_sM4, am_gM5, am_lM5, am_sM5, am_gM6, am_pM6, am_gM7, am_lM7, am_sM7, am_gM8, am_lM8, am_sM8, am_gM9, am_lM9, am_sM9, am_gM10, am_lM10, am_sM10, am_gM11, am_lM11, am_sM11, am_gM12, am_lM12, am_sM12, am_gM13, am_lM13, am_sM13, am_gM14, am_lM14, am_sM14, am_gM15, am_lM15, am_sM15, am_gM16, am_lM16, am_sM16, am_gM17, am_lM17, am_sM17, am_gM18, am_lM18, am_sM18, am_gM19, am_pM19, am_gM20, am_lM20, am_sM20, am_gM21, am_lM21, am_sM21, am_gM22, am_lM22, am_sM22, am_gM23, am_lM23, am_sM23, am_gM24, am_pM24, am_gM25, am_pM25, am_gM26, am_lM26, am_sM26, am_gM27, am_lM27, am_sM27, am_gM28, am_lM28, am_sM28, am_gM29, am_lM29, am_sM29, am_gM30, am_lM30, am_sM30, am_gM31, am_lM31, am_sM31, am_gM32, am_lM32, am_sM32, am_gM33, am_lM33, am_sM33, am_gM34, am_lM34, am_sM34, am_gM35, am_lM35, am_sM35, am_gM36, am_lM36, am_sM36, am_gM37, am_lM37, am_sM37, am_gM38, am_lM38, am_sM38, am_gM39, am_lM39, am_sM39, am_gM40, am_lM40, am_sM40, am_gM41, am_lM41, am_sM41, am_gM42, am_lM42, am_sM42, am_gM43, am_lM43, am_sM43, am_gM44, am_lM44, am_sM44, am_gM45, am_pM45, am_gM46, am_lM46, am_sM46, am_gM47, am_lM47, am_sM47, am_gM48, am_lM48, am_sM48, am_gM49, am_lM49, am_sM49, am_gM50, am_lM50, am_sM50, am_gM51, am_lM51, am_sM51, am_gM52, am_lM52, am_sM52, am_isM, Option.bind_some, hn, e]
  exact mr170_12 (by omega) (n - 1 - i) i _ (by rw [am_up_eq]; exact am_upd_eq) (by omega)
