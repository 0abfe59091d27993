/-! the reference's loops over units and treaties that only read -/
/-- how many j < n have p -/
def am_cnt (p : Nat → Prop) [DecidablePred p] : Nat → Nat
  | 0 => 0
  | n + 1 => am_cnt p n + if p n then 1 else 0
theorem am_cnt_le {p : Nat → Prop} [DecidablePred p] : ∀ n, am_cnt p n ≤ n
  | 0 => Nat.le_refl _
  | n + 1 => by
    have := am_cnt_le (p := p) n
    unfold am_cnt
    split <;> omega
theorem mr167_4 {G : am_G} {L : Nat → Int64} {r : am_H} {t : Int32} {n : Nat} (hn : G 24 0 = Int32.ofNat n) (hn2 : n ≤ 41) : ∀ m k, k + m = n → am_exec 167 4 [.ref 40, .int t, .int (Int32.ofNat (am_cnt (fun j => G 29 j = t) k)), .int (Int32.ofNat k)] [] (am_ov G L r) = some (.inl (some (.int (Int32.ofNat (am_cnt (fun j => G 29 j = t) n)))), am_ov G L r) := by
  intro m
  induction m with
  | zero =>
    intro k hk
    have c : n ≤ k := by omega
    have e : k = n := by omega
    subst e
    rw [am_e167_4]
    simp only [am_e167_0, am_e167_9, am_e167_36, am_e167_12, am_e167_17, am_e167_19, am_e167_27, am_e167_23, am_gM0, am_pM0, am_gM1, am_pM1, am_gM2, am_lM2, am_sM2, am_gM3, am_lM3, am_sM3, am_gM4, am_lM4, am_sM4, am_gM5, am_lM5, am_sM5, am_gM6, am_pM6, am_gM7, am_lM7, am_sM7, am_gM8, am_lM8, am_sM8, am_gM9, am_lM9, am_sM9, am_gM10, am_lM10, am_sM10, am_gM11, am_lM11, am_sM11, am_gM12, am_lM12, am_sM12, am_gM13, am_lM13, am_sM13, am_gM14, am_lM14, am_sM14, am_gM15, am_lM15, am_sM15, am_gM16, am_lM16, am_sM16, am_gM17, am_lM17, am_sM17, am_gM18, am_lM18, am_sM18, am_gM19, am_pM19, am_gM20, am_lM20, am_sM20, am_gM21, am_lM21, am_sM21, am_gM22, am_lM22, am_sM22, am_gM23, am_lM23, am_sM23, am_gM24, am_pM24, am_gM25, am_pM25, am_gM26, am_lM26, am_sM26, am_gM27, am_lM27, am_sM27, am_gM28, am_lM28, am_sM28, am_gM29, am_lM29, am_sM29, am_gM30, am_lM30, am_sM30, am_gM31, am_lM31, am_sM31, am_gM32, am_lM32, am_sM32, am_gM33, am_lM33, am_sM33, am_gM34, am_lM34, am_sM34, am_gM35, am_lM35, am_sM35, am_gM36, am_lM36, am_sM36, am_gM37, am_lM37, am_sM37, am_gM38, am_lM38, am_sM38, am_gM39, am_lM39, am_sM39, am_gM40, am_lM40, am_sM40, am_gM41, am_lM41, am_sM41, am_gM42, am_lM42, am_sM42, am_gM43, am_lM43, am_sM43, am_gM44, am_lM44, am_sM44, am_gM45, am_pM45, am_gM46, am_lM46, am_sM46, am_gM47, am_lM47, am_sM47, am_gM48, am_lM48, am_sM48, am_gM49, am_lM49, am_sM49, am_gM50, am_lM50, am_sM50, am_gM51, am_lM51, am_sM51, am_gM52, am_lM52, am_sM52, am_isM, Option.bind_some, hn, Int32.le_refl, if_true]
  | succ m ih =>
    intro k hk
    have c : ¬ n ≤ k := by omega
    have hI : am_I (Int32.ofNat k) 41 := am_I.nat (by omega) (by omega)
    have hi := ih (k + 1) (by omega)
    rw [am_e167_4]
    by_cases h1 : G 29 k = t
    · rw [show am_cnt (fun j => G 29 j = t) (k + 1) = am_cnt (fun j => G 29 j = t) k + 1 from congrArg (am_cnt (fun j => G 29 j = t) k + ·) (if_pos h1)] at hi
      simp only [am_e167_0, am_e167_9, am_e167_36, am_e167_12, am_e167_17, am_e167_19, am_e167_27, am_e167_23, am_gM0, am_pM0, am_gM1, am_pM1, am_gM2, am_lM2, am_sM2, am_gM3, am_lM3, am_sM3, am_gM4, am_lM4, am_sM4, am_gM5, am_lM5, am_sM5, am_gM6, am_pM6, am_gM7, am_lM7, am_sM7, am_gM8, am_lM8, am_sM8, am_gM9, am_lM9, am_sM9, am_gM10, am_lM10, am_sM10, am_gM11, am_lM11, am_sM11, am_gM12, am_lM12, am_sM12, am_gM13, am_lM13, am_sM13, am_gM14, am_lM14, am_sM14, am_gM15, am_lM15, am_sM15, am_gM16, am_lM16, am_sM16, am_gM17, am_lM17, am_sM17, am_gM18, am_lM18, am_sM18, am_gM19, am_pM19, am_gM20, am_lM20, am_sM20, am_gM21, am_lM21, am_sM21, am_gM22, am_lM22, am_sM22, am_gM23, am_lM23, am_sM23, am_gM24, am_pM24, am_gM25, am_pM25, am_gM26, am_lM26, am_sM26, am_gM27, am_lM27, am_sM27, am_gM28, am_lM28, am_sM28, am_gM29, am_lM29, am_sM29, am_gM30, am_lM30, am_sM30, am_gM31, am_lM31, am_sM31, am_gM32, am_lM32, am_sM32, am_gM33, am_lM33, am_sM33, am_gM34, am_lM34, am_sM34, am_gM35, am_lM35, am_sM35, am_gM36, am_lM36, am_sM36, am_gM37, am_lM37, am_sM37, am_gM38, am_lM38, am_sM38, am_gM39, am_lM39, am_sM39, am_gM40, am_lM40, am_sM40, am_gM41, am_lM41, am_sM41, am_gM42, am_lM42, am_sM42, am_gM43, am_lM43, am_sM43, am_gM44, am_lM44, am_sM44, am_gM45, am_pM45, am_gM46, am_lM46, am_sM46, am_gM47, am_lM47, am_sM47, am_gM48, am_lM48, am_sM48, am_gM49, am_lM49, am_sM49, am_gM50, am_lM50, am_sM50, am_gM51, am_lM51, am_sM51, am_gM52, am_lM52, am_sM52, am_isM, Option.bind_some, hn, am_le_nat (show n ≤ 100000 by omega) (show k ≤ 100000 by omega), c, if_false, hI, am_tcn (show k ≤ 100000 by omega), am_succ, am_nli, h1, not_true_eq_false, hi]
    · rw [show am_cnt (fun j => G 29 j = t) (k + 1) = am_cnt (fun j => G 29 j = t) k from congrArg (am_cnt (fun j => G 29 j = t) k + ·) (if_neg h1)] at hi
      simp only [am_e167_0, am_e167_9, am_e167_36, am_e167_12, am_e167_17, am_e167_19, am_e167_27, am_e167_23, am_gM0, am_pM0, am_gM1, am_pM1, am_gM2, am_lM2, am_sM2, am_gM3, am_lM3, am_sM3, am_gM4, am_lM4, am_sM4, am_gM5, am_lM5, am_sM5, am_gM6, am_pM6, am_gM7, am_lM7, am_sM7, am_gM8, am_lM8, am_sM8, am_gM9, am_lM9, am_sM9, am_gM10, am_lM10, am_sM10, am_gM11, am_lM11, am_sM11, am_gM12, am_lM12, am_sM12, am_gM13, am_lM13, am_sM13, am_gM14, am_lM14, am_sM14, am_gM15, am_lM15, am_sM15, am_gM16, am_lM16, am_sM16, am_gM17, am_lM17, am_sM17, am_gM18, am_lM18, am_sM18, am_gM19, am_pM19, am_gM20, am_lM20, am_sM20, am_gM21, am_lM21, am_sM21, am_gM22, am_lM22, am_sM22, am_gM23, am_lM23, am_sM23, am_gM24, am_pM24, am_gM25, am_pM25, am_gM26, am_lM26, am_sM26, am_gM27, am_lM27, am_sM27, am_gM28, am_lM28, am_sM28, am_gM29, am_lM29, am_sM29, am_gM30, am_lM30, am_sM30, am_gM31, am_lM31, am_sM31, am_gM32, am_lM32, am_sM32, am_gM33, am_lM33, am_sM33, am_gM34, am_lM34, am_sM34, am_gM35, am_lM35, am_sM35, am_gM36, am_lM36, am_sM36, am_gM37, am_lM37, am_sM37, am_gM38, am_lM38, am_sM38, am_gM39, am_lM39, am_sM39, am_gM40, am_lM40, am_sM40, am_gM41, am_lM41, am_sM41, am_gM42, am_lM42, am_sM42, am_gM43, am_lM43, am_sM43, am_gM44, am_lM44, am_sM44, am_gM45, am_pM45, am_gM46, am_lM46, am_sM46, am_gM47, am_lM47, am_sM47, am_gM48, am_lM48, am_sM48, am_gM49, am_lM49, am_sM49, am_gM50, am_lM50, am_sM50, am_gM51, am_lM51, am_sM51, am_gM52, am_lM52, am_sM52, am_isM, Option.bind_some, hn, am_le_nat (show n ≤ 100000 by omega) (show k ≤ 100000 by omega), c, if_false, hI, am_tcn (show k ≤ 100000 by omega), am_succ, am_nli, h1, not_false_eq_true, if_true, Int32.add_zero, hi]
theorem mr167 {G : am_G} {L : Nat → Int64} {r : am_H} {t : Int32} {n : Nat} (hn : G 24 0 = Int32.ofNat n) (hn2 : n ≤ 41) : am_exec 167 0 [.ref 40, .int t, am_U, am_U] [] (am_ov G L r) = some (.inl (some (.int (Int32.ofNat (am_cnt (fun j => G 29 j = t) n)))), am_ov G L r) := by
  simp only [am_e167_0, am_e167_9, am_e167_36, am_e167_12, am_e167_17, am_e167_19, am_e167_27, am_e167_23, am_nli]
  exact mr167_4 hn hn2 n 0 (Nat.zero_add n)
theorem am_find_ge {p : Nat → Prop} [DecidablePred p] : ∀ m k j, am_find p k m = some j → k ≤ j ∧ j < k + m ∧ p j
  | 0, _, _, h => by cases h
  | m + 1, k, j, h => by
    unfold am_find at h
    split at h
    · next hp => cases h; exact ⟨Nat.le_refl _, by omega, hp⟩
    · have := am_find_ge m (k + 1) j h
      exact ⟨by omega, by omega, this.2.2⟩
/-- what g gives at the first, or -1 -/
def am_og (g : Nat → Int32) : Option Nat → Int32
  | some k => g k
  | none => -1
theorem mr168_2 {G : am_G} {L : Nat → Int64} {r : am_H} {t : Int32} {n : Nat} (hn : G 24 0 = Int32.ofNat n) (hn2 : n ≤ 41) : ∀ m k, k + m = n → am_exec 168 2 [.ref 40, .int t, .int (Int32.ofNat k)] [] (am_ov G L r) = some (.inl (some (.int (am_og (G 27) (am_find (fun j => G 29 j = t) k m)))), am_ov G L r) := by
  intro m
  induction m with
  | zero =>
    intro k hk
    have c : n ≤ k := by omega
    rw [am_e168_2]
    simp only [am_e168_0, am_e168_7, am_e168_33, am_e168_10, am_e168_14, am_e168_16, am_e168_27, am_e168_20, am_e168_24, am_e168_26, am_gM0, am_pM0, am_gM1, am_pM1, am_gM2, am_lM2, am_sM2, am_gM3, am_lM3, am_sM3, am_gM4, am_lM4, am_sM4, am_gM5, am_lM5, am_sM5, am_gM6, am_pM6, am_gM7, am_lM7, am_sM7, am_gM8, am_lM8, am_sM8, am_gM9, am_lM9, am_sM9, am_gM10, am_lM10, am_sM10, am_gM11, am_lM11, am_sM11, am_gM12, am_lM12, am_sM12, am_gM13, am_lM13, am_sM13, am_gM14, am_lM14, am_sM14, am_gM15, am_lM15, am_sM15, am_gM16, am_lM16, am_sM16, am_gM17, am_lM17, am_sM17, am_gM18, am_lM18, am_sM18, am_gM19, am_pM19, am_gM20, am_lM20, am_sM20, am_gM21, am_lM21, am_sM21, am_gM22, am_lM22, am_sM22, am_gM23, am_lM23, am_sM23, am_gM24, am_pM24, am_gM25, am_pM25, am_gM26, am_lM26, am_sM26, am_gM27, am_lM27, am_sM27, am_gM28, am_lM28, am_sM28, am_gM29, am_lM29, am_sM29, am_gM30, am_lM30, am_sM30, am_gM31, am_lM31, am_sM31, am_gM32, am_lM32, am_sM32, am_gM33, am_lM33, am_sM33, am_gM34, am_lM34, am_sM34, am_gM35, am_lM35, am_sM35, am_gM36, am_lM36, am_sM36, am_gM37, am_lM37, am_sM37, am_gM38, am_lM38, am_sM38, am_gM39, am_lM39, am_sM39, am_gM40, am_lM40, am_sM40, am_gM41, am_lM41, am_sM41, am_gM42, am_lM42, am_sM42, am_gM43, am_lM43, am_sM43, am_gM44, am_lM44, am_sM44, am_gM45, am_pM45, am_gM46, am_lM46, am_sM46, am_gM47, am_lM47, am_sM47, am_gM48, am_lM48, am_sM48, am_gM49, am_lM49, am_sM49, am_gM50, am_lM50, am_sM50, am_gM51, am_lM51, am_sM51, am_gM52, am_lM52, am_sM52, am_isM, Option.bind_some, hn, am_le_nat (show n ≤ 100000 by omega) (show k ≤ 100000 by omega), c, if_true, am_find, am_og]
  | succ m ih =>
    intro k hk
    have c : ¬ n ≤ k := by omega
    have hI : am_I (Int32.ofNat k) 41 := am_I.nat (by omega) (by omega)
    have hi := ih (k + 1) (by omega)
    rw [am_e168_2]
    by_cases h1 : G 29 k = t
    · rw [show am_find (fun j => G 29 j = t) k (m + 1) = some k from if_pos h1]
      simp only [am_e168_0, am_e168_7, am_e168_33, am_e168_10, am_e168_14, am_e168_16, am_e168_27, am_e168_20, am_e168_24, am_e168_26, am_gM0, am_pM0, am_gM1, am_pM1, am_gM2, am_lM2, am_sM2, am_gM3, am_lM3, am_sM3, am_gM4, am_lM4, am_sM4, am_gM5, am_lM5, am_sM5, am_gM6, am_pM6, am_gM7, am_lM7, am_sM7, am_gM8, am_lM8, am_sM8, am_gM9, am_lM9, am_sM9, am_gM10, am_lM10, am_sM10, am_gM11, am_lM11, am_sM11, am_gM12, am_lM12, am_sM12, am_gM13, am_lM13, am_sM13, am_gM14, am_lM14, am_sM14, am_gM15, am_lM15, am_sM15, am_gM16, am_lM16, am_sM16, am_gM17, am_lM17, am_sM17, am_gM18, am_lM18, am_sM18, am_gM19, am_pM19, am_gM20, am_lM20, am_sM20, am_gM21, am_lM21, am_sM21, am_gM22, am_lM22, am_sM22, am_gM23, am_lM23, am_sM23, am_gM24, am_pM24, am_gM25, am_pM25, am_gM26, am_lM26, am_sM26, am_gM27, am_lM27, am_sM27, am_gM28, am_lM28, am_sM28, am_gM29, am_lM29, am_sM29, am_gM30, am_lM30, am_sM30, am_gM31, am_lM31, am_sM31, am_gM32, am_lM32, am_sM32, am_gM33, am_lM33, am_sM33, am_gM34, am_lM34, am_sM34, am_gM35, am_lM35, am_sM35, am_gM36, am_lM36, am_sM36, am_gM37, am_lM37, am_sM37, am_gM38, am_lM38, am_sM38, am_gM39, am_lM39, am_sM39, am_gM40, am_lM40, am_sM40, am_gM41, am_lM41, am_sM41, am_gM42, am_lM42, am_sM42, am_gM43, am_lM43, am_sM43, am_gM44, am_lM44, am_sM44, am_gM45, am_pM45, am_gM46, am_lM46, am_sM46, am_gM47, am_lM47, am_sM47, am_gM48, am_lM48, am_sM48, am_gM49, am_lM49, am_sM49, am_gM50, am_lM50, am_sM50, am_gM51, am_lM51, am_sM51, am_gM52, am_lM52, am_sM52, am_isM, Option.bind_some, hn, am_le_nat (show n ≤ 100000 by omega) (show k ≤ 100000 by omega), c, if_false, hI, am_tcn (show k ≤ 100000 by omega), am_succ, am_nli, h1, not_true_eq_false, am_og]
    · rw [show am_find (fun j => G 29 j = t) k (m + 1) = am_find (fun j => G 29 j = t) (k + 1) m from if_neg h1]
      simp only [am_e168_0, am_e168_7, am_e168_33, am_e168_10, am_e168_14, am_e168_16, am_e168_27, am_e168_20, am_e168_24, am_e168_26, am_gM0, am_pM0, am_gM1, am_pM1, am_gM2, am_lM2, am_sM2, am_gM3, am_lM3, am_sM3, am_gM4, am_lM4, am_sM4, am_gM5, am_lM5, am_sM5, am_gM6, am_pM6, am_gM7, am_lM7, am_sM7, am_gM8, am_lM8, am_sM8, am_gM9, am_lM9, am_sM9, am_gM10, am_lM10, am_sM10, am_gM11, am_lM11, am_sM11, am_gM12, am_lM12, am_sM12, am_gM13, am_lM13, am_sM13, am_gM14, am_lM14, am_sM14, am_gM15, am_lM15, am_sM15, am_gM16, am_lM16, am_sM16, am_gM17, am_lM17, am_sM17, am_gM18, am_lM18, am_sM18, am_gM19, am_pM19, am_gM20, am_lM20, am_sM20, am_gM21, am_lM21, am_sM21, am_gM22, am_lM22, am_sM22, am_gM23, am_lM23, am_sM23, am_gM24, am_pM24, am_gM25, am_pM25, am_gM26, am_lM26, am_sM26, am_gM27, am_lM27, am_sM27, am_gM28, am_lM28, am_sM28, am_gM29, am_lM29, am_sM29, am_gM30, am_lM30, am_sM30, am_gM31, am_lM31, am_sM31, am_gM32, am_lM32, am_sM32, am_gM33, am_lM33, am_sM33, am_gM34, am_lM34, am_sM34, am_gM35, am_lM35, am_sM35, am_gM36, am_lM36, am_sM36, am_gM37, am_lM37, am_sM37, am_gM38, am_lM38, am_sM38, am_gM39, am_lM39, am_sM39, am_gM40, am_lM40, am_sM40, am_gM41, am_lM41, am_sM41, am_gM42, am_lM42, am_sM42, am_gM43, am_lM43, am_sM43, am_gM44, am_lM44, am_sM44, am_gM45, am_pM45, am_gM46, am_lM46, am_sM46, am_gM47, am_lM47, am_sM47, am_gM48, am_lM48, am_sM48, am_gM49, am_lM49, am_sM49, am_gM50, am_lM50, am_sM50, am_gM51, am_lM51, am_sM51, am_gM52, am_lM52, am_sM52, am_isM, Option.bind_some, hn, am_le_nat (show n ≤ 100000 by omega) (show k ≤ 100000 by omega), c, if_false, hI, am_tcn (show k ≤ 100000 by omega), am_succ, am_nli, h1, not_false_eq_true, if_true, hi]
theorem mr168 {G : am_G} {L : Nat → Int64} {r : am_H} {t : Int32} {n : Nat} (hn : G 24 0 = Int32.ofNat n) (hn2 : n ≤ 41) : am_exec 168 0 [.ref 40, .int t, am_U] [] (am_ov G L r) = some (.inl (some (.int (am_og (G 27) (am_find (fun j => G 29 j = t) 0 n)))), am_ov G L r) := by
  simp only [am_e168_0, am_e168_7, am_e168_33, am_e168_10, am_e168_14, am_e168_16, am_e168_27, am_e168_20, am_e168_24, am_e168_26, am_nli]
  exact mr168_2 hn hn2 n 0 (Nat.zero_add n)
