/-! WHAT ALL METHODS OF THE REFERENCE NEED, and its smallest methods -/
theorem am_bk {mu pc : Nat} {ls : List Value} {v : Option Value} {h : am_H} {f : Option Value → am_H → Option (am_Res × am_H)} : am_back mu pc ls (some (.inl v, h)) f = f v h := rfl
theorem am_pu1 {v : Value} {st : List Value} : am_pu (some v) st = v :: st := rfl
theorem am_pu0 {st : List Value} : am_pu none st = st := rfl
theorem am_b0 {p : Prop} [Decidable p] : ((if p then (1 : Int32) else 0) = 0) = ¬ p := by
  by_cases h : p
  · rw [if_pos h]; exact propext ⟨fun e => absurd e (by decide), fun e => absurd h e⟩
  · rw [if_neg h]; exact propext ⟨fun _ => h, fun _ => rfl⟩
theorem am_b1 {p : Prop} [Decidable p] : ((if p then (1 : Int32) else 0) = 1) = p := by
  by_cases h : p
  · rw [if_pos h]; exact propext ⟨fun _ => h, fun _ => rfl⟩
  · rw [if_neg h]; exact propext ⟨fun e => absurd e (by decide), fun e => absurd e h⟩
theorem am_b01 {p : Prop} [Decidable p] : ((if p then (1 : Int32) else 0) = 0 ∨ (if p then (1 : Int32) else 0) = 1) = True := by
  rw [am_b0, am_b1]
  exact eq_true (Classical.em p).symm
theorem am_nli {x : Int32} : am_nl (.int x) = true := of_eq_true (eq_self true)
theorem am_nlr {x : Nat} : am_nl (.ref x) = true := of_eq_true (eq_self true)
theorem am_nln : am_nl .null = true := of_eq_true (eq_self true)
theorem am_nlu : am_nl am_U = true := of_eq_true (eq_self true)
theorem am_isM {G : am_G} {L : Nat → Int64} {r : am_H} : am_isa (am_ov G L r) 40 12 = true := of_eq_true (eq_self true)
theorem am_succ {k : Nat} : Int32.ofNat k + 1 = Int32.ofNat (k + 1) := (Int32.ofNat_add k 1).symm
theorem am_le_nat {a b : Nat} (ha : a ≤ 100000) (hb : b ≤ 100000) : (Int32.ofNat a ≤ Int32.ofNat b) = (a ≤ b) := propext (Int32.ofNat_le_iff_le (by omega) (by omega))
theorem am_lt_nat {a b : Nat} (ha : a ≤ 100000) (hb : b ≤ 100000) : (Int32.ofNat a < Int32.ofNat b) = (a < b) := propext (Int32.ofNat_lt_iff_lt (by omega) (by omega))
theorem am_tcn {a : Nat} (ha : a ≤ 100000) : (Int32.ofNat a).toNatClampNeg = a := Int32.toNatClampNeg_ofNat_of_lt (by omega)
theorem am_nle {a b : Int32} : (a < b) = ¬ b ≤ a := propext Int32.not_le.symm
/-- the first k from k on, of m many, for which p holds -/
def am_find (p : Nat → Prop) [DecidablePred p] : Nat → Nat → Option Nat
  | _, 0 => none
  | k, m + 1 => if p k then some k else am_find p (k + 1) m
def am_oi : Option Nat → Int32
  | some k => Int32.ofNat k
  | none => -1
abbrev am_bi (p : Prop) [Decidable p] : Value := .int (if p then 1 else 0)
theorem mr154 {h : am_H} {v a b : Int32} : am_exec 154 0 [.int v, .int a, .int b] [] h = some (.inl (some (am_bi (a ≤ v ∧ v ≤ b))), h) := by
  by_cases h1 : a ≤ v <;> by_cases h2 : v ≤ b <;> simp only [am_e154_0, am_e154_14, am_e154_5, am_e154_10, am_bi, am_nle, h1, h2, not_true_eq_false, not_false_eq_true, if_true, if_false, and_self, and_true, true_and, and_false, false_and]
theorem mr156 {h : am_H} {v : Int32} : am_exec 156 0 [.int v] [] h = some (.inl (some (am_bi (0 ≤ v ∧ v ≤ 3))), h) := by
  simp only [am_e156_0, am_e156_6, mr154, am_bk, am_pu1, am_b01]
theorem mr157 {h : am_H} {v : Int32} : am_exec 157 0 [.int v] [] h = some (.inl (some (am_bi (0 ≤ v ∧ v ≤ 63))), h) := by
  simp only [am_e157_0, am_e157_7, mr154, am_bk, am_pu1, am_b01]
theorem mr166_2 {G : am_G} {L : Nat → Int64} {r : am_H} {u : Int32} {n : Nat} (hn : G 24 0 = Int32.ofNat n) (hn2 : n ≤ 41) : ∀ m k, k + m = n → am_exec 166 2 [.ref 40, .int u, .int (Int32.ofNat k)] [] (am_ov G L r) = some (.inl (some (.int (am_oi (am_find (fun j => G 26 j = u) k m)))), am_ov G L r) := by
  intro m
  induction m with
  | zero =>
    intro k hk
    have c : n ≤ k := by omega
    rw [am_e166_2]
    simp only [am_e166_0, am_e166_7, am_e166_28, am_e166_10, am_e166_14, am_e166_16, am_e166_22, am_e166_20, am_gM0, am_pM0, am_gM1, am_pM1, am_gM2, am_lM2, am_sM2, am_gM3, am_lM3, am_sM3, am_gM4, am_lM4, am_sM4, am_gM5, am_lM5, am_sM5, am_gM6, am_pM6, am_gM7, am_lM7, am_sM7, am_gM8, am_lM8, am_sM8, am_gM9, am_lM9, am_sM9, am_gM10, am_lM10, am_sM10, am_gM11, am_lM11, am_sM11, am_gM12, am_lM12, am_sM12, am_gM13, am_lM13, am_sM13, am_gM14, am_lM14, am_sM14, am_gM15, am_lM15, am_sM15, am_gM16, am_lM16, am_sM16, am_gM17, am_lM17, am_sM17, am_gM18, am_lM18, am_sM18, am_gM19, am_pM19, am_gM20, am_lM20, am_sM20, am_gM21, am_lM21, am_sM21, am_gM22, am_lM22, am_sM22, am_gM23, am_lM23, am_sM23, am_gM24, am_pM24, am_gM25, am_pM25, am_gM26, am_lM26, am_sM26, am_gM27, am_lM27, am_sM27, am_gM28, am_lM28, am_sM28, am_gM29, am_lM29, am_sM29, am_gM30, am_lM30, am_sM30, am_gM31, am_lM31, am_sM31, am_gM32, am_lM32, am_sM32, am_gM33, am_lM33, am_sM33, am_gM34, am_lM34, am_sM34, am_gM35, am_lM35, am_sM35, am_gM36, am_lM36, am_sM36, am_gM37, am_lM37, am_sM37, am_gM38, am_lM38, am_sM38, am_gM39, am_lM39, am_sM39, am_gM40, am_lM40, am_sM40, am_gM41, am_lM41, am_sM41, am_gM42, am_lM42, am_sM42, am_gM43, am_lM43, am_sM43, am_gM44, am_lM44, am_sM44, am_gM45, am_pM45, am_gM46, am_lM46, am_sM46, am_gM47, am_lM47, am_sM47, am_gM48, am_lM48, am_sM48, am_gM49, am_lM49, am_sM49, am_gM50, am_lM50, am_sM50, am_gM51, am_lM51, am_sM51, am_gM52, am_lM52, am_sM52, am_isM, Option.bind_some, hn, am_le_nat (show n ≤ 100000 by omega) (show k ≤ 100000 by omega), c, if_true, am_find, am_oi]
  | succ m ih =>
    intro k hk
    have c : ¬ n ≤ k := by omega
    have hI : am_I (Int32.ofNat k) 41 := am_I.nat (by omega) (by omega)
    rw [am_e166_2]
    by_cases h1 : G 26 k = u <;> simp only [am_e166_0, am_e166_7, am_e166_28, am_e166_10, am_e166_14, am_e166_16, am_e166_22, am_e166_20, am_gM0, am_pM0, am_gM1, am_pM1, am_gM2, am_lM2, am_sM2, am_gM3, am_lM3, am_sM3, am_gM4, am_lM4, am_sM4, am_gM5, am_lM5, am_sM5, am_gM6, am_pM6, am_gM7, am_lM7, am_sM7, am_gM8, am_lM8, am_sM8, am_gM9, am_lM9, am_sM9, am_gM10, am_lM10, am_sM10, am_gM11, am_lM11, am_sM11, am_gM12, am_lM12, am_sM12, am_gM13, am_lM13, am_sM13, am_gM14, am_lM14, am_sM14, am_gM15, am_lM15, am_sM15, am_gM16, am_lM16, am_sM16, am_gM17, am_lM17, am_sM17, am_gM18, am_lM18, am_sM18, am_gM19, am_pM19, am_gM20, am_lM20, am_sM20, am_gM21, am_lM21, am_sM21, am_gM22, am_lM22, am_sM22, am_gM23, am_lM23, am_sM23, am_gM24, am_pM24, am_gM25, am_pM25, am_gM26, am_lM26, am_sM26, am_gM27, am_lM27, am_sM27, am_gM28, am_lM28, am_sM28, am_gM29, am_lM29, am_sM29, am_gM30, am_lM30, am_sM30, am_gM31, am_lM31, am_sM31, am_gM32, am_lM32, am_sM32, am_gM33, am_lM33, am_sM33, am_gM34, am_lM34, am_sM34, am_gM35, am_lM35, am_sM35, am_gM36, am_lM36, am_sM36, am_gM37, am_lM37, am_sM37, am_gM38, am_lM38, am_sM38, am_gM39, am_lM39, am_sM39, am_gM40, am_lM40, am_sM40, am_gM41, am_lM41, am_sM41, am_gM42, am_lM42, am_sM42, am_gM43, am_lM43, am_sM43, am_gM44, am_lM44, am_sM44, am_gM45, am_pM45, am_gM46, am_lM46, am_sM46, am_gM47, am_lM47, am_sM47, am_gM48, am_lM48, am_sM48, am_gM49, am_lM49, am_sM49, am_gM50, am_lM50, am_sM50, am_gM51, am_lM51, am_sM51, am_gM52, am_lM52, am_sM52, am_isM, Option.bind_some, hn, am_le_nat (show n ≤ 100000 by omega) (show k ≤ 100000 by omega), c, if_false, hI, am_tcn (show k ≤ 100000 by omega), am_succ, ih (k + 1) (by omega), am_find, am_nli, eq_self, h1, not_true_eq_false, not_false_eq_true, if_true, am_oi]
theorem mr166 {G : am_G} {L : Nat → Int64} {r : am_H} {u : Int32} {n : Nat} (hn : G 24 0 = Int32.ofNat n) (hn2 : n ≤ 41) : am_exec 166 0 [.ref 40, .int u, am_U] [] (am_ov G L r) = some (.inl (some (.int (am_oi (am_find (fun j => G 26 j = u) 0 n)))), am_ov G L r) := by
  rw [am_e166_0 am_nli]
  exact mr166_2 hn hn2 n 0 (Nat.zero_add n)
