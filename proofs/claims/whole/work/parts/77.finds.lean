/-! THE REFERENCE'S PLAN: the table of the best worths -/
def as_ix (s k f : Nat) : Nat := 2500 * s + 100 * k + f
/-- the best of the tiles from s on: without the s-th, or with it -/
def as_bv (X : am_G) (s k f : Nat) : Int32 := if k = 0 then -1000000000 else X 23 (as_ix (s + 1) (k - 1) (f - (X 21 s).toNatClampNeg)) + X 22 s
def as_st (s k f : Nat) (X : am_G) : am_G := am_up X 23 (as_ix s k f) (am_mx (X 23 (as_ix (s + 1) k f)) (if 0 ≤ as_bv X s k f then as_bv X s k f else -1000000000))
def as_i0 (S k f : Nat) (X : am_G) : am_G := am_up X 23 (as_ix S k f) (if k = 0 ∧ f = 0 then 0 else -1000000000)
/-- one row of the table -/
def as_r1 (m g s : Nat) (X : am_G) : am_G := am_it (fun k X => am_it (fun f X => as_st s k f X) X (g + 1)) X (m + 1)
def as_r0 (m g S : Nat) (X : am_G) : am_G := am_it (fun k X => am_it (fun f X => as_i0 S k f X) X (g + 1)) X (m + 1)
/-- the whole table -/
def as_fn (m g S : Nat) (X : am_G) : am_G := as_dn (as_r1 m g) S (as_r0 m g S X)
theorem am_it_row' {s : Nat → am_G → am_G} {G : am_G} {f : Nat} (h : ∀ k X, X f = G f → s k X f = G f) : ∀ n, am_it s G n f = G f
  | 0 => rfl
  | n + 1 => by rw [am_it]; exact h _ _ (am_it_row' h n)
theorem as_st_ne {s k f x : Nat} {X : am_G} (h : ¬ x = 23) : as_st s k f X x = X x := am_up_ne h
theorem as_i0_ne {s k f x : Nat} {X : am_G} (h : ¬ x = 23) : as_i0 s k f X x = X x := am_up_ne h
theorem as_r1_ne {m g s x : Nat} {X : am_G} (h : ¬ x = 23) : as_r1 m g s X x = X x := by
  unfold as_r1
  exact am_it_row (fun k X => am_it_row (fun f X => as_st_ne h) _) _
theorem as_r0_ne {m g s x : Nat} {X : am_G} (h : ¬ x = 23) : as_r0 m g s X x = X x := by
  unfold as_r0
  exact am_it_row (fun k X => am_it_row (fun f X => as_i0_ne h) _) _
theorem as_fn_ne' {m g x : Nat} (h : ¬ x = 23) : ∀ (S : Nat) (X : am_G), as_dn (as_r1 m g) S X x = X x
  | 0, _ => rfl
  | S + 1, X => by rw [as_dn, as_fn_ne' h S, as_r1_ne h]
theorem as_fn_ne {m g S x : Nat} {X : am_G} (h : ¬ x = 23) : as_fn m g S X x = X x := by
  unfold as_fn
  rw [as_fn_ne' h, as_r0_ne h]
theorem am_z0 {k : Nat} (hk : k ≤ 100000) : Int32.ofNat k = 0 ↔ k = 0 := ⟨fun h => by have := congrArg Int32.toNatClampNeg h; rw [am_tcn hk] at this; exact this, fun h => by rw [h]; rfl⟩
theorem am_mns : ∀ f, f < 100 → ∀ g, g < 5 → am_mx (Int32.ofNat f - Int32.ofNat g) 0 = Int32.ofNat (f - g) := by decide +kernel
theorem am_ixe {s k f : Nat} : 2500 * Int32.ofNat s + 100 * Int32.ofNat k + Int32.ofNat f = Int32.ofNat (as_ix s k f) := by
  unfold as_ix
  rw [Int32.ofNat_add, Int32.ofNat_add, Int32.ofNat_mul, Int32.ofNat_mul]
  rfl
theorem am_ixI {s k f : Nat} (hs : s ≤ 24) (hk : k ≤ 24) (hf : f ≤ 99) : am_I (Int32.ofNat (as_ix s k f)) 62500 := am_Ik (by unfold as_ix; omega) (by decide)
theorem am_ixJ {s k f : Nat} (hs : s ≤ 24) (hk : k ≤ 24) (hf : f ≤ 99) : (Int32.ofNat (as_ix s k f)).toNatClampNeg = as_ix s k f := am_tcn (by unfold as_ix; omega)
section
variable {L : Nat → Int64} {r : am_H}
theorem mr187_10 {m g S k : Nat} (hm : m ≤ 24) (hg : g ≤ 99) (hS : S ≤ 24) (hk : k ≤ m) {G : am_G} (hG : G 19 0 = Int32.ofNat S) : am_exec 187 10 [.ref 40, .int (Int32.ofNat m), .int (Int32.ofNat g), .int (Int32.ofNat k), .int 0, am_U, am_U, am_U] [] (am_ov G L r) = am_exec 187 53 [.ref 40, .int (Int32.ofNat m), .int (Int32.ofNat g), .int (Int32.ofNat k), .int (Int32.ofNat (g + 1)), am_U, am_U, am_U] [] (am_ov (am_it (fun f X => as_i0 S k f X) G (g + 1)) L r) := by
  have key := am_iter (fun f => am_exec 187 10 [.ref 40, .int (Int32.ofNat m), .int (Int32.ofNat g), .int (Int32.ofNat k), .int (Int32.ofNat f), am_U, am_U, am_U] [] (am_ov (am_it (fun f X => as_i0 S k f X) G f) L r)) (g + 1) (fun f hf => by
    have c : ¬ Int32.ofNat g < Int32.ofNat f := by rw [am_lt_nat (by omega) (by omega)]; omega
    have e19 : am_it (fun f X => as_i0 S k f X) G f 19 = G 19 := am_it_row (fun f X => as_i0_ne (by decide)) f
    have hI := am_ixI hS (show k ≤ 24 by omega) (show f ≤ 99 by omega)
    have hJ := am_ixJ hS (show k ≤ 24 by omega) (show f ≤ 99 by omega)
    show am_exec 187 10 _ _ _ = am_exec 187 10 [.ref 40, .int (Int32.ofNat m), .int (Int32.ofNat g), .int (Int32.ofNat k), .int (Int32.ofNat (f + 1)), am_U, am_U, am_U] [] (am_ov (as_i0 S k f (am_it (fun f X => as_i0 S k f X) G f)) L r)
    generalize am_it (fun f X => as_i0 S k f X) G f = X at *
    rw [am_e187_10, if_neg c]
    have z1 : Int32.ofNat k = 0 ↔ k = 0 := am_z0 (by omega)
    have z2 : Int32.ofNat f = 0 ↔ f = 0 := am_z0 (by omega)
    have t31 : ∀ s0 s1 h, am_exec 187 31 [.ref 40, .int (Int32.ofNat m), .int (Int32.ofNat g), .int (Int32.ofNat k), .int (Int32.ofNat f), am_U, am_U, am_U] [s0, s1] h = if k = 0 ∧ f = 0 then am_exec 187 40 [.ref 40, .int (Int32.ofNat m), .int (Int32.ofNat g), .int (Int32.ofNat k), .int (Int32.ofNat f), am_U, am_U, am_U] [s0, s1] h else am_exec 187 44 [.ref 40, .int (Int32.ofNat m), .int (Int32.ofNat g), .int (Int32.ofNat k), .int (Int32.ofNat f), am_U, am_U, am_U] [s0, s1] h := fun s0 s1 h => by
      rw [am_e187_31]
      by_cases h1 : k = 0
      · rw [if_neg (fun q => q (z1.mpr h1)), am_e187_35]
        by_cases h2 : f = 0
        · rw [if_neg (fun q => q (z2.mpr h2)), if_pos ⟨h1, h2⟩]
        · rw [if_pos (fun q => h2 (z2.mp q)), if_neg (fun q => h2 q.2)]
      · rw [if_pos (fun q => h1 (z1.mp q)), if_neg (fun q => h1 q.1)]
    simp only [am_e187_16, am_e187_20, am_e187_25, am_gM0, am_pM0, am_gM1, am_pM1, am_gM2, am_lM2, am_sM2, am_gM3, am_lM3, am_sM3, am_gM4, am_lM4, am_sM4, am_gM5, am_lM5, am_sM5, am_gM6, am_pM6, am_gM7, am_lM7, am_sM7, am_gM8, am_lM8, am_sM8, am_gM9, am_lM9, am_sM9, am_gM10, am_lM10, am_sM10, am_gM11, am_lM11, am_sM11, am_gM12, am_lM12, am_sM12, am_gM13, am_lM13, am_sM13, am_gM14, am_lM14, am_sM14, am_gM15, am_lM15, am_sM15, am_gM16, am_lM16, am_sM16, am_gM17, am_lM17, am_sM17, am_gM18, am_lM18, am_sM18, am_gM19, am_pM19, am_gM20, am_lM20, am_sM20, am_gM21, am_lM21, am_sM21, am_gM22, am_lM22, am_sM22, am_gM23, am_lM23, am_sM23, am_gM24, am_pM24, am_gM25, am_pM25, am_gM26, am_lM26, am_sM26, am_gM27, am_lM27, am_sM27, am_gM28, am_lM28, am_sM28, am_gM29, am_lM29, am_sM29, am_gM30, am_lM30, am_sM30, am_gM31, am_lM31, am_sM31, am_gM32, am_lM32, am_sM32, am_gM33, am_lM33, am_sM33, am_gM34, am_lM34, am_sM34, am_gM35, am_lM35, am_sM35, am_gM36, am_lM36, am_sM36, am_gM37, am_lM37, am_sM37, am_gM38, am_lM38, am_sM38, am_gM39, am_lM39, am_sM39, am_gM40, am_lM40, am_sM40, am_gM41, am_lM41, am_sM41, am_gM42, am_lM42, am_sM42, am_gM43, am_lM43, am_sM43, am_gM44, am_lM44, am_sM44, am_gM45, am_pM45, am_gM46, am_lM46, am_sM46, am_gM47, am_lM47, am_sM47, am_gM48, am_lM48, am_sM48, am_gM49, am_lM49, am_sM49, am_gM50, am_lM50, am_sM50, am_gM51, am_lM51, am_sM51, am_gM52, am_lM52, am_sM52, am_isM, am_bk, am_pu1, am_pu0, Option.bind_some, eq_self, am_nli, am_nlr, am_nln, am_nlu, if_true, if_false, not_true_eq_false, not_false_eq_true, am_10, am_01, mr186, am_ixe, e19, hG]
    unfold as_i0
    rw [t31]
    by_cases h : k = 0 ∧ f = 0
    · rw [if_pos h, if_pos h]
      simp only [am_e187_40, am_e187_47, am_gM0, am_pM0, am_gM1, am_pM1, am_gM2, am_lM2, am_sM2, am_gM3, am_lM3, am_sM3, am_gM4, am_lM4, am_sM4, am_gM5, am_lM5, am_sM5, am_gM6, am_pM6, am_gM7, am_lM7, am_sM7, am_gM8, am_lM8, am_sM8, am_gM9, am_lM9, am_sM9, am_gM10, am_lM10, am_sM10, am_gM11, am_lM11, am_sM11, am_gM12, am_lM12, am_sM12, am_gM13, am_lM13, am_sM13, am_gM14, am_lM14, am_sM14, am_gM15, am_lM15, am_sM15, am_gM16, am_lM16, am_sM16, am_gM17, am_lM17, am_sM17, am_gM18, am_lM18, am_sM18, am_gM19, am_pM19, am_gM20, am_lM20, am_sM20, am_gM21, am_lM21, am_sM21, am_gM22, am_lM22, am_sM22, am_gM23, am_lM23, am_sM23, am_gM24, am_pM24, am_gM25, am_pM25, am_gM26, am_lM26, am_sM26, am_gM27, am_lM27, am_sM27, am_gM28, am_lM28, am_sM28, am_gM29, am_lM29, am_sM29, am_gM30, am_lM30, am_sM30, am_gM31, am_lM31, am_sM31, am_gM32, am_lM32, am_sM32, am_gM33, am_lM33, am_sM33, am_gM34, am_lM34, am_sM34, am_gM35, am_lM35, am_sM35, am_gM36, am_lM36, am_sM36, am_gM37, am_lM37, am_sM37, am_gM38, am_lM38, am_sM38, am_gM39, am_lM39, am_sM39, am_gM40, am_lM40, am_sM40, am_gM41, am_lM41, am_sM41, am_gM42, am_lM42, am_sM42, am_gM43, am_lM43, am_sM43, am_gM44, am_lM44, am_sM44, am_gM45, am_pM45, am_gM46, am_lM46, am_sM46, am_gM47, am_lM47, am_sM47, am_gM48, am_lM48, am_sM48, am_gM49, am_lM49, am_sM49, am_gM50, am_lM50, am_sM50, am_gM51, am_lM51, am_sM51, am_gM52, am_lM52, am_sM52, am_isM, am_bk, am_pu1, am_pu0, Option.bind_some, eq_self, am_nli, am_nlr, am_nln, am_nlu, if_true, if_false, not_true_eq_false, not_false_eq_true, am_10, am_01, hI, hJ, am_succ]
    · rw [if_neg h, if_neg h]
      simp only [am_e187_44, am_e187_47, am_gM0, am_pM0, am_gM1, am_pM1, am_gM2, am_lM2, am_sM2, am_gM3, am_lM3, am_sM3, am_gM4, am_lM4, am_sM4, am_gM5, am_lM5, am_sM5, am_gM6, am_pM6, am_gM7, am_lM7, am_sM7, am_gM8, am_lM8, am_sM8, am_gM9, am_lM9, am_sM9, am_gM10, am_lM10, am_sM10, am_gM11, am_lM11, am_sM11, am_gM12, am_lM12, am_sM12, am_gM13, am_lM13, am_sM13, am_gM14, am_lM14, am_sM14, am_gM15, am_lM15, am_sM15, am_gM16, am_lM16, am_sM16, am_gM17, am_lM17, am_sM17, am_gM18, am_lM18, am_sM18, am_gM19, am_pM19, am_gM20, am_lM20, am_sM20, am_gM21, am_lM21, am_sM21, am_gM22, am_lM22, am_sM22, am_gM23, am_lM23, am_sM23, am_gM24, am_pM24, am_gM25, am_pM25, am_gM26, am_lM26, am_sM26, am_gM27, am_lM27, am_sM27, am_gM28, am_lM28, am_sM28, am_gM29, am_lM29, am_sM29, am_gM30, am_lM30, am_sM30, am_gM31, am_lM31, am_sM31, am_gM32, am_lM32, am_sM32, am_gM33, am_lM33, am_sM33, am_gM34, am_lM34, am_sM34, am_gM35, am_lM35, am_sM35, am_gM36, am_lM36, am_sM36, am_gM37, am_lM37, am_sM37, am_gM38, am_lM38, am_sM38, am_gM39, am_lM39, am_sM39, am_gM40, am_lM40, am_sM40, am_gM41, am_lM41, am_sM41, am_gM42, am_lM42, am_sM42, am_gM43, am_lM43, am_sM43, am_gM44, am_lM44, am_sM44, am_gM45, am_pM45, am_gM46, am_lM46, am_sM46, am_gM47, am_lM47, am_sM47, am_gM48, am_lM48, am_sM48, am_gM49, am_lM49, am_sM49, am_gM50, am_lM50, am_sM50, am_gM51, am_lM51, am_sM51, am_gM52, am_lM52, am_sM52, am_isM, am_bk, am_pu1, am_pu0, Option.bind_some, eq_self, am_nli, am_nlr, am_nln, am_nlu, if_true, if_false, not_true_eq_false, not_false_eq_true, am_10, am_01, hI, hJ, am_succ])
  refine key.trans ?_
  show am_exec 187 10 _ _ _ = _
  rw [am_e187_10]
  have c : Int32.ofNat g < Int32.ofNat (g + 1) := by rw [am_lt_nat (by omega) (by omega)]; omega
  simp only [am_bk, am_pu1, am_pu0, Option.bind_some, eq_self, am_nli, am_nlr, am_nln, am_nlu, if_true, if_false, not_true_eq_false, not_false_eq_true, am_10, am_01, c]
theorem mr187_2 {m g S : Nat} (hm : m ≤ 24) (hg : g ≤ 99) (hS : S ≤ 24) {G : am_G} (hG : G 19 0 = Int32.ofNat S) : am_exec 187 2 [.ref 40, .int (Int32.ofNat m), .int (Int32.ofNat g), .int 0, am_U, am_U, am_U, am_U] [] (am_ov G L r) = am_exec 187 66 [.ref 40, .int (Int32.ofNat m), .int (Int32.ofNat g), .int (Int32.ofNat S - 1), am_U, am_U, am_U, am_U] [] (am_ov (as_r0 m g S G) L r) := by
  have key := am_iter (fun k => am_exec 187 2 [.ref 40, .int (Int32.ofNat m), .int (Int32.ofNat g), .int (Int32.ofNat k), am_U, am_U, am_U, am_U] [] (am_ov (am_it (fun k X => am_it (fun f X => as_i0 S k f X) X (g + 1)) G k) L r)) (m + 1) (fun k hk => by
    have c : ¬ Int32.ofNat m < Int32.ofNat k := by rw [am_lt_nat (by omega) (by omega)]; omega
    have e19 : am_it (fun k X => am_it (fun f X => as_i0 S k f X) X (g + 1)) G k 19 = G 19 := am_it_row (fun k X => am_it_row (fun f X => as_i0_ne (by decide)) _) k
    show am_exec 187 2 _ _ _ = am_exec 187 2 [.ref 40, .int (Int32.ofNat m), .int (Int32.ofNat g), .int (Int32.ofNat (k + 1)), am_U, am_U, am_U, am_U] [] (am_ov (am_it (fun f X => as_i0 S k f X) (am_it (fun k X => am_it (fun f X => as_i0 S k f X) X (g + 1)) G k) (g + 1)) L r)
    generalize am_it (fun k X => am_it (fun f X => as_i0 S k f X) X (g + 1)) G k = X at *
    have m10 := mr187_10 (L := L) (r := r) hm hg hS (show k ≤ m by omega) (G := X) (by rw [e19]; exact hG)
    rw [am_e187_2, if_neg c]
    simp only [am_e187_7, am_bk, am_pu1, am_pu0, Option.bind_some, eq_self, am_nli, am_nlr, am_nln, am_nlu, if_true, if_false, not_true_eq_false, not_false_eq_true, am_10, am_01, m10]
    simp only [am_e187_53, am_bk, am_pu1, am_pu0, Option.bind_some, eq_self, am_nli, am_nlr, am_nln, am_nlu, if_true, if_false, not_true_eq_false, not_false_eq_true, am_10, am_01, am_succ])
  refine key.trans ?_
  show am_exec 187 2 _ _ _ = _
  rw [am_e187_2]
  have c : Int32.ofNat m < Int32.ofNat (m + 1) := by rw [am_lt_nat (by omega) (by omega)]; omega
  have e19 : am_it (fun k X => am_it (fun f X => as_i0 S k f X) X (g + 1)) G (m + 1) 19 = G 19 := am_it_row (fun k X => am_it_row (fun f X => as_i0_ne (by decide)) _) _
  simp only [am_e187_59, am_e187_63, am_gM0, am_pM0, am_gM1, am_pM1, am_gM2, am_lM2, am_sM2, am_gM3, am_lM3, am_sM3, am_gM4, am_lM4, am_sM4, am_gM5, am_lM5, am_sM5, am_gM6, am_pM6, am_gM7, am_lM7, am_sM7, am_gM8, am_lM8, am_sM8, am_gM9, am_lM9, am_sM9, am_gM10, am_lM10, am_sM10, am_gM11, am_lM11, am_sM11, am_gM12, am_lM12, am_sM12, am_gM13, am_lM13, am_sM13, am_gM14, am_lM14, am_sM14, am_gM15, am_lM15, am_sM15, am_gM16, am_lM16, am_sM16, am_gM17, am_lM17, am_sM17, am_gM18, am_lM18, am_sM18, am_gM19, am_pM19, am_gM20, am_lM20, am_sM20, am_gM21, am_lM21, am_sM21, am_gM22, am_lM22, am_sM22, am_gM23, am_lM23, am_sM23, am_gM24, am_pM24, am_gM25, am_pM25, am_gM26, am_lM26, am_sM26, am_gM27, am_lM27, am_sM27, am_gM28, am_lM28, am_sM28, am_gM29, am_lM29, am_sM29, am_gM30, am_lM30, am_sM30, am_gM31, am_lM31, am_sM31, am_gM32, am_lM32, am_sM32, am_gM33, am_lM33, am_sM33, am_gM34, am_lM34, am_sM34, am_gM35, am_lM35, am_sM35, am_gM36, am_lM36, am_sM36, am_gM37, am_lM37, am_sM37, am_gM38, am_lM38, am_sM38, am_gM39, am_lM39, am_sM39, am_gM40, am_lM40, am_sM40, am_gM41, am_lM41, am_sM41, am_gM42, am_lM42, am_sM42, am_gM43, am_lM43, am_sM43, am_gM44, am_lM44, am_sM44, am_gM45, am_pM45, am_gM46, am_lM46, am_sM46, am_gM47, am_lM47, am_sM47, am_gM48, am_lM48, am_sM48, am_gM49, am_lM49, am_sM49, am_gM50, am_lM50, am_sM50, am_gM51, am_lM51, am_sM51, am_gM52, am_lM52, am_sM52, am_isM, am_bk, am_pu1, am_pu0, Option.bind_some, eq_self, am_nli, am_nlr, am_nln, am_nlu, if_true, if_false, not_true_eq_false, not_false_eq_true, am_10, am_01, c, e19, hG]
  rfl
theorem mr187_82 {m g S s k : Nat} (hm : m ≤ 24) (hg : g ≤ 99) (hS : S ≤ 24) (hs : s < S) (hk : k ≤ m) {G : am_G} (hfo : ∃ z, z < 5 ∧ G 21 s = Int32.ofNat z) : am_exec 187 82 [.ref 40, .int (Int32.ofNat m), .int (Int32.ofNat g), .int (Int32.ofNat s), .int (Int32.ofNat k), .int 0, am_U, am_U] [] (am_ov G L r) = am_exec 187 191 [.ref 40, .int (Int32.ofNat m), .int (Int32.ofNat g), .int (Int32.ofNat s), .int (Int32.ofNat k), .int (Int32.ofNat (g + 1)), am_U, am_U] [] (am_ov (am_it (fun f X => as_st s k f X) G (g + 1)) L r) := by
  obtain ⟨z, hz, hfo⟩ := hfo
  have key := am_iter (fun f => am_exec 187 82 [.ref 40, .int (Int32.ofNat m), .int (Int32.ofNat g), .int (Int32.ofNat s), .int (Int32.ofNat k), .int (Int32.ofNat f), am_U, am_U] [] (am_ov (am_it (fun f X => as_st s k f X) G f) L r)) (g + 1) (fun f hf => by
    have c : ¬ Int32.ofNat g < Int32.ofNat f := by rw [am_lt_nat (by omega) (by omega)]; omega
    have e21 : am_it (fun f X => as_st s k f X) G f 21 = G 21 := am_it_row (fun f X => as_st_ne (by decide)) f
    have hI := am_ixI (show s ≤ 24 by omega) (show k ≤ 24 by omega) (show f ≤ 99 by omega)
    have hJ := am_ixJ (show s ≤ 24 by omega) (show k ≤ 24 by omega) (show f ≤ 99 by omega)
    have hI2 := am_ixI (show s + 1 ≤ 24 by omega) (show k ≤ 24 by omega) (show f ≤ 99 by omega)
    have hJ2 := am_ixJ (show s + 1 ≤ 24 by omega) (show k ≤ 24 by omega) (show f ≤ 99 by omega)
    have hI3 := am_ixI (show s + 1 ≤ 24 by omega) (show k - 1 ≤ 24 by omega) (show f - z ≤ 99 by omega)
    have hJ3 := am_ixJ (show s + 1 ≤ 24 by omega) (show k - 1 ≤ 24 by omega) (show f - z ≤ 99 by omega)
    have hIs : am_I (Int32.ofNat s) 24 := am_Ik (by omega) (by decide)
    have hJs := am_tcn (show s ≤ 100000 by omega)
    have hJz := am_tcn (show z ≤ 100000 by omega)
    have mns := am_mns f (by omega) z hz
    show am_exec 187 82 _ _ _ = am_exec 187 82 [.ref 40, .int (Int32.ofNat m), .int (Int32.ofNat g), .int (Int32.ofNat s), .int (Int32.ofNat k), .int (Int32.ofNat (f + 1)), am_U, am_U] [] (am_ov (as_st s k f (am_it (fun f X => as_st s k f X) G f)) L r)
    generalize am_it (fun f X => as_st s k f X) G f = X at *
    rw [am_e187_82, if_neg c]
    have hfo' : X 21 s = Int32.ofNat z := by rw [e21]; exact hfo
    unfold as_st
    simp only [am_e187_88, am_e187_92, am_e187_103, am_gM0, am_pM0, am_gM1, am_pM1, am_gM2, am_lM2, am_sM2, am_gM3, am_lM3, am_sM3, am_gM4, am_lM4, am_sM4, am_gM5, am_lM5, am_sM5, am_gM6, am_pM6, am_gM7, am_lM7, am_sM7, am_gM8, am_lM8, am_sM8, am_gM9, am_lM9, am_sM9, am_gM10, am_lM10, am_sM10, am_gM11, am_lM11, am_sM11, am_gM12, am_lM12, am_sM12, am_gM13, am_lM13, am_sM13, am_gM14, am_lM14, am_sM14, am_gM15, am_lM15, am_sM15, am_gM16, am_lM16, am_sM16, am_gM17, am_lM17, am_sM17, am_gM18, am_lM18, am_sM18, am_gM19, am_pM19, am_gM20, am_lM20, am_sM20, am_gM21, am_lM21, am_sM21, am_gM22, am_lM22, am_sM22, am_gM23, am_lM23, am_sM23, am_gM24, am_pM24, am_gM25, am_pM25, am_gM26, am_lM26, am_sM26, am_gM27, am_lM27, am_sM27, am_gM28, am_lM28, am_sM28, am_gM29, am_lM29, am_sM29, am_gM30, am_lM30, am_sM30, am_gM31, am_lM31, am_sM31, am_gM32, am_lM32, am_sM32, am_gM33, am_lM33, am_sM33, am_gM34, am_lM34, am_sM34, am_gM35, am_lM35, am_sM35, am_gM36, am_lM36, am_sM36, am_gM37, am_lM37, am_sM37, am_gM38, am_lM38, am_sM38, am_gM39, am_lM39, am_sM39, am_gM40, am_lM40, am_sM40, am_gM41, am_lM41, am_sM41, am_gM42, am_lM42, am_sM42, am_gM43, am_lM43, am_sM43, am_gM44, am_lM44, am_sM44, am_gM45, am_pM45, am_gM46, am_lM46, am_sM46, am_gM47, am_lM47, am_sM47, am_gM48, am_lM48, am_sM48, am_gM49, am_lM49, am_sM49, am_gM50, am_lM50, am_sM50, am_gM51, am_lM51, am_sM51, am_gM52, am_lM52, am_sM52, am_isM, am_bk, am_pu1, am_pu0, Option.bind_some, eq_self, am_nli, am_nlr, am_nln, am_nlu, if_true, if_false, not_true_eq_false, not_false_eq_true, am_10, am_01, mr186, am_succ, am_ixe, hI2, hJ2]
    rw [am_e187_104]
    by_cases h1 : k = 0
    · have hb : as_bv X s k f = -1000000000 := by unfold as_bv; rw [if_pos h1]
      rw [if_neg (fun q => q ((am_z0 (by omega)).mpr h1)), hb, if_neg (by decide)]
      simp only [am_e187_111, am_e187_158, am_e187_167, am_e187_174, am_e187_179, am_e187_184, am_e187_185, am_gM0, am_pM0, am_gM1, am_pM1, am_gM2, am_lM2, am_sM2, am_gM3, am_lM3, am_sM3, am_gM4, am_lM4, am_sM4, am_gM5, am_lM5, am_sM5, am_gM6, am_pM6, am_gM7, am_lM7, am_sM7, am_gM8, am_lM8, am_sM8, am_gM9, am_lM9, am_sM9, am_gM10, am_lM10, am_sM10, am_gM11, am_lM11, am_sM11, am_gM12, am_lM12, am_sM12, am_gM13, am_lM13, am_sM13, am_gM14, am_lM14, am_sM14, am_gM15, am_lM15, am_sM15, am_gM16, am_lM16, am_sM16, am_gM17, am_lM17, am_sM17, am_gM18, am_lM18, am_sM18, am_gM19, am_pM19, am_gM20, am_lM20, am_sM20, am_gM21, am_lM21, am_sM21, am_gM22, am_lM22, am_sM22, am_gM23, am_lM23, am_sM23, am_gM24, am_pM24, am_gM25, am_pM25, am_gM26, am_lM26, am_sM26, am_gM27, am_lM27, am_sM27, am_gM28, am_lM28, am_sM28, am_gM29, am_lM29, am_sM29, am_gM30, am_lM30, am_sM30, am_gM31, am_lM31, am_sM31, am_gM32, am_lM32, am_sM32, am_gM33, am_lM33, am_sM33, am_gM34, am_lM34, am_sM34, am_gM35, am_lM35, am_sM35, am_gM36, am_lM36, am_sM36, am_gM37, am_lM37, am_sM37, am_gM38, am_lM38, am_sM38, am_gM39, am_lM39, am_sM39, am_gM40, am_lM40, am_sM40, am_gM41, am_lM41, am_sM41, am_gM42, am_lM42, am_sM42, am_gM43, am_lM43, am_sM43, am_gM44, am_lM44, am_sM44, am_gM45, am_pM45, am_gM46, am_lM46, am_sM46, am_gM47, am_lM47, am_sM47, am_gM48, am_lM48, am_sM48, am_gM49, am_lM49, am_sM49, am_gM50, am_lM50, am_sM50, am_gM51, am_lM51, am_sM51, am_gM52, am_lM52, am_sM52, am_isM, am_bk, am_pu1, am_pu0, Option.bind_some, eq_self, am_nli, am_nlr, am_nln, am_nlu, if_true, if_false, not_true_eq_false, not_false_eq_true, am_10, am_01, mr186, mr181, am_ixe, hI, hJ, am_succ, show ¬ (0 : Int32) ≤ -1000000000 by decide]
    · have hb : as_bv X s k f = X 23 (as_ix (s + 1) (k - 1) (f - z)) + X 22 s := by unfold as_bv; rw [if_neg h1, hfo', hJz]
      have ek : Int32.ofNat k - 1 = Int32.ofNat (k - 1) := (Int32.ofNat_sub k 1 (by omega)).symm
      rw [if_pos (fun q => h1 ((am_z0 (by omega)).mp q)), hb]
      simp only [am_e187_116, am_e187_120, am_e187_134, am_e187_136, am_e187_141, am_e187_144, am_e187_145, am_e187_149, am_e187_151, am_e187_158, am_e187_167, am_gM0, am_pM0, am_gM1, am_pM1, am_gM2, am_lM2, am_sM2, am_gM3, am_lM3, am_sM3, am_gM4, am_lM4, am_sM4, am_gM5, am_lM5, am_sM5, am_gM6, am_pM6, am_gM7, am_lM7, am_sM7, am_gM8, am_lM8, am_sM8, am_gM9, am_lM9, am_sM9, am_gM10, am_lM10, am_sM10, am_gM11, am_lM11, am_sM11, am_gM12, am_lM12, am_sM12, am_gM13, am_lM13, am_sM13, am_gM14, am_lM14, am_sM14, am_gM15, am_lM15, am_sM15, am_gM16, am_lM16, am_sM16, am_gM17, am_lM17, am_sM17, am_gM18, am_lM18, am_sM18, am_gM19, am_pM19, am_gM20, am_lM20, am_sM20, am_gM21, am_lM21, am_sM21, am_gM22, am_lM22, am_sM22, am_gM23, am_lM23, am_sM23, am_gM24, am_pM24, am_gM25, am_pM25, am_gM26, am_lM26, am_sM26, am_gM27, am_lM27, am_sM27, am_gM28, am_lM28, am_sM28, am_gM29, am_lM29, am_sM29, am_gM30, am_lM30, am_sM30, am_gM31, am_lM31, am_sM31, am_gM32, am_lM32, am_sM32, am_gM33, am_lM33, am_sM33, am_gM34, am_lM34, am_sM34, am_gM35, am_lM35, am_sM35, am_gM36, am_lM36, am_sM36, am_gM37, am_lM37, am_sM37, am_gM38, am_lM38, am_sM38, am_gM39, am_lM39, am_sM39, am_gM40, am_lM40, am_sM40, am_gM41, am_lM41, am_sM41, am_gM42, am_lM42, am_sM42, am_gM43, am_lM43, am_sM43, am_gM44, am_lM44, am_sM44, am_gM45, am_pM45, am_gM46, am_lM46, am_sM46, am_gM47, am_lM47, am_sM47, am_gM48, am_lM48, am_sM48, am_gM49, am_lM49, am_sM49, am_gM50, am_lM50, am_sM50, am_gM51, am_lM51, am_sM51, am_gM52, am_lM52, am_sM52, am_isM, am_bk, am_pu1, am_pu0, Option.bind_some, eq_self, am_nli, am_nlr, am_nln, am_nlu, if_true, if_false, not_true_eq_false, not_false_eq_true, am_10, am_01, mr186, mr181, am_ixe, hI, hJ, hI3, hJ3, hIs, hJs, hfo', mns, ek, am_succ]
      by_cases h2 : 0 ≤ X 23 (as_ix (s + 1) (k - 1) (f - z)) + X 22 s
      · simp only [am_e187_174, am_e187_179, am_e187_184, am_e187_185, am_gM0, am_pM0, am_gM1, am_pM1, am_gM2, am_lM2, am_sM2, am_gM3, am_lM3, am_sM3, am_gM4, am_lM4, am_sM4, am_gM5, am_lM5, am_sM5, am_gM6, am_pM6, am_gM7, am_lM7, am_sM7, am_gM8, am_lM8, am_sM8, am_gM9, am_lM9, am_sM9, am_gM10, am_lM10, am_sM10, am_gM11, am_lM11, am_sM11, am_gM12, am_lM12, am_sM12, am_gM13, am_lM13, am_sM13, am_gM14, am_lM14, am_sM14, am_gM15, am_lM15, am_sM15, am_gM16, am_lM16, am_sM16, am_gM17, am_lM17, am_sM17, am_gM18, am_lM18, am_sM18, am_gM19, am_pM19, am_gM20, am_lM20, am_sM20, am_gM21, am_lM21, am_sM21, am_gM22, am_lM22, am_sM22, am_gM23, am_lM23, am_sM23, am_gM24, am_pM24, am_gM25, am_pM25, am_gM26, am_lM26, am_sM26, am_gM27, am_lM27, am_sM27, am_gM28, am_lM28, am_sM28, am_gM29, am_lM29, am_sM29, am_gM30, am_lM30, am_sM30, am_gM31, am_lM31, am_sM31, am_gM32, am_lM32, am_sM32, am_gM33, am_lM33, am_sM33, am_gM34, am_lM34, am_sM34, am_gM35, am_lM35, am_sM35, am_gM36, am_lM36, am_sM36, am_gM37, am_lM37, am_sM37, am_gM38, am_lM38, am_sM38, am_gM39, am_lM39, am_sM39, am_gM40, am_lM40, am_sM40, am_gM41, am_lM41, am_sM41, am_gM42, am_lM42, am_sM42, am_gM43, am_lM43, am_sM43, am_gM44, am_lM44, am_sM44, am_gM45, am_pM45, am_gM46, am_lM46, am_sM46, am_gM47, am_lM47, am_sM47, am_gM48, am_lM48, am_sM48, am_gM49, am_lM49, am_sM49, am_gM50, am_lM50, am_sM50, am_gM51, am_lM51, am_sM51, am_gM52, am_lM52, am_sM52, am_isM, am_bk, am_pu1, am_pu0, Option.bind_some, eq_self, am_nli, am_nlr, am_nln, am_nlu, if_true, if_false, not_true_eq_false, not_false_eq_true, am_10, am_01, mr186, mr181, hI, hJ, am_succ, h2]
      · simp only [am_e187_174, am_e187_179, am_e187_184, am_e187_185, am_gM0, am_pM0, am_gM1, am_pM1, am_gM2, am_lM2, am_sM2, am_gM3, am_lM3, am_sM3, am_gM4, am_lM4, am_sM4, am_gM5, am_lM5, am_sM5, am_gM6, am_pM6, am_gM7, am_lM7, am_sM7, am_gM8, am_lM8, am_sM8, am_gM9, am_lM9, am_sM9, am_gM10, am_lM10, am_sM10, am_gM11, am_lM11, am_sM11, am_gM12, am_lM12, am_sM12, am_gM13, am_lM13, am_sM13, am_gM14, am_lM14, am_sM14, am_gM15, am_lM15, am_sM15, am_gM16, am_lM16, am_sM16, am_gM17, am_lM17, am_sM17, am_gM18, am_lM18, am_sM18, am_gM19, am_pM19, am_gM20, am_lM20, am_sM20, am_gM21, am_lM21, am_sM21, am_gM22, am_lM22, am_sM22, am_gM23, am_lM23, am_sM23, am_gM24, am_pM24, am_gM25, am_pM25, am_gM26, am_lM26, am_sM26, am_gM27, am_lM27, am_sM27, am_gM28, am_lM28, am_sM28, am_gM29, am_lM29, am_sM29, am_gM30, am_lM30, am_sM30, am_gM31, am_lM31, am_sM31, am_gM32, am_lM32, am_sM32, am_gM33, am_lM33, am_sM33, am_gM34, am_lM34, am_sM34, am_gM35, am_lM35, am_sM35, am_gM36, am_lM36, am_sM36, am_gM37, am_lM37, am_sM37, am_gM38, am_lM38, am_sM38, am_gM39, am_lM39, am_sM39, am_gM40, am_lM40, am_sM40, am_gM41, am_lM41, am_sM41, am_gM42, am_lM42, am_sM42, am_gM43, am_lM43, am_sM43, am_gM44, am_lM44, am_sM44, am_gM45, am_pM45, am_gM46, am_lM46, am_sM46, am_gM47, am_lM47, am_sM47, am_gM48, am_lM48, am_sM48, am_gM49, am_lM49, am_sM49, am_gM50, am_lM50, am_sM50, am_gM51, am_lM51, am_sM51, am_gM52, am_lM52, am_sM52, am_isM, am_bk, am_pu1, am_pu0, Option.bind_some, eq_self, am_nli, am_nlr, am_nln, am_nlu, if_true, if_false, not_true_eq_false, not_false_eq_true, am_10, am_01, mr186, mr181, hI, hJ, am_succ, h2]
    · rfl)
  refine key.trans ?_
  show am_exec 187 82 _ _ _ = _
  rw [am_e187_82]
  have c : Int32.ofNat g < Int32.ofNat (g + 1) := by rw [am_lt_nat (by omega) (by omega)]; omega
  rw [if_pos c]
theorem mr187_73 {m g S s : Nat} (hm : m ≤ 24) (hg : g ≤ 99) (hS : S ≤ 24) (hs : s < S) {G : am_G} (hfo : ∃ z, z < 5 ∧ G 21 s = Int32.ofNat z) : am_exec 187 73 [.ref 40, .int (Int32.ofNat m), .int (Int32.ofNat g), .int (Int32.ofNat s), .int 0, am_U, am_U, am_U] [] (am_ov G L r) = am_exec 187 197 [.ref 40, .int (Int32.ofNat m), .int (Int32.ofNat g), .int (Int32.ofNat s), .int (Int32.ofNat (m + 1)), am_U, am_U, am_U] [] (am_ov (as_r1 m g s G) L r) := by
  have key := am_iter (fun k => am_exec 187 73 [.ref 40, .int (Int32.ofNat m), .int (Int32.ofNat g), .int (Int32.ofNat s), .int (Int32.ofNat k), am_U, am_U, am_U] [] (am_ov (am_it (fun k X => am_it (fun f X => as_st s k f X) X (g + 1)) G k) L r)) (m + 1) (fun k hk => by
    have c : ¬ Int32.ofNat m < Int32.ofNat k := by rw [am_lt_nat (by omega) (by omega)]; omega
    have e21 : am_it (fun k X => am_it (fun f X => as_st s k f X) X (g + 1)) G k 21 = G 21 := am_it_row (fun k X => am_it_row (fun f X => as_st_ne (by decide)) _) k
    show am_exec 187 73 _ _ _ = am_exec 187 73 [.ref 40, .int (Int32.ofNat m), .int (Int32.ofNat g), .int (Int32.ofNat s), .int (Int32.ofNat (k + 1)), am_U, am_U, am_U] [] (am_ov (am_it (fun f X => as_st s k f X) (am_it (fun k X => am_it (fun f X => as_st s k f X) X (g + 1)) G k) (g + 1)) L r)
    generalize am_it (fun k X => am_it (fun f X => as_st s k f X) X (g + 1)) G k = X at *
    have m82 := mr187_82 (L := L) (r := r) hm hg hS hs (show k ≤ m by omega) (G := X) (by rw [e21]; exact hfo)
    rw [am_e187_73, if_neg c]
    simp only [am_e187_79, am_bk, am_pu1, am_pu0, Option.bind_some, eq_self, am_nli, am_nlr, am_nln, am_nlu, if_true, if_false, not_true_eq_false, not_false_eq_true, am_10, am_01, m82]
    simp only [am_e187_191, am_bk, am_pu1, am_pu0, Option.bind_some, eq_self, am_nli, am_nlr, am_nln, am_nlu, if_true, if_false, not_true_eq_false, not_false_eq_true, am_10, am_01, am_succ])
  refine key.trans ?_
  show am_exec 187 73 _ _ _ = _
  rw [am_e187_73]
  have c : Int32.ofNat m < Int32.ofNat (m + 1) := by rw [am_lt_nat (by omega) (by omega)]; omega
  rw [if_pos c]
  rfl
theorem mr187_66 {m g S : Nat} (hm : m ≤ 24) (hg : g ≤ 99) (hS : S ≤ 24) : ∀ (k : Nat) (G : am_G), k ≤ S → (∀ s, s < S → ∃ z, z < 5 ∧ G 21 s = Int32.ofNat z) → am_exec 187 66 [.ref 40, .int (Int32.ofNat m), .int (Int32.ofNat g), .int (Int32.ofNat k - 1), am_U, am_U, am_U, am_U] [] (am_ov G L r) = some (.inl none, am_ov (as_dn (as_r1 m g) k G) L r)
  | 0, G, _, _ => by
    rw [am_e187_66]
    have c : Int32.ofNat 0 - 1 < 0 := by decide
    rw [if_pos c, am_e187_203]
    rfl
  | k + 1, G, hk, hfo => by
    have ih := mr187_66 hm hg hS k (as_r1 m g k G) (by omega) (by rw [as_r1_ne (by decide)]; exact hfo)
    have m73 := mr187_73 (L := L) (r := r) hm hg hS (show k < S by omega) (hfo k (by omega))
    have c : ¬ Int32.ofNat k < 0 := by rw [am_prelt (by omega)]; exact id
    rw [am_e187_66, am_pre, if_neg c]
    simp only [am_e187_70, am_bk, am_pu1, am_pu0, Option.bind_some, eq_self, am_nli, am_nlr, am_nln, am_nlu, if_true, if_false, not_true_eq_false, not_false_eq_true, am_10, am_01, m73]
    simp only [am_e187_197, am_bk, am_pu1, am_pu0, Option.bind_some, eq_self, am_nli, am_nlr, am_nln, am_nlu, if_true, if_false, not_true_eq_false, not_false_eq_true, am_10, am_01, am_m1]
    exact ih
theorem mr187 {m g S : Nat} (hm : m ≤ 24) (hg : g ≤ 99) (hS : S ≤ 24) {G : am_G} (hG : G 19 0 = Int32.ofNat S) (hfo : ∀ s, s < S → ∃ z, z < 5 ∧ G 21 s = Int32.ofNat z) : am_exec 187 0 [.ref 40, .int (Int32.ofNat m), .int (Int32.ofNat g), am_U, am_U, am_U, am_U, am_U] [] (am_ov G L r) = some (.inl none, am_ov (as_fn m g S G) L r) := by
  have h1 := mr187_2 (L := L) (r := r) hm hg hS hG
  have h2 := mr187_66 (L := L) (r := r) hm hg hS S (as_r0 m g S G) (Nat.le_refl _) (by rw [as_r0_ne (by decide)]; exact hfo)
  simp only [am_e187_0, am_bk, am_pu1, am_pu0, Option.bind_some, eq_self, am_nli, am_nlr, am_nln, am_nlu, if_true, if_false, not_true_eq_false, not_false_eq_true, am_10, am_01]
  exact h1.trans h2
end
