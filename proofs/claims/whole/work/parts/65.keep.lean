/-! UPKEEP -/
theorem am_sum_add {g : Nat → Int32} {x : Int32} : ∀ n, am_sum g x n = x + am_sum g 0 n
  | 0 => (Int32.add_zero x).symm
  | n + 1 => by rw [am_sum, am_sum, am_sum_add n, Int32.add_assoc]
theorem am_sum_0 {x : Int32} : ∀ n, am_sum (fun _ => 0) x n = x
  | 0 => rfl
  | n + 1 => by rw [am_sum, am_sum_0 n, Int32.add_zero]
def as_b5 (s : Int32) : Int32 := am_sum (fun j => if am_hb s (Int32.ofNat (5 + j)) then 1 else 0) 0 5
theorem as_b5_32 : ∀ x, x < 32 → as_b5 (Int32.ofNat (32 * x)) = am_mny (Int32.ofNat (32 * x)) := by decide +kernel
/-- buildings: bits 5 to 9 -/
def aw_B (s : Int32) : Prop := ∃ x, x < 32 ∧ s = Int32.ofNat (32 * x)
theorem aw_B.I {s : Int32} (h : aw_B s) : am_I s 1024 := by
  obtain ⟨x, hx, rfl⟩ := h
  exact am_Ik (by omega) (by decide)
theorem aw_B.b5 {s : Int32} (h : aw_B s) : as_b5 s = am_mny s := by
  obtain ⟨x, hx, rfl⟩ := h
  exact as_b5_32 x hx
theorem am_mx_comm {x y : Int32} : am_mx x y = am_mx y x := by
  unfold am_mx
  by_cases h1 : x < y
  · rw [if_pos h1, if_neg (fun h2 => Int32.lt_irrefl (Int32.lt_trans h1 h2))]
  · rw [if_neg h1]
    by_cases h2 : y < x
    · rw [if_pos h2]
    · rw [if_neg h2]
      exact Int32.le_antisymm (Int32.not_lt.mp h2) (Int32.not_lt.mp h1)
/-- what a player owes -/
def as_due (G : am_G) (p : Int32) (n F : Nat) : Int32 := am_sum (fun c => if G 7 c = 1 ∧ G 8 c = p then am_mny (G 14 c) else 0) 0 F + am_mx 0 (Int32.ofNat (am_cnt (fun j => G 27 j = p) n) - 2 * am_sum (fun c => if G 7 c = 1 ∧ G 8 c = p then 1 else 0) 0 F)
/-- units are given up -/
def as_kw (p : Int32) : Nat → am_G → Nat → Int32 → am_G × Nat × Int32
  | 0, G, n, d => (G, n, d)
  | m + 1, G, n, d => if G 34 p.toNatClampNeg < d then (match am_last (fun k => G 27 k = p) n with
    | none => (G, n, d)
    | some j => as_kw p m (am_dr G n j) (n - 1) (d - 1)) else (G, n, d)
theorem as_kw_no {p : Int32} {m : Nat} {G : am_G} {n : Nat} {d : Int32} (h : ¬ G 34 p.toNatClampNeg < d) : as_kw p m G n d = (G, n, d) := by
  cases m with
  | zero => rfl
  | succ m => rw [as_kw, if_neg h]
theorem as_kw_none {p : Int32} {m : Nat} {G : am_G} {n : Nat} {d : Int32} (h : am_last (fun k => G 27 k = p) n = none) : as_kw p m G n d = (G, n, d) := by
  cases m with
  | zero => rfl
  | succ m =>
    rw [as_kw, h]
    split <;> rfl
theorem as_kw_some {p : Int32} {m : Nat} {G : am_G} {n j : Nat} {d : Int32} (h1 : G 34 p.toNatClampNeg < d) (h : am_last (fun k => G 27 k = p) n = some j) : as_kw p (m + 1) G n d = as_kw p m (am_dr G n j) (n - 1) (d - 1) := by
  rw [as_kw, if_pos h1, h]
/-- more turns than units change nothing -/
theorem as_kw_fuel {p : Int32} : ∀ (m k : Nat) (G : am_G) (n : Nat) (d : Int32), n ≤ m → as_kw p m G n d = as_kw p (m + k) G n d
  | 0, k, G, n, d, h => by
    have : n = 0 := by omega
    subst this
    rw [as_kw_none (m := 0 + k) rfl]
    rfl
  | m + 1, k, G, n, d, h => by
    by_cases h1 : G 34 p.toNatClampNeg < d
    · cases e : am_last (fun k => G 27 k = p) n with
      | none => rw [as_kw_none e, as_kw_none e]
      | some j =>
        have hj := (am_last_lt e).1
        rw [show m + 1 + k = (m + k) + 1 by omega, as_kw_some h1 e, as_kw_some h1 e]
        exact as_kw_fuel m k _ _ _ (by omega)
    · rw [as_kw_no h1, as_kw_no h1]
/-- what is left is paid, or forgiven -/
def as_fi (G : am_G) (p : Int32) (d : Int32) : am_G :=
  let q := p.toNatClampNeg
  let fg := if G 34 q < d then d - G 34 q else 0
  am_up (am_up (am_up G 40 (8 * q + 4) (G 40 (8 * q + 4) + d)) 40 (8 * q + 3) (G 40 (8 * q + 3) + fg)) 34 q (G 34 q - (d - fg))
/-- a player's upkeep: the state behind it, and how many units are left -/
def as_kp (p : Int32) (F : Nat) (X : am_G × Nat) : am_G × Nat :=
  let Y := as_kw p 40 X.1 X.2 (as_due X.1 p X.2 F)
  (as_fi Y.1 p Y.2.2, Y.2.1)
theorem am_upcomm2 {G : am_G} {a k j : Nat} {v w : Int32} (h : ¬ k = j) : am_up (am_up G a k v) a j w = am_up (am_up G a j w) a k v := by
  funext f
  by_cases e : f = a
  · subst e
    rw [am_up_eq, am_up_eq, am_up_eq, am_up_eq]
    funext i
    by_cases e1 : i = k
    · subst e1; rw [am_upd_ne h, am_upd_eq, am_upd_eq]
    · by_cases e2 : i = j
      · subst e2; rw [am_upd_eq, am_upd_ne e1, am_upd_eq]
      · rw [am_upd_ne e2, am_upd_ne e1, am_upd_ne e1, am_upd_ne e2]
  · rw [am_up_ne e, am_up_ne e, am_up_ne e, am_up_ne e]
/-- small numbers not below 0 -/
def aw_D (d : Int32) : Prop := 0 ≤ d ∧ d ≤ 1000
theorem am_toInt0 : (0 : Int32).toInt = 0 := rfl
theorem am_sub_small {d c : Int32} (hd : aw_D d) (hc : 0 ≤ c) : (d - c).toInt = d.toInt - c.toInt := by
  have a1 := Int32.le_iff_toInt_le.mp hd.1
  have a2 := Int32.le_iff_toInt_le.mp hd.2
  have a3 := Int32.le_iff_toInt_le.mp hc
  have e3 : (1000 : Int32).toInt = 1000 := rfl
  have l := Int32.toInt_lt c
  rw [am_toInt0] at a1 a3
  rw [Int32.toInt_sub]
  exact Int.bmod_eq_of_le (by omega) (by omega)
theorem am_fg {d c : Int32} (hd : aw_D d) (hc : 0 ≤ c) : am_mx (d - c) 0 = if c < d then d - c else 0 := by
  have e := am_sub_small hd hc
  unfold am_mx
  by_cases h : c < d
  · have h1 := Int32.lt_iff_toInt_lt.mp h
    rw [if_pos h, if_neg]
    intro q
    have := Int32.lt_iff_toInt_lt.mp q
    rw [am_toInt0] at this
    omega
  · have h1 : ¬ c.toInt < d.toInt := fun q => h (Int32.lt_iff_toInt_lt.mpr q)
    rw [if_neg h]
    split
    · rfl
    · next q =>
      have q1 : ¬ (d - c).toInt < (0 : Int32).toInt := fun z => q (Int32.lt_iff_toInt_lt.mpr z)
      rw [am_toInt0] at q1
      refine Int32.toInt_inj.mp ?_
      rw [am_toInt0]
      omega
theorem aw_D.pre {d c : Int32} (hd : aw_D d) (hc : 0 ≤ c) (h : c < d) : aw_D (d - 1) := by
  have a1 := Int32.le_iff_toInt_le.mp hd.1
  have a2 := Int32.le_iff_toInt_le.mp hd.2
  have a3 := Int32.le_iff_toInt_le.mp hc
  have a4 := Int32.lt_iff_toInt_lt.mp h
  have e3 : (1000 : Int32).toInt = 1000 := rfl
  have e1 : (1 : Int32).toInt = 1 := rfl
  rw [am_toInt0] at a1 a3
  have e : (d - 1).toInt = d.toInt - 1 := by
    rw [Int32.toInt_sub, e1]
    exact Int.bmod_eq_of_le (by omega) (by omega)
  exact ⟨Int32.le_iff_toInt_le.mpr (by rw [am_toInt0]; omega), Int32.le_iff_toInt_le.mpr (by omega)⟩
section
variable {G : am_G} {L : Nat → Int64} {r : am_H} {F n : Nat}
theorem mr229_135 : ∀ (m : Nat) (G : am_G) (n : Nat) (d : Int32) {p : Int32}, aw_P p → n ≤ m → n ≤ 40 → G 24 0 = Int32.ofNat n → aw_D d → 0 ≤ G 34 p.toNatClampNeg → am_exec 229 135 [.ref 40, .int p, .int d, am_U, am_U, am_U] [] (am_ov G L r) = some (.inl none, am_ov (as_fi (as_kw p m G n d).1 p (as_kw p m G n d).2.2) L r) := by
  intro m
  have fin : ∀ (G : am_G) (n : Nat) (d : Int32) {p : Int32}, aw_P p → n ≤ 40 → G 24 0 = Int32.ofNat n → aw_D d → 0 ≤ G 34 p.toNatClampNeg → (¬ G 34 p.toNatClampNeg < d ∨ am_last (fun k => G 27 k = p) n = none) → am_exec 229 135 [.ref 40, .int p, .int d, am_U, am_U, am_U] [] (am_ov G L r) = some (.inl none, am_ov (as_fi G p d) L r) := by
    intro G n d p hp hn hX hd hc hcond
    obtain ⟨i4, j4, t4⟩ := am_ix8j hp (show 4 < 8 by decide)
    obtain ⟨i3, j3, t3⟩ := am_ix8j hp (show 3 < 8 by decide)
    have i4 : 8 * p + 4 = Int32.ofNat (8 * p.toNatClampNeg + 4) := i4
    have i3 : 8 * p + 3 = Int32.ofNat (8 * p.toNatClampNeg + 3) := i3
    have hfg := am_fg hd hc
    have hl := mr228 (L := L) (r := r) (p := p) hX (show n ≤ 41 by omega)
    rw [am_e229_135]
    by_cases h1 : G 34 p.toNatClampNeg < d
    · have h1' : ¬ d ≤ G 34 p.toNatClampNeg := Int32.not_le.mpr h1
      rcases hcond with q | q
      · exact absurd h1 q
      · rw [q] at hl
        simp only [am_e229_0, am_e229_13, am_e229_76, am_e229_26, am_e229_91, am_e229_140, am_e229_82, am_e229_16, am_e229_31, am_e229_119, am_e229_94, am_e229_142, am_e229_34, am_e229_127, am_e229_99, am_e229_169, am_e229_145, am_e229_67, am_e229_37, am_e229_133, am_e229_102, am_e229_174, am_e229_150, am_e229_41, am_e229_110, am_e229_106, am_e229_176, am_e229_154, am_e229_44, am_e229_181, am_e229_160, am_e229_48, am_e229_187, am_e229_163, am_e229_52, am_e229_195, am_e229_55, am_e229_198, am_e229_60, am_e229_202, am_e229_63, am_e229_210, am_e229_214, am_e229_218, am_e229_221, am_e229_227, am_gM0, am_pM0, am_gM1, am_pM1, am_gM2, am_lM2, am_sM2, am_gM3, am_lM3, am_sM3, am_gM4, am_lM4, am_sM4, am_gM5, am_lM5, am_sM5, am_gM6, am_pM6, am_gM7, am_lM7, am_sM7, am_gM8, am_lM8, am_sM8, am_gM9, am_lM9, am_sM9, am_gM10, am_lM10, am_sM10, am_gM11, am_lM11, am_sM11, am_gM12, am_lM12, am_sM12, am_gM13, am_lM13, am_sM13, am_gM14, am_lM14, am_sM14, am_gM15, am_lM15, am_sM15, am_gM16, am_lM16, am_sM16, am_gM17, am_lM17, am_sM17, am_gM18, am_lM18, am_sM18, am_gM19, am_pM19, am_gM20, am_lM20, am_sM20, am_gM21, am_lM21, am_sM21, am_gM22, am_lM22, am_sM22, am_gM23, am_lM23, am_sM23, am_gM24, am_pM24, am_gM25, am_pM25, am_gM26, am_lM26, am_sM26, am_gM27, am_lM27, am_sM27, am_gM28, am_lM28, am_sM28, am_gM29, am_lM29, am_sM29, am_gM30, am_lM30, am_sM30, am_gM31, am_lM31, am_sM31, am_gM32, am_lM32, am_sM32, am_gM33, am_lM33, am_sM33, am_gM34, am_lM34, am_sM34, am_gM35, am_lM35, am_sM35, am_gM36, am_lM36, am_sM36, am_gM37, am_lM37, am_sM37, am_gM38, am_lM38, am_sM38, am_gM39, am_lM39, am_sM39, am_gM40, am_lM40, am_sM40, am_gM41, am_lM41, am_sM41, am_gM42, am_lM42, am_sM42, am_gM43, am_lM43, am_sM43, am_gM44, am_lM44, am_sM44, am_gM45, am_pM45, am_gM46, am_lM46, am_sM46, am_gM47, am_lM47, am_sM47, am_gM48, am_lM48, am_sM48, am_gM49, am_lM49, am_sM49, am_gM50, am_lM50, am_sM50, am_gM51, am_lM51, am_sM51, am_gM52, am_lM52, am_sM52, am_isM, am_bk, am_pu1, am_pu0, Option.bind_some, eq_self, am_nli, am_nlr, am_nln, am_nlu, if_true, if_false, not_true_eq_false, not_false_eq_true, am_10, am_01, am_up_eq, am_up_ne, am_upd_eq, Nat.reduceEqDiff, hp.I, hl, am_oi, h1, h1', mr181, hfg, i4, j4, t4, i3, j3, t3, as_fi, am_upd_ne (show ¬ 8 * p.toNatClampNeg + 3 = 8 * p.toNatClampNeg + 4 by omega)]
    · have h1' : d ≤ G 34 p.toNatClampNeg := Int32.not_lt.mp h1
      simp only [am_e229_0, am_e229_13, am_e229_76, am_e229_26, am_e229_91, am_e229_140, am_e229_82, am_e229_16, am_e229_31, am_e229_119, am_e229_94, am_e229_142, am_e229_34, am_e229_127, am_e229_99, am_e229_169, am_e229_145, am_e229_67, am_e229_37, am_e229_133, am_e229_102, am_e229_174, am_e229_150, am_e229_41, am_e229_110, am_e229_106, am_e229_176, am_e229_154, am_e229_44, am_e229_181, am_e229_160, am_e229_48, am_e229_187, am_e229_163, am_e229_52, am_e229_195, am_e229_55, am_e229_198, am_e229_60, am_e229_202, am_e229_63, am_e229_210, am_e229_214, am_e229_218, am_e229_221, am_e229_227, am_gM0, am_pM0, am_gM1, am_pM1, am_gM2, am_lM2, am_sM2, am_gM3, am_lM3, am_sM3, am_gM4, am_lM4, am_sM4, am_gM5, am_lM5, am_sM5, am_gM6, am_pM6, am_gM7, am_lM7, am_sM7, am_gM8, am_lM8, am_sM8, am_gM9, am_lM9, am_sM9, am_gM10, am_lM10, am_sM10, am_gM11, am_lM11, am_sM11, am_gM12, am_lM12, am_sM12, am_gM13, am_lM13, am_sM13, am_gM14, am_lM14, am_sM14, am_gM15, am_lM15, am_sM15, am_gM16, am_lM16, am_sM16, am_gM17, am_lM17, am_sM17, am_gM18, am_lM18, am_sM18, am_gM19, am_pM19, am_gM20, am_lM20, am_sM20, am_gM21, am_lM21, am_sM21, am_gM22, am_lM22, am_sM22, am_gM23, am_lM23, am_sM23, am_gM24, am_pM24, am_gM25, am_pM25, am_gM26, am_lM26, am_sM26, am_gM27, am_lM27, am_sM27, am_gM28, am_lM28, am_sM28, am_gM29, am_lM29, am_sM29, am_gM30, am_lM30, am_sM30, am_gM31, am_lM31, am_sM31, am_gM32, am_lM32, am_sM32, am_gM33, am_lM33, am_sM33, am_gM34, am_lM34, am_sM34, am_gM35, am_lM35, am_sM35, am_gM36, am_lM36, am_sM36, am_gM37, am_lM37, am_sM37, am_gM38, am_lM38, am_sM38, am_gM39, am_lM39, am_sM39, am_gM40, am_lM40, am_sM40, am_gM41, am_lM41, am_sM41, am_gM42, am_lM42, am_sM42, am_gM43, am_lM43, am_sM43, am_gM44, am_lM44, am_sM44, am_gM45, am_pM45, am_gM46, am_lM46, am_sM46, am_gM47, am_lM47, am_sM47, am_gM48, am_lM48, am_sM48, am_gM49, am_lM49, am_sM49, am_gM50, am_lM50, am_sM50, am_gM51, am_lM51, am_sM51, am_gM52, am_lM52, am_sM52, am_isM, am_bk, am_pu1, am_pu0, Option.bind_some, eq_self, am_nli, am_nlr, am_nln, am_nlu, if_true, if_false, not_true_eq_false, not_false_eq_true, am_10, am_01, am_up_eq, am_up_ne, am_upd_eq, Nat.reduceEqDiff, hp.I, h1, h1', mr181, hfg, i4, j4, t4, i3, j3, t3, as_fi, am_upd_ne (show ¬ 8 * p.toNatClampNeg + 3 = 8 * p.toNatClampNeg + 4 by omega)]
  induction m with
  | zero =>
    intro G n d p hp hm hn hX hd hc
    have : n = 0 := by omega
    subst this
    exact fin G 0 d hp hn hX hd hc (Or.inr rfl)
  | succ m ih =>
    intro G n d p hp hm hn hX hd hc
    by_cases h1 : G 34 p.toNatClampNeg < d
    · have h1' : ¬ d ≤ G 34 p.toNatClampNeg := Int32.not_le.mpr h1
      rcases e : am_last (fun k => G 27 k = p) n with _ | j
      · rw [as_kw_none e]
        exact fin G n d hp hn hX hd hc (Or.inr e)
      · have hj := (am_last_lt e).1
        have hl := mr228 (L := L) (r := r) (p := p) hX (show n ≤ 41 by omega)
        rw [e] at hl
        have hj9 : ¬ Int32.ofNat j = -1 := fun q => by
          have := (am_Ik (show j < 100 by omega) (by decide) : am_I (Int32.ofNat j) 100)
          rw [q] at this
          exact absurd this.1 (by decide)
        rw [as_kw_some h1 e, ← ih (am_dr G n j) (n - 1) (d - 1) hp (by omega) (by omega) am_dr_24 (hd.pre hc h1) (by rw [am_dr_f34]; exact hc)]
        rw [am_e229_135]
        simp only [am_e229_0, am_e229_13, am_e229_76, am_e229_26, am_e229_91, am_e229_140, am_e229_82, am_e229_16, am_e229_31, am_e229_119, am_e229_94, am_e229_142, am_e229_34, am_e229_127, am_e229_99, am_e229_169, am_e229_145, am_e229_67, am_e229_37, am_e229_133, am_e229_102, am_e229_174, am_e229_150, am_e229_41, am_e229_110, am_e229_106, am_e229_176, am_e229_154, am_e229_44, am_e229_181, am_e229_160, am_e229_48, am_e229_187, am_e229_163, am_e229_52, am_e229_195, am_e229_55, am_e229_198, am_e229_60, am_e229_202, am_e229_63, am_e229_210, am_e229_214, am_e229_218, am_e229_221, am_e229_227, am_gM0, am_pM0, am_gM1, am_pM1, am_gM2, am_lM2, am_sM2, am_gM3, am_lM3, am_sM3, am_gM4, am_lM4, am_sM4, am_gM5, am_lM5, am_sM5, am_gM6, am_pM6, am_gM7, am_lM7, am_sM7, am_gM8, am_lM8, am_sM8, am_gM9, am_lM9, am_sM9, am_gM10, am_lM10, am_sM10, am_gM11, am_lM11, am_sM11, am_gM12, am_lM12, am_sM12, am_gM13, am_lM13, am_sM13, am_gM14, am_lM14, am_sM14, am_gM15, am_lM15, am_sM15, am_gM16, am_lM16, am_sM16, am_gM17, am_lM17, am_sM17, am_gM18, am_lM18, am_sM18, am_gM19, am_pM19, am_gM20, am_lM20, am_sM20, am_gM21, am_lM21, am_sM21, am_gM22, am_lM22, am_sM22, am_gM23, am_lM23, am_sM23, am_gM24, am_pM24, am_gM25, am_pM25, am_gM26, am_lM26, am_sM26, am_gM27, am_lM27, am_sM27, am_gM28, am_lM28, am_sM28, am_gM29, am_lM29, am_sM29, am_gM30, am_lM30, am_sM30, am_gM31, am_lM31, am_sM31, am_gM32, am_lM32, am_sM32, am_gM33, am_lM33, am_sM33, am_gM34, am_lM34, am_sM34, am_gM35, am_lM35, am_sM35, am_gM36, am_lM36, am_sM36, am_gM37, am_lM37, am_sM37, am_gM38, am_lM38, am_sM38, am_gM39, am_lM39, am_sM39, am_gM40, am_lM40, am_sM40, am_gM41, am_lM41, am_sM41, am_gM42, am_lM42, am_sM42, am_gM43, am_lM43, am_sM43, am_gM44, am_lM44, am_sM44, am_gM45, am_pM45, am_gM46, am_lM46, am_sM46, am_gM47, am_lM47, am_sM47, am_gM48, am_lM48, am_sM48, am_gM49, am_lM49, am_sM49, am_gM50, am_lM50, am_sM50, am_gM51, am_lM51, am_sM51, am_gM52, am_lM52, am_sM52, am_isM, am_bk, am_pu1, am_pu0, Option.bind_some, eq_self, am_nli, am_nlr, am_nln, am_nlu, if_true, if_false, not_true_eq_false, not_false_eq_true, am_10, am_01, hp.I, hl, am_oi, h1, h1', hj9, mr170 hX (show n ≤ 41 by omega) hj, am_m1]
    · rw [as_kw_no h1]
      exact fin G n d hp hn hX hd hc (Or.inl h1)
theorem mr229 (hF : G 6 0 = Int32.ofNat F) (hF2 : F ≤ 12) (hb : ∀ c, c < F → G 7 c = 0 ∨ G 7 c = 1) (hB : ∀ c, c < F → aw_B (G 14 c)) (hn : G 24 0 = Int32.ofNat n) (hn2 : n ≤ 40) {p : Int32} (hp : aw_P p) (hd : aw_D (as_due G p n F)) (hc : 0 ≤ G 34 p.toNatClampNeg) : am_exec 229 0 [.ref 40, .int p, am_U, am_U, am_U, am_U] [] (am_ov G L r) = some (.inl none, am_ov (as_kp p F (G, n)).1 L r) := by
  have k1 := am_iter (fun k => am_exec 229 7 [.ref 40, .int p, .int (am_sum (fun c => if G 7 c = 1 ∧ G 8 c = p then am_mny (G 14 c) else 0) 0 k), .int 0, .int (Int32.ofNat k), am_U] [] (am_ov G L r)) F (fun k hk => by
    have c : ¬ Int32.ofNat F ≤ Int32.ofNat k := am_lit _ _ hk (by omega)
    have hI : am_I (Int32.ofNat k) 12 := am_Ik (by omega) (by decide)
    have k0 := am_iter (fun j => am_exec 229 19 [.ref 40, .int p, .int (am_sum (fun j => if (G 7 k = 1 ∧ G 8 k = p) ∧ am_hb (G 14 k) (Int32.ofNat (5 + j)) then 1 else 0) (am_sum (fun c => if G 7 c = 1 ∧ G 8 c = p then am_mny (G 14 c) else 0) 0 k) j), .int 0, .int (Int32.ofNat k), .int (Int32.ofNat (5 + j))] [] (am_ov G L r)) 5 (fun j hj => by
      have c2 : ¬ (9 : Int32) < Int32.ofNat (5 + j) := Int32.not_lt.mpr ((am_le_nat (b := 9) (by omega) (by omega)).mpr (by omega))
      show am_exec 229 19 _ _ _ = am_exec 229 19 [.ref 40, .int p, .int _, .int 0, .int (Int32.ofNat k), .int (Int32.ofNat (5 + j + 1))] [] (am_ov G L r)
      rw [am_sum]
      generalize am_sum (fun j => if (G 7 k = 1 ∧ G 8 k = p) ∧ am_hb (G 14 k) (Int32.ofNat (5 + j)) then 1 else 0) (am_sum (fun c => if G 7 c = 1 ∧ G 8 c = p then am_mny (G 14 c) else 0) 0 k) j = S
      rw [am_e229_19]
      have m155 := mr155 (h := am_ov G L r) (s := G 14 k) (k := Int32.ofNat (5 + j))
      rcases hb k hk with h1 | h1
      · have e : (if (G 7 k = 1 ∧ G 8 k = p) ∧ am_hb (G 14 k) (Int32.ofNat (5 + j)) then (1 : Int32) else 0) = 0 := if_neg (fun q => by rw [h1] at q; exact absurd q.1.1 (by decide))
        rw [e]
        simp only [am_e229_0, am_e229_13, am_e229_76, am_e229_26, am_e229_91, am_e229_140, am_e229_82, am_e229_16, am_e229_31, am_e229_119, am_e229_94, am_e229_142, am_e229_34, am_e229_127, am_e229_99, am_e229_169, am_e229_145, am_e229_67, am_e229_37, am_e229_133, am_e229_102, am_e229_174, am_e229_150, am_e229_41, am_e229_110, am_e229_106, am_e229_176, am_e229_154, am_e229_44, am_e229_181, am_e229_160, am_e229_48, am_e229_187, am_e229_163, am_e229_52, am_e229_195, am_e229_55, am_e229_198, am_e229_60, am_e229_202, am_e229_63, am_e229_210, am_e229_214, am_e229_218, am_e229_221, am_e229_227, am_gM0, am_pM0, am_gM1, am_pM1, am_gM2, am_lM2, am_sM2, am_gM3, am_lM3, am_sM3, am_gM4, am_lM4, am_sM4, am_gM5, am_lM5, am_sM5, am_gM6, am_pM6, am_gM7, am_lM7, am_sM7, am_gM8, am_lM8, am_sM8, am_gM9, am_lM9, am_sM9, am_gM10, am_lM10, am_sM10, am_gM11, am_lM11, am_sM11, am_gM12, am_lM12, am_sM12, am_gM13, am_lM13, am_sM13, am_gM14, am_lM14, am_sM14, am_gM15, am_lM15, am_sM15, am_gM16, am_lM16, am_sM16, am_gM17, am_lM17, am_sM17, am_gM18, am_lM18, am_sM18, am_gM19, am_pM19, am_gM20, am_lM20, am_sM20, am_gM21, am_lM21, am_sM21, am_gM22, am_lM22, am_sM22, am_gM23, am_lM23, am_sM23, am_gM24, am_pM24, am_gM25, am_pM25, am_gM26, am_lM26, am_sM26, am_gM27, am_lM27, am_sM27, am_gM28, am_lM28, am_sM28, am_gM29, am_lM29, am_sM29, am_gM30, am_lM30, am_sM30, am_gM31, am_lM31, am_sM31, am_gM32, am_lM32, am_sM32, am_gM33, am_lM33, am_sM33, am_gM34, am_lM34, am_sM34, am_gM35, am_lM35, am_sM35, am_gM36, am_lM36, am_sM36, am_gM37, am_lM37, am_sM37, am_gM38, am_lM38, am_sM38, am_gM39, am_lM39, am_sM39, am_gM40, am_lM40, am_sM40, am_gM41, am_lM41, am_sM41, am_gM42, am_lM42, am_sM42, am_gM43, am_lM43, am_sM43, am_gM44, am_lM44, am_sM44, am_gM45, am_pM45, am_gM46, am_lM46, am_sM46, am_gM47, am_lM47, am_sM47, am_gM48, am_lM48, am_sM48, am_gM49, am_lM49, am_sM49, am_gM50, am_lM50, am_sM50, am_gM51, am_lM51, am_sM51, am_gM52, am_lM52, am_sM52, am_isM, am_bk, am_pu1, am_pu0, Option.bind_some, eq_self, am_nli, am_nlr, am_nln, am_nlu, if_true, if_false, not_true_eq_false, not_false_eq_true, am_10, am_01, c2, hI, am_tcn (show k ≤ 100000 by omega), am_succ, h1]
      · by_cases h2 : G 8 k = p
        · by_cases h3 : am_hb (G 14 k) (Int32.ofNat (5 + j))
          · have e : (if (G 7 k = 1 ∧ G 8 k = p) ∧ am_hb (G 14 k) (Int32.ofNat (5 + j)) then (1 : Int32) else 0) = 1 := if_pos ⟨⟨h1, h2⟩, h3⟩
            have m155' : am_exec 155 0 [.int (G 14 k), .int (Int32.ofNat (5 + j))] [] (am_ov G L r) = some (.inl (some (.int 1)), am_ov G L r) := by rw [m155, am_bi, if_pos h3]
            rw [e]
            simp only [am_e229_0, am_e229_13, am_e229_76, am_e229_26, am_e229_91, am_e229_140, am_e229_82, am_e229_16, am_e229_31, am_e229_119, am_e229_94, am_e229_142, am_e229_34, am_e229_127, am_e229_99, am_e229_169, am_e229_145, am_e229_67, am_e229_37, am_e229_133, am_e229_102, am_e229_174, am_e229_150, am_e229_41, am_e229_110, am_e229_106, am_e229_176, am_e229_154, am_e229_44, am_e229_181, am_e229_160, am_e229_48, am_e229_187, am_e229_163, am_e229_52, am_e229_195, am_e229_55, am_e229_198, am_e229_60, am_e229_202, am_e229_63, am_e229_210, am_e229_214, am_e229_218, am_e229_221, am_e229_227, am_gM0, am_pM0, am_gM1, am_pM1, am_gM2, am_lM2, am_sM2, am_gM3, am_lM3, am_sM3, am_gM4, am_lM4, am_sM4, am_gM5, am_lM5, am_sM5, am_gM6, am_pM6, am_gM7, am_lM7, am_sM7, am_gM8, am_lM8, am_sM8, am_gM9, am_lM9, am_sM9, am_gM10, am_lM10, am_sM10, am_gM11, am_lM11, am_sM11, am_gM12, am_lM12, am_sM12, am_gM13, am_lM13, am_sM13, am_gM14, am_lM14, am_sM14, am_gM15, am_lM15, am_sM15, am_gM16, am_lM16, am_sM16, am_gM17, am_lM17, am_sM17, am_gM18, am_lM18, am_sM18, am_gM19, am_pM19, am_gM20, am_lM20, am_sM20, am_gM21, am_lM21, am_sM21, am_gM22, am_lM22, am_sM22, am_gM23, am_lM23, am_sM23, am_gM24, am_pM24, am_gM25, am_pM25, am_gM26, am_lM26, am_sM26, am_gM27, am_lM27, am_sM27, am_gM28, am_lM28, am_sM28, am_gM29, am_lM29, am_sM29, am_gM30, am_lM30, am_sM30, am_gM31, am_lM31, am_sM31, am_gM32, am_lM32, am_sM32, am_gM33, am_lM33, am_sM33, am_gM34, am_lM34, am_sM34, am_gM35, am_lM35, am_sM35, am_gM36, am_lM36, am_sM36, am_gM37, am_lM37, am_sM37, am_gM38, am_lM38, am_sM38, am_gM39, am_lM39, am_sM39, am_gM40, am_lM40, am_sM40, am_gM41, am_lM41, am_sM41, am_gM42, am_lM42, am_sM42, am_gM43, am_lM43, am_sM43, am_gM44, am_lM44, am_sM44, am_gM45, am_pM45, am_gM46, am_lM46, am_sM46, am_gM47, am_lM47, am_sM47, am_gM48, am_lM48, am_sM48, am_gM49, am_lM49, am_sM49, am_gM50, am_lM50, am_sM50, am_gM51, am_lM51, am_sM51, am_gM52, am_lM52, am_sM52, am_isM, am_bk, am_pu1, am_pu0, Option.bind_some, eq_self, am_nli, am_nlr, am_nln, am_nlu, if_true, if_false, not_true_eq_false, not_false_eq_true, am_10, am_01, m155', c2, hI, am_tcn (show k ≤ 100000 by omega), am_succ, h1, h2]
          · have e : (if (G 7 k = 1 ∧ G 8 k = p) ∧ am_hb (G 14 k) (Int32.ofNat (5 + j)) then (1 : Int32) else 0) = 0 := if_neg (fun q => h3 q.2)
            have m155' : am_exec 155 0 [.int (G 14 k), .int (Int32.ofNat (5 + j))] [] (am_ov G L r) = some (.inl (some (.int 0)), am_ov G L r) := by rw [m155, am_bi, if_neg h3]
            rw [e]
            simp only [am_e229_0, am_e229_13, am_e229_76, am_e229_26, am_e229_91, am_e229_140, am_e229_82, am_e229_16, am_e229_31, am_e229_119, am_e229_94, am_e229_142, am_e229_34, am_e229_127, am_e229_99, am_e229_169, am_e229_145, am_e229_67, am_e229_37, am_e229_133, am_e229_102, am_e229_174, am_e229_150, am_e229_41, am_e229_110, am_e229_106, am_e229_176, am_e229_154, am_e229_44, am_e229_181, am_e229_160, am_e229_48, am_e229_187, am_e229_163, am_e229_52, am_e229_195, am_e229_55, am_e229_198, am_e229_60, am_e229_202, am_e229_63, am_e229_210, am_e229_214, am_e229_218, am_e229_221, am_e229_227, am_gM0, am_pM0, am_gM1, am_pM1, am_gM2, am_lM2, am_sM2, am_gM3, am_lM3, am_sM3, am_gM4, am_lM4, am_sM4, am_gM5, am_lM5, am_sM5, am_gM6, am_pM6, am_gM7, am_lM7, am_sM7, am_gM8, am_lM8, am_sM8, am_gM9, am_lM9, am_sM9, am_gM10, am_lM10, am_sM10, am_gM11, am_lM11, am_sM11, am_gM12, am_lM12, am_sM12, am_gM13, am_lM13, am_sM13, am_gM14, am_lM14, am_sM14, am_gM15, am_lM15, am_sM15, am_gM16, am_lM16, am_sM16, am_gM17, am_lM17, am_sM17, am_gM18, am_lM18, am_sM18, am_gM19, am_pM19, am_gM20, am_lM20, am_sM20, am_gM21, am_lM21, am_sM21, am_gM22, am_lM22, am_sM22, am_gM23, am_lM23, am_sM23, am_gM24, am_pM24, am_gM25, am_pM25, am_gM26, am_lM26, am_sM26, am_gM27, am_lM27, am_sM27, am_gM28, am_lM28, am_sM28, am_gM29, am_lM29, am_sM29, am_gM30, am_lM30, am_sM30, am_gM31, am_lM31, am_sM31, am_gM32, am_lM32, am_sM32, am_gM33, am_lM33, am_sM33, am_gM34, am_lM34, am_sM34, am_gM35, am_lM35, am_sM35, am_gM36, am_lM36, am_sM36, am_gM37, am_lM37, am_sM37, am_gM38, am_lM38, am_sM38, am_gM39, am_lM39, am_sM39, am_gM40, am_lM40, am_sM40, am_gM41, am_lM41, am_sM41, am_gM42, am_lM42, am_sM42, am_gM43, am_lM43, am_sM43, am_gM44, am_lM44, am_sM44, am_gM45, am_pM45, am_gM46, am_lM46, am_sM46, am_gM47, am_lM47, am_sM47, am_gM48, am_lM48, am_sM48, am_gM49, am_lM49, am_sM49, am_gM50, am_lM50, am_sM50, am_gM51, am_lM51, am_sM51, am_gM52, am_lM52, am_sM52, am_isM, am_bk, am_pu1, am_pu0, Option.bind_some, eq_self, am_nli, am_nlr, am_nln, am_nlu, if_true, if_false, not_true_eq_false, not_false_eq_true, am_10, am_01, m155', c2, hI, am_tcn (show k ≤ 100000 by omega), am_succ, h1, h2]
        · have e : (if (G 7 k = 1 ∧ G 8 k = p) ∧ am_hb (G 14 k) (Int32.ofNat (5 + j)) then (1 : Int32) else 0) = 0 := if_neg (fun q => h2 q.1.2)
          rw [e]
          simp only [am_e229_0, am_e229_13, am_e229_76, am_e229_26, am_e229_91, am_e229_140, am_e229_82, am_e229_16, am_e229_31, am_e229_119, am_e229_94, am_e229_142, am_e229_34, am_e229_127, am_e229_99, am_e229_169, am_e229_145, am_e229_67, am_e229_37, am_e229_133, am_e229_102, am_e229_174, am_e229_150, am_e229_41, am_e229_110, am_e229_106, am_e229_176, am_e229_154, am_e229_44, am_e229_181, am_e229_160, am_e229_48, am_e229_187, am_e229_163, am_e229_52, am_e229_195, am_e229_55, am_e229_198, am_e229_60, am_e229_202, am_e229_63, am_e229_210, am_e229_214, am_e229_218, am_e229_221, am_e229_227, am_gM0, am_pM0, am_gM1, am_pM1, am_gM2, am_lM2, am_sM2, am_gM3, am_lM3, am_sM3, am_gM4, am_lM4, am_sM4, am_gM5, am_lM5, am_sM5, am_gM6, am_pM6, am_gM7, am_lM7, am_sM7, am_gM8, am_lM8, am_sM8, am_gM9, am_lM9, am_sM9, am_gM10, am_lM10, am_sM10, am_gM11, am_lM11, am_sM11, am_gM12, am_lM12, am_sM12, am_gM13, am_lM13, am_sM13, am_gM14, am_lM14, am_sM14, am_gM15, am_lM15, am_sM15, am_gM16, am_lM16, am_sM16, am_gM17, am_lM17, am_sM17, am_gM18, am_lM18, am_sM18, am_gM19, am_pM19, am_gM20, am_lM20, am_sM20, am_gM21, am_lM21, am_sM21, am_gM22, am_lM22, am_sM22, am_gM23, am_lM23, am_sM23, am_gM24, am_pM24, am_gM25, am_pM25, am_gM26, am_lM26, am_sM26, am_gM27, am_lM27, am_sM27, am_gM28, am_lM28, am_sM28, am_gM29, am_lM29, am_sM29, am_gM30, am_lM30, am_sM30, am_gM31, am_lM31, am_sM31, am_gM32, am_lM32, am_sM32, am_gM33, am_lM33, am_sM33, am_gM34, am_lM34, am_sM34, am_gM35, am_lM35, am_sM35, am_gM36, am_lM36, am_sM36, am_gM37, am_lM37, am_sM37, am_gM38, am_lM38, am_sM38, am_gM39, am_lM39, am_sM39, am_gM40, am_lM40, am_sM40, am_gM41, am_lM41, am_sM41, am_gM42, am_lM42, am_sM42, am_gM43, am_lM43, am_sM43, am_gM44, am_lM44, am_sM44, am_gM45, am_pM45, am_gM46, am_lM46, am_sM46, am_gM47, am_lM47, am_sM47, am_gM48, am_lM48, am_sM48, am_gM49, am_lM49, am_sM49, am_gM50, am_lM50, am_sM50, am_gM51, am_lM51, am_sM51, am_gM52, am_lM52, am_sM52, am_isM, am_bk, am_pu1, am_pu0, Option.bind_some, eq_self, am_nli, am_nlr, am_nln, am_nlu, if_true, if_false, not_true_eq_false, not_false_eq_true, am_10, am_01, c2, hI, am_tcn (show k ≤ 100000 by omega), am_succ, h1, h2])
    show am_exec 229 7 _ _ _ = _
    rw [am_e229_7]
    simp only [am_e229_0, am_e229_13, am_e229_76, am_e229_26, am_e229_91, am_e229_140, am_e229_82, am_e229_16, am_e229_31, am_e229_119, am_e229_94, am_e229_142, am_e229_34, am_e229_127, am_e229_99, am_e229_169, am_e229_145, am_e229_67, am_e229_37, am_e229_133, am_e229_102, am_e229_174, am_e229_150, am_e229_41, am_e229_110, am_e229_106, am_e229_176, am_e229_154, am_e229_44, am_e229_181, am_e229_160, am_e229_48, am_e229_187, am_e229_163, am_e229_52, am_e229_195, am_e229_55, am_e229_198, am_e229_60, am_e229_202, am_e229_63, am_e229_210, am_e229_214, am_e229_218, am_e229_221, am_e229_227, am_gM0, am_pM0, am_gM1, am_pM1, am_gM2, am_lM2, am_sM2, am_gM3, am_lM3, am_sM3, am_gM4, am_lM4, am_sM4, am_gM5, am_lM5, am_sM5, am_gM6, am_pM6, am_gM7, am_lM7, am_sM7, am_gM8, am_lM8, am_sM8, am_gM9, am_lM9, am_sM9, am_gM10, am_lM10, am_sM10, am_gM11, am_lM11, am_sM11, am_gM12, am_lM12, am_sM12, am_gM13, am_lM13, am_sM13, am_gM14, am_lM14, am_sM14, am_gM15, am_lM15, am_sM15, am_gM16, am_lM16, am_sM16, am_gM17, am_lM17, am_sM17, am_gM18, am_lM18, am_sM18, am_gM19, am_pM19, am_gM20, am_lM20, am_sM20, am_gM21, am_lM21, am_sM21, am_gM22, am_lM22, am_sM22, am_gM23, am_lM23, am_sM23, am_gM24, am_pM24, am_gM25, am_pM25, am_gM26, am_lM26, am_sM26, am_gM27, am_lM27, am_sM27, am_gM28, am_lM28, am_sM28, am_gM29, am_lM29, am_sM29, am_gM30, am_lM30, am_sM30, am_gM31, am_lM31, am_sM31, am_gM32, am_lM32, am_sM32, am_gM33, am_lM33, am_sM33, am_gM34, am_lM34, am_sM34, am_gM35, am_lM35, am_sM35, am_gM36, am_lM36, am_sM36, am_gM37, am_lM37, am_sM37, am_gM38, am_lM38, am_sM38, am_gM39, am_lM39, am_sM39, am_gM40, am_lM40, am_sM40, am_gM41, am_lM41, am_sM41, am_gM42, am_lM42, am_sM42, am_gM43, am_lM43, am_sM43, am_gM44, am_lM44, am_sM44, am_gM45, am_pM45, am_gM46, am_lM46, am_sM46, am_gM47, am_lM47, am_sM47, am_gM48, am_lM48, am_sM48, am_gM49, am_lM49, am_sM49, am_gM50, am_lM50, am_sM50, am_gM51, am_lM51, am_sM51, am_gM52, am_lM52, am_sM52, am_isM, am_bk, am_pu1, am_pu0, Option.bind_some, eq_self, am_nli, am_nlr, am_nln, am_nlu, if_true, if_false, not_true_eq_false, not_false_eq_true, am_10, am_01, hF, c]
    refine k0.trans ?_
    show am_exec 229 19 _ _ _ = _
    rw [am_e229_19]
    have e9 : am_sum (fun j => if (G 7 k = 1 ∧ G 8 k = p) ∧ am_hb (G 14 k) (Int32.ofNat (5 + j)) then 1 else 0) (am_sum (fun c => if G 7 c = 1 ∧ G 8 c = p then am_mny (G 14 c) else 0) 0 k) 5 = am_sum (fun c => if G 7 c = 1 ∧ G 8 c = p then am_mny (G 14 c) else 0) 0 (k + 1) := by
      refine (am_sum_add 5).trans (congrArg (am_sum (fun c => if G 7 c = 1 ∧ G 8 c = p then am_mny (G 14 c) else 0) 0 k + ·) ?_)
      show am_sum (fun j => if (G 7 k = 1 ∧ G 8 k = p) ∧ am_hb (G 14 k) (Int32.ofNat (5 + j)) then 1 else 0) 0 5 = if G 7 k = 1 ∧ G 8 k = p then am_mny (G 14 k) else 0
      by_cases h : G 7 k = 1 ∧ G 8 k = p
      · rw [if_pos h, ← (hB k hk).b5]
        refine am_sum_congr 5 fun j _ => ?_
        by_cases h3 : am_hb (G 14 k) (Int32.ofNat (5 + j))
        · rw [if_pos ⟨h, h3⟩, if_pos h3]
        · rw [if_neg (fun q => h3 q.2), if_neg h3]
      · rw [if_neg h]
        refine Eq.trans (am_sum_congr 5 fun j _ => ?_) (am_sum_0 5)
        rw [if_neg (fun q => h q.1)]
    rw [e9]
    simp only [am_e229_0, am_e229_13, am_e229_76, am_e229_26, am_e229_91, am_e229_140, am_e229_82, am_e229_16, am_e229_31, am_e229_119, am_e229_94, am_e229_142, am_e229_34, am_e229_127, am_e229_99, am_e229_169, am_e229_145, am_e229_67, am_e229_37, am_e229_133, am_e229_102, am_e229_174, am_e229_150, am_e229_41, am_e229_110, am_e229_106, am_e229_176, am_e229_154, am_e229_44, am_e229_181, am_e229_160, am_e229_48, am_e229_187, am_e229_163, am_e229_52, am_e229_195, am_e229_55, am_e229_198, am_e229_60, am_e229_202, am_e229_63, am_e229_210, am_e229_214, am_e229_218, am_e229_221, am_e229_227, am_bk, am_pu1, am_pu0, Option.bind_some, eq_self, am_nli, am_nlr, am_nln, am_nlu, if_true, if_false, not_true_eq_false, not_false_eq_true, am_10, am_01, show (9 : Int32) < Int32.ofNat (5 + 5) by decide, am_succ])
  have k2 := am_iter (fun k => am_exec 229 85 [.ref 40, .int p, .int (am_sum (fun c => if G 7 c = 1 ∧ G 8 c = p then am_mny (G 14 c) else 0) 0 F), .int (Int32.ofNat (am_cnt (fun j => G 27 j = p) k)), .int (Int32.ofNat k), am_U] [] (am_ov G L r)) n (fun k hk => by
    have c : ¬ Int32.ofNat n ≤ Int32.ofNat k := am_lit _ _ hk (by omega)
    have hI : am_I (Int32.ofNat k) 41 := am_Ik (by omega) (by decide)
    show am_exec 229 85 _ _ _ = _
    rw [am_e229_85]
    by_cases h1 : G 27 k = p <;> simp only [am_e229_0, am_e229_13, am_e229_76, am_e229_26, am_e229_91, am_e229_140, am_e229_82, am_e229_16, am_e229_31, am_e229_119, am_e229_94, am_e229_142, am_e229_34, am_e229_127, am_e229_99, am_e229_169, am_e229_145, am_e229_67, am_e229_37, am_e229_133, am_e229_102, am_e229_174, am_e229_150, am_e229_41, am_e229_110, am_e229_106, am_e229_176, am_e229_154, am_e229_44, am_e229_181, am_e229_160, am_e229_48, am_e229_187, am_e229_163, am_e229_52, am_e229_195, am_e229_55, am_e229_198, am_e229_60, am_e229_202, am_e229_63, am_e229_210, am_e229_214, am_e229_218, am_e229_221, am_e229_227, am_gM0, am_pM0, am_gM1, am_pM1, am_gM2, am_lM2, am_sM2, am_gM3, am_lM3, am_sM3, am_gM4, am_lM4, am_sM4, am_gM5, am_lM5, am_sM5, am_gM6, am_pM6, am_gM7, am_lM7, am_sM7, am_gM8, am_lM8, am_sM8, am_gM9, am_lM9, am_sM9, am_gM10, am_lM10, am_sM10, am_gM11, am_lM11, am_sM11, am_gM12, am_lM12, am_sM12, am_gM13, am_lM13, am_sM13, am_gM14, am_lM14, am_sM14, am_gM15, am_lM15, am_sM15, am_gM16, am_lM16, am_sM16, am_gM17, am_lM17, am_sM17, am_gM18, am_lM18, am_sM18, am_gM19, am_pM19, am_gM20, am_lM20, am_sM20, am_gM21, am_lM21, am_sM21, am_gM22, am_lM22, am_sM22, am_gM23, am_lM23, am_sM23, am_gM24, am_pM24, am_gM25, am_pM25, am_gM26, am_lM26, am_sM26, am_gM27, am_lM27, am_sM27, am_gM28, am_lM28, am_sM28, am_gM29, am_lM29, am_sM29, am_gM30, am_lM30, am_sM30, am_gM31, am_lM31, am_sM31, am_gM32, am_lM32, am_sM32, am_gM33, am_lM33, am_sM33, am_gM34, am_lM34, am_sM34, am_gM35, am_lM35, am_sM35, am_gM36, am_lM36, am_sM36, am_gM37, am_lM37, am_sM37, am_gM38, am_lM38, am_sM38, am_gM39, am_lM39, am_sM39, am_gM40, am_lM40, am_sM40, am_gM41, am_lM41, am_sM41, am_gM42, am_lM42, am_sM42, am_gM43, am_lM43, am_sM43, am_gM44, am_lM44, am_sM44, am_gM45, am_pM45, am_gM46, am_lM46, am_sM46, am_gM47, am_lM47, am_sM47, am_gM48, am_lM48, am_sM48, am_gM49, am_lM49, am_sM49, am_gM50, am_lM50, am_sM50, am_gM51, am_lM51, am_sM51, am_gM52, am_lM52, am_sM52, am_isM, am_bk, am_pu1, am_pu0, Option.bind_some, eq_self, am_nli, am_nlr, am_nln, am_nlu, if_true, if_false, not_true_eq_false, not_false_eq_true, am_10, am_01, hn, c, hI, am_tcn (show k ≤ 100000 by omega), am_succ, am_cnt, h1, Nat.add_zero, Int32.add_zero])
  simp only [am_e229_0, am_e229_13, am_e229_76, am_e229_26, am_e229_91, am_e229_140, am_e229_82, am_e229_16, am_e229_31, am_e229_119, am_e229_94, am_e229_142, am_e229_34, am_e229_127, am_e229_99, am_e229_169, am_e229_145, am_e229_67, am_e229_37, am_e229_133, am_e229_102, am_e229_174, am_e229_150, am_e229_41, am_e229_110, am_e229_106, am_e229_176, am_e229_154, am_e229_44, am_e229_181, am_e229_160, am_e229_48, am_e229_187, am_e229_163, am_e229_52, am_e229_195, am_e229_55, am_e229_198, am_e229_60, am_e229_202, am_e229_63, am_e229_210, am_e229_214, am_e229_218, am_e229_221, am_e229_227, am_bk, am_pu1, am_pu0, Option.bind_some, eq_self, am_nli, am_nlr, am_nln, am_nlu, if_true, if_false, not_true_eq_false, not_false_eq_true, am_10, am_01]
  refine k1.trans ?_
  show am_exec 229 7 _ _ _ = _
  rw [am_e229_7]
  simp only [am_e229_0, am_e229_13, am_e229_76, am_e229_26, am_e229_91, am_e229_140, am_e229_82, am_e229_16, am_e229_31, am_e229_119, am_e229_94, am_e229_142, am_e229_34, am_e229_127, am_e229_99, am_e229_169, am_e229_145, am_e229_67, am_e229_37, am_e229_133, am_e229_102, am_e229_174, am_e229_150, am_e229_41, am_e229_110, am_e229_106, am_e229_176, am_e229_154, am_e229_44, am_e229_181, am_e229_160, am_e229_48, am_e229_187, am_e229_163, am_e229_52, am_e229_195, am_e229_55, am_e229_198, am_e229_60, am_e229_202, am_e229_63, am_e229_210, am_e229_214, am_e229_218, am_e229_221, am_e229_227, am_gM0, am_pM0, am_gM1, am_pM1, am_gM2, am_lM2, am_sM2, am_gM3, am_lM3, am_sM3, am_gM4, am_lM4, am_sM4, am_gM5, am_lM5, am_sM5, am_gM6, am_pM6, am_gM7, am_lM7, am_sM7, am_gM8, am_lM8, am_sM8, am_gM9, am_lM9, am_sM9, am_gM10, am_lM10, am_sM10, am_gM11, am_lM11, am_sM11, am_gM12, am_lM12, am_sM12, am_gM13, am_lM13, am_sM13, am_gM14, am_lM14, am_sM14, am_gM15, am_lM15, am_sM15, am_gM16, am_lM16, am_sM16, am_gM17, am_lM17, am_sM17, am_gM18, am_lM18, am_sM18, am_gM19, am_pM19, am_gM20, am_lM20, am_sM20, am_gM21, am_lM21, am_sM21, am_gM22, am_lM22, am_sM22, am_gM23, am_lM23, am_sM23, am_gM24, am_pM24, am_gM25, am_pM25, am_gM26, am_lM26, am_sM26, am_gM27, am_lM27, am_sM27, am_gM28, am_lM28, am_sM28, am_gM29, am_lM29, am_sM29, am_gM30, am_lM30, am_sM30, am_gM31, am_lM31, am_sM31, am_gM32, am_lM32, am_sM32, am_gM33, am_lM33, am_sM33, am_gM34, am_lM34, am_sM34, am_gM35, am_lM35, am_sM35, am_gM36, am_lM36, am_sM36, am_gM37, am_lM37, am_sM37, am_gM38, am_lM38, am_sM38, am_gM39, am_lM39, am_sM39, am_gM40, am_lM40, am_sM40, am_gM41, am_lM41, am_sM41, am_gM42, am_lM42, am_sM42, am_gM43, am_lM43, am_sM43, am_gM44, am_lM44, am_sM44, am_gM45, am_pM45, am_gM46, am_lM46, am_sM46, am_gM47, am_lM47, am_sM47, am_gM48, am_lM48, am_sM48, am_gM49, am_lM49, am_sM49, am_gM50, am_lM50, am_sM50, am_gM51, am_lM51, am_sM51, am_gM52, am_lM52, am_sM52, am_isM, am_bk, am_pu1, am_pu0, Option.bind_some, eq_self, am_nli, am_nlr, am_nln, am_nlu, if_true, if_false, not_true_eq_false, not_false_eq_true, am_10, am_01, hF, Int32.le_refl]
  refine k2.trans ?_
  show am_exec 229 85 _ _ _ = _
  rw [am_e229_85]
  simp only [am_e229_0, am_e229_13, am_e229_76, am_e229_26, am_e229_91, am_e229_140, am_e229_82, am_e229_16, am_e229_31, am_e229_119, am_e229_94, am_e229_142, am_e229_34, am_e229_127, am_e229_99, am_e229_169, am_e229_145, am_e229_67, am_e229_37, am_e229_133, am_e229_102, am_e229_174, am_e229_150, am_e229_41, am_e229_110, am_e229_106, am_e229_176, am_e229_154, am_e229_44, am_e229_181, am_e229_160, am_e229_48, am_e229_187, am_e229_163, am_e229_52, am_e229_195, am_e229_55, am_e229_198, am_e229_60, am_e229_202, am_e229_63, am_e229_210, am_e229_214, am_e229_218, am_e229_221, am_e229_227, am_gM0, am_pM0, am_gM1, am_pM1, am_gM2, am_lM2, am_sM2, am_gM3, am_lM3, am_sM3, am_gM4, am_lM4, am_sM4, am_gM5, am_lM5, am_sM5, am_gM6, am_pM6, am_gM7, am_lM7, am_sM7, am_gM8, am_lM8, am_sM8, am_gM9, am_lM9, am_sM9, am_gM10, am_lM10, am_sM10, am_gM11, am_lM11, am_sM11, am_gM12, am_lM12, am_sM12, am_gM13, am_lM13, am_sM13, am_gM14, am_lM14, am_sM14, am_gM15, am_lM15, am_sM15, am_gM16, am_lM16, am_sM16, am_gM17, am_lM17, am_sM17, am_gM18, am_lM18, am_sM18, am_gM19, am_pM19, am_gM20, am_lM20, am_sM20, am_gM21, am_lM21, am_sM21, am_gM22, am_lM22, am_sM22, am_gM23, am_lM23, am_sM23, am_gM24, am_pM24, am_gM25, am_pM25, am_gM26, am_lM26, am_sM26, am_gM27, am_lM27, am_sM27, am_gM28, am_lM28, am_sM28, am_gM29, am_lM29, am_sM29, am_gM30, am_lM30, am_sM30, am_gM31, am_lM31, am_sM31, am_gM32, am_lM32, am_sM32, am_gM33, am_lM33, am_sM33, am_gM34, am_lM34, am_sM34, am_gM35, am_lM35, am_sM35, am_gM36, am_lM36, am_sM36, am_gM37, am_lM37, am_sM37, am_gM38, am_lM38, am_sM38, am_gM39, am_lM39, am_sM39, am_gM40, am_lM40, am_sM40, am_gM41, am_lM41, am_sM41, am_gM42, am_lM42, am_sM42, am_gM43, am_lM43, am_sM43, am_gM44, am_lM44, am_sM44, am_gM45, am_pM45, am_gM46, am_lM46, am_sM46, am_gM47, am_lM47, am_sM47, am_gM48, am_lM48, am_sM48, am_gM49, am_lM49, am_sM49, am_gM50, am_lM50, am_sM50, am_gM51, am_lM51, am_sM51, am_gM52, am_lM52, am_sM52, am_isM, am_bk, am_pu1, am_pu0, Option.bind_some, eq_self, am_nli, am_nlr, am_nln, am_nlu, if_true, if_false, not_true_eq_false, not_false_eq_true, am_10, am_01, hn, Int32.le_refl, mr214 hF hF2 hb, mr181]
  rw [am_mx_comm (y := 0)]
  exact mr229_135 40 G n _ hp hn2 hn2 hn hd hc
end
section
variable {K : aw_K} {A : aw_A} {G Q : am_G} {M : aw_M} {r : am_H} {n F T : Nat}
theorem as_fi_eq {p d : Int32} : as_fi G p d = (if G 34 p.toNatClampNeg < d then am_gv' (am_gn G p.toNatClampNeg 3 (d - G 34 p.toNatClampNeg)) p.toNatClampNeg 4 d else am_gv' G p.toNatClampNeg 4 d) := by
  have h34 : ¬ 8 * p.toNatClampNeg + 3 = 8 * p.toNatClampNeg + 4 := by omega
  have h43 : ¬ 8 * p.toNatClampNeg + 4 = 8 * p.toNatClampNeg + 3 := by omega
  unfold as_fi am_gv' am_gn
  dsimp only
  generalize p.toNatClampNeg = q at *
  by_cases h : G 34 q < d
  · rw [if_pos h, if_pos h]
    have e1 : G 34 q + (d - G 34 q) - d = G 34 q - (d - (d - G 34 q)) := by
      rw [Int32.add_comm, Int32.sub_add_cancel, Int32.sub_self, Int32.sub_eq_add_neg d (d - G 34 q), Int32.neg_sub, Int32.add_comm d, Int32.sub_add_cancel, Int32.sub_self]
    simp only [am_up_eq, am_up_ne, am_upd_eq, Nat.reduceEqDiff, not_false_eq_true, am_upd_ne h43]
    rw [e1, am_upcomm (G := am_up G 34 q _) (a := 40) (b := 34) (by decide), am_upup, am_upcomm2 h34, am_upcomm (a := 34) (b := 40) (by decide), am_upcomm (a := 34) (b := 40) (by decide)]
  · rw [if_neg h, if_neg h, Int32.sub_zero]
    rw [am_upself (G := am_up G 40 (8 * q + 4) _) (k := 8 * q + 3) (by rw [am_up_eq, am_upd_ne h34, Int32.add_zero]), am_upcomm (a := 34) (b := 40) (by decide)]
    try rfl
theorem mc73' (hS0 : aw_S r) {p : Int32} (hp : aw_P p) : ∀ (m i : Nat) (K : aw_K) (A : aw_A) (G Q : am_G) (r' : am_H) (n : Nat) (d : Int32), m + i = 40 → aw_W K A G n F T → (∀ k, k < n → aw_P (G 27 k)) → aw_R r r' 0 0 → ∃ K' A' Q' r'', am_exec 73 11 [.ref 39, .ref (aw_pa p), .int d, .int 1, .int (Int32.ofNat i)] [] (aw_H K A G Q M r') = some (.inl none, aw_H K' A' (as_fi (as_kw p m G n d).1 p (as_kw p m G n d).2.2) Q' M r'') ∧ aw_W K' A' (as_fi (as_kw p m G n d).1 p (as_kw p m G n d).2.2) (as_kw p m G n d).2.1 F T ∧ aw_R r r'' 0 0 ∧ (∀ f, ¬ f = 3 → Q' f = Q f) ∧ (∀ f, ¬ f = 0 → A' f = A f) ∧ (∀ a, K a = (0, 0) → K' a = (0, 0)) := by
  have h3 : am_I 3 8 := ⟨by decide, by decide⟩
  have h4 : am_I 4 8 := ⟨by decide, by decide⟩
  have e3 : (3 : Int32).toNatClampNeg = 3 := rfl
  have e4 : (4 : Int32).toNatClampNeg = 4 := rfl
  have ex : ∀ (K : aw_K) (A : aw_A) (G Q : am_G) (r' : am_H) (d x y : Int32), aw_V K → am_exec 73 57 [.ref 39, .ref (aw_pa p), .int d, .int x, .int y] [] (aw_H K A G Q M r') = some (.inl none, aw_H K A (as_fi G p d) Q M r') := by
    intro K A G Q r' d x y hV
    rw [as_fi_eq]
    by_cases h : G 34 p.toNatClampNeg < d
    · have h' : ¬ d ≤ G 34 p.toNatClampNeg := Int32.not_le.mpr h
      simp only [am_e73_0, am_e73_5, am_e73_57, am_e73_18, am_e73_61, am_e73_22, am_e73_76, am_e73_65, am_e73_26, am_e73_82, am_e73_72, am_e73_30, am_e73_34, am_e73_38, am_e73_48, am_e73_44, aw_gU0, aw_pU0, aw_gU1, aw_gU2, aw_pU2, aw_gU3, aw_pU3, aw_gU4, aw_pU4, aw_gU5, aw_pU5, aw_gU6, aw_pU6, aw_gU7, aw_pU7, aw_gC1, aw_gC2, aw_pC2, aw_gC3, aw_pC3, aw_gC4, aw_pC4, aw_gC5, aw_pC5, aw_gC6, aw_pC6, aw_gC7, aw_pC7, aw_gC9, aw_pC9, aw_gC0, aw_gC8, aw_gC10, aw_pC10, aw_gC11, aw_pC11, aw_gC12, aw_pC12, aw_gC13, aw_pC13, aw_gC14, aw_pC14, aw_gC15, aw_pC15, aw_gC16, aw_pC16, aw_gT0, aw_gT1, aw_gT2, aw_gT3, aw_gT4, aw_pT4, aw_gT5, aw_pT5, aw_gT6, aw_pT6, aw_gO0, aw_gO1, aw_gO2, aw_gO3, aw_gO4, aw_gO5, aw_gO6, aw_gP1, aw_pP1, aw_gP2, aw_pP2, aw_gP3, aw_pP3, aw_gP4, aw_pP4, aw_gP5, aw_pP5, aw_gP6, aw_pP6, aw_gP0, aw_gP7, aw_isU, aw_isC, aw_isT, aw_isO, aw_isP, aw_isF12, aw_gF12_0, aw_gF12_1, aw_gF12_2, aw_gF12_3, aw_gF12_4, aw_isF13, aw_gF13_0, aw_gF13_1, aw_gF13_2, aw_gF13_3, aw_gF13_4, aw_gF13_5, aw_gF13_6, aw_gF13_7, aw_isF14, aw_gF14_0, aw_gF14_1, aw_gF14_2, aw_isF18, aw_gF18_0, aw_gF18_1, aw_isF19, aw_gF19_0, aw_gF19_1, aw_gF19_2, aw_isF21, aw_gF21_0, aw_gF21_1, aw_gF21_2, aw_isF22, aw_gF22_0, aw_gF22_1, aw_gF22_2, aw_isF23, aw_gF23_0, aw_gF23_1, aw_gF23_2, aw_isF34, aw_gF34_0, aw_gF34_1, aw_gF34_2, aw_gF34_3, aw_gF34_4, aw_gF34_5, aw_isF38, aw_gF38_0, aw_isF39, aw_gF39_0, aw_pF12_4, aw_pF13_6, aw_pF13_7, aw_pF34_4, aw_pF34_5, am_bk, am_pu1, am_pu0, Option.bind_some, eq_self, am_nli, am_nlr, am_nln, am_nlu, if_true, if_false, not_true_eq_false, not_false_eq_true, am_10, am_01, mc58 hV hp h3, mc59 hV hp h4, e3, e4, hV, hp, h, h']
    · have h' : d ≤ G 34 p.toNatClampNeg := Int32.not_lt.mp h
      simp only [am_e73_0, am_e73_5, am_e73_57, am_e73_18, am_e73_61, am_e73_22, am_e73_76, am_e73_65, am_e73_26, am_e73_82, am_e73_72, am_e73_30, am_e73_34, am_e73_38, am_e73_48, am_e73_44, aw_gU0, aw_pU0, aw_gU1, aw_gU2, aw_pU2, aw_gU3, aw_pU3, aw_gU4, aw_pU4, aw_gU5, aw_pU5, aw_gU6, aw_pU6, aw_gU7, aw_pU7, aw_gC1, aw_gC2, aw_pC2, aw_gC3, aw_pC3, aw_gC4, aw_pC4, aw_gC5, aw_pC5, aw_gC6, aw_pC6, aw_gC7, aw_pC7, aw_gC9, aw_pC9, aw_gC0, aw_gC8, aw_gC10, aw_pC10, aw_gC11, aw_pC11, aw_gC12, aw_pC12, aw_gC13, aw_pC13, aw_gC14, aw_pC14, aw_gC15, aw_pC15, aw_gC16, aw_pC16, aw_gT0, aw_gT1, aw_gT2, aw_gT3, aw_gT4, aw_pT4, aw_gT5, aw_pT5, aw_gT6, aw_pT6, aw_gO0, aw_gO1, aw_gO2, aw_gO3, aw_gO4, aw_gO5, aw_gO6, aw_gP1, aw_pP1, aw_gP2, aw_pP2, aw_gP3, aw_pP3, aw_gP4, aw_pP4, aw_gP5, aw_pP5, aw_gP6, aw_pP6, aw_gP0, aw_gP7, aw_isU, aw_isC, aw_isT, aw_isO, aw_isP, aw_isF12, aw_gF12_0, aw_gF12_1, aw_gF12_2, aw_gF12_3, aw_gF12_4, aw_isF13, aw_gF13_0, aw_gF13_1, aw_gF13_2, aw_gF13_3, aw_gF13_4, aw_gF13_5, aw_gF13_6, aw_gF13_7, aw_isF14, aw_gF14_0, aw_gF14_1, aw_gF14_2, aw_isF18, aw_gF18_0, aw_gF18_1, aw_isF19, aw_gF19_0, aw_gF19_1, aw_gF19_2, aw_isF21, aw_gF21_0, aw_gF21_1, aw_gF21_2, aw_isF22, aw_gF22_0, aw_gF22_1, aw_gF22_2, aw_isF23, aw_gF23_0, aw_gF23_1, aw_gF23_2, aw_isF34, aw_gF34_0, aw_gF34_1, aw_gF34_2, aw_gF34_3, aw_gF34_4, aw_gF34_5, aw_isF38, aw_gF38_0, aw_isF39, aw_gF39_0, aw_pF12_4, aw_pF13_6, aw_pF13_7, aw_pF34_4, aw_pF34_5, am_bk, am_pu1, am_pu0, Option.bind_some, eq_self, am_nli, am_nlr, am_nln, am_nlu, if_true, if_false, not_true_eq_false, not_false_eq_true, am_10, am_01, mc59 hV hp h4, e4, hV, hp, h, h']
  have wf : ∀ (K : aw_K) (A : aw_A) (G : am_G) (n : Nat) (d : Int32), aw_W K A G n F T → aw_W K A (as_fi G p d) n F T := by
    intro K A G n d hW
    unfold as_fi
    dsimp only
    exact hW.up (by rw [am_up_ne (by decide), am_up_ne (by decide), am_up_ne (by decide)]) (by rw [am_up_ne (by decide), am_up_ne (by decide), am_up_ne (by decide)]) (by rw [am_up_ne (by decide), am_up_ne (by decide), am_up_ne (by decide)]) (by rw [am_up_ne (by decide), am_up_ne (by decide), am_up_ne (by decide)]) (by rw [am_up_ne (by decide), am_up_ne (by decide), am_up_ne (by decide)])
  intro m
  induction m with
  | zero =>
    intro i K A G Q r' n d hi hW ho hR
    refine ⟨K, A, Q, r', ?_, wf K A G n d hW, hR, fun _ _ => rfl, fun _ _ => rfl, fun _ h => h⟩
    rw [am_e73_11, show i = 40 by omega]
    simp only [show (40 : Int32) ≤ Int32.ofNat 40 by decide, if_true]
    exact ex K A G Q r' d _ _ hW.V
  | succ m ih =>
    intro i K A G Q r' n d hi hW ho hR
    have c : ¬ (40 : Int32) ≤ Int32.ofNat i := am_lit 40 i (by omega) (by decide)
    by_cases h1 : G 34 p.toNatClampNeg < d
    · have h1' : ¬ d ≤ G 34 p.toNatClampNeg := Int32.not_le.mpr h1
      rcases e : am_last (fun k => G 27 k = p) n with _ | j
      · rw [as_kw_none e]
        refine ⟨K, A, Q, r', ?_, wf K A G n d hW, hR, fun _ _ => rfl, fun _ _ => rfl, fun _ h => h⟩
        rw [am_e73_11]
        simp only [am_e73_0, am_e73_5, am_e73_18, am_e73_61, am_e73_22, am_e73_76, am_e73_65, am_e73_26, am_e73_82, am_e73_72, am_e73_30, am_e73_34, am_e73_38, am_e73_48, am_e73_44, aw_gU0, aw_pU0, aw_gU1, aw_gU2, aw_pU2, aw_gU3, aw_pU3, aw_gU4, aw_pU4, aw_gU5, aw_pU5, aw_gU6, aw_pU6, aw_gU7, aw_pU7, aw_gC1, aw_gC2, aw_pC2, aw_gC3, aw_pC3, aw_gC4, aw_pC4, aw_gC5, aw_pC5, aw_gC6, aw_pC6, aw_gC7, aw_pC7, aw_gC9, aw_pC9, aw_gC0, aw_gC8, aw_gC10, aw_pC10, aw_gC11, aw_pC11, aw_gC12, aw_pC12, aw_gC13, aw_pC13, aw_gC14, aw_pC14, aw_gC15, aw_pC15, aw_gC16, aw_pC16, aw_gT0, aw_gT1, aw_gT2, aw_gT3, aw_gT4, aw_pT4, aw_gT5, aw_pT5, aw_gT6, aw_pT6, aw_gO0, aw_gO1, aw_gO2, aw_gO3, aw_gO4, aw_gO5, aw_gO6, aw_gP1, aw_pP1, aw_gP2, aw_pP2, aw_gP3, aw_pP3, aw_gP4, aw_pP4, aw_gP5, aw_pP5, aw_gP6, aw_pP6, aw_gP0, aw_gP7, aw_isU, aw_isC, aw_isT, aw_isO, aw_isP, aw_isF12, aw_gF12_0, aw_gF12_1, aw_gF12_2, aw_gF12_3, aw_gF12_4, aw_isF13, aw_gF13_0, aw_gF13_1, aw_gF13_2, aw_gF13_3, aw_gF13_4, aw_gF13_5, aw_gF13_6, aw_gF13_7, aw_isF14, aw_gF14_0, aw_gF14_1, aw_gF14_2, aw_isF18, aw_gF18_0, aw_gF18_1, aw_isF19, aw_gF19_0, aw_gF19_1, aw_gF19_2, aw_isF21, aw_gF21_0, aw_gF21_1, aw_gF21_2, aw_isF22, aw_gF22_0, aw_gF22_1, aw_gF22_2, aw_isF23, aw_gF23_0, aw_gF23_1, aw_gF23_2, aw_isF34, aw_gF34_0, aw_gF34_1, aw_gF34_2, aw_gF34_3, aw_gF34_4, aw_gF34_5, aw_isF38, aw_gF38_0, aw_isF39, aw_gF39_0, aw_pF12_4, aw_pF13_6, aw_pF13_7, aw_pF34_4, aw_pF34_5, am_bk, am_pu1, am_pu0, Option.bind_some, eq_self, am_nli, am_nlr, am_nln, am_nlu, if_true, if_false, not_true_eq_false, not_false_eq_true, am_10, am_01, hW.V, hp, c, h1', mc106_0 hW ho hp e, am_succ, Int32.sub_zero]
        rw [am_e73_11]
        simp only [am_e73_0, am_e73_5, am_e73_18, am_e73_61, am_e73_22, am_e73_76, am_e73_65, am_e73_26, am_e73_82, am_e73_72, am_e73_30, am_e73_34, am_e73_38, am_e73_48, am_e73_44, am_bk, am_pu1, am_pu0, Option.bind_some, eq_self, am_nli, am_nlr, am_nln, am_nlu, if_true, if_false, not_true_eq_false, not_false_eq_true, am_10, am_01]
        by_cases c2 : (40 : Int32) ≤ Int32.ofNat (i + 1) <;> simp only [c2, if_true, if_false, am_bk, am_pu1, am_pu0, Option.bind_some, eq_self, am_nli, am_nlr, am_nln, am_nlu, if_true, if_false, not_true_eq_false, not_false_eq_true, am_10, am_01, am_e73_0, am_e73_5, am_e73_18, am_e73_61, am_e73_22, am_e73_76, am_e73_65, am_e73_26, am_e73_82, am_e73_72, am_e73_30, am_e73_34, am_e73_38, am_e73_48, am_e73_44, ex K A G Q r' d _ _ hW.V]
      · have hj := (am_last_lt e).1
        have hnf := hW.V.1 (A 0 j) (by rw [hW.u hj]; exact Nat.le_refl 1)
        have hA0 : 12 ≤ A 0 j := by unfold aw_fa at hnf; omega
        have hA1 : ¬ (40 ≤ A 0 j ∧ A 0 j ≤ 87) := by unfold aw_fa at hnf; omega
        obtain ⟨K', A', Q', r'', x1, x2, x3, x4, x5, x6⟩ := ih (i + 1) (aw_ku K j) (aw_au A j) (am_dr G n j) (am_up Q 3 2 (Q 3 2 + 1)) (am_set r' (A 0 j) (9, aw_un G j)) (n - 1) (d - 1) (by omega) (hW.ku hj) (fun k hk => by
          rw [am_dr_row (by decide)]
          split
          · exact ho (k + 1) (by omega)
          · exact ho k (by omega)) (hR.tr (aw_R.set (a := 0) (b := 0) hA0 hA1))
        rw [as_kw_some h1 e]
        refine ⟨K', A', Q', r'', ?_, x2, x3, fun f hf => by rw [x4 f hf, am_up_ne hf], fun f hf => by rw [x5 f hf]; unfold aw_au; rw [if_neg hf], fun a ha => x6 a ?_⟩
        · rw [← x1, am_e73_11]
          simp only [am_e73_0, am_e73_5, am_e73_18, am_e73_61, am_e73_22, am_e73_76, am_e73_65, am_e73_26, am_e73_82, am_e73_72, am_e73_30, am_e73_34, am_e73_38, am_e73_48, am_e73_44, aw_gU0, aw_pU0, aw_gU1, aw_gU2, aw_pU2, aw_gU3, aw_pU3, aw_gU4, aw_pU4, aw_gU5, aw_pU5, aw_gU6, aw_pU6, aw_gU7, aw_pU7, aw_gC1, aw_gC2, aw_pC2, aw_gC3, aw_pC3, aw_gC4, aw_pC4, aw_gC5, aw_pC5, aw_gC6, aw_pC6, aw_gC7, aw_pC7, aw_gC9, aw_pC9, aw_gC0, aw_gC8, aw_gC10, aw_pC10, aw_gC11, aw_pC11, aw_gC12, aw_pC12, aw_gC13, aw_pC13, aw_gC14, aw_pC14, aw_gC15, aw_pC15, aw_gC16, aw_pC16, aw_gT0, aw_gT1, aw_gT2, aw_gT3, aw_gT4, aw_pT4, aw_gT5, aw_pT5, aw_gT6, aw_pT6, aw_gO0, aw_gO1, aw_gO2, aw_gO3, aw_gO4, aw_gO5, aw_gO6, aw_gP1, aw_pP1, aw_gP2, aw_pP2, aw_gP3, aw_pP3, aw_gP4, aw_pP4, aw_gP5, aw_pP5, aw_gP6, aw_pP6, aw_gP0, aw_gP7, aw_isU, aw_isC, aw_isT, aw_isO, aw_isP, aw_isF12, aw_gF12_0, aw_gF12_1, aw_gF12_2, aw_gF12_3, aw_gF12_4, aw_isF13, aw_gF13_0, aw_gF13_1, aw_gF13_2, aw_gF13_3, aw_gF13_4, aw_gF13_5, aw_gF13_6, aw_gF13_7, aw_isF14, aw_gF14_0, aw_gF14_1, aw_gF14_2, aw_isF18, aw_gF18_0, aw_gF18_1, aw_isF19, aw_gF19_0, aw_gF19_1, aw_gF19_2, aw_isF21, aw_gF21_0, aw_gF21_1, aw_gF21_2, aw_isF22, aw_gF22_0, aw_gF22_1, aw_gF22_2, aw_isF23, aw_gF23_0, aw_gF23_1, aw_gF23_2, aw_isF34, aw_gF34_0, aw_gF34_1, aw_gF34_2, aw_gF34_3, aw_gF34_4, aw_gF34_5, aw_isF38, aw_gF38_0, aw_isF39, aw_gF39_0, aw_pF12_4, aw_pF13_6, aw_pF13_7, aw_pF34_4, aw_pF34_5, am_bk, am_pu1, am_pu0, Option.bind_some, eq_self, am_nli, am_nlr, am_nln, am_nlu, if_true, if_false, not_true_eq_false, not_false_eq_true, am_10, am_01, hW.V, hp, c, h1', mc106_1 hW ho hp e, am_succ]
        · rw [aw_ku_ne (by rw [ha]; exact (by decide : ¬ 0 = 1)), ha]
    · have h1' : d ≤ G 34 p.toNatClampNeg := Int32.not_lt.mp h1
      rw [as_kw_no h1]
      refine ⟨K, A, Q, r', ?_, wf K A G n d hW, hR, fun _ _ => rfl, fun _ _ => rfl, fun _ h => h⟩
      rw [am_e73_11]
      simp only [am_e73_0, am_e73_5, am_e73_18, am_e73_61, am_e73_22, am_e73_76, am_e73_65, am_e73_26, am_e73_82, am_e73_72, am_e73_30, am_e73_34, am_e73_38, am_e73_48, am_e73_44, aw_gU0, aw_pU0, aw_gU1, aw_gU2, aw_pU2, aw_gU3, aw_pU3, aw_gU4, aw_pU4, aw_gU5, aw_pU5, aw_gU6, aw_pU6, aw_gU7, aw_pU7, aw_gC1, aw_gC2, aw_pC2, aw_gC3, aw_pC3, aw_gC4, aw_pC4, aw_gC5, aw_pC5, aw_gC6, aw_pC6, aw_gC7, aw_pC7, aw_gC9, aw_pC9, aw_gC0, aw_gC8, aw_gC10, aw_pC10, aw_gC11, aw_pC11, aw_gC12, aw_pC12, aw_gC13, aw_pC13, aw_gC14, aw_pC14, aw_gC15, aw_pC15, aw_gC16, aw_pC16, aw_gT0, aw_gT1, aw_gT2, aw_gT3, aw_gT4, aw_pT4, aw_gT5, aw_pT5, aw_gT6, aw_pT6, aw_gO0, aw_gO1, aw_gO2, aw_gO3, aw_gO4, aw_gO5, aw_gO6, aw_gP1, aw_pP1, aw_gP2, aw_pP2, aw_gP3, aw_pP3, aw_gP4, aw_pP4, aw_gP5, aw_pP5, aw_gP6, aw_pP6, aw_gP0, aw_gP7, aw_isU, aw_isC, aw_isT, aw_isO, aw_isP, aw_isF12, aw_gF12_0, aw_gF12_1, aw_gF12_2, aw_gF12_3, aw_gF12_4, aw_isF13, aw_gF13_0, aw_gF13_1, aw_gF13_2, aw_gF13_3, aw_gF13_4, aw_gF13_5, aw_gF13_6, aw_gF13_7, aw_isF14, aw_gF14_0, aw_gF14_1, aw_gF14_2, aw_isF18, aw_gF18_0, aw_gF18_1, aw_isF19, aw_gF19_0, aw_gF19_1, aw_gF19_2, aw_isF21, aw_gF21_0, aw_gF21_1, aw_gF21_2, aw_isF22, aw_gF22_0, aw_gF22_1, aw_gF22_2, aw_isF23, aw_gF23_0, aw_gF23_1, aw_gF23_2, aw_isF34, aw_gF34_0, aw_gF34_1, aw_gF34_2, aw_gF34_3, aw_gF34_4, aw_gF34_5, aw_isF38, aw_gF38_0, aw_isF39, aw_gF39_0, aw_pF12_4, aw_pF13_6, aw_pF13_7, aw_pF34_4, aw_pF34_5, am_bk, am_pu1, am_pu0, Option.bind_some, eq_self, am_nli, am_nlr, am_nln, am_nlu, if_true, if_false, not_true_eq_false, not_false_eq_true, am_10, am_01, hW.V, hp, c, h1', ex K A G Q r' d _ _ hW.V]
theorem mc73 (hW : aw_W K A G n F T) (hS : aw_S r) (hco : ∀ c, c < F → aw_P (G 8 c)) (ho : ∀ k, k < n → aw_P (G 27 k)) (hB : ∀ c, c < F → aw_B (G 14 c)) {p : Int32} (hp : aw_P p) : ∃ K' A' Q' r', am_exec 73 0 [.ref 39, .ref (aw_pa p), am_U, am_U, am_U] [] (aw_H K A G Q M r) = some (.inl none, aw_H K' A' (as_kp p F (G, n)).1 Q' M r') ∧ aw_W K' A' (as_kp p F (G, n)).1 (as_kp p F (G, n)).2 F T ∧ aw_R r r' 0 0 ∧ (∀ f, ¬ f = 3 → Q' f = Q f) ∧ (∀ f, ¬ f = 0 → A' f = A f) ∧ (∀ a, K a = (0, 0) → K' a = (0, 0)) := by
  obtain ⟨K', A', Q', r', x1, x2⟩ := mc73' (M := M) (F := F) (T := T) hS hp 40 0 K A G Q r n (as_due G p n F) rfl hW ho aw_R.rfl'
  refine ⟨K', A', Q', r', ?_, x2⟩
  have x1 : am_exec 73 11 [.ref 39, .ref (aw_pa p), .int (as_due G p n F), .int 1, .int 0] [] (aw_H K A G Q M r) = _ := x1
  unfold as_due at x1
  have m74 := mc74 (Q := Q) (M := M) (r := r) hW hco ho (fun c hc => (hB c hc).I) hp
  simp only [am_e73_0, am_e73_5, am_e73_57, am_e73_18, am_e73_61, am_e73_22, am_e73_76, am_e73_65, am_e73_26, am_e73_82, am_e73_72, am_e73_30, am_e73_34, am_e73_38, am_e73_48, am_e73_44, aw_gU0, aw_pU0, aw_gU1, aw_gU2, aw_pU2, aw_gU3, aw_pU3, aw_gU4, aw_pU4, aw_gU5, aw_pU5, aw_gU6, aw_pU6, aw_gU7, aw_pU7, aw_gC1, aw_gC2, aw_pC2, aw_gC3, aw_pC3, aw_gC4, aw_pC4, aw_gC5, aw_pC5, aw_gC6, aw_pC6, aw_gC7, aw_pC7, aw_gC9, aw_pC9, aw_gC0, aw_gC8, aw_gC10, aw_pC10, aw_gC11, aw_pC11, aw_gC12, aw_pC12, aw_gC13, aw_pC13, aw_gC14, aw_pC14, aw_gC15, aw_pC15, aw_gC16, aw_pC16, aw_gT0, aw_gT1, aw_gT2, aw_gT3, aw_gT4, aw_pT4, aw_gT5, aw_pT5, aw_gT6, aw_pT6, aw_gO0, aw_gO1, aw_gO2, aw_gO3, aw_gO4, aw_gO5, aw_gO6, aw_gP1, aw_pP1, aw_gP2, aw_pP2, aw_gP3, aw_pP3, aw_gP4, aw_pP4, aw_gP5, aw_pP5, aw_gP6, aw_pP6, aw_gP0, aw_gP7, aw_isU, aw_isC, aw_isT, aw_isO, aw_isP, aw_isF12, aw_gF12_0, aw_gF12_1, aw_gF12_2, aw_gF12_3, aw_gF12_4, aw_isF13, aw_gF13_0, aw_gF13_1, aw_gF13_2, aw_gF13_3, aw_gF13_4, aw_gF13_5, aw_gF13_6, aw_gF13_7, aw_isF14, aw_gF14_0, aw_gF14_1, aw_gF14_2, aw_isF18, aw_gF18_0, aw_gF18_1, aw_isF19, aw_gF19_0, aw_gF19_1, aw_gF19_2, aw_isF21, aw_gF21_0, aw_gF21_1, aw_gF21_2, aw_isF22, aw_gF22_0, aw_gF22_1, aw_gF22_2, aw_isF23, aw_gF23_0, aw_gF23_1, aw_gF23_2, aw_isF34, aw_gF34_0, aw_gF34_1, aw_gF34_2, aw_gF34_3, aw_gF34_4, aw_gF34_5, aw_isF38, aw_gF38_0, aw_isF39, aw_gF39_0, aw_pF12_4, aw_pF13_6, aw_pF13_7, aw_pF34_4, aw_pF34_5, am_bk, am_pu1, am_pu0, Option.bind_some, eq_self, am_nli, am_nlr, am_nln, am_nlu, if_true, if_false, not_true_eq_false, not_false_eq_true, am_10, am_01, m74]
  exact x1
end
