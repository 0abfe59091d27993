/-! hurry, learn, setParts, need, cancel -/
theorem am_leN {a b : Nat} (ha : a < 2147483648) (hb : b < 2147483648) : (Int32.ofNat a ≤ Int32.ofNat b) = (a ≤ b) := propext (Int32.ofNat_le_iff_le ha hb)
theorem am_ltN {a b : Nat} (ha : a < 2147483648) (hb : b < 2147483648) : (Int32.ofNat a < Int32.ofNat b) = (a < b) := propext (Int32.ofNat_lt_iff_lt ha hb)
theorem am_tcN {a : Nat} (ha : a < 2147483648) : (Int32.ofNat a).toNatClampNeg = a := Int32.toNatClampNeg_ofNat_of_lt ha
theorem am_ofN {a b : Nat} (ha : a < 2147483648) (hb : b < 2147483648) : Int32.ofNat a = Int32.ofNat b ↔ a = b := ⟨fun h => by have := congrArg Int32.toNatClampNeg h; rw [am_tcN ha, am_tcN hb] at this; exact this, fun h => by rw [h]⟩
theorem aw_CO.dec {G : am_G} {b p x : Nat} (h : aw_CO G b) (hb : b < 2147483648) (hp : p < 4) (hx : x ≤ (G 34 p).toNatClampNeg) : aw_CO (am_up G 34 p (Int32.ofNat x)) b := by
  obtain ⟨c, h1, h2⟩ := h
  have hc : c p ≤ b := by
    have : p = 0 ∨ p = 1 ∨ p = 2 ∨ p = 3 := by omega
    rcases this with rfl | rfl | rfl | rfl <;> omega
  rw [h1 p hp, am_tcN (by omega)] at hx
  refine ⟨fun q => if q = p then x else c q, fun q hq => ?_, ?_⟩
  · rw [am_up_eq]
    by_cases e : q = p
    · rw [e, am_upd_eq]
      show _ = Int32.ofNat (if p = p then x else c p)
      rw [if_pos rfl]
    · rw [am_upd_ne e, h1 q hq]
      show _ = Int32.ofNat (if q = p then x else c q)
      rw [if_neg e]
  · show (if 0 = p then x else c 0) + (if 1 = p then x else c 1) + (if 2 = p then x else c 2) + (if 3 = p then x else c 3) ≤ b
    have : p = 0 ∨ p = 1 ∨ p = 2 ∨ p = 3 := by omega
    rcases this with rfl | rfl | rfl | rfl <;> simp only [Nat.reduceEqDiff, if_true, if_false] <;> omega
theorem aw_CO.at {G : am_G} {b p : Nat} (h : aw_CO G b) (hp : p < 4) : ∃ x, x ≤ b ∧ G 34 p = Int32.ofNat x := by
  obtain ⟨c, h1, h2⟩ := h
  refine ⟨c p, ?_, h1 p hp⟩
  have : p = 0 ∨ p = 1 ∨ p = 2 ∨ p = 3 := by omega
  rcases this with rfl | rfl | rfl | rfl <;> omega
theorem am_co24 {w : Int32} (h : am_I w 10) : ∃ a, a ≤ 24 ∧ am_co w = Int32.ofNat a := by
  obtain ⟨k, hk, rfl⟩ := h.cases
  match k, hk with
  | 0, _ => exact ⟨20, by decide, rfl⟩
  | 1, _ => exact ⟨15, by decide, rfl⟩
  | 2, _ => exact ⟨12, by decide, rfl⟩
  | 3, _ => exact ⟨18, by decide, rfl⟩
  | 4, _ => exact ⟨24, by decide, rfl⟩
  | 5, _ => exact ⟨14, by decide, rfl⟩
  | 6, _ => exact ⟨16, by decide, rfl⟩
  | 7, _ => exact ⟨20, by decide, rfl⟩
  | 8, _ => exact ⟨24, by decide, rfl⟩
  | 9, _ => exact ⟨24, by decide, rfl⟩
theorem am_I10m {w : Int32} (h : am_I w 10) : ¬ w = -1 := fun e => h.1 (by rw [e]; decide)
theorem am_sub_pos {a w : Nat} (ha : a ≤ 100000) (hw : w ≤ 1000000) (h : ¬ Int32.ofNat a - Int32.ofNat w ≤ 0) : w < a := by
  rcases Nat.lt_or_ge w a with q | q
  · exact q
  · refine absurd ?_ h
    rw [Int32.le_iff_toInt_le, Int32.toInt_sub, Int32.toInt_ofNat_of_lt (by omega), Int32.toInt_ofNat_of_lt (by omega), Int.bmod_eq_of_le (by omega) (by omega)]
    show _ ≤ (0 : Int)
    omega
theorem am_mny_or : ∀ x, x < 1024 → ∀ b, b < 9 → (am_hb (Int32.ofNat x) (Int32.ofNat b) ∧ Int32.ofNat x ||| (1 <<< (Int32.ofNat b &&& 31)) = Int32.ofNat x) ∨ (¬ am_hb (Int32.ofNat x) (Int32.ofNat b) ∧ am_mny (Int32.ofNat x ||| (1 <<< (Int32.ofNat b &&& 31))) = am_mny (Int32.ofNat x) + 1 ∧ ∃ y, y < 1024 ∧ Int32.ofNat x ||| (1 <<< (Int32.ofNat b &&& 31)) = Int32.ofNat y) := by
  have h : ∀ x, x < 1024 → ∀ b, b < 9 → (am_hb (Int32.ofNat x) (Int32.ofNat b) ∧ Int32.ofNat x ||| (1 <<< (Int32.ofNat b &&& 31)) = Int32.ofNat x) ∨ (¬ am_hb (Int32.ofNat x) (Int32.ofNat b) ∧ am_mny (Int32.ofNat x ||| (1 <<< (Int32.ofNat b &&& 31))) = am_mny (Int32.ofNat x) + 1 ∧ (Int32.ofNat x ||| (1 <<< (Int32.ofNat b &&& 31))).toNatClampNeg < 1024 ∧ Int32.ofNat x ||| (1 <<< (Int32.ofNat b &&& 31)) = Int32.ofNat (Int32.ofNat x ||| (1 <<< (Int32.ofNat b &&& 31))).toNatClampNeg) := by decide +kernel
  intro x hx b hb
  rcases h x hx b hb with h1 | ⟨h1, h2, h3, h4⟩
  · exact Or.inl h1
  · exact Or.inr ⟨h1, h2, _, h3, h4⟩
section
variable {K : aw_K} {A : aw_A} {G Q : am_G} {M : aw_M} {L : Nat → Int64} {r : am_H} {n F T i : Nat}
theorem ac_hurry (hW : aw_W K A G n F T) (hN : aw_N K r) (hS : aw_S r) (hi : i ≤ 600) (hA : ai G n F T i) {c : Int32} : ac_call K A G Q M L r i 117 [.ref 12, .int c, am_U, am_U, am_U] 197 [.ref 40, .int c, am_U, am_U] [2, 1] 0 := by
  have hV := hW.V
  have hF12 := hW.F12
  rcases ai_city hW hA c with ⟨k, hk, rfl, h7⟩ | ⟨h0, h0'⟩
  · have hK := hW.c hk
    have hKw := hW.w hk
    have m138 := fun G => mc138_1 (A := A) (G := G) (Q := Q) (M := M) (r := r) (K := K) (n := n) (F := F) (T := T) (c := k)
    have m138g := m138 G hW hk h7
    have m158 := fun h => mr158_1 (L := L) (r := h) hW hA hk h7
    obtain ⟨q, q1, q2, q3⟩ := hA.q k hk
    have hkI : am_I (Int32.ofNat k) 12 := am_Ik (by omega) (by decide)
    have hkJ := am_tcn (show k ≤ 100000 by omega)
    obtain ⟨a1, a2, a3⟩ := am_ix6q (c := k) (j := 0) (by omega) (by decide)
    have a1 : (6 : Int32) * Int32.ofNat k = Int32.ofNat (6 * k) := by rw [show (6 : Int32) = Int32.ofNat 6 from rfl, ← Int32.ofNat_mul]
    rw [Nat.add_zero] at a2 a3
    have m11 := fun G => mc11 (A := A) (G := G) (Q := Q) (M := M) (r := r) (a := A 1 k) hV (by rw [hK]) (by rw [hK]; exact hKw)
    rw [hK] at m11
    have m11g := m11 G
    by_cases hq0 : q = 0
    · have q1 : G 17 k = 0 := by rw [q1, hq0]; rfl
      rw [if_pos (by rw [q1]; exact Int32.le_refl _)] at m11g
      refine ac_thr hW hN hA 1 (w := 2) rfl (E := 1) (v := some (.int 0)) rfl ⟨_, rfl⟩ ?_ (fun h => ?_)
      · simp only [am_e117_0, am_e117_5, am_e117_10, am_e117_20, am_e117_16, am_e117_24, am_e117_31, am_e117_35, am_e117_61, am_e117_43, am_e117_65, am_e117_47, am_e117_69, am_e117_50, am_e117_78, am_e117_57, am_e117_83, am_e117_89, aw_gU0, aw_pU0, aw_gU1, aw_gU2, aw_pU2, aw_gU3, aw_pU3, aw_gU4, aw_pU4, aw_gU5, aw_pU5, aw_gU6, aw_pU6, aw_gU7, aw_pU7, aw_gC1, aw_gC2, aw_pC2, aw_gC3, aw_pC3, aw_gC4, aw_pC4, aw_gC5, aw_pC5, aw_gC6, aw_pC6, aw_gC7, aw_pC7, aw_gC9, aw_pC9, aw_gC0, aw_gC8, aw_gC10, aw_pC10, aw_gC11, aw_pC11, aw_gC12, aw_pC12, aw_gC13, aw_pC13, aw_gC14, aw_pC14, aw_gC15, aw_pC15, aw_gC16, aw_pC16, aw_gT0, aw_gT1, aw_gT2, aw_gT3, aw_gT4, aw_pT4, aw_gT5, aw_pT5, aw_gT6, aw_pT6, aw_gO0, aw_gO1, aw_gO2, aw_gO3, aw_gO4, aw_gO5, aw_gO6, aw_gP1, aw_pP1, aw_gP2, aw_pP2, aw_gP3, aw_pP3, aw_gP4, aw_pP4, aw_gP5, aw_pP5, aw_gP6, aw_pP6, aw_gP0, aw_gP7, aw_isU, aw_isC, aw_isT, aw_isO, aw_isP, aw_isF12, aw_gF12_0, aw_gF12_1, aw_gF12_2, aw_gF12_3, aw_gF12_4, aw_isF13, aw_gF13_0, aw_gF13_1, aw_gF13_2, aw_gF13_3, aw_gF13_4, aw_gF13_5, aw_gF13_6, aw_gF13_7, aw_isF14, aw_gF14_0, aw_gF14_1, aw_gF14_2, aw_isF18, aw_gF18_0, aw_gF18_1, aw_isF19, aw_gF19_0, aw_gF19_1, aw_gF19_2, aw_isF21, aw_gF21_0, aw_gF21_1, aw_gF21_2, aw_isF22, aw_gF22_0, aw_gF22_1, aw_gF22_2, aw_isF23, aw_gF23_0, aw_gF23_1, aw_gF23_2, aw_isF34, aw_gF34_0, aw_gF34_1, aw_gF34_2, aw_gF34_3, aw_gF34_4, aw_gF34_5, aw_isF38, aw_gF38_0, aw_isF39, aw_gF39_0, aw_pF12_4, aw_pF13_6, aw_pF13_7, aw_pF34_4, aw_pF34_5, am_bk, am_pu1, am_pu0, Option.bind_some, eq_self, am_nli, am_nlr, am_nln, am_nlu, if_true, if_false, not_true_eq_false, not_false_eq_true, am_10, am_01, am_bkx, Nat.reduceLT, mc142_0, mc142_1, mc143_0, mc143_1, mc144_0, mc144_1, mc145, mc146, am_b0, am_b1, am_npp, am_b01, am_20, am_30, and_self, and_true, true_and, and_false, false_and, Int32.le_refl, Int32.lt_irrefl, am_bi, m138g, hV, hK, m11g]
      · simp only [am_e197_0, am_e197_5, am_e197_41, am_e197_10, am_e197_52, am_e197_48, am_e197_14, am_e197_73, am_e197_56, am_e197_81, am_e197_16, am_e197_60, am_e197_86, am_e197_84, am_e197_19, am_e197_64, am_e197_90, am_e197_23, am_e197_66, am_e197_94, am_e197_28, am_e197_67, am_e197_96, am_e197_31, am_e197_77, am_e197_98, am_e197_35, am_e197_103, am_e197_37, am_e197_107, am_e197_113, am_e197_115, am_e197_121, am_e197_126, am_e197_130, am_e197_133, am_e197_136, am_gM0, am_pM0, am_gM1, am_pM1, am_gM2, am_lM2, am_sM2, am_gM3, am_lM3, am_sM3, am_gM4, am_lM4, am_sM4, am_gM5, am_lM5, am_sM5, am_gM6, am_pM6, am_gM7, am_lM7, am_sM7, am_gM8, am_lM8, am_sM8, am_gM9, am_lM9, am_sM9, am_gM10, am_lM10, am_sM10, am_gM11, am_lM11, am_sM11, am_gM12, am_lM12, am_sM12, am_gM13, am_lM13, am_sM13, am_gM14, am_lM14, am_sM14, am_gM15, am_lM15, am_sM15, am_gM16, am_lM16, am_sM16, am_gM17, am_lM17, am_sM17, am_gM18, am_lM18, am_sM18, am_gM19, am_pM19, am_gM20, am_lM20, am_sM20, am_gM21, am_lM21, am_sM21, am_gM22, am_lM22, am_sM22, am_gM23, am_lM23, am_sM23, am_gM24, am_pM24, am_gM25, am_pM25, am_gM26, am_lM26, am_sM26, am_gM27, am_lM27, am_sM27, am_gM28, am_lM28, am_sM28, am_gM29, am_lM29, am_sM29, am_gM30, am_lM30, am_sM30, am_gM31, am_lM31, am_sM31, am_gM32, am_lM32, am_sM32, am_gM33, am_lM33, am_sM33, am_gM34, am_lM34, am_sM34, am_gM35, am_lM35, am_sM35, am_gM36, am_lM36, am_sM36, am_gM37, am_lM37, am_sM37, am_gM38, am_lM38, am_sM38, am_gM39, am_lM39, am_sM39, am_gM40, am_lM40, am_sM40, am_gM41, am_lM41, am_sM41, am_gM42, am_lM42, am_sM42, am_gM43, am_lM43, am_sM43, am_gM44, am_lM44, am_sM44, am_gM45, am_pM45, am_gM46, am_lM46, am_sM46, am_gM47, am_lM47, am_sM47, am_gM48, am_lM48, am_sM48, am_gM49, am_lM49, am_sM49, am_gM50, am_lM50, am_sM50, am_gM51, am_lM51, am_sM51, am_gM52, am_lM52, am_sM52, am_isM, am_bk, am_pu1, am_pu0, Option.bind_some, eq_self, am_nli, am_nlr, am_nln, am_nlu, if_true, if_false, not_true_eq_false, not_false_eq_true, am_10, am_01, mr153, mr154, mr155, mr156, mr157, am_b0, am_b1, am_npp, am_b01, am_20, am_30, am_isM, and_self, and_true, true_and, and_false, false_and, Int32.le_refl, Int32.lt_irrefl, am_bi, am_up_eq, am_up_ne, am_upd_eq, Nat.reduceEqDiff, m158, hkI, hkJ, q1]
    · have c0 : ¬ Int32.ofNat q ≤ 0 := by rw [am_ofl (by omega)]; exact hq0
      have hfi := q3 0 (by omega)
      rw [Nat.add_zero] at hfi
      rw [q1, if_neg c0] at m11g
      have hm1 := am_I10m hfi
      have m147 := mc147_7 (K := K) (A := A) (G := G) (Q := Q) (M := M) (r := r) hV hS hfi
      by_cases h1 : am_co (G 16 (6 * k)) - G 12 k ≤ 0
      · refine ac_thr hW hN hA 1 (w := 2) rfl (E := 1) (v := some (.int 0)) rfl ⟨_, rfl⟩ ?_ (fun h => ?_)
        · simp only [am_e117_0, am_e117_5, am_e117_10, am_e117_20, am_e117_16, am_e117_24, am_e117_31, am_e117_35, am_e117_61, am_e117_43, am_e117_65, am_e117_47, am_e117_69, am_e117_50, am_e117_78, am_e117_57, am_e117_83, am_e117_89, aw_gU0, aw_pU0, aw_gU1, aw_gU2, aw_pU2, aw_gU3, aw_pU3, aw_gU4, aw_pU4, aw_gU5, aw_pU5, aw_gU6, aw_pU6, aw_gU7, aw_pU7, aw_gC1, aw_gC2, aw_pC2, aw_gC3, aw_pC3, aw_gC4, aw_pC4, aw_gC5, aw_pC5, aw_gC6, aw_pC6, aw_gC7, aw_pC7, aw_gC9, aw_pC9, aw_gC0, aw_gC8, aw_gC10, aw_pC10, aw_gC11, aw_pC11, aw_gC12, aw_pC12, aw_gC13, aw_pC13, aw_gC14, aw_pC14, aw_gC15, aw_pC15, aw_gC16, aw_pC16, aw_gT0, aw_gT1, aw_gT2, aw_gT3, aw_gT4, aw_pT4, aw_gT5, aw_pT5, aw_gT6, aw_pT6, aw_gO0, aw_gO1, aw_gO2, aw_gO3, aw_gO4, aw_gO5, aw_gO6, aw_gP1, aw_pP1, aw_gP2, aw_pP2, aw_gP3, aw_pP3, aw_gP4, aw_pP4, aw_gP5, aw_pP5, aw_gP6, aw_pP6, aw_gP0, aw_gP7, aw_isU, aw_isC, aw_isT, aw_isO, aw_isP, aw_isF12, aw_gF12_0, aw_gF12_1, aw_gF12_2, aw_gF12_3, aw_gF12_4, aw_isF13, aw_gF13_0, aw_gF13_1, aw_gF13_2, aw_gF13_3, aw_gF13_4, aw_gF13_5, aw_gF13_6, aw_gF13_7, aw_isF14, aw_gF14_0, aw_gF14_1, aw_gF14_2, aw_isF18, aw_gF18_0, aw_gF18_1, aw_isF19, aw_gF19_0, aw_gF19_1, aw_gF19_2, aw_isF21, aw_gF21_0, aw_gF21_1, aw_gF21_2, aw_isF22, aw_gF22_0, aw_gF22_1, aw_gF22_2, aw_isF23, aw_gF23_0, aw_gF23_1, aw_gF23_2, aw_isF34, aw_gF34_0, aw_gF34_1, aw_gF34_2, aw_gF34_3, aw_gF34_4, aw_gF34_5, aw_isF38, aw_gF38_0, aw_isF39, aw_gF39_0, aw_pF12_4, aw_pF13_6, aw_pF13_7, aw_pF34_4, aw_pF34_5, am_bk, am_pu1, am_pu0, Option.bind_some, eq_self, am_nli, am_nlr, am_nln, am_nlu, if_true, if_false, not_true_eq_false, not_false_eq_true, am_10, am_01, am_bkx, Nat.reduceLT, mc142_0, mc142_1, mc143_0, mc143_1, mc144_0, mc144_1, mc145, mc146, am_b0, am_b1, am_npp, am_b01, am_20, am_30, and_self, and_true, true_and, and_false, false_and, Int32.le_refl, Int32.lt_irrefl, am_bi, m138g, hV, hK, m11g, hm1, m147, h1]
        · simp only [am_e197_0, am_e197_5, am_e197_41, am_e197_10, am_e197_52, am_e197_48, am_e197_14, am_e197_73, am_e197_56, am_e197_81, am_e197_16, am_e197_60, am_e197_86, am_e197_84, am_e197_19, am_e197_64, am_e197_90, am_e197_23, am_e197_66, am_e197_94, am_e197_28, am_e197_67, am_e197_96, am_e197_31, am_e197_77, am_e197_98, am_e197_35, am_e197_103, am_e197_37, am_e197_107, am_e197_113, am_e197_115, am_e197_121, am_e197_126, am_e197_130, am_e197_133, am_e197_136, am_gM0, am_pM0, am_gM1, am_pM1, am_gM2, am_lM2, am_sM2, am_gM3, am_lM3, am_sM3, am_gM4, am_lM4, am_sM4, am_gM5, am_lM5, am_sM5, am_gM6, am_pM6, am_gM7, am_lM7, am_sM7, am_gM8, am_lM8, am_sM8, am_gM9, am_lM9, am_sM9, am_gM10, am_lM10, am_sM10, am_gM11, am_lM11, am_sM11, am_gM12, am_lM12, am_sM12, am_gM13, am_lM13, am_sM13, am_gM14, am_lM14, am_sM14, am_gM15, am_lM15, am_sM15, am_gM16, am_lM16, am_sM16, am_gM17, am_lM17, am_sM17, am_gM18, am_lM18, am_sM18, am_gM19, am_pM19, am_gM20, am_lM20, am_sM20, am_gM21, am_lM21, am_sM21, am_gM22, am_lM22, am_sM22, am_gM23, am_lM23, am_sM23, am_gM24, am_pM24, am_gM25, am_pM25, am_gM26, am_lM26, am_sM26, am_gM27, am_lM27, am_sM27, am_gM28, am_lM28, am_sM28, am_gM29, am_lM29, am_sM29, am_gM30, am_lM30, am_sM30, am_gM31, am_lM31, am_sM31, am_gM32, am_lM32, am_sM32, am_gM33, am_lM33, am_sM33, am_gM34, am_lM34, am_sM34, am_gM35, am_lM35, am_sM35, am_gM36, am_lM36, am_sM36, am_gM37, am_lM37, am_sM37, am_gM38, am_lM38, am_sM38, am_gM39, am_lM39, am_sM39, am_gM40, am_lM40, am_sM40, am_gM41, am_lM41, am_sM41, am_gM42, am_lM42, am_sM42, am_gM43, am_lM43, am_sM43, am_gM44, am_lM44, am_sM44, am_gM45, am_pM45, am_gM46, am_lM46, am_sM46, am_gM47, am_lM47, am_sM47, am_gM48, am_lM48, am_sM48, am_gM49, am_lM49, am_sM49, am_gM50, am_lM50, am_sM50, am_gM51, am_lM51, am_sM51, am_gM52, am_lM52, am_sM52, am_isM, am_bk, am_pu1, am_pu0, Option.bind_some, eq_self, am_nli, am_nlr, am_nln, am_nlu, if_true, if_false, not_true_eq_false, not_false_eq_true, am_10, am_01, mr153, mr154, mr155, mr156, mr157, am_b0, am_b1, am_npp, am_b01, am_20, am_30, am_isM, and_self, and_true, true_and, and_false, false_and, Int32.le_refl, Int32.lt_irrefl, am_bi, am_up_eq, am_up_ne, am_upd_eq, Nat.reduceEqDiff, m158, hkI, hkJ, q1, c0, a1, a2, a3, mr164, h1]
      · have hp := hA.ho k hk
        have hpI := hp.I
        by_cases h2 : G 34 (G 8 k).toNatClampNeg < 2 * (am_co (G 16 (6 * k)) - G 12 k)
        · have h2' : ¬ 2 * (am_co (G 16 (6 * k)) - G 12 k) ≤ G 34 (G 8 k).toNatClampNeg := Int32.not_le.mpr h2
          refine ac_thr hW hN hA 1 (w := 2) rfl (E := 1) (v := some (.int 0)) rfl ⟨_, rfl⟩ ?_ (fun h => ?_)
          · simp only [am_e117_0, am_e117_5, am_e117_10, am_e117_20, am_e117_16, am_e117_24, am_e117_31, am_e117_35, am_e117_61, am_e117_43, am_e117_65, am_e117_47, am_e117_69, am_e117_50, am_e117_78, am_e117_57, am_e117_83, am_e117_89, aw_gU0, aw_pU0, aw_gU1, aw_gU2, aw_pU2, aw_gU3, aw_pU3, aw_gU4, aw_pU4, aw_gU5, aw_pU5, aw_gU6, aw_pU6, aw_gU7, aw_pU7, aw_gC1, aw_gC2, aw_pC2, aw_gC3, aw_pC3, aw_gC4, aw_pC4, aw_gC5, aw_pC5, aw_gC6, aw_pC6, aw_gC7, aw_pC7, aw_gC9, aw_pC9, aw_gC0, aw_gC8, aw_gC10, aw_pC10, aw_gC11, aw_pC11, aw_gC12, aw_pC12, aw_gC13, aw_pC13, aw_gC14, aw_pC14, aw_gC15, aw_pC15, aw_gC16, aw_pC16, aw_gT0, aw_gT1, aw_gT2, aw_gT3, aw_gT4, aw_pT4, aw_gT5, aw_pT5, aw_gT6, aw_pT6, aw_gO0, aw_gO1, aw_gO2, aw_gO3, aw_gO4, aw_gO5, aw_gO6, aw_gP1, aw_pP1, aw_gP2, aw_pP2, aw_gP3, aw_pP3, aw_gP4, aw_pP4, aw_gP5, aw_pP5, aw_gP6, aw_pP6, aw_gP0, aw_gP7, aw_isU, aw_isC, aw_isT, aw_isO, aw_isP, aw_isF12, aw_gF12_0, aw_gF12_1, aw_gF12_2, aw_gF12_3, aw_gF12_4, aw_isF13, aw_gF13_0, aw_gF13_1, aw_gF13_2, aw_gF13_3, aw_gF13_4, aw_gF13_5, aw_gF13_6, aw_gF13_7, aw_isF14, aw_gF14_0, aw_gF14_1, aw_gF14_2, aw_isF18, aw_gF18_0, aw_gF18_1, aw_isF19, aw_gF19_0, aw_gF19_1, aw_gF19_2, aw_isF21, aw_gF21_0, aw_gF21_1, aw_gF21_2, aw_isF22, aw_gF22_0, aw_gF22_1, aw_gF22_2, aw_isF23, aw_gF23_0, aw_gF23_1, aw_gF23_2, aw_isF34, aw_gF34_0, aw_gF34_1, aw_gF34_2, aw_gF34_3, aw_gF34_4, aw_gF34_5, aw_isF38, aw_gF38_0, aw_isF39, aw_gF39_0, aw_pF12_4, aw_pF13_6, aw_pF13_7, aw_pF34_4, aw_pF34_5, am_bk, am_pu1, am_pu0, Option.bind_some, eq_self, am_nli, am_nlr, am_nln, am_nlu, if_true, if_false, not_true_eq_false, not_false_eq_true, am_10, am_01, am_bkx, Nat.reduceLT, mc142_0, mc142_1, mc143_0, mc143_1, mc144_0, mc144_1, mc145, mc146, am_b0, am_b1, am_npp, am_b01, am_20, am_30, and_self, and_true, true_and, and_false, false_and, Int32.le_refl, Int32.lt_irrefl, am_bi, m138g, hV, hK, m11g, hm1, m147, h1, hp, h2]
          · simp only [am_e197_0, am_e197_5, am_e197_41, am_e197_10, am_e197_52, am_e197_48, am_e197_14, am_e197_73, am_e197_56, am_e197_81, am_e197_16, am_e197_60, am_e197_86, am_e197_84, am_e197_19, am_e197_64, am_e197_90, am_e197_23, am_e197_66, am_e197_94, am_e197_28, am_e197_67, am_e197_96, am_e197_31, am_e197_77, am_e197_98, am_e197_35, am_e197_103, am_e197_37, am_e197_107, am_e197_113, am_e197_115, am_e197_121, am_e197_126, am_e197_130, am_e197_133, am_e197_136, am_gM0, am_pM0, am_gM1, am_pM1, am_gM2, am_lM2, am_sM2, am_gM3, am_lM3, am_sM3, am_gM4, am_lM4, am_sM4, am_gM5, am_lM5, am_sM5, am_gM6, am_pM6, am_gM7, am_lM7, am_sM7, am_gM8, am_lM8, am_sM8, am_gM9, am_lM9, am_sM9, am_gM10, am_lM10, am_sM10, am_gM11, am_lM11, am_sM11, am_gM12, am_lM12, am_sM12, am_gM13, am_lM13, am_sM13, am_gM14, am_lM14, am_sM14, am_gM15, am_lM15, am_sM15, am_gM16, am_lM16, am_sM16, am_gM17, am_lM17, am_sM17, am_gM18, am_lM18, am_sM18, am_gM19, am_pM19, am_gM20, am_lM20, am_sM20, am_gM21, am_lM21, am_sM21, am_gM22, am_lM22, am_sM22, am_gM23, am_lM23, am_sM23, am_gM24, am_pM24, am_gM25, am_pM25, am_gM26, am_lM26, am_sM26, am_gM27, am_lM27, am_sM27, am_gM28, am_lM28, am_sM28, am_gM29, am_lM29, am_sM29, am_gM30, am_lM30, am_sM30, am_gM31, am_lM31, am_sM31, am_gM32, am_lM32, am_sM32, am_gM33, am_lM33, am_sM33, am_gM34, am_lM34, am_sM34, am_gM35, am_lM35, am_sM35, am_gM36, am_lM36, am_sM36, am_gM37, am_lM37, am_sM37, am_gM38, am_lM38, am_sM38, am_gM39, am_lM39, am_sM39, am_gM40, am_lM40, am_sM40, am_gM41, am_lM41, am_sM41, am_gM42, am_lM42, am_sM42, am_gM43, am_lM43, am_sM43, am_gM44, am_lM44, am_sM44, am_gM45, am_pM45, am_gM46, am_lM46, am_sM46, am_gM47, am_lM47, am_sM47, am_gM48, am_lM48, am_sM48, am_gM49, am_lM49, am_sM49, am_gM50, am_lM50, am_sM50, am_gM51, am_lM51, am_sM51, am_gM52, am_lM52, am_sM52, am_isM, am_bk, am_pu1, am_pu0, Option.bind_some, eq_self, am_nli, am_nlr, am_nln, am_nlu, if_true, if_false, not_true_eq_false, not_false_eq_true, am_10, am_01, mr153, mr154, mr155, mr156, mr157, am_b0, am_b1, am_npp, am_b01, am_20, am_30, am_isM, and_self, and_true, true_and, and_false, false_and, Int32.le_refl, Int32.lt_irrefl, am_bi, am_up_eq, am_up_ne, am_upd_eq, Nat.reduceEqDiff, m158, hkI, hkJ, q1, c0, a1, a2, a3, mr164, h1, hpI, h2']
        · have h2' : 2 * (am_co (G 16 (6 * k)) - G 12 k) ≤ G 34 (G 8 k).toNatClampNeg := Int32.not_lt.mp h2
          obtain ⟨d1, d2, d3⟩ := am_ix8j hp (j := 7) (by decide)
          have d1 : (8 : Int32) * G 8 k + 7 = Int32.ofNat (8 * (G 8 k).toNatClampNeg + 7) := d1
          have hA0 := hA.g0 (v := 0)
          obtain ⟨X, hX⟩ : ∃ X, X = am_up G 0 0 0 := ⟨_, rfl⟩
          have r0 : ∀ f, ¬ f = 0 → X f = G f := fun f hf => by rw [hX, am_up_ne hf]
          have m138x := m138 X (by rw [hX]; exact hW.W0) hk (by rw [r0 7 (by decide)]; exact h7)
          have m11x := m11 X
          rw [r0 17 (by decide), r0 16 (by decide), q1, if_neg c0] at m11x
          have m147x := mc147_7 (K := K) (A := A) (G := X) (Q := Q) (M := M) (r := r) hV hS hfi
          have m59 := mc59 (A := A) (G := X) (Q := Q) (M := M) (r := r) (i := 7) (v := 2 * (am_co (G 16 (6 * k)) - G 12 k)) hV hp ⟨by decide, by decide⟩
          have m59 : am_exec 59 0 [.ref (aw_pa (G 8 k)), .int 7, .int (2 * (am_co (G 16 (6 * k)) - G 12 k))] [] (aw_H K A X Q M r) = some (.inl none, aw_H K A (am_gv' X (G 8 k).toNatClampNeg 7 (2 * (am_co (G 16 (6 * k)) - G 12 k))) Q M r) := m59
          obtain ⟨Y, hY⟩ : ∃ Y, Y = am_up (am_gv' X (G 8 k).toNatClampNeg 7 (2 * (am_co (G 16 (6 * k)) - G 12 k))) 12 k (G 12 k + (am_co (G 16 (6 * k)) - G 12 k)) := ⟨_, rfl⟩
          have e : ∀ f, ¬ f = 12 ∧ ¬ f = 34 ∧ ¬ f = 40 → Y f = X f := fun f hf => by
            rw [hY, am_up_ne hf.1]
            unfold am_gv'
            rw [am_up_ne hf.2.2, am_up_ne hf.2.1]
          have g12 : am_gv' X (G 8 k).toNatClampNeg 7 (2 * (am_co (G 16 (6 * k)) - G 12 k)) 12 = G 12 := by
            unfold am_gv'
            rw [am_up_ne (by decide), am_up_ne (by decide), r0 12 (by decide)]
          have g8 : am_gv' X (G 8 k).toNatClampNeg 7 (2 * (am_co (G 16 (6 * k)) - G 12 k)) 8 = G 8 := by
            unfold am_gv'
            rw [am_up_ne (by decide), am_up_ne (by decide), r0 8 (by decide)]
          rw [← hX] at hA0
          refine ac_w1 hW hN Y (v := some (.int (2 * (am_co (G 16 (6 * k)) - G 12 k)))) ⟨_, rfl⟩ ?_ (fun h => ?_) (fun f hf => by rw [← hX]; exact e f (by omega)) ?_
          · rw [← hX, hY]
            simp only [am_e117_0, am_e117_5, am_e117_10, am_e117_20, am_e117_16, am_e117_24, am_e117_31, am_e117_35, am_e117_61, am_e117_43, am_e117_65, am_e117_47, am_e117_69, am_e117_50, am_e117_78, am_e117_57, am_e117_83, am_e117_89, aw_gU0, aw_pU0, aw_gU1, aw_gU2, aw_pU2, aw_gU3, aw_pU3, aw_gU4, aw_pU4, aw_gU5, aw_pU5, aw_gU6, aw_pU6, aw_gU7, aw_pU7, aw_gC1, aw_gC2, aw_pC2, aw_gC3, aw_pC3, aw_gC4, aw_pC4, aw_gC5, aw_pC5, aw_gC6, aw_pC6, aw_gC7, aw_pC7, aw_gC9, aw_pC9, aw_gC0, aw_gC8, aw_gC10, aw_pC10, aw_gC11, aw_pC11, aw_gC12, aw_pC12, aw_gC13, aw_pC13, aw_gC14, aw_pC14, aw_gC15, aw_pC15, aw_gC16, aw_pC16, aw_gT0, aw_gT1, aw_gT2, aw_gT3, aw_gT4, aw_pT4, aw_gT5, aw_pT5, aw_gT6, aw_pT6, aw_gO0, aw_gO1, aw_gO2, aw_gO3, aw_gO4, aw_gO5, aw_gO6, aw_gP1, aw_pP1, aw_gP2, aw_pP2, aw_gP3, aw_pP3, aw_gP4, aw_pP4, aw_gP5, aw_pP5, aw_gP6, aw_pP6, aw_gP0, aw_gP7, aw_isU, aw_isC, aw_isT, aw_isO, aw_isP, aw_isF12, aw_gF12_0, aw_gF12_1, aw_gF12_2, aw_gF12_3, aw_gF12_4, aw_isF13, aw_gF13_0, aw_gF13_1, aw_gF13_2, aw_gF13_3, aw_gF13_4, aw_gF13_5, aw_gF13_6, aw_gF13_7, aw_isF14, aw_gF14_0, aw_gF14_1, aw_gF14_2, aw_isF18, aw_gF18_0, aw_gF18_1, aw_isF19, aw_gF19_0, aw_gF19_1, aw_gF19_2, aw_isF21, aw_gF21_0, aw_gF21_1, aw_gF21_2, aw_isF22, aw_gF22_0, aw_gF22_1, aw_gF22_2, aw_isF23, aw_gF23_0, aw_gF23_1, aw_gF23_2, aw_isF34, aw_gF34_0, aw_gF34_1, aw_gF34_2, aw_gF34_3, aw_gF34_4, aw_gF34_5, aw_isF38, aw_gF38_0, aw_isF39, aw_gF39_0, aw_pF12_4, aw_pF13_6, aw_pF13_7, aw_pF34_4, aw_pF34_5, am_bk, am_pu1, am_pu0, Option.bind_some, eq_self, am_nli, am_nlr, am_nln, am_nlu, if_true, if_false, not_true_eq_false, not_false_eq_true, am_10, am_01, am_bkx, Nat.reduceLT, mc142_0, mc142_1, mc143_0, mc143_1, mc144_0, mc144_1, mc145, mc146, am_b0, am_b1, am_npp, am_b01, am_20, am_30, and_self, and_true, true_and, and_false, false_and, Int32.le_refl, Int32.lt_irrefl, am_bi, m138x, hV, hK, m11x, hm1, m147x, r0 12 (by decide), r0 8 (by decide), r0 34 (by decide), h1, hp, h2, m59, g12]
          · rw [hY, hX]
            unfold am_gv'
            simp only [am_e197_0, am_e197_5, am_e197_41, am_e197_10, am_e197_52, am_e197_48, am_e197_14, am_e197_73, am_e197_56, am_e197_81, am_e197_16, am_e197_60, am_e197_86, am_e197_84, am_e197_19, am_e197_64, am_e197_90, am_e197_23, am_e197_66, am_e197_94, am_e197_28, am_e197_67, am_e197_96, am_e197_31, am_e197_77, am_e197_98, am_e197_35, am_e197_103, am_e197_37, am_e197_107, am_e197_113, am_e197_115, am_e197_121, am_e197_126, am_e197_130, am_e197_133, am_e197_136, am_gM0, am_pM0, am_gM1, am_pM1, am_gM2, am_lM2, am_sM2, am_gM3, am_lM3, am_sM3, am_gM4, am_lM4, am_sM4, am_gM5, am_lM5, am_sM5, am_gM6, am_pM6, am_gM7, am_lM7, am_sM7, am_gM8, am_lM8, am_sM8, am_gM9, am_lM9, am_sM9, am_gM10, am_lM10, am_sM10, am_gM11, am_lM11, am_sM11, am_gM12, am_lM12, am_sM12, am_gM13, am_lM13, am_sM13, am_gM14, am_lM14, am_sM14, am_gM15, am_lM15, am_sM15, am_gM16, am_lM16, am_sM16, am_gM17, am_lM17, am_sM17, am_gM18, am_lM18, am_sM18, am_gM19, am_pM19, am_gM20, am_lM20, am_sM20, am_gM21, am_lM21, am_sM21, am_gM22, am_lM22, am_sM22, am_gM23, am_lM23, am_sM23, am_gM24, am_pM24, am_gM25, am_pM25, am_gM26, am_lM26, am_sM26, am_gM27, am_lM27, am_sM27, am_gM28, am_lM28, am_sM28, am_gM29, am_lM29, am_sM29, am_gM30, am_lM30, am_sM30, am_gM31, am_lM31, am_sM31, am_gM32, am_lM32, am_sM32, am_gM33, am_lM33, am_sM33, am_gM34, am_lM34, am_sM34, am_gM35, am_lM35, am_sM35, am_gM36, am_lM36, am_sM36, am_gM37, am_lM37, am_sM37, am_gM38, am_lM38, am_sM38, am_gM39, am_lM39, am_sM39, am_gM40, am_lM40, am_sM40, am_gM41, am_lM41, am_sM41, am_gM42, am_lM42, am_sM42, am_gM43, am_lM43, am_sM43, am_gM44, am_lM44, am_sM44, am_gM45, am_pM45, am_gM46, am_lM46, am_sM46, am_gM47, am_lM47, am_sM47, am_gM48, am_lM48, am_sM48, am_gM49, am_lM49, am_sM49, am_gM50, am_lM50, am_sM50, am_gM51, am_lM51, am_sM51, am_gM52, am_lM52, am_sM52, am_isM, am_bk, am_pu1, am_pu0, Option.bind_some, eq_self, am_nli, am_nlr, am_nln, am_nlu, if_true, if_false, not_true_eq_false, not_false_eq_true, am_10, am_01, mr153, mr154, mr155, mr156, mr157, am_b0, am_b1, am_npp, am_b01, am_20, am_30, am_isM, and_self, and_true, true_and, and_false, false_and, Int32.le_refl, Int32.lt_irrefl, am_bi, am_up_eq, am_up_ne, am_upd_eq, Nat.reduceEqDiff, m158, hkI, hkJ, q1, c0, a1, a2, a3, mr164, h1, hpI, h2', d1, d2, d3]
          · obtain ⟨a, x1, x2⟩ := am_co24 hfi
            obtain ⟨w, w1, w2⟩ := hA.k k hk
            rw [x2, w1] at h1 h2'
            have hwa := am_sub_pos (by omega) (by omega) h1
            rw [← Int32.ofNat_sub _ _ (by omega)] at h2'
            obtain ⟨p, p1, p2⟩ := hA.g.at hpI.2
            rw [p2, show (2 : Int32) = Int32.ofNat 2 from rfl, ← Int32.ofNat_mul, am_leN (by omega) (by omega)] at h2'
            have y12 : Y 12 = am_upd (X 12) k (Int32.ofNat a) := by
              rw [hY, am_up_eq, g12, x2, w1, ← Int32.ofNat_sub _ _ (by omega), ← Int32.ofNat_add, show w + (a - w) = a by omega, r0 12 (by decide)]
            have y34 : Y 34 = am_upd (X 34) (G 8 k).toNatClampNeg (Int32.ofNat (p - 2 * (a - w))) := by
              rw [hY, am_up_ne (by decide)]
              unfold am_gv'
              rw [am_up_ne (by decide), am_up_eq, r0 34 (by decide), p2, x2, w1, ← Int32.ofNat_sub _ _ (by omega), show (2 : Int32) = Int32.ofNat 2 from rfl, ← Int32.ofNat_mul, ← Int32.ofNat_sub _ _ h2']
            refine ⟨hA0.t.cg (e 1 (by decide)), hA0.l.cg (e 2 (by decide)), hA0.b.cg (e 4 (by decide)), hA0.a.up (e 5 (by decide)) (e 7 (by decide)) (e 9 (by decide)), hA0.c.cg (e 7 (by decide)) (e 8 (by decide)) (e 9 (by decide)) (e 14 (by decide)), hA0.w.cg (e 15 (by decide)), hA0.s.cg (e 7 (by decide)) (e 10 (by decide)), hA0.q.cg (e 16 (by decide)) (e 17 (by decide)), ?_, ?_, hA0.v.ne (e 27 (by decide)) (e 28 (by decide)) (e 29 (by decide)) (e 30 (by decide)), hA0.u.cg (e 7 (by decide)) (e 8 (by decide)) (e 9 (by decide)) (e 27 (by decide)) (e 29 (by decide)), hA0.m.cg (e 25 (by decide)) (e 26 (by decide)), hA0.j.cg (e 28 (by decide)) (e 32 (by decide)) (e 33 (by decide)), ?_, hA0.p.cg (e 36 (by decide)) (e 37 (by decide)) (e 39 (by decide)), hA0.d.cg (e 41 (by decide)), hA0.o.cg (e 42 (by decide)) (e 43 (by decide)) (e 44 (by decide)), hA0.e.ne (e 47 (by decide)) (e 48 (by decide)) (e 49 (by decide)) (e 50 (by decide)) (e 51 (by decide)), hA0.r.cg (e 46 (by decide)) (e 50 (by decide)) (e 52 (by decide))⟩
            · intro d hd
              rw [y12]
              by_cases ed : d = k
              · rw [ed, am_upd_eq]
                exact ⟨a, rfl, by omega⟩
              · rw [am_upd_ne ed]
                obtain ⟨v, v1, v2⟩ := hA0.k d hd
                exact ⟨v, v1, by omega⟩
            · intro d hd
              obtain ⟨z1, z2⟩ := hA0.z d hd
              unfold aw_Z at z1 ⊢
              rw [e 7 (by decide), e 11 (by decide), e 14 (by decide), e 16 (by decide), e 17 (by decide), y12, am_upd_ne (by omega)]
              exact ⟨z1, z2⟩
            · have hdec := (hA0.g.dec (by omega) hpI.2 (x := p - 2 * (a - w)) (by rw [r0 34 (by decide), p2, am_tcN (by omega)]; omega)).mono (show 4000 * i ≤ 4000 * (i + 1) by omega)
              exact hdec.ne (by rw [y34, am_up_eq])
  · have m138 := mc138_0 (Q := Q) (M := M) (r := r) hW h0
    have m158 := fun h => mr158_0 (L := L) (r := h) hW hA h0'
    refine ac_thr hW hN hA 0 (w := 1) rfl (E := 2) (v := some (.int 0)) rfl ⟨_, rfl⟩ ?_ (fun h => ?_)
    · simp only [am_e117_0, am_e117_5, am_e117_10, am_e117_20, am_e117_16, am_e117_24, am_e117_31, am_e117_35, am_e117_61, am_e117_43, am_e117_65, am_e117_47, am_e117_69, am_e117_50, am_e117_78, am_e117_57, am_e117_83, am_e117_89, aw_gU0, aw_pU0, aw_gU1, aw_gU2, aw_pU2, aw_gU3, aw_pU3, aw_gU4, aw_pU4, aw_gU5, aw_pU5, aw_gU6, aw_pU6, aw_gU7, aw_pU7, aw_gC1, aw_gC2, aw_pC2, aw_gC3, aw_pC3, aw_gC4, aw_pC4, aw_gC5, aw_pC5, aw_gC6, aw_pC6, aw_gC7, aw_pC7, aw_gC9, aw_pC9, aw_gC0, aw_gC8, aw_gC10, aw_pC10, aw_gC11, aw_pC11, aw_gC12, aw_pC12, aw_gC13, aw_pC13, aw_gC14, aw_pC14, aw_gC15, aw_pC15, aw_gC16, aw_pC16, aw_gT0, aw_gT1, aw_gT2, aw_gT3, aw_gT4, aw_pT4, aw_gT5, aw_pT5, aw_gT6, aw_pT6, aw_gO0, aw_gO1, aw_gO2, aw_gO3, aw_gO4, aw_gO5, aw_gO6, aw_gP1, aw_pP1, aw_gP2, aw_pP2, aw_gP3, aw_pP3, aw_gP4, aw_pP4, aw_gP5, aw_pP5, aw_gP6, aw_pP6, aw_gP0, aw_gP7, aw_isU, aw_isC, aw_isT, aw_isO, aw_isP, aw_isF12, aw_gF12_0, aw_gF12_1, aw_gF12_2, aw_gF12_3, aw_gF12_4, aw_isF13, aw_gF13_0, aw_gF13_1, aw_gF13_2, aw_gF13_3, aw_gF13_4, aw_gF13_5, aw_gF13_6, aw_gF13_7, aw_isF14, aw_gF14_0, aw_gF14_1, aw_gF14_2, aw_isF18, aw_gF18_0, aw_gF18_1, aw_isF19, aw_gF19_0, aw_gF19_1, aw_gF19_2, aw_isF21, aw_gF21_0, aw_gF21_1, aw_gF21_2, aw_isF22, aw_gF22_0, aw_gF22_1, aw_gF22_2, aw_isF23, aw_gF23_0, aw_gF23_1, aw_gF23_2, aw_isF34, aw_gF34_0, aw_gF34_1, aw_gF34_2, aw_gF34_3, aw_gF34_4, aw_gF34_5, aw_isF38, aw_gF38_0, aw_isF39, aw_gF39_0, aw_pF12_4, aw_pF13_6, aw_pF13_7, aw_pF34_4, aw_pF34_5, am_bk, am_pu1, am_pu0, Option.bind_some, eq_self, am_nli, am_nlr, am_nln, am_nlu, if_true, if_false, not_true_eq_false, not_false_eq_true, am_10, am_01, am_bkx, Nat.reduceLT, mc142_0, mc142_1, mc143_0, mc143_1, mc144_0, mc144_1, mc145, mc146, am_b0, am_b1, am_npp, am_b01, am_20, am_30, and_self, and_true, true_and, and_false, false_and, Int32.le_refl, Int32.lt_irrefl, am_bi, m138]
    · simp only [am_e197_0, am_e197_5, am_e197_41, am_e197_10, am_e197_52, am_e197_48, am_e197_14, am_e197_73, am_e197_56, am_e197_81, am_e197_16, am_e197_60, am_e197_86, am_e197_84, am_e197_19, am_e197_64, am_e197_90, am_e197_23, am_e197_66, am_e197_94, am_e197_28, am_e197_67, am_e197_96, am_e197_31, am_e197_77, am_e197_98, am_e197_35, am_e197_103, am_e197_37, am_e197_107, am_e197_113, am_e197_115, am_e197_121, am_e197_126, am_e197_130, am_e197_133, am_e197_136, am_gM0, am_pM0, am_gM1, am_pM1, am_gM2, am_lM2, am_sM2, am_gM3, am_lM3, am_sM3, am_gM4, am_lM4, am_sM4, am_gM5, am_lM5, am_sM5, am_gM6, am_pM6, am_gM7, am_lM7, am_sM7, am_gM8, am_lM8, am_sM8, am_gM9, am_lM9, am_sM9, am_gM10, am_lM10, am_sM10, am_gM11, am_lM11, am_sM11, am_gM12, am_lM12, am_sM12, am_gM13, am_lM13, am_sM13, am_gM14, am_lM14, am_sM14, am_gM15, am_lM15, am_sM15, am_gM16, am_lM16, am_sM16, am_gM17, am_lM17, am_sM17, am_gM18, am_lM18, am_sM18, am_gM19, am_pM19, am_gM20, am_lM20, am_sM20, am_gM21, am_lM21, am_sM21, am_gM22, am_lM22, am_sM22, am_gM23, am_lM23, am_sM23, am_gM24, am_pM24, am_gM25, am_pM25, am_gM26, am_lM26, am_sM26, am_gM27, am_lM27, am_sM27, am_gM28, am_lM28, am_sM28, am_gM29, am_lM29, am_sM29, am_gM30, am_lM30, am_sM30, am_gM31, am_lM31, am_sM31, am_gM32, am_lM32, am_sM32, am_gM33, am_lM33, am_sM33, am_gM34, am_lM34, am_sM34, am_gM35, am_lM35, am_sM35, am_gM36, am_lM36, am_sM36, am_gM37, am_lM37, am_sM37, am_gM38, am_lM38, am_sM38, am_gM39, am_lM39, am_sM39, am_gM40, am_lM40, am_sM40, am_gM41, am_lM41, am_sM41, am_gM42, am_lM42, am_sM42, am_gM43, am_lM43, am_sM43, am_gM44, am_lM44, am_sM44, am_gM45, am_pM45, am_gM46, am_lM46, am_sM46, am_gM47, am_lM47, am_sM47, am_gM48, am_lM48, am_sM48, am_gM49, am_lM49, am_sM49, am_gM50, am_lM50, am_sM50, am_gM51, am_lM51, am_sM51, am_gM52, am_lM52, am_sM52, am_isM, am_bk, am_pu1, am_pu0, Option.bind_some, eq_self, am_nli, am_nlr, am_nln, am_nlu, if_true, if_false, not_true_eq_false, not_false_eq_true, am_10, am_01, mr153, mr154, mr155, mr156, mr157, am_b0, am_b1, am_npp, am_b01, am_20, am_30, am_isM, and_self, and_true, true_and, and_false, false_and, Int32.le_refl, Int32.lt_irrefl, am_bi, m158]
end
