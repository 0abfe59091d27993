/-! THE CITIES' TURN: the loops -/
/-- what a city gets from its tiles -/
def as_yf (G : am_G) (l : Int64) (c : Nat) : Int32 := am_all (fun k => am_fd (G 2 k) (G 3 k)) l (am_mx (am_fd (G 2 (G 9 c).toNatClampNeg) (G 3 (G 9 c).toNatClampNeg)) 2)
def as_yw (G : am_G) (l : Int64) (c : Nat) : Int32 := am_all (fun k => am_wk (G 2 k) (G 3 k)) l (am_mx (am_wk (G 2 (G 9 c).toNatClampNeg) (G 3 (G 9 c).toNatClampNeg)) 1)
def as_yt (G : am_G) (l : Int64) (c : Nat) : Int32 := am_all (fun k => am_td (G 2 k)) l (am_mx (am_td (G 2 (G 9 c).toNatClampNeg)) 1)
/-- the turns of the cities of a list -/
def as_cyl (f w t : Nat → Int32) (l : List Nat) (s : am_G × Nat) : am_G × Nat := l.foldl (fun s c => as_cy (f c) (w c) (t c) c s) s
theorem as_cyl_ne {f w t : Nat → Int32} {x : Nat} (h : ¬ x = 10 ∧ ¬ x = 11 ∧ ¬ x = 12 ∧ ¬ x = 13 ∧ ¬ x = 14 ∧ ¬ x = 16 ∧ ¬ x = 17 ∧ ¬ (24 ≤ x ∧ x ≤ 35) ∧ ¬ x = 40) : ∀ (l : List Nat) (s : am_G × Nat), (as_cyl f w t l s).1 x = s.1 x
  | [], _ => rfl
  | c :: l, s => by
    show (as_cyl f w t l (as_cy (f c) (w c) (t c) c s)).1 x = _
    rw [as_cyl_ne h l, as_cy_ne h]
theorem as_cyl_n {f w t : Nat → Int32} : ∀ (l : List Nat) (s : am_G × Nat), s.1 24 0 = Int32.ofNat s.2 → s.2 ≤ 40 → (as_cyl f w t l s).1 24 0 = Int32.ofNat (as_cyl f w t l s).2 ∧ (as_cyl f w t l s).2 ≤ 40
  | [], _, h1, h2 => ⟨h1, h2⟩
  | c :: l, s, h1, h2 => by
    have := as_cy_n (x := f c) (w := w c) (t := t c) (c := c) h1 h2
    exact as_cyl_n l _ this.1 this.2
section
variable {L : Nat → Int64} {r : am_H} {F : Nat} {G0 : am_G}
theorem mr236_11 (hF2 : F ≤ 12) (hF : G0 6 0 = Int32.ofNat F) (hb : ∀ c, c < F → G0 7 c = 0 ∨ G0 7 c = 1) : ∀ (m k : Nat) (s : am_G × Nat), k + m = F → (∀ x, x = 2 ∨ x = 3 ∨ x = 6 ∨ x = 7 ∨ x = 9 → s.1 x = G0 x) → s.1 24 0 = Int32.ofNat s.2 → s.2 ≤ 40 → (∀ c, k ≤ c → c < F → G0 7 c = 1 → aw_IC s.1 c) → am_exec 236 11 [.ref 40, .int (Int32.ofNat k), am_U, am_U] [] (am_ov s.1 L r) = am_exec 236 77 [.ref 40, .int (Int32.ofNat F), am_U, am_U] [] (am_ov (as_cyl (fun c => as_yf G0 (L c) c) (fun c => as_yw G0 (L c) c) (fun c => as_yt G0 (L c) c) ((List.range' k m).filter fun c => decide (G0 7 c = 1)) s).1 L r)
  | 0, k, s, hk, hx, _, _, _ => by
    have h6 : s.1 6 0 = Int32.ofNat F := by rw [hx 6 (by decide)]; exact hF
    show am_exec 236 11 _ _ _ = am_exec 236 77 _ _ (am_ov s.1 L r)
    rw [show k = F by omega, am_e236_11]
    simp only [am_e236_0, am_e236_5, am_e236_16, am_e236_100, am_e236_84, am_e236_129, am_e236_112, am_e236_9, am_e236_19, am_e236_104, am_e236_89, am_e236_133, am_e236_116, am_e236_23, am_e236_94, am_e236_138, am_e236_122, am_e236_25, am_e236_143, am_e236_123, am_e236_71, am_e236_28, am_e236_147, am_e236_33, am_e236_39, am_e236_47, am_e236_50, am_e236_54, am_e236_57, am_e236_60, am_e236_65, am_gM0, am_pM0, am_gM1, am_pM1, am_gM2, am_lM2, am_sM2, am_gM3, am_lM3, am_sM3, am_gM4, am_lM4, am_sM4, am_gM5, am_lM5, am_sM5, am_gM6, am_pM6, am_gM7, am_lM7, am_sM7, am_gM8, am_lM8, am_sM8, am_gM9, am_lM9, am_sM9, am_gM10, am_lM10, am_sM10, am_gM11, am_lM11, am_sM11, am_gM12, am_lM12, am_sM12, am_gM13, am_lM13, am_sM13, am_gM14, am_lM14, am_sM14, am_gM15, am_lM15, am_sM15, am_gM16, am_lM16, am_sM16, am_gM17, am_lM17, am_sM17, am_gM18, am_lM18, am_sM18, am_gM19, am_pM19, am_gM20, am_lM20, am_sM20, am_gM21, am_lM21, am_sM21, am_gM22, am_lM22, am_sM22, am_gM23, am_lM23, am_sM23, am_gM24, am_pM24, am_gM25, am_pM25, am_gM26, am_lM26, am_sM26, am_gM27, am_lM27, am_sM27, am_gM28, am_lM28, am_sM28, am_gM29, am_lM29, am_sM29, am_gM30, am_lM30, am_sM30, am_gM31, am_lM31, am_sM31, am_gM32, am_lM32, am_sM32, am_gM33, am_lM33, am_sM33, am_gM34, am_lM34, am_sM34, am_gM35, am_lM35, am_sM35, am_gM36, am_lM36, am_sM36, am_gM37, am_lM37, am_sM37, am_gM38, am_lM38, am_sM38, am_gM39, am_lM39, am_sM39, am_gM40, am_lM40, am_sM40, am_gM41, am_lM41, am_sM41, am_gM42, am_lM42, am_sM42, am_gM43, am_lM43, am_sM43, am_gM44, am_lM44, am_sM44, am_gM45, am_pM45, am_gM46, am_lM46, am_sM46, am_gM47, am_lM47, am_sM47, am_gM48, am_lM48, am_sM48, am_gM49, am_lM49, am_sM49, am_gM50, am_lM50, am_sM50, am_gM51, am_lM51, am_sM51, am_gM52, am_lM52, am_sM52, am_isM, am_bk, am_pu1, am_pu0, Option.bind_some, eq_self, am_nli, am_nlr, am_nln, am_nlu, if_true, if_false, not_true_eq_false, not_false_eq_true, am_10, am_01, h6, Int32.le_refl]
  | m + 1, k, s, hk, hx, hn, hn2, hC => by
    have h6 : s.1 6 0 = Int32.ofNat F := by rw [hx 6 (by decide)]; exact hF
    have c0 : ¬ Int32.ofNat F ≤ Int32.ofNat k := am_lit F k (by omega) (by omega)
    have hI : am_I (Int32.ofNat k) 12 := am_Ik (by omega) (by decide)
    have hJ := am_tcn (show k ≤ 100000 by omega)
    have h7 : s.1 7 k = G0 7 k := by rw [hx 7 (by decide)]
    rw [List.range'_succ, List.filter_cons]
    by_cases h : G0 7 k = 1
    · rw [if_pos (decide_eq_true h)]
      have hIC := hC k (Nat.le_refl _) (by omega) h
      obtain ⟨i1, i2, -, q, q1, q2, -⟩ := hIC
      have n7 : ¬ s.1 7 k = 0 := by rw [h7, h]; decide
      have ih := mr236_11 hF2 hF hb m (k + 1) (as_cy (as_yf G0 (L k) k) (as_yw G0 (L k) k) (as_yt G0 (L k) k) k s) (by omega) (fun x hx' => by rw [as_cy_ne (by omega), hx x hx']) (as_cy_n hn hn2).1 (as_cy_n hn hn2).2 (fun c h1 h2 h3 => as_cy_IC (by omega) (hC k (Nat.le_refl _) (by omega) h) (hC c (by omega) h2 h3))
      have m182 := mr182 (G := s.1) (L := L) (r := r) hI (by rw [hJ]; exact i2)
      have m183 := mr183 (G := s.1) (L := L) (r := r) hI (by rw [hJ]; exact i2)
      have m184 := mr184 (G := s.1) (L := L) (r := r) hI (by rw [hJ]; exact i2)
      rw [hJ, hx 2 (by decide), hx 3 (by decide), hx 9 (by decide)] at m182 m183
      rw [hJ, hx 2 (by decide), hx 9 (by decide)] at m184
      have m182 : am_exec 182 0 [.ref 40, .int (Int32.ofNat k), am_U, am_U] [] (am_ov s.1 L r) = some (.inl (some (.int (as_yf G0 (L k) k))), am_ov s.1 L r) := m182
      have m183 : am_exec 183 0 [.ref 40, .int (Int32.ofNat k), am_U, am_U] [] (am_ov s.1 L r) = some (.inl (some (.int (as_yw G0 (L k) k))), am_ov s.1 L r) := m183
      have m184 : am_exec 184 0 [.ref 40, .int (Int32.ofNat k), am_U, am_U] [] (am_ov s.1 L r) = some (.inl (some (.int (as_yt G0 (L k) k))), am_ov s.1 L r) := m184
      have m226 := mr226 (G := am_up (as_ea s.1 k (as_yf G0 (L k) k)) 12 k (as_ea s.1 k (as_yf G0 (L k) k) 12 k + as_yw G0 (L k) k)) (L := L) (r := r) (n := s.2) (c := k) (by rw [am_up_ne (by decide), as_ea_ne (by decide)]; exact hn) hn2 (by omega) (by rw [am_up_ne (by decide), as_ea_ne (by decide)]; exact i1) (q := q) (by rw [am_up_ne (by decide), as_ea_ne (by decide)]; exact q1) q2
      have m227 := mr227 (G := (as_bu (am_up (as_ea s.1 k (as_yf G0 (L k) k)) 12 k (as_ea s.1 k (as_yf G0 (L k) k) 12 k + as_yw G0 (L k) k)) s.2 k).1) (L := L) (r := r) (c := k) (t := as_yt G0 (L k) k) (by omega) (by rw [as_bu_ne (by decide), am_up_ne (by decide), as_ea_ne (by decide)]; exact i1)
      have m225 := mr225 (G := s.1) (L := L) (r := r) (c := k) (food := as_yf G0 (L k) k) (by omega)
      refine Eq.trans ?_ ih
      rw [am_e236_11]
      simp only [am_e236_0, am_e236_5, am_e236_16, am_e236_100, am_e236_84, am_e236_129, am_e236_112, am_e236_9, am_e236_19, am_e236_104, am_e236_89, am_e236_133, am_e236_116, am_e236_23, am_e236_94, am_e236_138, am_e236_122, am_e236_25, am_e236_143, am_e236_123, am_e236_71, am_e236_28, am_e236_147, am_e236_33, am_e236_39, am_e236_47, am_e236_50, am_e236_54, am_e236_57, am_e236_60, am_e236_65, am_gM0, am_pM0, am_gM1, am_pM1, am_gM2, am_lM2, am_sM2, am_gM3, am_lM3, am_sM3, am_gM4, am_lM4, am_sM4, am_gM5, am_lM5, am_sM5, am_gM6, am_pM6, am_gM7, am_lM7, am_sM7, am_gM8, am_lM8, am_sM8, am_gM9, am_lM9, am_sM9, am_gM10, am_lM10, am_sM10, am_gM11, am_lM11, am_sM11, am_gM12, am_lM12, am_sM12, am_gM13, am_lM13, am_sM13, am_gM14, am_lM14, am_sM14, am_gM15, am_lM15, am_sM15, am_gM16, am_lM16, am_sM16, am_gM17, am_lM17, am_sM17, am_gM18, am_lM18, am_sM18, am_gM19, am_pM19, am_gM20, am_lM20, am_sM20, am_gM21, am_lM21, am_sM21, am_gM22, am_lM22, am_sM22, am_gM23, am_lM23, am_sM23, am_gM24, am_pM24, am_gM25, am_pM25, am_gM26, am_lM26, am_sM26, am_gM27, am_lM27, am_sM27, am_gM28, am_lM28, am_sM28, am_gM29, am_lM29, am_sM29, am_gM30, am_lM30, am_sM30, am_gM31, am_lM31, am_sM31, am_gM32, am_lM32, am_sM32, am_gM33, am_lM33, am_sM33, am_gM34, am_lM34, am_sM34, am_gM35, am_lM35, am_sM35, am_gM36, am_lM36, am_sM36, am_gM37, am_lM37, am_sM37, am_gM38, am_lM38, am_sM38, am_gM39, am_lM39, am_sM39, am_gM40, am_lM40, am_sM40, am_gM41, am_lM41, am_sM41, am_gM42, am_lM42, am_sM42, am_gM43, am_lM43, am_sM43, am_gM44, am_lM44, am_sM44, am_gM45, am_pM45, am_gM46, am_lM46, am_sM46, am_gM47, am_lM47, am_sM47, am_gM48, am_lM48, am_sM48, am_gM49, am_lM49, am_sM49, am_gM50, am_lM50, am_sM50, am_gM51, am_lM51, am_sM51, am_gM52, am_lM52, am_sM52, am_isM, am_bk, am_pu1, am_pu0, Option.bind_some, eq_self, am_nli, am_nlr, am_nln, am_nlu, if_true, if_false, not_true_eq_false, not_false_eq_true, am_10, am_01, hI, hJ, h6, c0, n7, m182, m183, m184, m225, m226, m227, am_succ]
      rfl
    · rw [if_neg (fun z => h (of_decide_eq_true z))]
      have h0 : s.1 7 k = 0 := by
        rw [h7]
        exact (hb k (by omega)).resolve_right h
      have ih := mr236_11 hF2 hF hb m (k + 1) s (by omega) hx hn hn2 (fun c h1 h2 h3 => hC c (by omega) h2 h3)
      refine Eq.trans ?_ ih
      rw [am_e236_11]
      simp only [am_e236_0, am_e236_5, am_e236_16, am_e236_100, am_e236_84, am_e236_129, am_e236_112, am_e236_9, am_e236_19, am_e236_104, am_e236_89, am_e236_133, am_e236_116, am_e236_23, am_e236_94, am_e236_138, am_e236_122, am_e236_25, am_e236_143, am_e236_123, am_e236_71, am_e236_28, am_e236_147, am_e236_33, am_e236_39, am_e236_47, am_e236_50, am_e236_54, am_e236_57, am_e236_60, am_e236_65, am_gM0, am_pM0, am_gM1, am_pM1, am_gM2, am_lM2, am_sM2, am_gM3, am_lM3, am_sM3, am_gM4, am_lM4, am_sM4, am_gM5, am_lM5, am_sM5, am_gM6, am_pM6, am_gM7, am_lM7, am_sM7, am_gM8, am_lM8, am_sM8, am_gM9, am_lM9, am_sM9, am_gM10, am_lM10, am_sM10, am_gM11, am_lM11, am_sM11, am_gM12, am_lM12, am_sM12, am_gM13, am_lM13, am_sM13, am_gM14, am_lM14, am_sM14, am_gM15, am_lM15, am_sM15, am_gM16, am_lM16, am_sM16, am_gM17, am_lM17, am_sM17, am_gM18, am_lM18, am_sM18, am_gM19, am_pM19, am_gM20, am_lM20, am_sM20, am_gM21, am_lM21, am_sM21, am_gM22, am_lM22, am_sM22, am_gM23, am_lM23, am_sM23, am_gM24, am_pM24, am_gM25, am_pM25, am_gM26, am_lM26, am_sM26, am_gM27, am_lM27, am_sM27, am_gM28, am_lM28, am_sM28, am_gM29, am_lM29, am_sM29, am_gM30, am_lM30, am_sM30, am_gM31, am_lM31, am_sM31, am_gM32, am_lM32, am_sM32, am_gM33, am_lM33, am_sM33, am_gM34, am_lM34, am_sM34, am_gM35, am_lM35, am_sM35, am_gM36, am_lM36, am_sM36, am_gM37, am_lM37, am_sM37, am_gM38, am_lM38, am_sM38, am_gM39, am_lM39, am_sM39, am_gM40, am_lM40, am_sM40, am_gM41, am_lM41, am_sM41, am_gM42, am_lM42, am_sM42, am_gM43, am_lM43, am_sM43, am_gM44, am_lM44, am_sM44, am_gM45, am_pM45, am_gM46, am_lM46, am_sM46, am_gM47, am_lM47, am_sM47, am_gM48, am_lM48, am_sM48, am_gM49, am_lM49, am_sM49, am_gM50, am_lM50, am_sM50, am_gM51, am_lM51, am_sM51, am_gM52, am_lM52, am_sM52, am_isM, am_bk, am_pu1, am_pu0, Option.bind_some, eq_self, am_nli, am_nlr, am_nln, am_nlu, if_true, if_false, not_true_eq_false, not_false_eq_true, am_10, am_01, hI, hJ, h6, c0, h0, am_succ]
end
