/-! THE CITIES' TURN: the loops -/
/-- what a city gets from its tiles -/
def as_yf (G : am_G) (l : Int64) (c : Nat) : Int32 := am_all (fun k => am_fd (G 2 k) (G 3 k)) l (am_mx (am_fd (G 2 (G 9 c).toNatClampNeg) (G 3 (G 9 c).toNatClampNeg)) 2)
def as_yw (G : am_G) (l : Int64) (c : Nat) : Int32 := am_all (fun k => am_wk (G 2 k) (G 3 k)) l (am_mx (am_wk (G 2 (G 9 c).toNatClampNeg) (G 3 (G 9 c).toNatClampNeg)) 1)
def as_yt (G : am_G) (l : Int64) (c : Nat) : Int32 := am_all (fun k => am_td (G 2 k)) l (am_mx (am_td (G 2 (G 9 c).toNatClampNeg)) 1)
/-- the turns of the cities of a list -/
def as_cyl (f w t : Nat → Int32) (l : List Nat) (s : am_G × Nat) : am_G × Nat := l.foldl (fun s c => as_cy (f c) (w c) (t c) c s) s
theorem as_cyl_ne {f w t : Nat → Int32} {x : Nat} (h : ¬ x = 10 ∧ ¬ x = 11 ∧ ¬ x = 12 ∧ ¬ x = 13 ∧ ¬ x = 14 ∧ ¬ x = 16 ∧ ¬ x = 17 ∧ ¬ (24 ≤ x ∧ x ≤ 35) ∧ ¬ x = 40) : ∀ (l : List Nat) (s : am_G × Nat), (as_cyl f w t l s).1 x = s.1 x
  | [], _ => rfl
  | c :: l, s => by
    show (as_cyl f w t l (as_cy (f c) (w c) (t c) c s)).1 x = _
    rw [as_cyl_ne h l, as_cy_ne h]
theorem as_cyl_n {f w t : Nat → Int32} : ∀ (l : List Nat) (s : am_G × Nat), s.1 24 0 = Int32.ofNat s.2 → s.2 ≤ 40 → (as_cyl f w t l s).1 24 0 = Int32.ofNat (as_cyl f w t l s).2 ∧ (as_cyl f w t l s).2 ≤ 40
  | [], _, h1, h2 => ⟨h1, h2⟩
  | c :: l, s, h1, h2 => by
    have := as_cy_n (x := f c) (w := w c) (t := t c) (c := c) h1 h2
    exact as_cyl_n l _ this.1 this.2
section
variable {L : Nat → Int64} {r : am_H} {F : Nat} {G0 : am_G}
theorem mr236_11 (hF2 : F ≤ 12) (hF : G0 6 0 = Int32.ofNat F) (hb : ∀ c, c < F → G0 7 c = 0 ∨ G0 7 c = 1) : ∀ (m k : Nat) (s : am_G × Nat), k + m = F → (∀ x, x = 2 ∨ x = 3 ∨ x = 6 ∨ x = 7 ∨ x = 9 → s.1 x = G0 x) → s.1 24 0 = Int32.ofNat s.2 → s.2 ≤ 40 → (∀ c, k ≤ c → c < F → G0 7 c = 1 → aw_IC s.1 c) → am_exec 236 11 [.ref 40, .int (Int32.ofNat k), am_U, am_U] [] (am_ov s.1 L r) = am_exec 236 77 [.ref 40, .int (Int32.ofNat F), am_U, am_U] [] (am_ov (as_cyl (fun c => as_yf G0 (L c) c) (fun c => as_yw G0 (L c) c) (fun c => as_yt G0 (L c) c) ((List.range' k m).filter fun c => decide (G0 7 c = 1)) s).1 L r)
  | 0, k, s, hk, hx, _, _, _ => by
    have h6 : s.1 6 0 = Int32.ofNat F := by rw [hx 6 (by decide)]; exact hF
    show am_exec 236 11 _ _ _ = am_exec 236 77 _ _ (am_ov s.1 L r)
    rw [show k = F by omega, am_e236_11]
    simp only [am_e236_0, am_e236_5, am_e236_16, am_e236_100, am_e236_84, am_e236_129, am_e236_112, am_e236_9, am_e236_19, am_e236_104, am_e236_89, am_e236_133, am_e236_116, am_e236_23, am_e236_94, am_e236_138, am_e236_122, am_e236_25, am_e236_143, am_e236_123, am_e236_71, am_e236_28, am_e236_147, am_e236_33, am_e236_39, am_e236_47, am_e236_50, am_e236_54, am_e236_57, am_e236_60, am_e236_65, am_gM0, am_pM0, am_gM1, am_pM1, am_gM2, am_lM2, am_sM2, am_gM3, am_lM3, am_sM3, am_gM4, am_lM4, am_sM4, am_gM5, am_lM5, am_sM5, am_gM6, am_pM6, am_gM7, am_lM7, am_sM7, am_gM8, am_lM8, am_sM8, am_gM9, am_lM9, am_sM9, am_gM10, am_lM10, am_sM10, am_gM11, am_lM11, am_sM11, am_gM12, am_lM12, am_sM12, am_gM13, am_lM13, am_sM13, am_gM14, am_lM14, am_sM14, am_gM15, am_lM15, am_sM15, am_gM16, am_lM16, am_sM16, am_gM17, am_lM17, am_sM17, am_gM18, am_lM18, am_sM18, am_gM19, am_pM19, am_gM20, am_lM20, am_sM20, am_gM21, am_lM21, am_sM21, am_gM22, am_lM22, am_sM22, am_gM23, am_lM23, am_sM23, am_gM24, am_pM24, am_gM25, am_pM25, am_gM26, am_lM26, am_sM26, am_gM27, am_lM27, am_sM27, am_gM28, am_lM28, am_sM28, am_gM29, am_lM29, am_sM29, am_gM30, am_lM30, am_sM30, am_gM31, am_lM31, am_sM31, am_gM32, am_lM32, am_sM32, am_gM33, am_lM33, am_sM33, am_gM34, am_lM34, am_sM34, am_gM35, am_lM35, am_sM35, am_gM36, am_lM36, am_sM36, am_gM37, am_lM37, am_sM37, am_gM38, am_lM38, am_sM38, am_gM39, am_lM39, am_sM39, am_gM40, am_lM40, am_sM40, am_gM41, am_lM41, am_sM41, am_gM42, am_lM42, am_sM42, am_gM43, am_lM43, am_sM43, am_gM44, am_lM44, am_sM44, am_gM45, am_pM45, am_gM46, am_lM46, am_sM46, am_gM47, am_lM47, am_sM47, am_gM48, am_lM48, am_sM48, am_gM49, am_lM49, am_sM49, am_gM50, am_lM50, am_sM50, am_gM51, am_lM51, am_sM51, am_gM52, am_lM52, am_sM52, am_isM, am_bk, am_pu1, am_pu0, Option.bind_some, eq_self, am_nli, am_nlr, am_nln, am_nlu, if_true, if_false, not_true_eq_false, not_false_eq_true, am_10, am_01, h6, Int32.le_refl]
  | m + 1, k, s, hk, hx, hn, hn2, hC => by
    have h6 : s.1 6 0 = Int32.ofNat F := by rw [hx 6 (by decide)]; exact hF
    have c0 : ¬ Int32.ofNat F ≤ Int32.ofNat k := am_lit F k (by omega) (by omega)
    have hI : am_I (Int32.ofNat k) 12 := am_Ik (by omega) (by decide)
    have hJ := am_tcn (show k ≤ 100000 by omega)
    have h7 : s.1 7 k = G0 7 k := by rw [hx 7 (by decide)]
    rw [List.range'_succ, List.filter_cons]
    by_cases h : G0 7 k = 1
    · rw [if_pos (decide_eq_true h)]
      have hIC := hC k (Nat.le_refl _) (by omega) h
      obtain ⟨i1, i2, -, q, q1, q2, -⟩ := hIC
      have n7 : ¬ s.1 7 k = 0 := by rw [h7, h]; decide
      have ih := mr236_11 hF2 hF hb m (k + 1) (as_cy (as_yf G0 (L k) k) (as_yw G0 (L k) k) (as_yt G0 (L k) k) k s) (by omega) (fun x hx' => by rw [as_cy_ne (by omega), hx x hx']) (as_cy_n hn hn2).1 (as_cy_n hn hn2).2 (fun c h1 h2 h3 => as_cy_IC (by omega) (hC k (Nat.le_refl _) (by omega) h) (hC c (by omega) h2 h3))
      have m182 := mr182 (G := s.1) (L := L) (r := r) hI (by rw [hJ]; exact i2)
      have m183 := mr183 (G := s.1) (L := L) (r := r) hI (by rw [hJ]; exact i2)
      have m184 := mr184 (G := s.1) (L := L) (r := r) hI (by rw [hJ]; exact i2)
      rw [hJ, hx 2 (by decide), hx 3 (by decide), hx 9 (by decide)] at m182 m183
      rw [hJ, hx 2 (by decide), hx 9 (by decide)] at m184
      have m182 : am_exec 182 0 [.ref 40, .int (Int32.ofNat k), am_U, am_U] [] (am_ov s.1 L r) = some (.inl (some (.int (as_yf G0 (L k) k))), am_ov s.1 L r) := m182
      have m183 : am_exec 183 0 [.ref 40, .int (Int32.ofNat k), am_U, am_U] [] (am_ov s.1 L r) = some (.inl (some (.int (as_yw G0 (L k) k))), am_ov s.1 L r) := m183
      have m184 : am_exec 184 0 [.ref 40, .int (Int32.ofNat k), am_U, am_U] [] (am_ov s.1 L r) = some (.inl (some (.int (as_yt G0 (L k) k))), am_ov s.1 L r) := m184
      have m226 := mr226 (G := am_up (as_ea s.1 k (as_yf G0 (L k) k)) 12 k (as_ea s.1 k (as_yf G0 (L k) k) 12 k + as_yw G0 (L k) k)) (L := L) (r := r) (n := s.2) (c := k) (by rw [am_up_ne (by decide), as_ea_ne (by decide)]; exact hn) hn2 (by omega) (by rw [am_up_ne (by decide), as_ea_ne (by decide)]; exact i1) (q := q) (by rw [am_up_ne (by decide), as_ea_ne (by decide)]; exact q1) q2
      have m227 := mr227 (G := (as_bu (am_up (as_ea s.1 k (as_yf G0 (L k) k)) 12 k (as_ea s.1 k (as_yf G0 (L k) k) 12 k + as_yw G0 (L k) k)) s.2 k).1) (L := L) (r := r) (c := k) (t := as_yt G0 (L k) k) (by omega) (by rw [as_bu_ne (by decide), am_up_ne (by decide), as_ea_ne (by decide)]; exact i1)
      have m225 := mr225 (G := s.1) (L := L) (r := r) (c := k) (food := as_yf G0 (L k) k) (by omega)
      refine Eq.trans ?_ ih
      rw [am_e236_11]
      simp only [am_e236_0, am_e236_5, am_e236_16, am_e236_100, am_e236_84, am_e236_129, am_e236_112, am_e236_9, am_e236_19, am_e236_104, am_e236_89, am_e236_133, am_e236_116, am_e236_23, am_e236_94, am_e236_138, am_e236_122, am_e236_25, am_e236_143, am_e236_123, am_e236_71, am_e236_28, am_e236_147, am_e236_33, am_e236_39, am_e236_47, am_e236_50, am_e236_54, am_e236_57, am_e236_60, am_e236_65, am_gM0, am_pM0, am_gM1, am_pM1, am_gM2, am_lM2, am_sM2, am_gM3, am_lM3, am_sM3, am_gM4, am_lM4, am_sM4, am_gM5, am_lM5, am_sM5, am_gM6, am_pM6, am_gM7, am_lM7, am_sM7, am_gM8, am_lM8, am_sM8, am_gM9, am_lM9, am_sM9, am_gM10, am_lM10, am_sM10, am_gM11, am_lM11, am_sM11, am_gM12, am_lM12, am_sM12, am_gM13, am_lM13, am_sM13, am_gM14, am_lM14, am_sM14, am_gM15, am_lM15, am_sM15, am_gM16, am_lM16, am_sM16, am_gM17, am_lM17, am_sM17, am_gM18, am_lM18, am_sM18, am_gM19, am_pM19, am_gM20, am_lM20, am_sM20, am_gM21, am_lM21, am_sM21, am_gM22, am_lM22, am_sM22, am_gM23, am_lM23, am_sM23, am_gM24, am_pM24, am_gM25, am_pM25, am_gM26, am_lM26, am_sM26, am_gM27, am_lM27, am_sM27, am_gM28, am_lM28, am_sM28, am_gM29, am_lM29, am_sM29, am_gM30, am_lM30, am_sM30, am_gM31, am_lM31, am_sM31, am_gM32, am_lM32, am_sM32, am_gM33, am_lM33, am_sM33, am_gM34, am_lM34, am_sM34, am_gM35, am_lM35, am_sM35, am_gM36, am_lM36, am_sM36, am_gM37, am_lM37, am_sM37, am_gM38, am_lM38, am_sM38, am_gM39, am_lM39, am_sM39, am_gM40, am_lM40, am_sM40, am_gM41, am_lM41, am_sM41, am_gM42, am_lM42, am_sM42, am_gM43, am_lM43, am_sM43, am_gM44, am_lM44, am_sM44, am_gM45, am_pM45, am_gM46, am_lM46, am_sM46, am_gM47, am_lM47, am_sM47, am_gM48, am_lM48, am_sM48, am_gM49, am_lM49, am_sM49, am_gM50, am_lM50, am_sM50, am_gM51, am_lM51, am_sM51, am_gM52, am_lM52, am_sM52, am_isM, am_bk, am_pu1, am_pu0, Option.bind_some, eq_self, am_nli, am_nlr, am_nln, am_nlu, if_true, if_false, not_true_eq_false, not_false_eq_true, am_10, am_01, hI, hJ, h6, c0, n7, m182, m183, m184, m225, m226, m227, am_succ]
      rfl
    · rw [if_neg (fun z => h (of_decide_eq_true z))]
      have h0 : s.1 7 k = 0 := by
        rw [h7]
        exact (hb k (by omega)).resolve_right h
      have ih := mr236_11 hF2 hF hb m (k + 1) s (by omega) hx hn hn2 (fun c h1 h2 h3 => hC c (by omega) h2 h3)
      refine Eq.trans ?_ ih
      rw [am_e236_11]
      simp only [am_e236_0, am_e236_5, am_e236_16, am_e236_100, am_e236_84, am_e236_129, am_e236_112, am_e236_9, am_e236_19, am_e236_104, am_e236_89, am_e236_133, am_e236_116, am_e236_23, am_e236_94, am_e236_138, am_e236_122, am_e236_25, am_e236_143, am_e236_123, am_e236_71, am_e236_28, am_e236_147, am_e236_33, am_e236_39, am_e236_47, am_e236_50, am_e236_54, am_e236_57, am_e236_60, am_e236_65, am_gM0, am_pM0, am_gM1, am_pM1, am_gM2, am_lM2, am_sM2, am_gM3, am_lM3, am_sM3, am_gM4, am_lM4, am_sM4, am_gM5, am_lM5, am_sM5, am_gM6, am_pM6, am_gM7, am_lM7, am_sM7, am_gM8, am_lM8, am_sM8, am_gM9, am_lM9, am_sM9, am_gM10, am_lM10, am_sM10, am_gM11, am_lM11, am_sM11, am_gM12, am_lM12, am_sM12, am_gM13, am_lM13, am_sM13, am_gM14, am_lM14, am_sM14, am_gM15, am_lM15, am_sM15, am_gM16, am_lM16, am_sM16, am_gM17, am_lM17, am_sM17, am_gM18, am_lM18, am_sM18, am_gM19, am_pM19, am_gM20, am_lM20, am_sM20, am_gM21, am_lM21, am_sM21, am_gM22, am_lM22, am_sM22, am_gM23, am_lM23, am_sM23, am_gM24, am_pM24, am_gM25, am_pM25, am_gM26, am_lM26, am_sM26, am_gM27, am_lM27, am_sM27, am_gM28, am_lM28, am_sM28, am_gM29, am_lM29, am_sM29, am_gM30, am_lM30, am_sM30, am_gM31, am_lM31, am_sM31, am_gM32, am_lM32, am_sM32, am_gM33, am_lM33, am_sM33, am_gM34, am_lM34, am_sM34, am_gM35, am_lM35, am_sM35, am_gM36, am_lM36, am_sM36, am_gM37, am_lM37, am_sM37, am_gM38, am_lM38, am_sM38, am_gM39, am_lM39, am_sM39, am_gM40, am_lM40, am_sM40, am_gM41, am_lM41, am_sM41, am_gM42, am_lM42, am_sM42, am_gM43, am_lM43, am_sM43, am_gM44, am_lM44, am_sM44, am_gM45, am_pM45, am_gM46, am_lM46, am_sM46, am_gM47, am_lM47, am_sM47, am_gM48, am_lM48, am_sM48, am_gM49, am_lM49, am_sM49, am_gM50, am_lM50, am_sM50, am_gM51, am_lM51, am_sM51, am_gM52, am_lM52, am_sM52, am_isM, am_bk, am_pu1, am_pu0, Option.bind_some, eq_self, am_nli, am_nlr, am_nln, am_nlu, if_true, if_false, not_true_eq_false, not_false_eq_true, am_10, am_01, hI, hJ, h6, c0, h0, am_succ]
end
section
variable {M : aw_M} {r : am_H} {F T : Nat}
theorem mc66_2 (hS : aw_S r) : ∀ (l : List Nat) (i : Nat) (K : aw_K) (A : aw_A) (G Q : am_G) (r' : am_H) (n : Nat), l.Nodup → (List.range' i l.length).map (A 7) = l → i + l.length = A 8 0 → aw_W K A G n F T → aw_N K r' → aw_R r r' (2 * i) (300 * i) → (∀ c, c ∈ l → c < F ∧ aw_IC G c) → ∃ K' A' Q' r'', am_exec 66 2 [.ref 39, .int (Int32.ofNat i), am_U] [] (aw_H K A G Q M r') = some (.inl none, aw_H K' A' (as_cyl (Q 0) (Q 1) (Q 2) l (G, n)).1 Q' M r'') ∧ aw_W K' A' (as_cyl (Q 0) (Q 1) (Q 2) l (G, n)).1 (as_cyl (Q 0) (Q 1) (Q 2) l (G, n)).2 F T ∧ aw_R r r'' (2 * A 8 0) (300 * A 8 0) ∧ aw_N K' r'' ∧ (∀ f, ¬ f = 3 → Q' f = Q f) ∧ (∀ f, ¬ f = 0 → ¬ f = 5 → ¬ f = 6 → A' f = A f)
  | [], i, K, A, G, Q, r', n, _, _, hi, hW, hN, hR, _ => by
    have hi : i = A 8 0 := hi
    refine ⟨K, A, Q, r', ?_, hW, by rw [← hi]; exact hR, hN, fun _ _ => rfl, fun _ _ _ _ => rfl⟩
    rw [hi, am_e66_2]
    simp only [am_e66_0, am_e66_7, am_e66_10, am_e66_13, am_e66_72, am_e66_16, am_e66_20, am_e66_23, am_e66_27, am_e66_35, am_e66_40, am_e66_44, am_e66_49, am_e66_54, am_e66_61, am_e66_57, am_e66_66, aw_gU0, aw_pU0, aw_gU1, aw_gU2, aw_pU2, aw_gU3, aw_pU3, aw_gU4, aw_pU4, aw_gU5, aw_pU5, aw_gU6, aw_pU6, aw_gU7, aw_pU7, aw_gC1, aw_gC2, aw_pC2, aw_gC3, aw_pC3, aw_gC4, aw_pC4, aw_gC5, aw_pC5, aw_gC6, aw_pC6, aw_gC7, aw_pC7, aw_gC9, aw_pC9, aw_gC0, aw_gC8, aw_gC10, aw_pC10, aw_gC11, aw_pC11, aw_gC12, aw_pC12, aw_gC13, aw_pC13, aw_gC14, aw_pC14, aw_gC15, aw_pC15, aw_gC16, aw_pC16, aw_gT0, aw_gT1, aw_gT2, aw_gT3, aw_gT4, aw_pT4, aw_gT5, aw_pT5, aw_gT6, aw_pT6, aw_gO0, aw_gO1, aw_gO2, aw_gO3, aw_gO4, aw_gO5, aw_gO6, aw_gP1, aw_pP1, aw_gP2, aw_pP2, aw_gP3, aw_pP3, aw_gP4, aw_pP4, aw_gP5, aw_pP5, aw_gP6, aw_pP6, aw_gP0, aw_gP7, aw_isU, aw_isC, aw_isT, aw_isO, aw_isP, aw_isF12, aw_gF12_0, aw_gF12_1, aw_gF12_2, aw_gF12_3, aw_gF12_4, aw_isF13, aw_gF13_0, aw_gF13_1, aw_gF13_2, aw_gF13_3, aw_gF13_4, aw_gF13_5, aw_gF13_6, aw_gF13_7, aw_isF14, aw_gF14_0, aw_gF14_1, aw_gF14_2, aw_isF18, aw_gF18_0, aw_gF18_1, aw_isF19, aw_gF19_0, aw_gF19_1, aw_gF19_2, aw_isF21, aw_gF21_0, aw_gF21_1, aw_gF21_2, aw_isF22, aw_gF22_0, aw_gF22_1, aw_gF22_2, aw_isF23, aw_gF23_0, aw_gF23_1, aw_gF23_2, aw_isF34, aw_gF34_0, aw_gF34_1, aw_gF34_2, aw_gF34_3, aw_gF34_4, aw_gF34_5, aw_isF38, aw_gF38_0, aw_isF39, aw_gF39_0, aw_pF12_4, aw_pF13_6, aw_pF13_7, aw_pF34_4, aw_pF34_5, am_bk, am_pu1, am_pu0, Option.bind_some, eq_self, am_nli, am_nlr, am_nln, am_nlu, if_true, if_false, not_true_eq_false, not_false_eq_true, am_10, am_01, hW.V, mc251_c, Int32.le_refl]
    rfl
  | c :: l, i, K, A, G, Q, r', n, hd, hm, hi, hW, hN, hR, hC => by
    have hi : i + (l.length + 1) = A 8 0 := hi
    rw [List.length_cons, List.range'_succ, List.map_cons] at hm
    have hk : i < A 8 0 := by omega
    have c0 : ¬ A 8 0 ≤ i := by omega
    have e1 : A 7 i = c := (List.cons.inj hm).1
    have e2 : (List.range' (i + 1) l.length).map (A 7) = l := (List.cons.inj hm).2
    obtain ⟨hcF, hIC⟩ := hC c List.mem_cons_self
    obtain ⟨i1, i2, ⟨z, z1, z2, z3⟩, q, q1, q2, q3⟩ := hIC
    have hK := hW.c hcF
    have hSr : aw_S r' := hR.S hS
    have m67 := mc67 (A := A) (Q := Q) (M := M) (r := r') hW.V hK z1 z2 z3
    have n1 : ∀ f, ¬ f = 10 → ¬ f = 11 → as_ea G c (Q 0 c) f = G f := fun f h1 h2 => as_ea_ne ⟨h1, h2⟩
    have hW1 : aw_W K A (as_ea G c (Q 0 c)) n F T := hW.up (n1 24 (by decide) (by decide)) (n1 6 (by decide) (by decide)) (n1 45 (by decide) (by decide)) (n1 42 (by decide) (by decide)) (n1 7 (by decide) (by decide))
    obtain ⟨K1, A1, Q1, r1, x1, x2, x3, x4, x5, x6⟩ := mc68 (Q := Q) (M := M) (r := r') hW1 hN hSr hcF (by rw [n1 8 (by decide) (by decide)]; exact i1) (q := q) (by rw [n1 17 (by decide) (by decide)]; exact q1) q2 (by rw [n1 16 (by decide) (by decide)]; exact q3)
    have hK1 : K1 (A 1 c) = (2, c) := by
      have := x2.c hcF
      rw [x6 1 (by decide) (by decide) (by decide)] at this
      exact this
    obtain ⟨B, hB⟩ : ∃ B, B = (as_bu (am_up (as_ea G c (Q 0 c)) 12 c (as_ea G c (Q 0 c) 12 c + Q 1 c)) n c) := ⟨_, rfl⟩
    rw [← hB] at x1 x2
    have r8 : B.1 8 = G 8 := by rw [hB, as_bu_ne (by decide), am_up_ne (by decide), n1 8 (by decide) (by decide)]
    have m70 := mc70 (A := A1) (G := B.1) (Q := Q1) (M := M) (r := r1) x2.V hK1 (by rw [r8]; exact i1)
    rw [x5 2 (by decide)] at m70
    have hW3 : aw_W K1 A1 (as_cy (Q 0 c) (Q 1 c) (Q 2 c) c (G, n)).1 (as_cy (Q 0 c) (Q 1 c) (Q 2 c) c (G, n)).2 F T := by
      unfold as_cy
      dsimp only
      rw [← hB]
      have w : ∀ f, ¬ f = 13 ∧ ¬ f = 34 ∧ ¬ f = 35 ∧ ¬ f = 40 → as_cu (as_tr B.1 c (Q 2 c)) c f = B.1 f := fun f hf => by
        unfold as_cu
        rw [am_up_ne hf.1, as_tr_ne hf.2]
      exact x2.up (w 24 (by decide)) (w 6 (by decide)) (w 45 (by decide)) (w 42 (by decide)) (w 7 (by decide))
    have step : am_exec 66 2 [.ref 39, .int (Int32.ofNat i), am_U] [] (aw_H K A G Q M r') = am_exec 66 2 [.ref 39, .int (Int32.ofNat (i + 1)), am_U] [] (aw_H K1 A1 (as_cy (Q 0 c) (Q 1 c) (Q 2 c) c (G, n)).1 Q1 M r1) := by
      rw [am_e66_2]
      obtain ⟨X, hX⟩ : ∃ X, X = as_tr B.1 c (Q 2 c) := ⟨_, rfl⟩
      have m13 := mc13 (A := A1) (G := X) (Q := Q1) (M := M) (r := r1) (a := A 1 c) (b := 5) x2.V (by rw [hK1])
      rw [hK1] at m13
      dsimp only at m13
      rw [← hX] at m70
      have fin : (as_cy (Q 0 c) (Q 1 c) (Q 2 c) c (G, n)).1 = as_cu X c := by
        unfold as_cy
        dsimp only
        rw [← hB, ← hX]
      rw [fin]
      unfold as_cu
      by_cases h5 : am_hb (X 14 c) 5
      · rw [am_bi, if_pos h5] at m13
        rw [if_pos h5]
        simp only [am_e66_0, am_e66_7, am_e66_10, am_e66_13, am_e66_72, am_e66_16, am_e66_20, am_e66_23, am_e66_27, am_e66_35, am_e66_40, am_e66_44, am_e66_49, am_e66_54, am_e66_61, am_e66_57, am_e66_66, aw_gU0, aw_pU0, aw_gU1, aw_gU2, aw_pU2, aw_gU3, aw_pU3, aw_gU4, aw_pU4, aw_gU5, aw_pU5, aw_gU6, aw_pU6, aw_gU7, aw_pU7, aw_gC1, aw_gC2, aw_pC2, aw_gC3, aw_pC3, aw_gC4, aw_pC4, aw_gC5, aw_pC5, aw_gC6, aw_pC6, aw_gC7, aw_pC7, aw_gC9, aw_pC9, aw_gC0, aw_gC8, aw_gC10, aw_pC10, aw_gC11, aw_pC11, aw_gC12, aw_pC12, aw_gC13, aw_pC13, aw_gC14, aw_pC14, aw_gC15, aw_pC15, aw_gC16, aw_pC16, aw_gT0, aw_gT1, aw_gT2, aw_gT3, aw_gT4, aw_pT4, aw_gT5, aw_pT5, aw_gT6, aw_pT6, aw_gO0, aw_gO1, aw_gO2, aw_gO3, aw_gO4, aw_gO5, aw_gO6, aw_gP1, aw_pP1, aw_gP2, aw_pP2, aw_gP3, aw_pP3, aw_gP4, aw_pP4, aw_gP5, aw_pP5, aw_gP6, aw_pP6, aw_gP0, aw_gP7, aw_isU, aw_isC, aw_isT, aw_isO, aw_isP, aw_isF12, aw_gF12_0, aw_gF12_1, aw_gF12_2, aw_gF12_3, aw_gF12_4, aw_isF13, aw_gF13_0, aw_gF13_1, aw_gF13_2, aw_gF13_3, aw_gF13_4, aw_gF13_5, aw_gF13_6, aw_gF13_7, aw_isF14, aw_gF14_0, aw_gF14_1, aw_gF14_2, aw_isF18, aw_gF18_0, aw_gF18_1, aw_isF19, aw_gF19_0, aw_gF19_1, aw_gF19_2, aw_isF21, aw_gF21_0, aw_gF21_1, aw_gF21_2, aw_isF22, aw_gF22_0, aw_gF22_1, aw_gF22_2, aw_isF23, aw_gF23_0, aw_gF23_1, aw_gF23_2, aw_isF34, aw_gF34_0, aw_gF34_1, aw_gF34_2, aw_gF34_3, aw_gF34_4, aw_gF34_5, aw_isF38, aw_gF38_0, aw_isF39, aw_gF39_0, aw_pF12_4, aw_pF13_6, aw_pF13_7, aw_pF34_4, aw_pF34_5, am_bk, am_pu1, am_pu0, Option.bind_some, eq_self, am_nli, am_nlr, am_nln, am_nlu, if_true, if_false, not_true_eq_false, not_false_eq_true, am_10, am_01, mc251_c, mc253_c hW hk, e1, am_le_nat hW.m9 (aw_W.k9 hW.m9 hk), c0, hK, hW.V, m67, x1, m70, x2.V, hK1, m13, am_succ]
      · rw [am_bi, if_neg h5] at m13
        rw [if_neg h5]
        simp only [am_e66_0, am_e66_7, am_e66_10, am_e66_13, am_e66_72, am_e66_16, am_e66_20, am_e66_23, am_e66_27, am_e66_35, am_e66_40, am_e66_44, am_e66_49, am_e66_54, am_e66_61, am_e66_57, am_e66_66, aw_gU0, aw_pU0, aw_gU1, aw_gU2, aw_pU2, aw_gU3, aw_pU3, aw_gU4, aw_pU4, aw_gU5, aw_pU5, aw_gU6, aw_pU6, aw_gU7, aw_pU7, aw_gC1, aw_gC2, aw_pC2, aw_gC3, aw_pC3, aw_gC4, aw_pC4, aw_gC5, aw_pC5, aw_gC6, aw_pC6, aw_gC7, aw_pC7, aw_gC9, aw_pC9, aw_gC0, aw_gC8, aw_gC10, aw_pC10, aw_gC11, aw_pC11, aw_gC12, aw_pC12, aw_gC13, aw_pC13, aw_gC14, aw_pC14, aw_gC15, aw_pC15, aw_gC16, aw_pC16, aw_gT0, aw_gT1, aw_gT2, aw_gT3, aw_gT4, aw_pT4, aw_gT5, aw_pT5, aw_gT6, aw_pT6, aw_gO0, aw_gO1, aw_gO2, aw_gO3, aw_gO4, aw_gO5, aw_gO6, aw_gP1, aw_pP1, aw_gP2, aw_pP2, aw_gP3, aw_pP3, aw_gP4, aw_pP4, aw_gP5, aw_pP5, aw_gP6, aw_pP6, aw_gP0, aw_gP7, aw_isU, aw_isC, aw_isT, aw_isO, aw_isP, aw_isF12, aw_gF12_0, aw_gF12_1, aw_gF12_2, aw_gF12_3, aw_gF12_4, aw_isF13, aw_gF13_0, aw_gF13_1, aw_gF13_2, aw_gF13_3, aw_gF13_4, aw_gF13_5, aw_gF13_6, aw_gF13_7, aw_isF14, aw_gF14_0, aw_gF14_1, aw_gF14_2, aw_isF18, aw_gF18_0, aw_gF18_1, aw_isF19, aw_gF19_0, aw_gF19_1, aw_gF19_2, aw_isF21, aw_gF21_0, aw_gF21_1, aw_gF21_2, aw_isF22, aw_gF22_0, aw_gF22_1, aw_gF22_2, aw_isF23, aw_gF23_0, aw_gF23_1, aw_gF23_2, aw_isF34, aw_gF34_0, aw_gF34_1, aw_gF34_2, aw_gF34_3, aw_gF34_4, aw_gF34_5, aw_isF38, aw_gF38_0, aw_isF39, aw_gF39_0, aw_pF12_4, aw_pF13_6, aw_pF13_7, aw_pF34_4, aw_pF34_5, am_bk, am_pu1, am_pu0, Option.bind_some, eq_self, am_nli, am_nlr, am_nln, am_nlu, if_true, if_false, not_true_eq_false, not_false_eq_true, am_10, am_01, mc251_c, mc253_c hW hk, e1, am_le_nat hW.m9 (aw_W.k9 hW.m9 hk), c0, hK, hW.V, m67, x1, m70, x2.V, hK1, m13, am_succ]
    obtain ⟨K', A', Q', r'', y1, y2, y3, y4, y5, y6⟩ := mc66_2 hS l (i + 1) K1 A1 (as_cy (Q 0 c) (Q 1 c) (Q 2 c) c (G, n)).1 Q1 r1 (as_cy (Q 0 c) (Q 1 c) (Q 2 c) c (G, n)).2 (List.nodup_cons.mp hd).2 (by rw [x6 7 (by decide) (by decide) (by decide)]; exact e2) (by rw [x6 8 (by decide) (by decide) (by decide)]; omega) hW3 x4 ((hR.tr x3).mono (by omega) (by omega)) (fun j hj => ⟨(hC j (List.mem_cons_of_mem _ hj)).1, as_cy_IC (fun e => (List.nodup_cons.mp hd).1 (by rw [← e]; exact hj)) (hC c List.mem_cons_self).2 (hC j (List.mem_cons_of_mem _ hj)).2⟩)
    rw [x5 0 (by decide), x5 1 (by decide), x5 2 (by decide)] at y1 y2
    rw [x6 8 (by decide) (by decide) (by decide)] at y3
    exact ⟨K', A', Q', r'', step.trans y1, y2, y3, y4, fun f hf => by rw [y5 f hf, x5 f hf], fun f h0 h5 h6 => by rw [y6 f h0 h5 h6, x6 f h0 h5 h6]⟩
end
