/-! THE REFERENCE'S PLAN of one city -/
theorem as_fd5 {l m : Int32} : ∃ z, z < 5 ∧ am_fd l m = Int32.ofNat z := by
  have h1 : (if l = 5 then (3 : Int32) else if l = 0 ∨ l = 1 then 2 else if l = 4 then 0 else 1) = 3 ∨ (if l = 5 then (3 : Int32) else if l = 0 ∨ l = 1 then 2 else if l = 4 then 0 else 1) = 2 ∨ (if l = 5 then (3 : Int32) else if l = 0 ∨ l = 1 then 2 else if l = 4 then 0 else 1) = 0 ∨ (if l = 5 then (3 : Int32) else if l = 0 ∨ l = 1 then 2 else if l = 4 then 0 else 1) = 1 := by
    split
    · exact Or.inl rfl
    · split
      · exact Or.inr (Or.inl rfl)
      · split
        · exact Or.inr (Or.inr (Or.inl rfl))
        · exact Or.inr (Or.inr (Or.inr rfl))
  have h2 : (if m &&& 1 = 0 then (0 : Int32) else 1) = 0 ∨ (if m &&& 1 = 0 then (0 : Int32) else 1) = 1 := by
    split
    · exact Or.inl rfl
    · exact Or.inr rfl
  unfold am_fd
  rcases h1 with h1 | h1 | h1 | h1 <;> rcases h2 with h2 | h2 <;> rw [h1, h2]
  · exact ⟨3, by decide, rfl⟩
  · exact ⟨4, by decide, rfl⟩
  · exact ⟨2, by decide, rfl⟩
  · exact ⟨3, by decide, rfl⟩
  · exact ⟨0, by decide, rfl⟩
  · exact ⟨1, by decide, rfl⟩
  · exact ⟨1, by decide, rfl⟩
  · exact ⟨2, by decide, rfl⟩
theorem am_mxn {a b : Nat} (ha : a ≤ 100000) (hb : b < 5) : am_mx (Int32.ofNat a - Int32.ofNat b) 0 = Int32.ofNat (a - b) := by
  by_cases h : b ≤ a
  · rw [← Int32.ofNat_sub a b h]
    unfold am_mx
    rw [if_neg (by rw [am_prelt (by omega)]; exact id)]
  · have : ∀ b, b < 5 → ∀ a, a < 5 → am_mx (Int32.ofNat a - Int32.ofNat b) 0 = Int32.ofNat (a - b) := by decide +kernel
    exact this b hb a (by omega)
theorem as_sp_21 {G : am_G} {n T c : Nat} {p : Int64} : ∀ k, k ≤ 64 → am_it (as_sp G n T c p) (am_up G 19 0 0) k 19 0 = Int32.ofNat (am_cnt (fun t => as_cw G n T c t p) k) ∧ ∀ s, s < am_cnt (fun t => as_cw G n T c t p) k → ∃ z, z < 5 ∧ am_it (as_sp G n T c p) (am_up G 19 0 0) k 21 s = Int32.ofNat z := by
  intro k
  induction k with
  | zero =>
    intro _
    refine ⟨?_, fun s hs => absurd hs (Nat.not_lt_zero s)⟩
    show am_up G 19 0 0 19 0 = Int32.ofNat 0
    rw [am_up_eq, am_upd_eq]
    rfl
  | succ k ih =>
    intro hk
    obtain ⟨ih1, ih2⟩ := ih (by omega)
    have hle := am_cnt_le (p := fun t => as_cw G n T c t p) k
    have hJ := am_tcn (show am_cnt (fun t => as_cw G n T c t p) k ≤ 100000 by omega)
    have hc1 : am_cnt (fun t => as_cw G n T c t p) (k + 1) = am_cnt (fun t => as_cw G n T c t p) k + if as_cw G n T c k p then 1 else 0 := rfl
    rw [hc1, am_it]
    generalize am_it (as_sp G n T c p) (am_up G 19 0 0) k = X at ih1 ih2 ⊢
    unfold as_sp
    by_cases h : as_cw G n T c k p
    · rw [if_pos h, if_pos h]
      refine ⟨by rw [am_up_eq, am_upd_eq, ih1, am_succ], fun s hs => ?_⟩
      rw [am_up_ne (by decide), am_up_ne (by decide), am_up_eq, ih1, hJ, am_up_ne (by decide)]
      by_cases e : s = am_cnt (fun t => as_cw G n T c t p) k
      · rw [e, am_upd_eq]
        exact as_fd5
      · rw [am_upd_ne e]
        exact ih2 s (by omega)
    · rw [if_neg h, if_neg h]
      exact ⟨by rw [ih1, Nat.add_zero], fun s hs => ih2 s (by omega)⟩
theorem as_fd2 {l m : Int32} : ∃ y, y < 5 ∧ am_mx (am_fd l m) 2 = Int32.ofNat y := by
  obtain ⟨z, z1, z2⟩ := as_fd5 (l := l) (m := m)
  rw [z2]
  have : ∀ z, z < 5 → ∃ y, y < 5 ∧ am_mx (Int32.ofNat z) 2 = Int32.ofNat y := by decide +kernel
  exact this z z1
/-- the worths with 10000 for each food -/
def as_wf (S : Nat) (X : am_G) : am_G := am_it (fun i Y => am_up Y 22 i (Y 22 i + 10000 * Y 21 i)) X S
theorem as_wf_ne {S f : Nat} {X : am_G} (h : ¬ f = 22) : as_wf S X f = X f := am_it_row (fun i Y => am_up_ne h) S
/-- the plan where no set feeds the city -/
def as_p2 (m S : Nat) (X : am_G) : Int64 := as_ch (as_fn m 0 S (as_wf S X)) S 0 m 0 0
section
variable {L : Nat → Int64} {r : am_H}
theorem mr189_226 {m S : Nat} (hm : m ≤ 24) (hS : S ≤ 24) {X : am_G} (h19 : X 19 0 = Int32.ofNat S) (hfo : ∀ s, s < S → ∃ z, z < 5 ∧ X 21 s = Int32.ofNat z) {a1 a2 a3 a5 a6 : Value} (n5 : am_nl a5 = true) : am_exec 189 226 [.ref 40, a1, a2, a3, .int (Int32.ofNat m), a5, a6] [] (am_ov X L r) = some (.inl (some (.long (as_p2 m S X))), am_ov (as_fn m 0 S (as_wf S X)) L r) := by
  have key := am_iter (fun k => am_exec 189 229 [.ref 40, am_U, am_U, a3, .int (Int32.ofNat m), am_U, .int (Int32.ofNat k)] [] (am_ov (as_wf k X) L r)) S (fun k hk => by
    have c0 : ¬ Int32.ofNat S ≤ Int32.ofNat k := am_lit _ _ hk (by omega)
    have hIk : am_I (Int32.ofNat k) 24 := am_Ik (by omega) (by decide)
    have hJk := am_tcn (show k ≤ 100000 by omega)
    have e19 := as_wf_ne (S := k) (X := X) (f := 19) (by decide)
    show am_exec 189 229 _ _ _ = am_exec 189 229 [.ref 40, am_U, am_U, a3, .int (Int32.ofNat m), am_U, .int (Int32.ofNat (k + 1))] [] (am_ov (am_up (as_wf k X) 22 k (as_wf k X 22 k + 10000 * as_wf k X 21 k)) L r)
    generalize as_wf k X = Y at *
    rw [am_e189_229]
    simp only [am_e189_0, am_e189_5, am_e189_128, am_e189_15, am_e189_235, am_e189_132, am_e189_23, am_e189_265, am_e189_238, am_e189_134, am_e189_122, am_e189_26, am_e189_272, am_e189_242, am_e189_138, am_e189_30, am_e189_279, am_e189_246, am_e189_150, am_e189_141, am_e189_34, am_e189_253, am_e189_154, am_e189_145, am_e189_37, am_e189_256, am_e189_161, am_e189_147, am_e189_41, am_e189_259, am_e189_163, am_e189_45, am_e189_169, am_e189_51, am_e189_171, am_e189_52, am_e189_174, am_e189_56, am_e189_178, am_e189_60, am_e189_183, am_e189_64, am_e189_226, am_e189_192, am_e189_68, am_e189_200, am_e189_74, am_e189_204, am_e189_79, am_e189_213, am_e189_85, am_e189_214, am_e189_91, am_e189_217, am_e189_97, am_e189_225, am_e189_103, am_e189_109, am_e189_112, am_e189_117, am_gM0, am_pM0, am_gM1, am_pM1, am_gM2, am_lM2, am_sM2, am_gM3, am_lM3, am_sM3, am_gM4, am_lM4, am_sM4, am_gM5, am_lM5, am_sM5, am_gM6, am_pM6, am_gM7, am_lM7, am_sM7, am_gM8, am_lM8, am_sM8, am_gM9, am_lM9, am_sM9, am_gM10, am_lM10, am_sM10, am_gM11, am_lM11, am_sM11, am_gM12, am_lM12, am_sM12, am_gM13, am_lM13, am_sM13, am_gM14, am_lM14, am_sM14, am_gM15, am_lM15, am_sM15, am_gM16, am_lM16, am_sM16, am_gM17, am_lM17, am_sM17, am_gM18, am_lM18, am_sM18, am_gM19, am_pM19, am_gM20, am_lM20, am_sM20, am_gM21, am_lM21, am_sM21, am_gM22, am_lM22, am_sM22, am_gM23, am_lM23, am_sM23, am_gM24, am_pM24, am_gM25, am_pM25, am_gM26, am_lM26, am_sM26, am_gM27, am_lM27, am_sM27, am_gM28, am_lM28, am_sM28, am_gM29, am_lM29, am_sM29, am_gM30, am_lM30, am_sM30, am_gM31, am_lM31, am_sM31, am_gM32, am_lM32, am_sM32, am_gM33, am_lM33, am_sM33, am_gM34, am_lM34, am_sM34, am_gM35, am_lM35, am_sM35, am_gM36, am_lM36, am_sM36, am_gM37, am_lM37, am_sM37, am_gM38, am_lM38, am_sM38, am_gM39, am_lM39, am_sM39, am_gM40, am_lM40, am_sM40, am_gM41, am_lM41, am_sM41, am_gM42, am_lM42, am_sM42, am_gM43, am_lM43, am_sM43, am_gM44, am_lM44, am_sM44, am_gM45, am_pM45, am_gM46, am_lM46, am_sM46, am_gM47, am_lM47, am_sM47, am_gM48, am_lM48, am_sM48, am_gM49, am_lM49, am_sM49, am_gM50, am_lM50, am_sM50, am_gM51, am_lM51, am_sM51, am_gM52, am_lM52, am_sM52, am_isM, am_bk, am_pu1, am_pu0, Option.bind_some, eq_self, am_nli, am_nlr, am_nln, am_nlu, if_true, if_false, not_true_eq_false, not_false_eq_true, am_10, am_01, e19, h19, c0, hIk, hJk, am_succ])
  have e19 := as_wf_ne (S := S) (X := X) (f := 19) (by decide)
  have e21 := as_wf_ne (S := S) (X := X) (f := 21) (by decide)
  have m187 := mr187 (L := L) (r := r) hm (show 0 ≤ 99 by omega) hS (G := as_wf S X) (by rw [e19]; exact h19) (by rw [e21]; exact hfo)
  have m188 := mr188 (L := L) (r := r) hS hm (show 0 ≤ 99 by omega) (G := as_fn m 0 S (as_wf S X)) (by rw [as_fn_ne (by decide), e19]; exact h19) (by rw [as_fn_ne (by decide), e21]; exact hfo)
  have m187 : am_exec 187 0 [.ref 40, .int (Int32.ofNat m), .int 0, am_U, am_U, am_U, am_U, am_U] [] (am_ov (as_wf S X) L r) = _ := m187
  have m188 : am_exec 188 0 [.ref 40, .int (Int32.ofNat m), .int 0, am_U, am_U, am_U, am_U, am_U, am_U, am_U] [] (am_ov (as_fn m 0 S (as_wf S X)) L r) = _ := m188
  have fin : am_exec 189 229 [.ref 40, am_U, am_U, a3, .int (Int32.ofNat m), am_U, .int 0] [] (am_ov X L r) = some (.inl (some (.long (as_p2 m S X))), am_ov (as_fn m 0 S (as_wf S X)) L r) := by
    refine key.trans ?_
    show am_exec 189 229 _ _ _ = _
    rw [am_e189_229]
    simp only [am_e189_0, am_e189_5, am_e189_128, am_e189_15, am_e189_235, am_e189_132, am_e189_23, am_e189_265, am_e189_238, am_e189_134, am_e189_122, am_e189_26, am_e189_272, am_e189_242, am_e189_138, am_e189_30, am_e189_279, am_e189_246, am_e189_150, am_e189_141, am_e189_34, am_e189_253, am_e189_154, am_e189_145, am_e189_37, am_e189_256, am_e189_161, am_e189_147, am_e189_41, am_e189_259, am_e189_163, am_e189_45, am_e189_169, am_e189_51, am_e189_171, am_e189_52, am_e189_174, am_e189_56, am_e189_178, am_e189_60, am_e189_183, am_e189_64, am_e189_226, am_e189_192, am_e189_68, am_e189_200, am_e189_74, am_e189_204, am_e189_79, am_e189_213, am_e189_85, am_e189_214, am_e189_91, am_e189_217, am_e189_97, am_e189_225, am_e189_103, am_e189_109, am_e189_112, am_e189_117, am_gM0, am_pM0, am_gM1, am_pM1, am_gM2, am_lM2, am_sM2, am_gM3, am_lM3, am_sM3, am_gM4, am_lM4, am_sM4, am_gM5, am_lM5, am_sM5, am_gM6, am_pM6, am_gM7, am_lM7, am_sM7, am_gM8, am_lM8, am_sM8, am_gM9, am_lM9, am_sM9, am_gM10, am_lM10, am_sM10, am_gM11, am_lM11, am_sM11, am_gM12, am_lM12, am_sM12, am_gM13, am_lM13, am_sM13, am_gM14, am_lM14, am_sM14, am_gM15, am_lM15, am_sM15, am_gM16, am_lM16, am_sM16, am_gM17, am_lM17, am_sM17, am_gM18, am_lM18, am_sM18, am_gM19, am_pM19, am_gM20, am_lM20, am_sM20, am_gM21, am_lM21, am_sM21, am_gM22, am_lM22, am_sM22, am_gM23, am_lM23, am_sM23, am_gM24, am_pM24, am_gM25, am_pM25, am_gM26, am_lM26, am_sM26, am_gM27, am_lM27, am_sM27, am_gM28, am_lM28, am_sM28, am_gM29, am_lM29, am_sM29, am_gM30, am_lM30, am_sM30, am_gM31, am_lM31, am_sM31, am_gM32, am_lM32, am_sM32, am_gM33, am_lM33, am_sM33, am_gM34, am_lM34, am_sM34, am_gM35, am_lM35, am_sM35, am_gM36, am_lM36, am_sM36, am_gM37, am_lM37, am_sM37, am_gM38, am_lM38, am_sM38, am_gM39, am_lM39, am_sM39, am_gM40, am_lM40, am_sM40, am_gM41, am_lM41, am_sM41, am_gM42, am_lM42, am_sM42, am_gM43, am_lM43, am_sM43, am_gM44, am_lM44, am_sM44, am_gM45, am_pM45, am_gM46, am_lM46, am_sM46, am_gM47, am_lM47, am_sM47, am_gM48, am_lM48, am_sM48, am_gM49, am_lM49, am_sM49, am_gM50, am_lM50, am_sM50, am_gM51, am_lM51, am_sM51, am_gM52, am_lM52, am_sM52, am_isM, am_bk, am_pu1, am_pu0, Option.bind_some, eq_self, am_nli, am_nlr, am_nln, am_nlu, if_true, if_false, not_true_eq_false, not_false_eq_true, am_10, am_01, e19, h19, Int32.le_refl, m187, m188]
    rfl
  rw [am_e189_226]
  · exact fin
  all_goals assumption
/-- the plan of one city: the tiles, and the state behind it -/
def as_po (m S g : Nat) (X : am_G) : Int64 × am_G :=
  if g < 100 then (if 0 ≤ as_fn m g S X 23 (as_ix 0 m g) then (as_ch (as_fn m g S X) S 0 m g 0, as_fn m g S X) else (as_p2 m S (as_fn m g S X), as_fn m 0 S (as_wf S (as_fn m g S X))))
  else (as_p2 m S X, as_fn m 0 S (as_wf S X))
theorem mr189_183 {m S g : Nat} (hm : m ≤ 24) (hS : S ≤ 24) (hg : g ≤ 100000) {X : am_G} (h19 : X 19 0 = Int32.ofNat S) (hfo : ∀ s, s < S → ∃ z, z < 5 ∧ X 21 s = Int32.ofNat z) {a1 a2 a3 a5 a6 : Value} : am_exec 189 183 [.ref 40, a1, a2, a3, .int (Int32.ofNat m), a5, a6] [.int (Int32.ofNat g)] (am_ov X L r) = some (.inl (some (.long (as_po m S g X).1)), am_ov (as_po m S g X).2 L r) := by
  rw [am_e189_183]
  unfold as_po
  by_cases h : g < 100
  · have c : ¬ (100 : Int32) ≤ Int32.ofNat g := by
      rw [show (100 : Int32) = Int32.ofNat 100 from rfl, am_le_nat (by decide) (by omega)]
      omega
    rw [if_neg c, if_pos h]
    have m187 := mr187 (L := L) (r := r) hm (show g ≤ 99 by omega) hS (G := X) h19 hfo
    have f19 : as_fn m g S X 19 0 = Int32.ofNat S := by rw [as_fn_ne (by decide)]; exact h19
    have f21 : ∀ s, s < S → ∃ z, z < 5 ∧ as_fn m g S X 21 s = Int32.ofNat z := by rw [as_fn_ne (by decide)]; exact hfo
    have m188 := mr188 (L := L) (r := r) hS hm (show g ≤ 99 by omega) (G := as_fn m g S X) f19 f21
    have hI := am_ixI (show 0 ≤ 24 by omega) hm (show g ≤ 99 by omega)
    have hJ := am_ixJ (show 0 ≤ 24 by omega) hm (show g ≤ 99 by omega)
    have ix0 : 2500 * 0 + 100 * Int32.ofNat m + Int32.ofNat g = Int32.ofNat (as_ix 0 m g) := am_ixe (s := 0)
    simp only [am_e189_192, am_e189_200, am_e189_204, am_e189_213, am_gM0, am_pM0, am_gM1, am_pM1, am_gM2, am_lM2, am_sM2, am_gM3, am_lM3, am_sM3, am_gM4, am_lM4, am_sM4, am_gM5, am_lM5, am_sM5, am_gM6, am_pM6, am_gM7, am_lM7, am_sM7, am_gM8, am_lM8, am_sM8, am_gM9, am_lM9, am_sM9, am_gM10, am_lM10, am_sM10, am_gM11, am_lM11, am_sM11, am_gM12, am_lM12, am_sM12, am_gM13, am_lM13, am_sM13, am_gM14, am_lM14, am_sM14, am_gM15, am_lM15, am_sM15, am_gM16, am_lM16, am_sM16, am_gM17, am_lM17, am_sM17, am_gM18, am_lM18, am_sM18, am_gM19, am_pM19, am_gM20, am_lM20, am_sM20, am_gM21, am_lM21, am_sM21, am_gM22, am_lM22, am_sM22, am_gM23, am_lM23, am_sM23, am_gM24, am_pM24, am_gM25, am_pM25, am_gM26, am_lM26, am_sM26, am_gM27, am_lM27, am_sM27, am_gM28, am_lM28, am_sM28, am_gM29, am_lM29, am_sM29, am_gM30, am_lM30, am_sM30, am_gM31, am_lM31, am_sM31, am_gM32, am_lM32, am_sM32, am_gM33, am_lM33, am_sM33, am_gM34, am_lM34, am_sM34, am_gM35, am_lM35, am_sM35, am_gM36, am_lM36, am_sM36, am_gM37, am_lM37, am_sM37, am_gM38, am_lM38, am_sM38, am_gM39, am_lM39, am_sM39, am_gM40, am_lM40, am_sM40, am_gM41, am_lM41, am_sM41, am_gM42, am_lM42, am_sM42, am_gM43, am_lM43, am_sM43, am_gM44, am_lM44, am_sM44, am_gM45, am_pM45, am_gM46, am_lM46, am_sM46, am_gM47, am_lM47, am_sM47, am_gM48, am_lM48, am_sM48, am_gM49, am_lM49, am_sM49, am_gM50, am_lM50, am_sM50, am_gM51, am_lM51, am_sM51, am_gM52, am_lM52, am_sM52, am_isM, am_bk, am_pu1, am_pu0, Option.bind_some, eq_self, am_nli, am_nlr, am_nln, am_nlu, if_true, if_false, not_true_eq_false, not_false_eq_true, am_10, am_01, m187, mr186, ix0, hI, hJ]
    rw [am_e189_214]
    by_cases h2 : 0 ≤ as_fn m g S X 23 (as_ix 0 m g)
    · rw [if_neg (Int32.not_lt.mpr h2), if_pos h2]
      simp only [am_e189_217, am_e189_225, am_gM0, am_pM0, am_gM1, am_pM1, am_gM2, am_lM2, am_sM2, am_gM3, am_lM3, am_sM3, am_gM4, am_lM4, am_sM4, am_gM5, am_lM5, am_sM5, am_gM6, am_pM6, am_gM7, am_lM7, am_sM7, am_gM8, am_lM8, am_sM8, am_gM9, am_lM9, am_sM9, am_gM10, am_lM10, am_sM10, am_gM11, am_lM11, am_sM11, am_gM12, am_lM12, am_sM12, am_gM13, am_lM13, am_sM13, am_gM14, am_lM14, am_sM14, am_gM15, am_lM15, am_sM15, am_gM16, am_lM16, am_sM16, am_gM17, am_lM17, am_sM17, am_gM18, am_lM18, am_sM18, am_gM19, am_pM19, am_gM20, am_lM20, am_sM20, am_gM21, am_lM21, am_sM21, am_gM22, am_lM22, am_sM22, am_gM23, am_lM23, am_sM23, am_gM24, am_pM24, am_gM25, am_pM25, am_gM26, am_lM26, am_sM26, am_gM27, am_lM27, am_sM27, am_gM28, am_lM28, am_sM28, am_gM29, am_lM29, am_sM29, am_gM30, am_lM30, am_sM30, am_gM31, am_lM31, am_sM31, am_gM32, am_lM32, am_sM32, am_gM33, am_lM33, am_sM33, am_gM34, am_lM34, am_sM34, am_gM35, am_lM35, am_sM35, am_gM36, am_lM36, am_sM36, am_gM37, am_lM37, am_sM37, am_gM38, am_lM38, am_sM38, am_gM39, am_lM39, am_sM39, am_gM40, am_lM40, am_sM40, am_gM41, am_lM41, am_sM41, am_gM42, am_lM42, am_sM42, am_gM43, am_lM43, am_sM43, am_gM44, am_lM44, am_sM44, am_gM45, am_pM45, am_gM46, am_lM46, am_sM46, am_gM47, am_lM47, am_sM47, am_gM48, am_lM48, am_sM48, am_gM49, am_lM49, am_sM49, am_gM50, am_lM50, am_sM50, am_gM51, am_lM51, am_sM51, am_gM52, am_lM52, am_sM52, am_isM, am_bk, am_pu1, am_pu0, Option.bind_some, eq_self, am_nli, am_nlr, am_nln, am_nlu, if_true, if_false, not_true_eq_false, not_false_eq_true, am_10, am_01, m188]
    · rw [if_pos (Int32.not_le.mp h2), if_neg h2]
      exact mr189_226 hm hS f19 f21 rfl
  · have c : (100 : Int32) ≤ Int32.ofNat g := by
      rw [show (100 : Int32) = Int32.ofNat 100 from rfl, am_le_nat (by decide) (by omega)]
      omega
    rw [if_pos c, if_neg h]
    exact mr189_226 hm hS h19 hfo rfl
  all_goals first | assumption | rfl
/-- the state when the spots of a city are known -/
def as_xs (G : am_G) (n T c : Nat) (p : Int64) : am_G := am_it (as_sp G n T c p) (am_up G 19 0 0) 64
/-- how many spots a city has -/
def as_ns (G : am_G) (n T c : Nat) (p : Int64) : Nat := am_cnt (fun t => as_cw G n T c t p) 64
/-- what a city lacks of food without its tiles -/
def as_nd (G : am_G) (c z : Nat) : Nat := 2 * z - (am_mx (am_fd (G 2 (G 9 c).toNatClampNeg) (G 3 (G 9 c).toNatClampNeg)) 2).toNatClampNeg
theorem as_po_ne {m S g f : Nat} {X : am_G} (h : ¬ (22 ≤ f ∧ f ≤ 23)) : (as_po m S g X).2 f = X f := by
  unfold as_po
  split
  · split
    · exact as_fn_ne (by omega)
    · exact (as_fn_ne (by omega)).trans ((as_wf_ne (by omega)).trans (as_fn_ne (by omega)))
  · exact (as_fn_ne (by omega)).trans (as_wf_ne (by omega))
theorem as_xs_ne {G : am_G} {n T c f : Nat} {p : Int64} (h : ¬ (19 ≤ f ∧ f ≤ 22)) : as_xs G n T c p f = G f := by
  unfold as_xs
  rw [am_it_row (fun t X => as_sp_ne h), am_up_ne (by omega)]
theorem mr189 {G : am_G} {n T : Nat} (hn : G 24 0 = Int32.ofNat n) (hn2 : n ≤ 40) (hT : G 45 0 = Int32.ofNat T) (hT2 : T ≤ 40) {c : Nat} (hc : c < 12) (ht : am_I (G 9 c) 64) {z : Nat} (hz : G 10 c = Int32.ofNat z) (hz2 : z ≤ 1000) {p : Int64} : am_exec 189 0 [.ref 40, .int (Int32.ofNat c), .long p, am_U, am_U, am_U, am_U] [] (am_ov G L r) = some (.inl (some (.long (as_po (min (as_ns G n T c p) z) (as_ns G n T c p) (as_nd G c z) (as_xs G n T c p)).1)), am_ov (as_po (min (as_ns G n T c p) z) (as_ns G n T c p) (as_nd G c z) (as_xs G n T c p)).2 L r) := by
  obtain ⟨p1, -⟩ := mr189_8 (L := L) (r := r) hn hn2 hT hT2 hc ht (p := p)
  obtain ⟨q1, q2⟩ := as_sp_21 (G := G) (n := n) (T := T) (c := c) (p := p) 64 (by omega)
  have hS : as_ns G n T c p ≤ 24 := as_cw_24 ht
  obtain ⟨S, hSe⟩ : ∃ S, S = as_ns G n T c p := ⟨_, rfl⟩
  obtain ⟨X, hX⟩ : ∃ X, X = as_xs G n T c p := ⟨_, rfl⟩
  have e1 : am_cnt (fun t => as_cw G n T c t p) 64 = S := hSe.symm
  have e2 : am_it (as_sp G n T c p) (am_up G 19 0 0) 64 = X := hX.symm
  rw [e1, e2] at q1 q2
  rw [e2] at p1
  rw [← hSe] at hS ⊢
  rw [← hX]
  have eX : ∀ f, ¬ (19 ≤ f ∧ f ≤ 22) → X f = G f := fun f hf => by rw [hX, as_xs_ne hf]
  have hI : am_I (Int32.ofNat c) 12 := am_Ik hc (by decide)
  have hJ := am_tcn (show c ≤ 100000 by omega)
  obtain ⟨y, y1, y2⟩ := as_fd2 (l := G 2 (G 9 c).toNatClampNeg) (m := G 3 (G 9 c).toNatClampNeg)
  have hnd : as_nd G c z = 2 * z - y := by
    unfold as_nd
    rw [y2, am_tcn (by omega)]
  have e2z : (2 : Int32) * Int32.ofNat z = Int32.ofNat (2 * z) := by
    rw [show (2 : Int32) = Int32.ofNat 2 from rfl, ← Int32.ofNat_mul]
  have m178 := mr178 (G := X) (L := L) (r := r) (t := G 9 c) ht
  rw [eX 2 (by decide), eX 3 (by decide)] at m178
  have em := am_mxn (a := 2 * z) (b := y) (by omega) y1
  have top : am_exec 189 0 [.ref 40, .int (Int32.ofNat c), .long p, am_U, am_U, am_U, am_U] [] (am_ov G L r) = am_exec 189 183 [.ref 40, .int (Int32.ofNat c), .long p, am_U, .int (Int32.ofNat (min S z)), am_U, am_U] [.int (Int32.ofNat (2 * z - y))] (am_ov X L r) := by
    simp only [am_e189_0, am_e189_5, am_gM0, am_pM0, am_gM1, am_pM1, am_gM2, am_lM2, am_sM2, am_gM3, am_lM3, am_sM3, am_gM4, am_lM4, am_sM4, am_gM5, am_lM5, am_sM5, am_gM6, am_pM6, am_gM7, am_lM7, am_sM7, am_gM8, am_lM8, am_sM8, am_gM9, am_lM9, am_sM9, am_gM10, am_lM10, am_sM10, am_gM11, am_lM11, am_sM11, am_gM12, am_lM12, am_sM12, am_gM13, am_lM13, am_sM13, am_gM14, am_lM14, am_sM14, am_gM15, am_lM15, am_sM15, am_gM16, am_lM16, am_sM16, am_gM17, am_lM17, am_sM17, am_gM18, am_lM18, am_sM18, am_gM19, am_pM19, am_gM20, am_lM20, am_sM20, am_gM21, am_lM21, am_sM21, am_gM22, am_lM22, am_sM22, am_gM23, am_lM23, am_sM23, am_gM24, am_pM24, am_gM25, am_pM25, am_gM26, am_lM26, am_sM26, am_gM27, am_lM27, am_sM27, am_gM28, am_lM28, am_sM28, am_gM29, am_lM29, am_sM29, am_gM30, am_lM30, am_sM30, am_gM31, am_lM31, am_sM31, am_gM32, am_lM32, am_sM32, am_gM33, am_lM33, am_sM33, am_gM34, am_lM34, am_sM34, am_gM35, am_lM35, am_sM35, am_gM36, am_lM36, am_sM36, am_gM37, am_lM37, am_sM37, am_gM38, am_lM38, am_sM38, am_gM39, am_lM39, am_sM39, am_gM40, am_lM40, am_sM40, am_gM41, am_lM41, am_sM41, am_gM42, am_lM42, am_sM42, am_gM43, am_lM43, am_sM43, am_gM44, am_lM44, am_sM44, am_gM45, am_pM45, am_gM46, am_lM46, am_sM46, am_gM47, am_lM47, am_sM47, am_gM48, am_lM48, am_sM48, am_gM49, am_lM49, am_sM49, am_gM50, am_lM50, am_sM50, am_gM51, am_lM51, am_sM51, am_gM52, am_lM52, am_sM52, am_isM, am_bk, am_pu1, am_pu0, Option.bind_some, eq_self, am_nli, am_nlr, am_nln, am_nlu, if_true, if_false, not_true_eq_false, not_false_eq_true, am_10, am_01, p1]
    by_cases h : S ≤ z
    · have c1 : Int32.ofNat S ≤ Int32.ofNat z := by rw [am_le_nat (by omega) (by omega)]; exact h
      rw [Nat.min_eq_left h]
      simp only [am_e189_0, am_e189_5, am_e189_128, am_e189_15, am_e189_235, am_e189_132, am_e189_23, am_e189_265, am_e189_238, am_e189_134, am_e189_122, am_e189_26, am_e189_272, am_e189_242, am_e189_138, am_e189_30, am_e189_279, am_e189_246, am_e189_150, am_e189_141, am_e189_34, am_e189_253, am_e189_154, am_e189_145, am_e189_37, am_e189_256, am_e189_161, am_e189_147, am_e189_41, am_e189_259, am_e189_163, am_e189_45, am_e189_169, am_e189_51, am_e189_171, am_e189_52, am_e189_174, am_e189_56, am_e189_178, am_e189_60, am_e189_64, am_e189_226, am_e189_192, am_e189_68, am_e189_200, am_e189_74, am_e189_204, am_e189_79, am_e189_213, am_e189_85, am_e189_214, am_e189_91, am_e189_217, am_e189_97, am_e189_225, am_e189_103, am_e189_109, am_e189_112, am_e189_117, am_gM0, am_pM0, am_gM1, am_pM1, am_gM2, am_lM2, am_sM2, am_gM3, am_lM3, am_sM3, am_gM4, am_lM4, am_sM4, am_gM5, am_lM5, am_sM5, am_gM6, am_pM6, am_gM7, am_lM7, am_sM7, am_gM8, am_lM8, am_sM8, am_gM9, am_lM9, am_sM9, am_gM10, am_lM10, am_sM10, am_gM11, am_lM11, am_sM11, am_gM12, am_lM12, am_sM12, am_gM13, am_lM13, am_sM13, am_gM14, am_lM14, am_sM14, am_gM15, am_lM15, am_sM15, am_gM16, am_lM16, am_sM16, am_gM17, am_lM17, am_sM17, am_gM18, am_lM18, am_sM18, am_gM19, am_pM19, am_gM20, am_lM20, am_sM20, am_gM21, am_lM21, am_sM21, am_gM22, am_lM22, am_sM22, am_gM23, am_lM23, am_sM23, am_gM24, am_pM24, am_gM25, am_pM25, am_gM26, am_lM26, am_sM26, am_gM27, am_lM27, am_sM27, am_gM28, am_lM28, am_sM28, am_gM29, am_lM29, am_sM29, am_gM30, am_lM30, am_sM30, am_gM31, am_lM31, am_sM31, am_gM32, am_lM32, am_sM32, am_gM33, am_lM33, am_sM33, am_gM34, am_lM34, am_sM34, am_gM35, am_lM35, am_sM35, am_gM36, am_lM36, am_sM36, am_gM37, am_lM37, am_sM37, am_gM38, am_lM38, am_sM38, am_gM39, am_lM39, am_sM39, am_gM40, am_lM40, am_sM40, am_gM41, am_lM41, am_sM41, am_gM42, am_lM42, am_sM42, am_gM43, am_lM43, am_sM43, am_gM44, am_lM44, am_sM44, am_gM45, am_pM45, am_gM46, am_lM46, am_sM46, am_gM47, am_lM47, am_sM47, am_gM48, am_lM48, am_sM48, am_gM49, am_lM49, am_sM49, am_gM50, am_lM50, am_sM50, am_gM51, am_lM51, am_sM51, am_gM52, am_lM52, am_sM52, am_isM, am_bk, am_pu1, am_pu0, Option.bind_some, eq_self, am_nli, am_nlr, am_nln, am_nlu, if_true, if_false, not_true_eq_false, not_false_eq_true, am_10, am_01, hI, hJ, eX 10 (by decide), eX 9 (by decide), hz, q1, c1, ht, m178, mr181, y2, e2z, em]
    · have c1 : ¬ Int32.ofNat S ≤ Int32.ofNat z := by rw [am_le_nat (by omega) (by omega)]; exact h
      rw [Nat.min_eq_right (by omega)]
      simp only [am_e189_0, am_e189_5, am_e189_128, am_e189_15, am_e189_235, am_e189_132, am_e189_23, am_e189_265, am_e189_238, am_e189_134, am_e189_122, am_e189_26, am_e189_272, am_e189_242, am_e189_138, am_e189_30, am_e189_279, am_e189_246, am_e189_150, am_e189_141, am_e189_34, am_e189_253, am_e189_154, am_e189_145, am_e189_37, am_e189_256, am_e189_161, am_e189_147, am_e189_41, am_e189_259, am_e189_163, am_e189_45, am_e189_169, am_e189_51, am_e189_171, am_e189_52, am_e189_174, am_e189_56, am_e189_178, am_e189_60, am_e189_64, am_e189_226, am_e189_192, am_e189_68, am_e189_200, am_e189_74, am_e189_204, am_e189_79, am_e189_213, am_e189_85, am_e189_214, am_e189_91, am_e189_217, am_e189_97, am_e189_225, am_e189_103, am_e189_109, am_e189_112, am_e189_117, am_gM0, am_pM0, am_gM1, am_pM1, am_gM2, am_lM2, am_sM2, am_gM3, am_lM3, am_sM3, am_gM4, am_lM4, am_sM4, am_gM5, am_lM5, am_sM5, am_gM6, am_pM6, am_gM7, am_lM7, am_sM7, am_gM8, am_lM8, am_sM8, am_gM9, am_lM9, am_sM9, am_gM10, am_lM10, am_sM10, am_gM11, am_lM11, am_sM11, am_gM12, am_lM12, am_sM12, am_gM13, am_lM13, am_sM13, am_gM14, am_lM14, am_sM14, am_gM15, am_lM15, am_sM15, am_gM16, am_lM16, am_sM16, am_gM17, am_lM17, am_sM17, am_gM18, am_lM18, am_sM18, am_gM19, am_pM19, am_gM20, am_lM20, am_sM20, am_gM21, am_lM21, am_sM21, am_gM22, am_lM22, am_sM22, am_gM23, am_lM23, am_sM23, am_gM24, am_pM24, am_gM25, am_pM25, am_gM26, am_lM26, am_sM26, am_gM27, am_lM27, am_sM27, am_gM28, am_lM28, am_sM28, am_gM29, am_lM29, am_sM29, am_gM30, am_lM30, am_sM30, am_gM31, am_lM31, am_sM31, am_gM32, am_lM32, am_sM32, am_gM33, am_lM33, am_sM33, am_gM34, am_lM34, am_sM34, am_gM35, am_lM35, am_sM35, am_gM36, am_lM36, am_sM36, am_gM37, am_lM37, am_sM37, am_gM38, am_lM38, am_sM38, am_gM39, am_lM39, am_sM39, am_gM40, am_lM40, am_sM40, am_gM41, am_lM41, am_sM41, am_gM42, am_lM42, am_sM42, am_gM43, am_lM43, am_sM43, am_gM44, am_lM44, am_sM44, am_gM45, am_pM45, am_gM46, am_lM46, am_sM46, am_gM47, am_lM47, am_sM47, am_gM48, am_lM48, am_sM48, am_gM49, am_lM49, am_sM49, am_gM50, am_lM50, am_sM50, am_gM51, am_lM51, am_sM51, am_gM52, am_lM52, am_sM52, am_isM, am_bk, am_pu1, am_pu0, Option.bind_some, eq_self, am_nli, am_nlr, am_nln, am_nlu, if_true, if_false, not_true_eq_false, not_false_eq_true, am_10, am_01, hI, hJ, eX 10 (by decide), eX 9 (by decide), hz, q1, c1, ht, m178, mr181, y2, e2z, em]
  rw [top, hnd]
  exact mr189_183 (by omega) hS (by omega) q1 q2
end
/-- the plans of the cities, one after the other: state, plans, tiles taken -/
def as_pa (n T : Nat) (c : Nat) (s : am_G × (Nat → Int64) × Int64) : am_G × (Nat → Int64) × Int64 :=
  if s.1 7 c = 1 then
    ((as_po (min (as_ns s.1 n T c s.2.2) (s.1 10 c).toNatClampNeg) (as_ns s.1 n T c s.2.2) (as_nd s.1 c (s.1 10 c).toNatClampNeg) (as_xs s.1 n T c s.2.2)).2,
     am_upd s.2.1 c (as_po (min (as_ns s.1 n T c s.2.2) (s.1 10 c).toNatClampNeg) (as_ns s.1 n T c s.2.2) (as_nd s.1 c (s.1 10 c).toNatClampNeg) (as_xs s.1 n T c s.2.2)).1,
     s.2.2 ||| (as_po (min (as_ns s.1 n T c s.2.2) (s.1 10 c).toNatClampNeg) (as_ns s.1 n T c s.2.2) (as_nd s.1 c (s.1 10 c).toNatClampNeg) (as_xs s.1 n T c s.2.2)).1)
  else (s.1, am_upd s.2.1 c 0, s.2.2)
theorem as_pa_ne {n T c f : Nat} {s : am_G × (Nat → Int64) × Int64} (h : ¬ (19 ≤ f ∧ f ≤ 23)) : (as_pa n T c s).1 f = s.1 f := by
  unfold as_pa
  split
  · exact (as_po_ne (by omega)).trans (as_xs_ne (by omega))
  · rfl
theorem as_pal_ne {n T f : Nat} {s : am_G × (Nat → Int64) × Int64} (h : ¬ (19 ≤ f ∧ f ≤ 23)) : ∀ k, (am_it (as_pa n T) s k).1 f = s.1 f
  | 0 => rfl
  | k + 1 => by rw [am_it, as_pa_ne h, as_pal_ne h k]
section
variable {r : am_H}
theorem mr190 {G : am_G} {L : Nat → Int64} {n F T : Nat} (hn : G 24 0 = Int32.ofNat n) (hn2 : n ≤ 40) (hT : G 45 0 = Int32.ofNat T) (hT2 : T ≤ 40) (hF : G 6 0 = Int32.ofNat F) (hF2 : F ≤ 12) (hb : ∀ c, c < F → G 7 c = 0 ∨ G 7 c = 1) (hcp : ∀ c, c < F → am_I (G 9 c) 64) (hz : ∀ c, c < F → G 7 c = 1 → ∃ z, G 10 c = Int32.ofNat z ∧ z ≤ 1000) : am_exec 190 0 [.ref 40, am_U, am_U, am_U] [] (am_ov G L r) = some (.inl none, am_ov (am_it (as_pa n T) (G, L, 0) F).1 (am_it (as_pa n T) (G, L, 0) F).2.1 r) := by
  have key := am_iter (fun k => am_exec 190 4 [.ref 40, .long (am_it (as_pa n T) (G, L, 0) k).2.2, am_U, .int (Int32.ofNat k)] [] (am_ov (am_it (as_pa n T) (G, L, 0) k).1 (am_it (as_pa n T) (G, L, 0) k).2.1 r)) F (fun k hk => by
    have c0 : ¬ Int32.ofNat F ≤ Int32.ofNat k := am_lit _ _ hk (by omega)
    have hI : am_I (Int32.ofNat k) 12 := am_Ik (by omega) (by decide)
    have hJ := am_tcn (show k ≤ 100000 by omega)
    have eX : ∀ f, ¬ (19 ≤ f ∧ f ≤ 23) → (am_it (as_pa n T) (G, L, 0) k).1 f = G f := fun f hf => as_pal_ne hf k
    show am_exec 190 4 _ _ _ = am_exec 190 4 [.ref 40, .long (as_pa n T k (am_it (as_pa n T) (G, L, 0) k)).2.2, am_U, .int (Int32.ofNat (k + 1))] [] (am_ov (as_pa n T k (am_it (as_pa n T) (G, L, 0) k)).1 (as_pa n T k (am_it (as_pa n T) (G, L, 0) k)).2.1 r)
    generalize am_it (as_pa n T) (G, L, 0) k = s at *
    obtain ⟨X, P, p⟩ := s
    have eX : ∀ f, ¬ (19 ≤ f ∧ f ≤ 23) → X f = G f := eX
    show am_exec 190 4 [.ref 40, .long p, am_U, .int (Int32.ofNat k)] [] (am_ov X P r) = _
    have h6 := eX 6 (by decide)
    have h7 : X 7 k = G 7 k := by rw [eX 7 (by decide)]
    unfold as_pa
    dsimp only
    rw [am_e190_4]
    by_cases h : X 7 k = 1
    · obtain ⟨z, z1, z2⟩ := hz k hk (by rw [← h7]; exact h)
      have ez : X 10 k = Int32.ofNat z := by rw [eX 10 (by decide)]; exact z1
      have n7 : ¬ X 7 k = 0 := by rw [h]; decide
      have m189 := mr189 (L := P) (r := r) (G := X) (n := n) (T := T) (by rw [eX 24 (by decide)]; exact hn) hn2 (by rw [eX 45 (by decide)]; exact hT) hT2 (c := k) (by omega) (by rw [eX 9 (by decide)]; exact hcp k hk) ez z2 (p := p)
      rw [if_pos h, ez, am_tcn (show z ≤ 100000 by omega)]
      generalize as_po (min (as_ns X n T k p) z) (as_ns X n T k p) (as_nd X k z) (as_xs X n T k p) = Y at *
      simp only [am_e190_0, am_e190_9, am_e190_52, am_e190_12, am_e190_16, am_e190_21, am_e190_23, am_e190_35, am_e190_26, am_e190_37, am_e190_32, am_e190_42, am_e190_44, am_gM0, am_pM0, am_gM1, am_pM1, am_gM2, am_lM2, am_sM2, am_gM3, am_lM3, am_sM3, am_gM4, am_lM4, am_sM4, am_gM5, am_lM5, am_sM5, am_gM6, am_pM6, am_gM7, am_lM7, am_sM7, am_gM8, am_lM8, am_sM8, am_gM9, am_lM9, am_sM9, am_gM10, am_lM10, am_sM10, am_gM11, am_lM11, am_sM11, am_gM12, am_lM12, am_sM12, am_gM13, am_lM13, am_sM13, am_gM14, am_lM14, am_sM14, am_gM15, am_lM15, am_sM15, am_gM16, am_lM16, am_sM16, am_gM17, am_lM17, am_sM17, am_gM18, am_lM18, am_sM18, am_gM19, am_pM19, am_gM20, am_lM20, am_sM20, am_gM21, am_lM21, am_sM21, am_gM22, am_lM22, am_sM22, am_gM23, am_lM23, am_sM23, am_gM24, am_pM24, am_gM25, am_pM25, am_gM26, am_lM26, am_sM26, am_gM27, am_lM27, am_sM27, am_gM28, am_lM28, am_sM28, am_gM29, am_lM29, am_sM29, am_gM30, am_lM30, am_sM30, am_gM31, am_lM31, am_sM31, am_gM32, am_lM32, am_sM32, am_gM33, am_lM33, am_sM33, am_gM34, am_lM34, am_sM34, am_gM35, am_lM35, am_sM35, am_gM36, am_lM36, am_sM36, am_gM37, am_lM37, am_sM37, am_gM38, am_lM38, am_sM38, am_gM39, am_lM39, am_sM39, am_gM40, am_lM40, am_sM40, am_gM41, am_lM41, am_sM41, am_gM42, am_lM42, am_sM42, am_gM43, am_lM43, am_sM43, am_gM44, am_lM44, am_sM44, am_gM45, am_pM45, am_gM46, am_lM46, am_sM46, am_gM47, am_lM47, am_sM47, am_gM48, am_lM48, am_sM48, am_gM49, am_lM49, am_sM49, am_gM50, am_lM50, am_sM50, am_gM51, am_lM51, am_sM51, am_gM52, am_lM52, am_sM52, am_isM, am_bk, am_pu1, am_pu0, Option.bind_some, eq_self, am_nli, am_nlr, am_nln, am_nlu, if_true, if_false, not_true_eq_false, not_false_eq_true, am_10, am_01, hI, hJ, h6, hF, c0, n7, m189, am_upd_eq, am_succ]
    · have n7 : X 7 k = 0 := by
        rw [h7] at h ⊢
        exact (hb k hk).resolve_right h
      rw [if_neg h]
      simp only [am_e190_0, am_e190_9, am_e190_52, am_e190_12, am_e190_16, am_e190_21, am_e190_23, am_e190_35, am_e190_26, am_e190_37, am_e190_32, am_e190_42, am_e190_44, am_gM0, am_pM0, am_gM1, am_pM1, am_gM2, am_lM2, am_sM2, am_gM3, am_lM3, am_sM3, am_gM4, am_lM4, am_sM4, am_gM5, am_lM5, am_sM5, am_gM6, am_pM6, am_gM7, am_lM7, am_sM7, am_gM8, am_lM8, am_sM8, am_gM9, am_lM9, am_sM9, am_gM10, am_lM10, am_sM10, am_gM11, am_lM11, am_sM11, am_gM12, am_lM12, am_sM12, am_gM13, am_lM13, am_sM13, am_gM14, am_lM14, am_sM14, am_gM15, am_lM15, am_sM15, am_gM16, am_lM16, am_sM16, am_gM17, am_lM17, am_sM17, am_gM18, am_lM18, am_sM18, am_gM19, am_pM19, am_gM20, am_lM20, am_sM20, am_gM21, am_lM21, am_sM21, am_gM22, am_lM22, am_sM22, am_gM23, am_lM23, am_sM23, am_gM24, am_pM24, am_gM25, am_pM25, am_gM26, am_lM26, am_sM26, am_gM27, am_lM27, am_sM27, am_gM28, am_lM28, am_sM28, am_gM29, am_lM29, am_sM29, am_gM30, am_lM30, am_sM30, am_gM31, am_lM31, am_sM31, am_gM32, am_lM32, am_sM32, am_gM33, am_lM33, am_sM33, am_gM34, am_lM34, am_sM34, am_gM35, am_lM35, am_sM35, am_gM36, am_lM36, am_sM36, am_gM37, am_lM37, am_sM37, am_gM38, am_lM38, am_sM38, am_gM39, am_lM39, am_sM39, am_gM40, am_lM40, am_sM40, am_gM41, am_lM41, am_sM41, am_gM42, am_lM42, am_sM42, am_gM43, am_lM43, am_sM43, am_gM44, am_lM44, am_sM44, am_gM45, am_pM45, am_gM46, am_lM46, am_sM46, am_gM47, am_lM47, am_sM47, am_gM48, am_lM48, am_sM48, am_gM49, am_lM49, am_sM49, am_gM50, am_lM50, am_sM50, am_gM51, am_lM51, am_sM51, am_gM52, am_lM52, am_sM52, am_isM, am_bk, am_pu1, am_pu0, Option.bind_some, eq_self, am_nli, am_nlr, am_nln, am_nlu, if_true, if_false, not_true_eq_false, not_false_eq_true, am_10, am_01, hI, hJ, h6, hF, c0, n7, am_upd_eq, am_succ, Int64.or_zero])
  have h6 := as_pal_ne (n := n) (T := T) (s := (G, L, 0)) (f := 6) (by decide) F
  simp only [am_e190_0, am_bk, am_pu1, am_pu0, Option.bind_some, eq_self, am_nli, am_nlr, am_nln, am_nlu, if_true, if_false, not_true_eq_false, not_false_eq_true, am_10, am_01]
  refine key.trans ?_
  show am_exec 190 4 _ _ _ = _
  rw [am_e190_4]
  simp only [am_e190_0, am_e190_9, am_e190_52, am_e190_12, am_e190_16, am_e190_21, am_e190_23, am_e190_35, am_e190_26, am_e190_37, am_e190_32, am_e190_42, am_e190_44, am_gM0, am_pM0, am_gM1, am_pM1, am_gM2, am_lM2, am_sM2, am_gM3, am_lM3, am_sM3, am_gM4, am_lM4, am_sM4, am_gM5, am_lM5, am_sM5, am_gM6, am_pM6, am_gM7, am_lM7, am_sM7, am_gM8, am_lM8, am_sM8, am_gM9, am_lM9, am_sM9, am_gM10, am_lM10, am_sM10, am_gM11, am_lM11, am_sM11, am_gM12, am_lM12, am_sM12, am_gM13, am_lM13, am_sM13, am_gM14, am_lM14, am_sM14, am_gM15, am_lM15, am_sM15, am_gM16, am_lM16, am_sM16, am_gM17, am_lM17, am_sM17, am_gM18, am_lM18, am_sM18, am_gM19, am_pM19, am_gM20, am_lM20, am_sM20, am_gM21, am_lM21, am_sM21, am_gM22, am_lM22, am_sM22, am_gM23, am_lM23, am_sM23, am_gM24, am_pM24, am_gM25, am_pM25, am_gM26, am_lM26, am_sM26, am_gM27, am_lM27, am_sM27, am_gM28, am_lM28, am_sM28, am_gM29, am_lM29, am_sM29, am_gM30, am_lM30, am_sM30, am_gM31, am_lM31, am_sM31, am_gM32, am_lM32, am_sM32, am_gM33, am_lM33, am_sM33, am_gM34, am_lM34, am_sM34, am_gM35, am_lM35, am_sM35, am_gM36, am_lM36, am_sM36, am_gM37, am_lM37, am_sM37, am_gM38, am_lM38, am_sM38, am_gM39, am_lM39, am_sM39, am_gM40, am_lM40, am_sM40, am_gM41, am_lM41, am_sM41, am_gM42, am_lM42, am_sM42, am_gM43, am_lM43, am_sM43, am_gM44, am_lM44, am_sM44, am_gM45, am_pM45, am_gM46, am_lM46, am_sM46, am_gM47, am_lM47, am_sM47, am_gM48, am_lM48, am_sM48, am_gM49, am_lM49, am_sM49, am_gM50, am_lM50, am_sM50, am_gM51, am_lM51, am_sM51, am_gM52, am_lM52, am_sM52, am_isM, am_bk, am_pu1, am_pu0, Option.bind_some, eq_self, am_nli, am_nlr, am_nln, am_nlu, if_true, if_false, not_true_eq_false, not_false_eq_true, am_10, am_01, h6, hF, Int32.le_refl]
end
