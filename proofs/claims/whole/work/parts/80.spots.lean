/-! THE REFERENCE'S PLAN: the spots of a city -/
def as_fo (G : am_G) (t : Nat) : Int32 := am_fd (G 2 t) (G 3 t)
def as_wo (G : am_G) (c t : Nat) : Int32 := G 15 (3 * c) * as_fo G t + G 15 (3 * c + 1) * am_wk (G 2 t) (G 3 t) + G 15 (3 * c + 2) * am_td (G 2 t)
/-- a tile that can be worked becomes a spot -/
def as_sp (G : am_G) (n T c : Nat) (p : Int64) (t : Nat) (X : am_G) : am_G := if as_cw G n T c t p then am_up (am_up (am_up (am_up X 20 (X 19 0).toNatClampNeg (Int32.ofNat t)) 21 (X 19 0).toNatClampNeg (as_fo G t)) 22 (X 19 0).toNatClampNeg (as_wo G c t)) 19 0 (X 19 0 + 1) else X
theorem as_sp_ne {G : am_G} {n T c : Nat} {p : Int64} {t f : Nat} {X : am_G} (h : ¬ (19 ≤ f ∧ f ≤ 22)) : as_sp G n T c p t X f = X f := by
  unfold as_sp
  split
  · rw [am_up_ne (by omega), am_up_ne (by omega), am_up_ne (by omega), am_up_ne (by omega)]
  · rfl
theorem am_find_cg {p q : Nat → Prop} [DecidablePred p] [DecidablePred q] : ∀ (m k : Nat), (∀ k, p k ↔ q k) → am_find p k m = am_find q k m
  | 0, _, _ => rfl
  | m + 1, k, h => by
    unfold am_find
    rw [am_find_cg m (k + 1) h]
    by_cases h1 : p k
    · rw [if_pos h1, if_pos ((h k).mp h1)]
    · rw [if_neg h1, if_neg (fun q => h1 ((h k).mpr q))]
theorem as_cw_congr {G X : am_G} {n T c t : Nat} {p : Int64} (h : ∀ f, ¬ (19 ≤ f ∧ f ≤ 23) → X f = G f) : as_cw X n T c t p ↔ as_cw G n T c t p := by
  have e4 := h 4 (by decide)
  have e5 := h 5 (by decide)
  have e8 := h 8 (by decide)
  have e9 := h 9 (by decide)
  have e27 := h 27 (by decide)
  have e29 := h 29 (by decide)
  have es : ∀ x, as_so' X n x = as_so' G n x := fun x => by
    unfold as_so'
    rw [e27, e29]
  have ew : ∀ x y, am_war X x y T ↔ am_war G x y T := fun x y => by
    have : am_find (am_stp X 0 x y) 0 T = am_find (am_stp G 0 x y) 0 T := am_find_cg T 0 fun k => by
      unfold am_stp
      rw [h 50 (by decide), h 46 (by decide), h 47 (by decide), h 48 (by decide)]
    unfold am_war am_sts
    rw [this]
  unfold as_cw
  rw [e4, e5, e8, e9, es, ew]
theorem am_cnt_mono {p q : Nat → Prop} [DecidablePred p] [DecidablePred q] : ∀ n, (∀ k, k < n → p k → q k) → am_cnt p n ≤ am_cnt q n
  | 0, _ => Nat.le_refl _
  | n + 1, h => by
    have ih := am_cnt_mono (p := p) (q := q) n (fun k hk => h k (by omega))
    have := h n (by omega)
    unfold am_cnt
    by_cases h1 : p n
    · rw [if_pos h1, if_pos (this h1)]; omega
    · rw [if_neg h1]; omega
theorem am_cnt_add {p : Nat → Prop} [DecidablePred p] {k : Nat} : ∀ m, am_cnt p k ≤ am_cnt p (k + m)
  | 0 => Nat.le_refl _
  | m + 1 => Nat.le_trans (am_cnt_add m) (by
      show am_cnt p (k + m) ≤ am_cnt p (k + m) + _
      omega)
theorem am_near : ∀ u, u < 64 → am_cnt (fun t => 1 ≤ am_dist (Int32.ofNat t) (Int32.ofNat u) ∧ am_dist (Int32.ofNat t) (Int32.ofNat u) ≤ 2) 64 ≤ 24 := by decide +kernel
theorem as_cw_24 {G : am_G} {n T c : Nat} {p : Int64} (ht : am_I (G 9 c) 64) : am_cnt (fun t => as_cw G n T c t p) 64 ≤ 24 := by
  obtain ⟨u, hu, e⟩ := ht.cases
  refine Nat.le_trans (am_cnt_mono 64 ?_) (am_near u hu)
  intro t _ h
  rw [← e]
  exact h.1
theorem as_cw_lt {G : am_G} {n T c k : Nat} {p : Int64} (ht : am_I (G 9 c) 64) (hk : k < 64) (h : as_cw G n T c k p) : am_cnt (fun t => as_cw G n T c t p) k < 24 := by
  have h1 := as_cw_24 (n := n) (T := T) (p := p) ht
  have h2 := am_cnt_add (p := fun t => as_cw G n T c t p) (k := k + 1) (63 - k)
  rw [show k + 1 + (63 - k) = 64 by omega] at h2
  have h3 : am_cnt (fun t => as_cw G n T c t p) (k + 1) = am_cnt (fun t => as_cw G n T c t p) k + 1 := by
    show _ + (if as_cw G n T c k p then 1 else 0) = _
    rw [if_pos h]
  omega
section
variable {L : Nat → Int64} {r : am_H} {n T : Nat}
theorem mr189_8 {G : am_G} (hn : G 24 0 = Int32.ofNat n) (hn2 : n ≤ 40) (hT : G 45 0 = Int32.ofNat T) (hT2 : T ≤ 40) {c : Nat} (hc : c < 12) (ht : am_I (G 9 c) 64) {p : Int64} : am_exec 189 8 [.ref 40, .int (Int32.ofNat c), .long p, am_U, .int 0, am_U, am_U] [] (am_ov (am_up G 19 0 0) L r) = am_exec 189 128 [.ref 40, .int (Int32.ofNat c), .long p, am_U, .int (Int32.ofNat 64), am_U, am_U] [] (am_ov (am_it (as_sp G n T c p) (am_up G 19 0 0) 64) L r) ∧ am_it (as_sp G n T c p) (am_up G 19 0 0) 64 19 0 = Int32.ofNat (am_cnt (fun t => as_cw G n T c t p) 64) := by
  have inv : ∀ k, k ≤ 64 → am_it (as_sp G n T c p) (am_up G 19 0 0) k 19 0 = Int32.ofNat (am_cnt (fun t => as_cw G n T c t p) k) := by
    intro k
    induction k with
    | zero =>
      intro _
      show am_up G 19 0 0 19 0 = Int32.ofNat 0
      rw [am_up_eq, am_upd_eq]
      rfl
    | succ k ih =>
      intro hk
      have ih := ih (by omega)
      rw [am_it]
      show as_sp G n T c p k _ 19 0 = Int32.ofNat (am_cnt (fun t => as_cw G n T c t p) k + if as_cw G n T c k p then 1 else 0)
      generalize am_it (as_sp G n T c p) (am_up G 19 0 0) k = X at ih ⊢
      unfold as_sp
      by_cases h : as_cw G n T c k p
      · rw [if_pos h, if_pos h, am_up_eq, am_upd_eq, ih, am_succ]
      · rw [if_neg h, if_neg h, ih, Nat.add_zero]
  refine ⟨?_, inv 64 (by omega)⟩
  have hI : am_I (Int32.ofNat c) 12 := am_Ik hc (by decide)
  have hJ := am_tcn (show c ≤ 100000 by omega)
  have i3 : ∀ i, i < 3 → (3 : Int32) * Int32.ofNat c + Int32.ofNat i = Int32.ofNat (3 * c + i) := fun i _ => by
    rw [show (3 : Int32) = Int32.ofNat 3 from rfl, ← Int32.ofNat_mul, ← Int32.ofNat_add]
  have j0 : (3 : Int32) * Int32.ofNat c = Int32.ofNat (3 * c) := by
    rw [show (3 : Int32) = Int32.ofNat 3 from rfl, ← Int32.ofNat_mul]
  have j1 : Int32.ofNat (3 * c) + 1 = Int32.ofNat (3 * c + 1) := am_succ
  have j2 : Int32.ofNat (3 * c) + 2 = Int32.ofNat (3 * c + 2) := by
    rw [Int32.ofNat_add]
    rfl
  have k0 : am_I (Int32.ofNat (3 * c)) 36 := am_Ik (by omega) (by decide)
  have k1 : am_I (Int32.ofNat (3 * c + 1)) 36 := am_Ik (by omega) (by decide)
  have k2 : am_I (Int32.ofNat (3 * c + 2)) 36 := am_Ik (by omega) (by decide)
  have l0 := am_tcn (show 3 * c ≤ 100000 by omega)
  have l1 := am_tcn (show 3 * c + 1 ≤ 100000 by omega)
  have l2 := am_tcn (show 3 * c + 2 ≤ 100000 by omega)
  have key := am_iter (fun k => am_exec 189 8 [.ref 40, .int (Int32.ofNat c), .long p, am_U, .int (Int32.ofNat k), am_U, am_U] [] (am_ov (am_it (as_sp G n T c p) (am_up G 19 0 0) k) L r)) 64 (fun k hk => by
    have c0 : ¬ (64 : Int32) ≤ Int32.ofNat k := am_lit 64 k hk (by decide)
    have hIk : am_I (Int32.ofNat k) 64 := am_Ik hk (by decide)
    have hJk := am_tcn (show k ≤ 100000 by omega)
    have ik := inv k (by omega)
    have eX : ∀ f, ¬ (19 ≤ f ∧ f ≤ 23) → am_it (as_sp G n T c p) (am_up G 19 0 0) k f = G f := fun f hf => by
      rw [am_it_row (fun t X => as_sp_ne (by omega)), am_up_ne (by omega)]
    show am_exec 189 8 _ _ _ = am_exec 189 8 [.ref 40, .int (Int32.ofNat c), .long p, am_U, .int (Int32.ofNat (k + 1)), am_U, am_U] [] (am_ov (as_sp G n T c p k (am_it (as_sp G n T c p) (am_up G 19 0 0) k)) L r)
    generalize am_it (as_sp G n T c p) (am_up G 19 0 0) k = X at *
    have m185 := mr185 (G := X) (L := L) (r := r) (n := n) (T := T) (by rw [eX 24 (by decide)]; exact hn) (by omega) (by rw [eX 45 (by decide)]; exact hT) hT2 hc hk (p := p)
    have hcg := as_cw_congr (n := n) (T := T) (c := c) (t := k) (p := p) eX
    rw [am_e189_8, if_neg c0]
    unfold as_sp
    by_cases h : as_cw G n T c k p
    · have hlt := as_cw_lt ht hk h
      have hIj : am_I (Int32.ofNat (am_cnt (fun t => as_cw G n T c t p) k)) 24 := am_Ik hlt (by decide)
      have hJj := am_tcn (show am_cnt (fun t => as_cw G n T c t p) k ≤ 100000 by omega)
      rw [am_bi, if_pos (hcg.mpr h)] at m185
      rw [if_pos h, ik, hJj]
      unfold as_wo as_fo
      simp only [am_e189_0, am_e189_5, am_e189_128, am_e189_15, am_e189_235, am_e189_132, am_e189_23, am_e189_265, am_e189_238, am_e189_134, am_e189_122, am_e189_26, am_e189_272, am_e189_242, am_e189_138, am_e189_30, am_e189_279, am_e189_246, am_e189_150, am_e189_141, am_e189_34, am_e189_253, am_e189_154, am_e189_145, am_e189_37, am_e189_256, am_e189_161, am_e189_147, am_e189_41, am_e189_259, am_e189_163, am_e189_45, am_e189_169, am_e189_51, am_e189_171, am_e189_52, am_e189_174, am_e189_56, am_e189_178, am_e189_60, am_e189_183, am_e189_64, am_e189_226, am_e189_192, am_e189_68, am_e189_200, am_e189_74, am_e189_204, am_e189_79, am_e189_213, am_e189_85, am_e189_214, am_e189_91, am_e189_217, am_e189_97, am_e189_225, am_e189_103, am_e189_109, am_e189_112, am_e189_117, am_gM0, am_pM0, am_gM1, am_pM1, am_gM2, am_lM2, am_sM2, am_gM3, am_lM3, am_sM3, am_gM4, am_lM4, am_sM4, am_gM5, am_lM5, am_sM5, am_gM6, am_pM6, am_gM7, am_lM7, am_sM7, am_gM8, am_lM8, am_sM8, am_gM9, am_lM9, am_sM9, am_gM10, am_lM10, am_sM10, am_gM11, am_lM11, am_sM11, am_gM12, am_lM12, am_sM12, am_gM13, am_lM13, am_sM13, am_gM14, am_lM14, am_sM14, am_gM15, am_lM15, am_sM15, am_gM16, am_lM16, am_sM16, am_gM17, am_lM17, am_sM17, am_gM18, am_lM18, am_sM18, am_gM19, am_pM19, am_gM20, am_lM20, am_sM20, am_gM21, am_lM21, am_sM21, am_gM22, am_lM22, am_sM22, am_gM23, am_lM23, am_sM23, am_gM24, am_pM24, am_gM25, am_pM25, am_gM26, am_lM26, am_sM26, am_gM27, am_lM27, am_sM27, am_gM28, am_lM28, am_sM28, am_gM29, am_lM29, am_sM29, am_gM30, am_lM30, am_sM30, am_gM31, am_lM31, am_sM31, am_gM32, am_lM32, am_sM32, am_gM33, am_lM33, am_sM33, am_gM34, am_lM34, am_sM34, am_gM35, am_lM35, am_sM35, am_gM36, am_lM36, am_sM36, am_gM37, am_lM37, am_sM37, am_gM38, am_lM38, am_sM38, am_gM39, am_lM39, am_sM39, am_gM40, am_lM40, am_sM40, am_gM41, am_lM41, am_sM41, am_gM42, am_lM42, am_sM42, am_gM43, am_lM43, am_sM43, am_gM44, am_lM44, am_sM44, am_gM45, am_pM45, am_gM46, am_lM46, am_sM46, am_gM47, am_lM47, am_sM47, am_gM48, am_lM48, am_sM48, am_gM49, am_lM49, am_sM49, am_gM50, am_lM50, am_sM50, am_gM51, am_lM51, am_sM51, am_gM52, am_lM52, am_sM52, am_isM, am_bk, am_pu1, am_pu0, Option.bind_some, eq_self, am_nli, am_nlr, am_nln, am_nlu, if_true, if_false, not_true_eq_false, not_false_eq_true, am_10, am_01, am_up_eq, am_up_ne, am_upd_eq, Nat.reduceEqDiff, hI, hJ, hIk, hJk, hIj, hJj, j0, j1, j2, k0, k1, k2, l0, l1, l2, ik, m185, mr178, mr179, mr180, am_succ, eX 2 (by decide), eX 3 (by decide), eX 15 (by decide)]
    · rw [am_bi, if_neg (fun q => h (hcg.mp q))] at m185
      rw [if_neg h]
      simp only [am_e189_0, am_e189_5, am_e189_128, am_e189_15, am_e189_235, am_e189_132, am_e189_23, am_e189_265, am_e189_238, am_e189_134, am_e189_122, am_e189_26, am_e189_272, am_e189_242, am_e189_138, am_e189_30, am_e189_279, am_e189_246, am_e189_150, am_e189_141, am_e189_34, am_e189_253, am_e189_154, am_e189_145, am_e189_37, am_e189_256, am_e189_161, am_e189_147, am_e189_41, am_e189_259, am_e189_163, am_e189_45, am_e189_169, am_e189_51, am_e189_171, am_e189_52, am_e189_174, am_e189_56, am_e189_178, am_e189_60, am_e189_183, am_e189_64, am_e189_226, am_e189_192, am_e189_68, am_e189_200, am_e189_74, am_e189_204, am_e189_79, am_e189_213, am_e189_85, am_e189_214, am_e189_91, am_e189_217, am_e189_97, am_e189_225, am_e189_103, am_e189_109, am_e189_112, am_e189_117, am_gM0, am_pM0, am_gM1, am_pM1, am_gM2, am_lM2, am_sM2, am_gM3, am_lM3, am_sM3, am_gM4, am_lM4, am_sM4, am_gM5, am_lM5, am_sM5, am_gM6, am_pM6, am_gM7, am_lM7, am_sM7, am_gM8, am_lM8, am_sM8, am_gM9, am_lM9, am_sM9, am_gM10, am_lM10, am_sM10, am_gM11, am_lM11, am_sM11, am_gM12, am_lM12, am_sM12, am_gM13, am_lM13, am_sM13, am_gM14, am_lM14, am_sM14, am_gM15, am_lM15, am_sM15, am_gM16, am_lM16, am_sM16, am_gM17, am_lM17, am_sM17, am_gM18, am_lM18, am_sM18, am_gM19, am_pM19, am_gM20, am_lM20, am_sM20, am_gM21, am_lM21, am_sM21, am_gM22, am_lM22, am_sM22, am_gM23, am_lM23, am_sM23, am_gM24, am_pM24, am_gM25, am_pM25, am_gM26, am_lM26, am_sM26, am_gM27, am_lM27, am_sM27, am_gM28, am_lM28, am_sM28, am_gM29, am_lM29, am_sM29, am_gM30, am_lM30, am_sM30, am_gM31, am_lM31, am_sM31, am_gM32, am_lM32, am_sM32, am_gM33, am_lM33, am_sM33, am_gM34, am_lM34, am_sM34, am_gM35, am_lM35, am_sM35, am_gM36, am_lM36, am_sM36, am_gM37, am_lM37, am_sM37, am_gM38, am_lM38, am_sM38, am_gM39, am_lM39, am_sM39, am_gM40, am_lM40, am_sM40, am_gM41, am_lM41, am_sM41, am_gM42, am_lM42, am_sM42, am_gM43, am_lM43, am_sM43, am_gM44, am_lM44, am_sM44, am_gM45, am_pM45, am_gM46, am_lM46, am_sM46, am_gM47, am_lM47, am_sM47, am_gM48, am_lM48, am_sM48, am_gM49, am_lM49, am_sM49, am_gM50, am_lM50, am_sM50, am_gM51, am_lM51, am_sM51, am_gM52, am_lM52, am_sM52, am_isM, am_bk, am_pu1, am_pu0, Option.bind_some, eq_self, am_nli, am_nlr, am_nln, am_nlu, if_true, if_false, not_true_eq_false, not_false_eq_true, am_10, am_01, m185, am_succ])
  refine key.trans ?_
  show am_exec 189 8 _ _ _ = _
  rw [am_e189_8, if_pos (by decide)]
end
