/-! THE PLAYERS' TURN: the cities' whole loop, goals and upkeep -/
theorem as_cyl_congr {f w t f' w' t' : Nat → Int32} (l : List Nat) : ∀ (s : am_G × Nat), (∀ c, c ∈ l → f c = f' c ∧ w c = w' c ∧ t c = t' c) → as_cyl f w t l s = as_cyl f' w' t' l s := by
  induction l with
  | nil =>
    intro s _
    unfold as_cyl
    rw [List.foldl_nil, List.foldl_nil]
  | cons c l ih =>
    intro s h
    obtain ⟨h1, h2, h3⟩ := h c List.mem_cons_self
    unfold as_cyl at ih ⊢
    rw [List.foldl_cons, List.foldl_cons, h1, h2, h3]
    exact ih _ fun c hc => h c (List.mem_cons_of_mem _ hc)
/-- the cities that there are -/
def as_li (G : am_G) (F : Nat) : List Nat := (List.range' 0 F).filter fun c => decide (G 7 c = 1)
theorem as_li_mem {G : am_G} {F c : Nat} : c ∈ as_li G F ↔ c < F ∧ G 7 c = 1 := by
  unfold as_li
  rw [List.mem_filter, List.mem_range'_1]
  constructor
  · rintro ⟨h1, h2⟩
    exact ⟨by omega, of_decide_eq_true h2⟩
  · rintro ⟨h1, h2⟩
    exact ⟨⟨by omega, by omega⟩, decide_eq_true h2⟩
theorem am_kn_ne {G : am_G} {p f : Nat} {c : Int32} (h : ¬ f = 36 ∧ ¬ f = 37) : am_kn G p c f = G f := by
  unfold am_kn
  split
  · rw [am_up_ne h.1, am_up_ne h.2]
  · rw [am_up_ne h.2]
theorem as_le_ne {G : am_G} {p : Int32} {f : Nat} (h : ¬ f = 35 ∧ ¬ f = 36 ∧ ¬ f = 37) : as_le G p f = G f := by
  unfold as_le
  split
  · rfl
  · rw [am_kn_ne h.2, am_up_ne h.1]
theorem as_fi_ne {G : am_G} {p d : Int32} {f : Nat} (h : ¬ f = 34 ∧ ¬ f = 40) : as_fi G p d f = G f := by
  unfold as_fi
  rw [am_up_ne h.1, am_up_ne h.2, am_up_ne h.2]
/-- what holds when a unit goes holds when units are given up -/
theorem as_kw_ind {p : Int32} {P : am_G → Nat → Prop} (h : ∀ G n j, P G n → j < n → P (am_dr G n j) (n - 1)) : ∀ (m : Nat) (G : am_G) (n : Nat) (d : Int32), P G n → P (as_kw p m G n d).1 (as_kw p m G n d).2.1
  | 0, _, _, _, h0 => h0
  | m + 1, G, n, d, h0 => by
    by_cases h1 : G 34 p.toNatClampNeg < d
    · cases e : am_last (fun k => G 27 k = p) n with
      | none => rw [as_kw_none e]; exact h0
      | some j =>
        rw [as_kw_some h1 e]
        exact as_kw_ind h m _ _ _ (h G n j h0 (am_last_lt e).1)
    · rw [as_kw_no h1]; exact h0
theorem as_kp_ne {p : Int32} {F f : Nat} {X : am_G × Nat} (h : ¬ (24 ≤ f ∧ f ≤ 34) ∧ ¬ f = 40) : (as_kp p F X).1 f = X.1 f := by
  have : (as_kw p 40 X.1 X.2 (as_due X.1 p X.2 F)).1 f = X.1 f := as_kw_ind (P := fun G _ => G f = X.1 f) (fun G n j h0 _ => (am_dr_ne (by omega) (by omega)).trans h0) 40 _ _ _ rfl
  unfold as_kp
  dsimp only
  rw [as_fi_ne (by omega), this]
theorem as_kp_34 {p : Int32} {F j : Nat} {X : am_G × Nat} (h : ¬ j = p.toNatClampNeg) : (as_kp p F X).1 34 j = X.1 34 j := by
  have : (as_kw p 40 X.1 X.2 (as_due X.1 p X.2 F)).1 34 = X.1 34 := as_kw_ind (P := fun G _ => G 34 = X.1 34) (fun G n j h0 _ => (am_dr_ne (by decide) (by decide)).trans h0) 40 _ _ _ rfl
  unfold as_kp as_fi
  dsimp only
  rw [am_up_eq, am_upd_ne h, am_up_ne (by decide), am_up_ne (by decide), this]
/-- what is held of the units for the upkeep -/
def aw_UO (G : am_G) (n : Nat) : Prop := G 24 0 = Int32.ofNat n ∧ n ≤ 40 ∧ ∀ k, k < n → aw_P (G 27 k)
theorem aw_UO.dr {G : am_G} {n j : Nat} (h : aw_UO G n) (hj : j < n) : aw_UO (am_dr G n j) (n - 1) := by
  obtain ⟨-, h2, h3⟩ := h
  refine ⟨am_dr_24, by omega, fun k hk => ?_⟩
  rw [am_dr_row (by decide)]
  split
  · exact h3 _ (by omega)
  · exact h3 _ (by omega)
theorem as_kp_UO {p : Int32} {F : Nat} {X : am_G × Nat} (h : aw_UO X.1 X.2) : aw_UO (as_kp p F X).1 (as_kp p F X).2 := by
  have := as_kw_ind (p := p) (P := aw_UO) (fun G n j h0 hj => h0.dr hj) 40 X.1 X.2 (as_due X.1 p X.2 F) h
  unfold as_kp
  dsimp only
  refine ⟨?_, this.2.1, ?_⟩
  · rw [as_fi_ne (by decide)]; exact this.1
  · rw [as_fi_ne (by decide)]; exact this.2.2
/-! what a player owes is small -/
theorem am_sum_nat {g : Nat → Int32} {b : Nat} : ∀ n, (∀ k, k < n → ∃ z, z ≤ b ∧ g k = Int32.ofNat z) → ∃ z, z ≤ b * n ∧ am_sum g 0 n = Int32.ofNat z
  | 0, _ => ⟨0, Nat.zero_le _, rfl⟩
  | n + 1, h => by
    obtain ⟨z, z1, z2⟩ := am_sum_nat n (fun k hk => h k (by omega))
    obtain ⟨y, y1, y2⟩ := h n (by omega)
    refine ⟨z + y, ?_, by rw [am_sum, z2, y2, Int32.ofNat_add]⟩
    rw [Nat.mul_succ]
    omega
theorem am_mny_B : ∀ x, x < 32 → ∃ z, z < 6 ∧ am_mny (Int32.ofNat (32 * x)) = Int32.ofNat z := by decide +kernel
theorem am_mx_nat : ∀ a, a < 41 → ∀ c, c < 13 → am_mx 0 (Int32.ofNat a - 2 * Int32.ofNat c) = Int32.ofNat (a - 2 * c) := by decide +kernel
theorem aw_D_due {G : am_G} {p : Int32} {n F : Nat} (hn : n ≤ 40) (hF : F ≤ 12) (hB : ∀ c, c < F → aw_B (G 14 c)) : aw_D (as_due G p n F) := by
  unfold as_due
  rw [am_sum_cnt]
  have h1 := am_cnt_le (p := fun j => G 27 j = p) n
  have h2 := am_cnt_le (p := fun c => G 7 c = 1 ∧ G 8 c = p) F
  rw [am_mx_nat _ (by omega) _ (by omega)]
  obtain ⟨z, z1, z2⟩ := am_sum_nat (g := fun c => if G 7 c = 1 ∧ G 8 c = p then am_mny (G 14 c) else 0) (b := 5) F (fun k hk => by
    show ∃ z, z ≤ 5 ∧ (if G 7 k = 1 ∧ G 8 k = p then am_mny (G 14 k) else 0) = Int32.ofNat z
    split
    · obtain ⟨x, x1, x2⟩ := hB k hk
      obtain ⟨y, y1, y2⟩ := am_mny_B x x1
      exact ⟨y, by omega, by rw [x2, y2]⟩
    · exact ⟨0, Nat.zero_le _, rfl⟩)
  rw [z2, ← Int32.ofNat_add]
  constructor
  · exact (am_le_nat (a := 0) (by omega) (by omega)).mpr (Nat.zero_le _)
  · exact (am_le_nat (b := 1000) (by omega) (by omega)).mpr (by omega)
/-- the players' turn -/
def as_pp (F : Nat) (p : Nat) (s : am_G × Nat) : am_G × Nat := as_kp (Int32.ofNat p) F (as_le s.1 (Int32.ofNat p), s.2)
theorem as_pp_ne {F p f : Nat} {s : am_G × Nat} (h : ¬ (24 ≤ f ∧ f ≤ 37) ∧ ¬ f = 40) : (as_pp F p s).1 f = s.1 f := by
  unfold as_pp
  rw [as_kp_ne (by omega)]
  dsimp only
  rw [as_le_ne (by omega)]
theorem as_pp_UO {F p : Nat} {s : am_G × Nat} (h : aw_UO s.1 s.2) : aw_UO (as_pp F p s).1 (as_pp F p s).2 := by
  unfold as_pp
  refine as_kp_UO ?_
  show aw_UO (as_le s.1 (Int32.ofNat p)) s.2
  unfold aw_UO
  rw [as_le_ne (by decide), as_le_ne (by decide)]
  exact h
theorem as_pp_34 {F p j : Nat} {s : am_G × Nat} (hp : p < 4) (h : ¬ j = p) : (as_pp F p s).1 34 j = s.1 34 j := by
  unfold as_pp
  rw [as_kp_34 (by rw [am_tcn (by omega)]; exact h)]
  dsimp only
  rw [as_le_ne (by decide)]
section
variable {L : Nat → Int64} {r : am_H} {F : Nat} {G0 : am_G}
theorem mr236_79 (hF2 : F ≤ 12) (hF : G0 6 0 = Int32.ofNat F) (hb : ∀ c, c < F → G0 7 c = 0 ∨ G0 7 c = 1) (hB : ∀ c, c < F → aw_B (G0 14 c)) : ∀ (m p : Nat) (s : am_G × Nat), p + m = 4 → (∀ x, x = 6 ∨ x = 7 ∨ x = 14 → s.1 x = G0 x) → aw_UO s.1 s.2 → (∀ j, p ≤ j → j < 4 → 0 ≤ s.1 34 j) → am_exec 236 79 [.ref 40, .int (Int32.ofNat p), am_U, am_U] [] (am_ov s.1 L r) = am_exec 236 100 [.ref 40, .int 4, am_U, am_U] [] (am_ov ((List.range' p m).foldl (fun s p => as_pp F p s) s).1 L r)
  | 0, p, s, hk, _, _, _ => by
    show am_exec 236 79 _ _ _ = am_exec 236 100 _ _ (am_ov s.1 L r)
    rw [show p = 4 by omega, am_e236_79]
    simp only [am_e236_0, am_e236_5, am_e236_16, am_e236_84, am_e236_129, am_e236_112, am_e236_9, am_e236_77, am_e236_19, am_e236_104, am_e236_89, am_e236_133, am_e236_116, am_e236_23, am_e236_94, am_e236_138, am_e236_122, am_e236_25, am_e236_143, am_e236_123, am_e236_71, am_e236_28, am_e236_147, am_e236_33, am_e236_39, am_e236_47, am_e236_50, am_e236_54, am_e236_57, am_e236_60, am_e236_65, am_bk, am_pu1, am_pu0, Option.bind_some, eq_self, am_nli, am_nlr, am_nln, am_nlu, if_true, if_false, not_true_eq_false, not_false_eq_true, am_10, am_01, show (4 : Int32) ≤ Int32.ofNat 4 by decide]
    rfl
  | m + 1, p, s, hk, hx, hU, hc => by
    have c0 : ¬ (4 : Int32) ≤ Int32.ofNat p := am_lit 4 p (by omega) (by decide)
    have hp : aw_P (Int32.ofNat p) := aw_Pk (by omega)
    have hJ := am_tcn (show p ≤ 100000 by omega)
    have ih := mr236_79 hF2 hF hb hB m (p + 1) (as_pp F p s) (by omega) (fun x hx' => by rw [as_pp_ne (by omega), hx x hx']) (as_pp_UO hU) (fun j h1 h2 => by rw [as_pp_34 (by omega) (by omega)]; exact hc j (by omega) h2)
    rw [List.range'_succ, List.foldl_cons]
    have m230 := mr230 (G := s.1) (L := L) (r := r) hp
    have m229 := mr229 (G := as_le s.1 (Int32.ofNat p)) (L := L) (r := r) (F := F) (n := s.2) (by rw [as_le_ne (by decide), hx 6 (by decide)]; exact hF) hF2 (by rw [as_le_ne (by decide), hx 7 (by decide)]; exact hb) (by rw [as_le_ne (by decide), hx 14 (by decide)]; exact hB) (by rw [as_le_ne (by decide)]; exact hU.1) hU.2.1 hp (aw_D_due hU.2.1 hF2 (by rw [as_le_ne (by decide), hx 14 (by decide)]; exact hB)) (by rw [hJ, as_le_ne (by decide)]; exact hc p (Nat.le_refl _) (by omega))
    refine Eq.trans ?_ ih
    rw [am_e236_79]
    simp only [am_e236_0, am_e236_5, am_e236_16, am_e236_84, am_e236_129, am_e236_112, am_e236_9, am_e236_77, am_e236_19, am_e236_104, am_e236_89, am_e236_133, am_e236_116, am_e236_23, am_e236_94, am_e236_138, am_e236_122, am_e236_25, am_e236_143, am_e236_123, am_e236_71, am_e236_28, am_e236_147, am_e236_33, am_e236_39, am_e236_47, am_e236_50, am_e236_54, am_e236_57, am_e236_60, am_e236_65, am_gM0, am_pM0, am_gM1, am_pM1, am_gM2, am_lM2, am_sM2, am_gM3, am_lM3, am_sM3, am_gM4, am_lM4, am_sM4, am_gM5, am_lM5, am_sM5, am_gM6, am_pM6, am_gM7, am_lM7, am_sM7, am_gM8, am_lM8, am_sM8, am_gM9, am_lM9, am_sM9, am_gM10, am_lM10, am_sM10, am_gM11, am_lM11, am_sM11, am_gM12, am_lM12, am_sM12, am_gM13, am_lM13, am_sM13, am_gM14, am_lM14, am_sM14, am_gM15, am_lM15, am_sM15, am_gM16, am_lM16, am_sM16, am_gM17, am_lM17, am_sM17, am_gM18, am_lM18, am_sM18, am_gM19, am_pM19, am_gM20, am_lM20, am_sM20, am_gM21, am_lM21, am_sM21, am_gM22, am_lM22, am_sM22, am_gM23, am_lM23, am_sM23, am_gM24, am_pM24, am_gM25, am_pM25, am_gM26, am_lM26, am_sM26, am_gM27, am_lM27, am_sM27, am_gM28, am_lM28, am_sM28, am_gM29, am_lM29, am_sM29, am_gM30, am_lM30, am_sM30, am_gM31, am_lM31, am_sM31, am_gM32, am_lM32, am_sM32, am_gM33, am_lM33, am_sM33, am_gM34, am_lM34, am_sM34, am_gM35, am_lM35, am_sM35, am_gM36, am_lM36, am_sM36, am_gM37, am_lM37, am_sM37, am_gM38, am_lM38, am_sM38, am_gM39, am_lM39, am_sM39, am_gM40, am_lM40, am_sM40, am_gM41, am_lM41, am_sM41, am_gM42, am_lM42, am_sM42, am_gM43, am_lM43, am_sM43, am_gM44, am_lM44, am_sM44, am_gM45, am_pM45, am_gM46, am_lM46, am_sM46, am_gM47, am_lM47, am_sM47, am_gM48, am_lM48, am_sM48, am_gM49, am_lM49, am_sM49, am_gM50, am_lM50, am_sM50, am_gM51, am_lM51, am_sM51, am_gM52, am_lM52, am_sM52, am_isM, am_bk, am_pu1, am_pu0, Option.bind_some, eq_self, am_nli, am_nlr, am_nln, am_nlu, if_true, if_false, not_true_eq_false, not_false_eq_true, am_10, am_01, c0, m230, m229, am_succ]
    rfl
end
