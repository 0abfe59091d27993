/-! THE REFERENCE'S endTurn, whole -/
theorem as_li_len {G : am_G} {F : Nat} : (as_li G F).length ≤ F := by
  unfold as_li
  refine Nat.le_trans (List.length_filter_le _ _) ?_
  rw [List.length_range']
  exact Nat.le_refl _
/-- state, plans and tiles taken when the cities have planned -/
def as_pp0 (G : am_G) (L : Nat → Int64) (n F T : Nat) : am_G × (Nat → Int64) × Int64 := am_it (as_pa n T) (am_up G 0 0 0, L, 0) F
section
variable {L : Nat → Int64} {r : am_H} {F n T : Nat} {G : am_G}
theorem mr236 (hn : G 24 0 = Int32.ofNat n) (hn2 : n ≤ 40) (hF : G 6 0 = Int32.ofNat F) (hF2 : F ≤ 12) (hT : G 45 0 = Int32.ofNat T) (hT2 : T ≤ 40) (hb : ∀ c, c < F → G 7 c = 0 ∨ G 7 c = 1) (hC : ∀ c, c < F → G 7 c = 1 → aw_IC G c) (hcp : ∀ c, c < F → am_I (G 9 c) 64) (hB : ∀ c, c < F → aw_B (G 14 c)) (hU : aw_IU G n) (hIT : aw_IT G T) (hCA : aw_CA G F) (hh : ∀ t, t < 64 → G 4 t = -1 ∨ aw_P (G 4 t)) {b : Nat} (hCO : aw_CO G b) (hb2 : b ≤ 2000000000) (hq : ∀ p, p < 4 → ∃ q, q ≤ 100 ∧ G 39 p = Int32.ofNat q) : am_exec 236 0 [.ref 40, am_U, am_U, am_U] [] (am_ov G L r) = some (.inl (some (.int (G 1 0 + 1))), am_ov (am_up (as_te F T (fun c => as_yf (as_pp0 G L n F T).1 ((as_pp0 G L n F T).2.1 c) c) (fun c => as_yw (as_pp0 G L n F T).1 ((as_pp0 G L n F T).2.1 c) c) (fun c => as_yt (as_pp0 G L n F T).1 ((as_pp0 G L n F T).2.1 c) c) ((as_pp0 G L n F T).1, n)).1 1 0 (G 1 0 + 1)) (as_pp0 G L n F T).2.1 r) := by
  have u0 : ∀ f, ¬ f = 0 → am_up G 0 0 0 f = G f := fun f hf => am_up_ne hf
  have e : ∀ f, ¬ f = 0 → ¬ (19 ≤ f ∧ f ≤ 23) → (as_pp0 G L n F T).1 f = G f := fun f h0 h1 => (as_pal_ne h1 F).trans (u0 f h0)
  have m190 := mr190 (G := am_up G 0 0 0) (L := L) (r := r) (n := n) (F := F) (T := T) (by rw [u0 24 (by decide)]; exact hn) hn2 (by rw [u0 45 (by decide)]; exact hT) hT2 (by rw [u0 6 (by decide)]; exact hF) hF2 (by rw [u0 7 (by decide)]; exact hb) (by rw [u0 9 (by decide)]; exact hcp) (by
    rw [u0 7 (by decide), u0 10 (by decide)]
    intro c h1 h2
    obtain ⟨-, -, ⟨z, z1, -, z3⟩, -⟩ := hC c h1 h2
    exact ⟨z, z1, z3⟩)
  have m190 : am_exec 190 0 [.ref 40, am_U, am_U, am_U] [] (am_ov (am_up G 0 0 0) L r) = some (.inl none, am_ov (as_pp0 G L n F T).1 (as_pp0 G L n F T).2.1 r) := m190
  obtain ⟨P, hP⟩ : ∃ P, P = as_pp0 G L n F T := ⟨_, rfl⟩
  rw [← hP] at m190 e ⊢
  have hIC' : ∀ c, c < F → P.1 7 c = 1 → aw_IC P.1 c := by
    rw [e 7 (by decide) (by decide)]
    intro c h1 h2
    have := hC c h1 h2
    unfold aw_IC at this ⊢
    rw [e 8 (by decide) (by decide), e 9 (by decide) (by decide), e 10 (by decide) (by decide), e 16 (by decide) (by decide), e 17 (by decide) (by decide)]
    exact this
  have hco := as_cyl_CO (f := fun c => as_yf P.1 (P.2.1 c) c) (w := fun c => as_yw P.1 (P.2.1 c) c) (t := fun c => as_yt P.1 (P.2.1 c) c) (fun c => as_yt_le) (as_li P.1 F) (P.1, n) b (hCO.ne (e 34 (by decide) (by decide))) (fun c hc => (hIC' c (as_li_mem.mp hc).1 (as_li_mem.mp hc).2).1) (by
    show ∀ p, p < 4 → ∃ q, q ≤ 100 ∧ P.1 39 p = Int32.ofNat q
    rw [e 39 (by decide) (by decide)]
    exact hq)
  have hlen := as_li_len (G := P.1) (F := F)
  have p9 := mr236_9 (L := P.2.1) (r := r) (F := F) (n := n) (T := T) (G := P.1) (by rw [e 24 (by decide) (by decide)]; exact hn) hn2 (by rw [e 6 (by decide) (by decide)]; exact hF) hF2 (by rw [e 45 (by decide) (by decide)]; exact hT) hT2 (by rw [e 7 (by decide) (by decide)]; exact hb) hIC' (by rw [e 9 (by decide) (by decide)]; exact hcp) (by rw [e 14 (by decide) (by decide)]; exact hB) (hU.ne (e 27 (by decide) (by decide)) (e 28 (by decide) (by decide)) (e 29 (by decide) (by decide)) (e 30 (by decide) (by decide))) (hIT.ne (e 47 (by decide) (by decide)) (e 48 (by decide) (by decide)) (e 49 (by decide) (by decide)) (e 50 (by decide) (by decide)) (e 51 (by decide) (by decide))) (hCA.up (e 5 (by decide) (by decide)) (e 7 (by decide) (by decide)) (e 9 (by decide) (by decide))) (by rw [e 4 (by decide) (by decide)]; exact hh) (fun j hj => hco.ge (by omega) hj)
  have e1 : P.1 1 0 = G 1 0 := by rw [e 1 (by decide) (by decide)]
  rw [e1] at p9
  simp only [am_e236_0, am_e236_5, am_gM0, am_pM0, am_gM1, am_pM1, am_gM2, am_lM2, am_sM2, am_gM3, am_lM3, am_sM3, am_gM4, am_lM4, am_sM4, am_gM5, am_lM5, am_sM5, am_gM6, am_pM6, am_gM7, am_lM7, am_sM7, am_gM8, am_lM8, am_sM8, am_gM9, am_lM9, am_sM9, am_gM10, am_lM10, am_sM10, am_gM11, am_lM11, am_sM11, am_gM12, am_lM12, am_sM12, am_gM13, am_lM13, am_sM13, am_gM14, am_lM14, am_sM14, am_gM15, am_lM15, am_sM15, am_gM16, am_lM16, am_sM16, am_gM17, am_lM17, am_sM17, am_gM18, am_lM18, am_sM18, am_gM19, am_pM19, am_gM20, am_lM20, am_sM20, am_gM21, am_lM21, am_sM21, am_gM22, am_lM22, am_sM22, am_gM23, am_lM23, am_sM23, am_gM24, am_pM24, am_gM25, am_pM25, am_gM26, am_lM26, am_sM26, am_gM27, am_lM27, am_sM27, am_gM28, am_lM28, am_sM28, am_gM29, am_lM29, am_sM29, am_gM30, am_lM30, am_sM30, am_gM31, am_lM31, am_sM31, am_gM32, am_lM32, am_sM32, am_gM33, am_lM33, am_sM33, am_gM34, am_lM34, am_sM34, am_gM35, am_lM35, am_sM35, am_gM36, am_lM36, am_sM36, am_gM37, am_lM37, am_sM37, am_gM38, am_lM38, am_sM38, am_gM39, am_lM39, am_sM39, am_gM40, am_lM40, am_sM40, am_gM41, am_lM41, am_sM41, am_gM42, am_lM42, am_sM42, am_gM43, am_lM43, am_sM43, am_gM44, am_lM44, am_sM44, am_gM45, am_pM45, am_gM46, am_lM46, am_sM46, am_gM47, am_lM47, am_sM47, am_gM48, am_lM48, am_sM48, am_gM49, am_lM49, am_sM49, am_gM50, am_lM50, am_sM50, am_gM51, am_lM51, am_sM51, am_gM52, am_lM52, am_sM52, am_isM, am_bk, am_pu1, am_pu0, Option.bind_some, eq_self, am_nli, am_nlr, am_nln, am_nlu, if_true, if_false, not_true_eq_false, not_false_eq_true, am_10, am_01, m190, p9]
end
