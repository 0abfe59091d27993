/-! THE REFERENCE'S TURN behind its plans -/
theorem as_rs_ne {k f : Nat} {X : am_G × Nat} (h : ¬ (24 ≤ f ∧ f ≤ 33)) : (as_rs k X).1 f = X.1 f := by
  unfold as_rs
  split
  · dsimp only
    rw [am_dr_ne (by omega) (by omega), as_rt_ne (by omega)]
  · dsimp only
    rw [as_rt_ne (by omega)]
theorem as_dn_ne {f : Nat} (h : ¬ (24 ≤ f ∧ f ≤ 33)) : ∀ (k : Nat) (X : am_G × Nat), (as_dn as_rs k X).1 f = X.1 f
  | 0, _ => rfl
  | k + 1, X => by rw [as_dn, as_dn_ne h k, as_rs_ne h]
section
variable {L : Nat → Int64} {r : am_H} {F n T : Nat} {G : am_G}
theorem mr236_106 (hF : G 6 0 = Int32.ofNat F) (hF2 : F ≤ 12) (hb : ∀ c, c < F → G 7 c = 0 ∨ G 7 c = 1) (hc : ∀ c, c < F → am_I (G 9 c) 64) (hC : aw_CA G F) (hh : ∀ t, t < 64 → G 4 t = -1 ∨ aw_P (G 4 t)) : am_exec 236 106 [.ref 40, .int 0, am_U, am_U] [] (am_ov G L r) = am_exec 236 129 [.ref 40, .int 64, am_U, am_U] [] (am_ov (am_it (as_bd F) G 64) L r) := by
  have key := am_iter (fun k => am_exec 236 106 [.ref 40, .int (Int32.ofNat k), am_U, am_U] [] (am_ov (am_it (as_bd F) G k) L r)) 64 (fun k hk => by
    have c0 : ¬ (64 : Int32) ≤ Int32.ofNat k := am_lit 64 k hk (by decide)
    have hI : am_I (Int32.ofNat k) 64 := am_Ik hk (by decide)
    have hJ := am_tcn (show k ≤ 100000 by omega)
    have e : ∀ f, ¬ f = 4 → am_it (as_bd F) G k f = G f := fun f hf => am_it_row (fun k X => as_bd_ne hf) k
    have e4 : am_it (as_bd F) G k 4 k = G 4 k := am_it_ge (s := as_bd F) (fun k X j hj => by
      unfold as_bd
      rw [am_up_eq, am_upd_ne hj]) k k (Nat.le_refl _)
    have m233 := mr233 (G := am_it (as_bd F) G k) (L := L) (r := r) (F := F) (by rw [e 6 (by decide)]; exact hF) hF2 (by rw [e 7 (by decide)]; exact hb) (by rw [e 9 (by decide)]; exact hc) (hC.up (e 5 (by decide)) (e 7 (by decide)) (e 9 (by decide))) hI (by rw [hJ, e4]; exact hh k hk)
    show am_exec 236 106 _ _ _ = am_exec 236 106 [.ref 40, .int (Int32.ofNat (k + 1)), am_U, am_U] [] (am_ov (as_bd F k (am_it (as_bd F) G k)) L r)
    rw [am_e236_106]
    simp only [am_e236_0, am_e236_5, am_e236_16, am_e236_100, am_e236_84, am_e236_112, am_e236_9, am_e236_77, am_e236_19, am_e236_104, am_e236_89, am_e236_133, am_e236_116, am_e236_23, am_e236_94, am_e236_138, am_e236_122, am_e236_25, am_e236_143, am_e236_123, am_e236_71, am_e236_28, am_e236_147, am_e236_33, am_e236_39, am_e236_47, am_e236_50, am_e236_54, am_e236_57, am_e236_60, am_e236_65, am_gM0, am_pM0, am_gM1, am_pM1, am_gM2, am_lM2, am_sM2, am_gM3, am_lM3, am_sM3, am_gM4, am_lM4, am_sM4, am_gM5, am_lM5, am_sM5, am_gM6, am_pM6, am_gM7, am_lM7, am_sM7, am_gM8, am_lM8, am_sM8, am_gM9, am_lM9, am_sM9, am_gM10, am_lM10, am_sM10, am_gM11, am_lM11, am_sM11, am_gM12, am_lM12, am_sM12, am_gM13, am_lM13, am_sM13, am_gM14, am_lM14, am_sM14, am_gM15, am_lM15, am_sM15, am_gM16, am_lM16, am_sM16, am_gM17, am_lM17, am_sM17, am_gM18, am_lM18, am_sM18, am_gM19, am_pM19, am_gM20, am_lM20, am_sM20, am_gM21, am_lM21, am_sM21, am_gM22, am_lM22, am_sM22, am_gM23, am_lM23, am_sM23, am_gM24, am_pM24, am_gM25, am_pM25, am_gM26, am_lM26, am_sM26, am_gM27, am_lM27, am_sM27, am_gM28, am_lM28, am_sM28, am_gM29, am_lM29, am_sM29, am_gM30, am_lM30, am_sM30, am_gM31, am_lM31, am_sM31, am_gM32, am_lM32, am_sM32, am_gM33, am_lM33, am_sM33, am_gM34, am_lM34, am_sM34, am_gM35, am_lM35, am_sM35, am_gM36, am_lM36, am_sM36, am_gM37, am_lM37, am_sM37, am_gM38, am_lM38, am_sM38, am_gM39, am_lM39, am_sM39, am_gM40, am_lM40, am_sM40, am_gM41, am_lM41, am_sM41, am_gM42, am_lM42, am_sM42, am_gM43, am_lM43, am_sM43, am_gM44, am_lM44, am_sM44, am_gM45, am_pM45, am_gM46, am_lM46, am_sM46, am_gM47, am_lM47, am_sM47, am_gM48, am_lM48, am_sM48, am_gM49, am_lM49, am_sM49, am_gM50, am_lM50, am_sM50, am_gM51, am_lM51, am_sM51, am_gM52, am_lM52, am_sM52, am_isM, am_bk, am_pu1, am_pu0, Option.bind_some, eq_self, am_nli, am_nlr, am_nln, am_nlu, if_true, if_false, not_true_eq_false, not_false_eq_true, am_10, am_01, hI, hJ, c0, m233, am_succ]
    rfl)
  refine key.trans ?_
  show am_exec 236 106 _ _ _ = _
  rw [am_e236_106]
  simp only [am_e236_0, am_e236_5, am_e236_16, am_e236_100, am_e236_84, am_e236_112, am_e236_9, am_e236_77, am_e236_19, am_e236_104, am_e236_89, am_e236_133, am_e236_116, am_e236_23, am_e236_94, am_e236_138, am_e236_122, am_e236_25, am_e236_143, am_e236_123, am_e236_71, am_e236_28, am_e236_147, am_e236_33, am_e236_39, am_e236_47, am_e236_50, am_e236_54, am_e236_57, am_e236_60, am_e236_65, am_bk, am_pu1, am_pu0, Option.bind_some, eq_self, am_nli, am_nlr, am_nln, am_nlu, if_true, if_false, not_true_eq_false, not_false_eq_true, am_10, am_01, show (64 : Int32) ≤ Int32.ofNat 64 by decide]
  rfl
theorem mr236_9 (hn : G 24 0 = Int32.ofNat n) (hn2 : n ≤ 40) (hF : G 6 0 = Int32.ofNat F) (hF2 : F ≤ 12) (hT : G 45 0 = Int32.ofNat T) (hT2 : T ≤ 40) (hb : ∀ c, c < F → G 7 c = 0 ∨ G 7 c = 1) (hC : ∀ c, c < F → G 7 c = 1 → aw_IC G c) (hcp : ∀ c, c < F → am_I (G 9 c) 64) (hB : ∀ c, c < F → aw_B (G 14 c)) (hU : aw_IU G n) (hIT : aw_IT G T) (hCA : aw_CA G F) (hh : ∀ t, t < 64 → G 4 t = -1 ∨ aw_P (G 4 t)) (hco : ∀ j, j < 4 → 0 ≤ (as_cyl (fun c => as_yf G (L c) c) (fun c => as_yw G (L c) c) (fun c => as_yt G (L c) c) (as_li G F) (G, n)).1 34 j) : am_exec 236 9 [.ref 40, am_U, am_U, am_U] [] (am_ov G L r) = some (.inl (some (.int (G 1 0 + 1))), am_ov (am_up (as_te F T (fun c => as_yf G (L c) c) (fun c => as_yw G (L c) c) (fun c => as_yt G (L c) c) (G, n)).1 1 0 (G 1 0 + 1)) L r) := by
  have hIC1 : ∀ c, c ∈ as_li G F → aw_IC G c := fun c hc => hC c (as_li_mem.mp hc).1 (as_li_mem.mp hc).2
  have p1 := mr236_11 (L := L) (r := r) hF2 hF hb F 0 (G, n) (by omega) (fun _ _ => rfl) hn hn2 (fun c _ h2 h3 => hC c h2 h3)
  obtain ⟨f, hf⟩ : ∃ f, f = fun c => as_yf G (L c) c := ⟨_, rfl⟩
  obtain ⟨w, hw⟩ : ∃ w, w = fun c => as_yw G (L c) c := ⟨_, rfl⟩
  obtain ⟨t, ht⟩ : ∃ t, t = fun c => as_yt G (L c) c := ⟨_, rfl⟩
  rw [← hf, ← hw, ← ht] at p1 hco ⊢
  obtain ⟨s1, hs1⟩ : ∃ s1, s1 = as_cyl f w t (as_li G F) (G, n) := ⟨_, rfl⟩
  have p1 : am_exec 236 11 [.ref 40, .int 0, am_U, am_U] [] (am_ov G L r) = am_exec 236 77 [.ref 40, .int (Int32.ofNat F), am_U, am_U] [] (am_ov s1.1 L r) := by rw [hs1]; exact p1
  rw [← hs1] at hco
  have U1 : aw_IU s1.1 s1.2 := by rw [hs1]; exact as_cyl_IU _ (G, n) as_li_nd hU hIC1
  have B1 : ∀ c, c < F → aw_B (s1.1 14 c) := fun c hc => by rw [hs1]; exact as_cyl_B _ (G, n) as_li_nd (hB c hc) hIC1
  have N1 := as_cyl_n (f := f) (w := w) (t := t) (as_li G F) (G, n) hn hn2
  rw [← hs1] at N1
  have r1' : ∀ x, x = 1 ∨ x = 4 ∨ x = 5 ∨ x = 6 ∨ x = 7 ∨ x = 8 ∨ x = 9 ∨ x = 45 ∨ x = 47 ∨ x = 48 ∨ x = 49 ∨ x = 50 ∨ x = 51 → s1.1 x = G x := fun x hx => by rw [hs1, as_cyl_ne (by omega)]
  have O1 : aw_UO s1.1 s1.2 := ⟨N1.1, N1.2, fun k hk => (U1 k hk).1⟩
  have p2 := mr236_79 (L := L) (r := r) hF2 (by rw [r1' 6 (by decide)]; exact hF) (by rw [r1' 7 (by decide)]; exact hb) B1 4 0 s1 rfl (fun _ _ => rfl) O1 (fun j _ h => hco j h)
  obtain ⟨s2, hs2⟩ : ∃ s2, s2 = as_ppl F (List.range' 0 4) s1 := ⟨_, rfl⟩
  have p2 : am_exec 236 79 [.ref 40, .int 0, am_U, am_U] [] (am_ov s1.1 L r) = am_exec 236 100 [.ref 40, .int 4, am_U, am_U] [] (am_ov s2.1 L r) := by rw [hs2]; exact p2
  have ht2 : as_t2 F f w t (G, n) = s2 := by
    unfold as_t2
    rw [hs2, hs1]
  have U2 : aw_IU s2.1 s2.2 := by rw [hs2]; exact as_ppl_IU _ s1 U1
  have O2 : aw_UO s2.1 s2.2 := by rw [hs2]; exact as_ppl_UO _ s1 O1
  have r2' : ∀ x, x = 1 ∨ x = 4 ∨ x = 5 ∨ x = 6 ∨ x = 7 ∨ x = 8 ∨ x = 9 ∨ x = 45 ∨ x = 47 ∨ x = 48 ∨ x = 49 ∨ x = 50 ∨ x = 51 → s2.1 x = G x := fun x hx => by rw [hs2, as_ppl_ne (by omega), r1' x hx]
  have I2 : aw_IT s2.1 T := hIT.ne (r2' 47 (by decide)) (r2' 48 (by decide)) (r2' 49 (by decide)) (r2' 50 (by decide)) (r2' 51 (by decide))
  have m231 := mr231 (G := s2.1) (L := L) (r := r) (T := T) (by rw [r2' 45 (by decide)]; exact hT) hT2 I2
  obtain ⟨G4, hG4⟩ : ∃ G4, G4 = am_it as_lz (am_it as_tb s2.1 T) T := ⟨_, rfl⟩
  have n4 : ∀ x, (¬ x = 34 ∧ ¬ x = 38 ∧ ¬ x = 40 ∧ ¬ x = 49 ∧ ¬ x = 50 ∧ ¬ x = 51) → G4 x = s2.1 x := fun x hx => by rw [hG4, am_it_row (fun k X => as_lz_ne (by omega)) T, am_it_row (fun k X => as_tb_ne (by omega)) T]
  rw [← hG4] at m231
  have p3 := mr236_106 (G := G4) (L := L) (r := r) (F := F) (by rw [n4 6 (by decide), r2' 6 (by decide)]; exact hF) hF2 (by rw [n4 7 (by decide), r2' 7 (by decide)]; exact hb) (by rw [n4 9 (by decide), r2' 9 (by decide)]; exact hcp) (hCA.up (by rw [n4 5 (by decide), r2' 5 (by decide)]) (by rw [n4 7 (by decide), r2' 7 (by decide)]) (by rw [n4 9 (by decide), r2' 9 (by decide)])) (by rw [n4 4 (by decide), r2' 4 (by decide)]; exact hh)
  obtain ⟨G5, hG5⟩ : ∃ G5, G5 = am_it (as_bd F) G4 64 := ⟨_, rfl⟩
  have n5 : ∀ x, (¬ x = 4 ∧ ¬ x = 34 ∧ ¬ x = 38 ∧ ¬ x = 40 ∧ ¬ x = 49 ∧ ¬ x = 50 ∧ ¬ x = 51) → G5 x = s2.1 x := fun x hx => by rw [hG5, am_it_row (fun k X => as_bd_ne (by omega)) 64, n4 x (by omega)]
  rw [← hG5] at p3
  have m235 := mr235 (G := G5) (L := L) (r := r) (n := s2.2) (by rw [n5 24 (by decide)]; exact O2.1) O2.2.1 (U2.ne (n5 27 (by decide)) (n5 28 (by decide)) (n5 29 (by decide)) (n5 30 (by decide)))
  have hte : as_te F T f w t (G, n) = as_dn as_rs s2.2 (am_it as_jb G5 s2.2, s2.2) := by
    unfold as_te as_t4
    rw [ht2, ← hG4, ← hG5]
  rw [hte]
  have e1 : (as_dn as_rs s2.2 (am_it as_jb G5 s2.2, s2.2)).1 1 = G 1 := by
    rw [as_dn_ne (by decide)]
    dsimp only
    rw [am_it_row (fun k X => as_jb_ne (by decide)), n5 1 (by decide), r2' 1 (by decide)]
  have h0 : (0 : Int32) = Int32.ofNat 0 := rfl
  simp only [am_e236_9, am_e236_77, am_e236_100, am_e236_104, am_e236_129, am_e236_133, am_e236_138, am_e236_143, am_e236_147, am_gM0, am_pM0, am_gM1, am_pM1, am_gM2, am_lM2, am_sM2, am_gM3, am_lM3, am_sM3, am_gM4, am_lM4, am_sM4, am_gM5, am_lM5, am_sM5, am_gM6, am_pM6, am_gM7, am_lM7, am_sM7, am_gM8, am_lM8, am_sM8, am_gM9, am_lM9, am_sM9, am_gM10, am_lM10, am_sM10, am_gM11, am_lM11, am_sM11, am_gM12, am_lM12, am_sM12, am_gM13, am_lM13, am_sM13, am_gM14, am_lM14, am_sM14, am_gM15, am_lM15, am_sM15, am_gM16, am_lM16, am_sM16, am_gM17, am_lM17, am_sM17, am_gM18, am_lM18, am_sM18, am_gM19, am_pM19, am_gM20, am_lM20, am_sM20, am_gM21, am_lM21, am_sM21, am_gM22, am_lM22, am_sM22, am_gM23, am_lM23, am_sM23, am_gM24, am_pM24, am_gM25, am_pM25, am_gM26, am_lM26, am_sM26, am_gM27, am_lM27, am_sM27, am_gM28, am_lM28, am_sM28, am_gM29, am_lM29, am_sM29, am_gM30, am_lM30, am_sM30, am_gM31, am_lM31, am_sM31, am_gM32, am_lM32, am_sM32, am_gM33, am_lM33, am_sM33, am_gM34, am_lM34, am_sM34, am_gM35, am_lM35, am_sM35, am_gM36, am_lM36, am_sM36, am_gM37, am_lM37, am_sM37, am_gM38, am_lM38, am_sM38, am_gM39, am_lM39, am_sM39, am_gM40, am_lM40, am_sM40, am_gM41, am_lM41, am_sM41, am_gM42, am_lM42, am_sM42, am_gM43, am_lM43, am_sM43, am_gM44, am_lM44, am_sM44, am_gM45, am_pM45, am_gM46, am_lM46, am_sM46, am_gM47, am_lM47, am_sM47, am_gM48, am_lM48, am_sM48, am_gM49, am_lM49, am_sM49, am_gM50, am_lM50, am_sM50, am_gM51, am_lM51, am_sM51, am_gM52, am_lM52, am_sM52, am_isM, am_bk, am_pu1, am_pu0, Option.bind_some, eq_self, am_nli, am_nlr, am_nln, am_nlu, if_true, if_false, not_true_eq_false, not_false_eq_true, am_10, am_01, p1, p2, m231, p3, m235, e1, am_up_eq, am_up_ne, am_upd_eq, Nat.reduceEqDiff]
end
