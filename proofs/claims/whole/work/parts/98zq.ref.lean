/-! the reference's constructor: its loops -/
theorem al_g1 {k : Nat} : am_up (am_up (am_up (al_g k 0) 2 k 1) 4 k (-1)) 5 k (-1) = al_g (k + 1) 0 := by
  funext f j
  by_cases e5 : f = 5
  · subst e5
    rw [am_up_eq]
    by_cases e : j = k
    · rw [e, am_upd_eq]
      show _ = if k < k + 1 then -1 else 0
      rw [if_pos (Nat.lt_succ_self k)]
    · rw [am_upd_ne e, am_up_ne (by decide), am_up_ne (by decide)]
      show (if j < k then (-1 : Int32) else 0) = if j < k + 1 then -1 else 0
      by_cases q : j < k
      · rw [if_pos q, if_pos (by omega)]
      · rw [if_neg q, if_neg (by omega)]
  · rw [am_up_ne e5]
    by_cases e4 : f = 4
    · subst e4
      rw [am_up_eq]
      by_cases e : j = k
      · rw [e, am_upd_eq]
        show _ = if k < k + 1 then -1 else 0
        rw [if_pos (Nat.lt_succ_self k)]
      · rw [am_upd_ne e, am_up_ne (by decide)]
        show (if j < k then (-1 : Int32) else 0) = if j < k + 1 then -1 else 0
        by_cases q : j < k
        · rw [if_pos q, if_pos (by omega)]
        · rw [if_neg q, if_neg (by omega)]
    · rw [am_up_ne e4]
      by_cases e2 : f = 2
      · subst e2
        rw [am_up_eq]
        by_cases e : j = k
        · rw [e, am_upd_eq]
          show _ = if k < k + 1 then 1 else 0
          rw [if_pos (Nat.lt_succ_self k)]
        · rw [am_upd_ne e]
          show (if j < k then (1 : Int32) else 0) = if j < k + 1 then 1 else 0
          by_cases q : j < k
          · rw [if_pos q, if_pos (by omega)]
          · rw [if_neg q, if_neg (by omega)]
      · rw [am_up_ne e2]
        unfold al_g
        have h45 : ¬ (f = 4 ∨ f = 5) := fun q => q.elim e4 e5
        rw [if_neg e2, if_neg e2, if_neg h45, if_neg h45]
theorem al_g2 {q : Nat} : am_up (am_up (al_g 64 q) 36 q (-1)) 39 q 50 = al_g 64 (q + 1) := by
  funext f j
  by_cases e5 : f = 39
  · subst e5
    rw [am_up_eq]
    by_cases e : j = q
    · rw [e, am_upd_eq]
      show _ = if q < q + 1 then 50 else 0
      rw [if_pos (Nat.lt_succ_self q)]
    · rw [am_upd_ne e, am_up_ne (by decide)]
      show (if j < q then (50 : Int32) else 0) = if j < q + 1 then 50 else 0
      by_cases w : j < q
      · rw [if_pos w, if_pos (by omega)]
      · rw [if_neg w, if_neg (by omega)]
  · rw [am_up_ne e5]
    by_cases e4 : f = 36
    · subst e4
      rw [am_up_eq]
      by_cases e : j = q
      · rw [e, am_upd_eq]
        show _ = if q < q + 1 then -1 else 0
        rw [if_pos (Nat.lt_succ_self q)]
      · rw [am_upd_ne e]
        show (if j < q then (-1 : Int32) else 0) = if j < q + 1 then -1 else 0
        by_cases w : j < q
        · rw [if_pos w, if_pos (by omega)]
        · rw [if_neg w, if_neg (by omega)]
    · rw [am_up_ne e4]
      unfold al_g
      rw [if_neg e4, if_neg e5, if_neg e4, if_neg e5]
theorem al_z0 : al_z = al_g 0 0 := by
  funext f j
  unfold al_z al_g
  rw [if_neg (Nat.not_lt_zero j), if_neg (Nat.not_lt_zero j), if_neg (Nat.not_lt_zero j)]
  split
  · rfl
  · split
    · rfl
    · split
      · rfl
      · split <;> rfl
section
variable {b : am_H} {s : Nat} {L : Nat → Int64} {r : am_H}
theorem mi151_368 : am_exec 151 368 [.ref 40, .int 0] [] (am_ov (al_g 0 0) L r) = some (.inl none, am_ov (al_g 64 4) L r) := by
  have k1 := am_iter (fun k => am_exec 151 368 [.ref 40, .int (Int32.ofNat k)] [] (am_ov (al_g k 0) L r)) 64 (fun k hk => by
    have c : ¬ (64 : Int32) ≤ Int32.ofNat k := am_lit 64 k hk (by decide)
    have hI : am_I (Int32.ofNat k) 64 := am_Ik (by omega) (by decide)
    have hJ := am_tcn (show k ≤ 100000 by omega)
    show am_exec 151 368 _ _ _ = _
    rw [am_e151_368]
    simp only [am_e151_0, am_e151_9, am_e151_401, am_e151_374, am_e151_429, am_e151_408, am_e151_12, am_e151_378, am_e151_412, am_e151_17, am_e151_381, am_e151_415, am_e151_20, am_e151_385, am_e151_419, am_e151_25, am_e151_388, am_e151_423, am_e151_28, am_e151_392, am_e151_33, am_e151_395, am_e151_36, am_e151_41, am_e151_44, am_e151_49, am_e151_52, am_e151_57, am_e151_60, am_e151_65, am_e151_68, am_e151_73, am_e151_76, am_e151_81, am_e151_84, am_e151_89, am_e151_92, am_e151_97, am_e151_100, am_e151_105, am_e151_108, am_e151_113, am_e151_116, am_e151_121, am_e151_124, am_e151_129, am_e151_132, am_e151_137, am_e151_140, am_e151_145, am_e151_148, am_e151_153, am_e151_156, am_e151_161, am_e151_164, am_e151_169, am_e151_172, am_e151_177, am_e151_180, am_e151_185, am_e151_188, am_e151_193, am_e151_196, am_e151_201, am_e151_204, am_e151_209, am_e151_212, am_e151_217, am_e151_220, am_e151_225, am_e151_228, am_e151_232, am_e151_235, am_e151_239, am_e151_242, am_e151_246, am_e151_249, am_e151_253, am_e151_256, am_e151_260, am_e151_263, am_e151_267, am_e151_270, am_e151_275, am_e151_278, am_e151_283, am_e151_286, am_e151_291, am_e151_294, am_e151_299, am_e151_302, am_e151_307, am_e151_310, am_e151_315, am_e151_318, am_e151_323, am_e151_326, am_e151_331, am_e151_334, am_e151_339, am_e151_342, am_e151_347, am_e151_350, am_e151_355, am_e151_358, am_e151_363, am_e151_366, am_gM0, am_pM0, am_gM1, am_pM1, am_gM2, am_lM2, am_sM2, am_gM3, am_lM3, am_sM3, am_gM4, am_lM4, am_sM4, am_gM5, am_lM5, am_sM5, am_gM6, am_pM6, am_gM7, am_lM7, am_sM7, am_gM8, am_lM8, am_sM8, am_gM9, am_lM9, am_sM9, am_gM10, am_lM10, am_sM10, am_gM11, am_lM11, am_sM11, am_gM12, am_lM12, am_sM12, am_gM13, am_lM13, am_sM13, am_gM14, am_lM14, am_sM14, am_gM15, am_lM15, am_sM15, am_gM16, am_lM16, am_sM16, am_gM17, am_lM17, am_sM17, am_gM18, am_lM18, am_sM18, am_gM19, am_pM19, am_gM20, am_lM20, am_sM20, am_gM21, am_lM21, am_sM21, am_gM22, am_lM22, am_sM22, am_gM23, am_lM23, am_sM23, am_gM24, am_pM24, am_gM25, am_pM25, am_gM26, am_lM26, am_sM26, am_gM27, am_lM27, am_sM27, am_gM28, am_lM28, am_sM28, am_gM29, am_lM29, am_sM29, am_gM30, am_lM30, am_sM30, am_gM31, am_lM31, am_sM31, am_gM32, am_lM32, am_sM32, am_gM33, am_lM33, am_sM33, am_gM34, am_lM34, am_sM34, am_gM35, am_lM35, am_sM35, am_gM36, am_lM36, am_sM36, am_gM37, am_lM37, am_sM37, am_gM38, am_lM38, am_sM38, am_gM39, am_lM39, am_sM39, am_gM40, am_lM40, am_sM40, am_gM41, am_lM41, am_sM41, am_gM42, am_lM42, am_sM42, am_gM43, am_lM43, am_sM43, am_gM44, am_lM44, am_sM44, am_gM45, am_pM45, am_gM46, am_lM46, am_sM46, am_gM47, am_lM47, am_sM47, am_gM48, am_lM48, am_sM48, am_gM49, am_lM49, am_sM49, am_gM50, am_lM50, am_sM50, am_gM51, am_lM51, am_sM51, am_gM52, am_lM52, am_sM52, am_isM, am_bk, am_pu1, am_pu0, Option.bind_some, eq_self, am_nli, am_nlr, am_nln, am_nlu, if_true, if_false, not_true_eq_false, not_false_eq_true, am_10, am_01, c, hI, hJ, am_succ, al_g1])
  have k2 := am_iter (fun k => am_exec 151 403 [.ref 40, .int (Int32.ofNat k)] [] (am_ov (al_g 64 k) L r)) 4 (fun k hk => by
    have c : ¬ (4 : Int32) ≤ Int32.ofNat k := am_lit 4 k hk (by decide)
    have hI : am_I (Int32.ofNat k) 4 := am_Ik (by omega) (by decide)
    have hJ := am_tcn (show k ≤ 100000 by omega)
    show am_exec 151 403 _ _ _ = _
    rw [am_e151_403]
    simp only [am_e151_0, am_e151_9, am_e151_401, am_e151_374, am_e151_429, am_e151_408, am_e151_12, am_e151_378, am_e151_412, am_e151_17, am_e151_381, am_e151_415, am_e151_20, am_e151_385, am_e151_419, am_e151_25, am_e151_388, am_e151_423, am_e151_28, am_e151_392, am_e151_33, am_e151_395, am_e151_36, am_e151_41, am_e151_44, am_e151_49, am_e151_52, am_e151_57, am_e151_60, am_e151_65, am_e151_68, am_e151_73, am_e151_76, am_e151_81, am_e151_84, am_e151_89, am_e151_92, am_e151_97, am_e151_100, am_e151_105, am_e151_108, am_e151_113, am_e151_116, am_e151_121, am_e151_124, am_e151_129, am_e151_132, am_e151_137, am_e151_140, am_e151_145, am_e151_148, am_e151_153, am_e151_156, am_e151_161, am_e151_164, am_e151_169, am_e151_172, am_e151_177, am_e151_180, am_e151_185, am_e151_188, am_e151_193, am_e151_196, am_e151_201, am_e151_204, am_e151_209, am_e151_212, am_e151_217, am_e151_220, am_e151_225, am_e151_228, am_e151_232, am_e151_235, am_e151_239, am_e151_242, am_e151_246, am_e151_249, am_e151_253, am_e151_256, am_e151_260, am_e151_263, am_e151_267, am_e151_270, am_e151_275, am_e151_278, am_e151_283, am_e151_286, am_e151_291, am_e151_294, am_e151_299, am_e151_302, am_e151_307, am_e151_310, am_e151_315, am_e151_318, am_e151_323, am_e151_326, am_e151_331, am_e151_334, am_e151_339, am_e151_342, am_e151_347, am_e151_350, am_e151_355, am_e151_358, am_e151_363, am_e151_366, am_gM0, am_pM0, am_gM1, am_pM1, am_gM2, am_lM2, am_sM2, am_gM3, am_lM3, am_sM3, am_gM4, am_lM4, am_sM4, am_gM5, am_lM5, am_sM5, am_gM6, am_pM6, am_gM7, am_lM7, am_sM7, am_gM8, am_lM8, am_sM8, am_gM9, am_lM9, am_sM9, am_gM10, am_lM10, am_sM10, am_gM11, am_lM11, am_sM11, am_gM12, am_lM12, am_sM12, am_gM13, am_lM13, am_sM13, am_gM14, am_lM14, am_sM14, am_gM15, am_lM15, am_sM15, am_gM16, am_lM16, am_sM16, am_gM17, am_lM17, am_sM17, am_gM18, am_lM18, am_sM18, am_gM19, am_pM19, am_gM20, am_lM20, am_sM20, am_gM21, am_lM21, am_sM21, am_gM22, am_lM22, am_sM22, am_gM23, am_lM23, am_sM23, am_gM24, am_pM24, am_gM25, am_pM25, am_gM26, am_lM26, am_sM26, am_gM27, am_lM27, am_sM27, am_gM28, am_lM28, am_sM28, am_gM29, am_lM29, am_sM29, am_gM30, am_lM30, am_sM30, am_gM31, am_lM31, am_sM31, am_gM32, am_lM32, am_sM32, am_gM33, am_lM33, am_sM33, am_gM34, am_lM34, am_sM34, am_gM35, am_lM35, am_sM35, am_gM36, am_lM36, am_sM36, am_gM37, am_lM37, am_sM37, am_gM38, am_lM38, am_sM38, am_gM39, am_lM39, am_sM39, am_gM40, am_lM40, am_sM40, am_gM41, am_lM41, am_sM41, am_gM42, am_lM42, am_sM42, am_gM43, am_lM43, am_sM43, am_gM44, am_lM44, am_sM44, am_gM45, am_pM45, am_gM46, am_lM46, am_sM46, am_gM47, am_lM47, am_sM47, am_gM48, am_lM48, am_sM48, am_gM49, am_lM49, am_sM49, am_gM50, am_lM50, am_sM50, am_gM51, am_lM51, am_sM51, am_gM52, am_lM52, am_sM52, am_isM, am_bk, am_pu1, am_pu0, Option.bind_some, eq_self, am_nli, am_nlr, am_nln, am_nlu, if_true, if_false, not_true_eq_false, not_false_eq_true, am_10, am_01, c, hI, hJ, am_succ, al_g2])
  refine k1.trans ?_
  show am_exec 151 368 _ _ _ = _
  rw [am_e151_368, if_pos (by decide), am_e151_401 rfl]
  refine k2.trans ?_
  show am_exec 151 403 _ _ _ = _
  rw [am_e151_403, if_pos (by decide), am_e151_429]
theorem mi151_all : ∃ s2, s2 ≤ s + 66000 ∧ am_exec 151 0 [.ref 40, am_U] [] (al_j b [(12, am_def 12)] s) = some (.inl none, am_ov (al_g 64 4) (fun _ => 0) (fun k => if k < 40 then b.1 k else none, 87, s2)) := by
  obtain ⟨s2, h1, h2⟩ := mi151 (b := b) (s := s)
  refine ⟨s2, h1, ?_⟩
  rw [al_d12, h2, am_e151_366 rfl, al_jo, al_z0, mi151_368]
end
