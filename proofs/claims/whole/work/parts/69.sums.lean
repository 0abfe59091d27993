/-! WHAT A CITY GETS FROM ITS TILES -/
theorem am_and1l (x : Int64) : (x &&& 1 = 0) = ¬ (x &&& 1 = 1) := by
  have h : (x &&& 1).toBitVec = BitVec.setWidth 64 (BitVec.ofBool (x.toBitVec.getLsbD 0)) := BitVec.and_one_eq_setWidth_ofBool_getLsbD
  cases e : x.toBitVec.getLsbD 0
  · have h1 : x &&& 1 = 0 := Int64.toBitVec_inj.mp (by rw [h, e]; rfl)
    rw [h1]
    exact propext ⟨fun _ => by decide, fun _ => rfl⟩
  · have h1 : x &&& 1 = 1 := Int64.toBitVec_inj.mp (by rw [h, e]; rfl)
    rw [h1]
    exact propext ⟨fun q => absurd q (by decide), fun q => absurd rfl q⟩
/-- the three that a city gets -/
def as_ga (Q : am_G) (c : Nat) (f w t : Int32) : am_G := am_up (am_up (am_up Q 0 c f) 1 c w) 2 c t
theorem as_ga_0 {Q : am_G} {c : Nat} {f w t v : Int32} : am_up (as_ga Q c f w t) 0 c v = as_ga Q c v w t := by
  unfold as_ga
  rw [am_upcomm (show ¬ 2 = 0 by decide), am_upcomm (show ¬ 1 = 0 by decide), am_upup]
theorem as_ga_1 {Q : am_G} {c : Nat} {f w t v : Int32} : am_up (as_ga Q c f w t) 1 c v = as_ga Q c f v t := by
  unfold as_ga
  rw [am_upcomm (show ¬ 2 = 1 by decide), am_upup]
theorem as_ga_2 {Q : am_G} {c : Nat} {f w t v : Int32} : am_up (as_ga Q c f w t) 2 c v = as_ga Q c f w v := by
  unfold as_ga
  rw [am_upup]
theorem as_ga_r0 {Q : am_G} {c : Nat} {f w t : Int32} : as_ga Q c f w t 0 c = f := by
  unfold as_ga
  rw [am_up_ne (by decide), am_up_ne (by decide), am_up_eq, am_upd_eq]
theorem as_ga_r1 {Q : am_G} {c : Nat} {f w t : Int32} : as_ga Q c f w t 1 c = w := by
  unfold as_ga
  rw [am_up_ne (by decide), am_up_eq, am_upd_eq]
theorem as_ga_r2 {Q : am_G} {c : Nat} {f w t : Int32} : as_ga Q c f w t 2 c = t := by
  unfold as_ga
  rw [am_up_eq, am_upd_eq]
section
variable {K : aw_K} {A : aw_A} {G Q : am_G} {M : aw_M} {r : am_H} {n F T : Nat}
theorem mc41 (hW : aw_W K A G n F T) (hS : aw_S r) (hl : ∀ t, t < 64 → am_I (G 2 t) 6) {c : Nat} (hc : c < F) (ht : am_I (G 9 c) 64) : am_exec 41 0 [.ref 34, .ref (A 1 c), am_U, am_U] [] (aw_H K A G Q M r) = some (.inl none, aw_H K A G (as_ga Q c (am_all (fun k => am_fd (G 2 k) (G 3 k)) (M 0 c) (am_mx (am_fd (G 2 (G 9 c).toNatClampNeg) (G 3 (G 9 c).toNatClampNeg)) 2)) (am_all (fun k => am_wk (G 2 k) (G 3 k)) (M 0 c) (am_mx (am_wk (G 2 (G 9 c).toNatClampNeg) (G 3 (G 9 c).toNatClampNeg)) 1)) (am_all (fun k => am_td (G 2 k)) (M 0 c) (am_mx (am_td (G 2 (G 9 c).toNatClampNeg)) 1))) M r) := by
  have hV := hW.V
  have hK := hW.c hc
  obtain ⟨x, hx⟩ : ∃ x, x = am_mx (am_fd (G 2 (G 9 c).toNatClampNeg) (G 3 (G 9 c).toNatClampNeg)) 2 := ⟨_, rfl⟩
  obtain ⟨y, hy⟩ : ∃ y, y = am_mx (am_wk (G 2 (G 9 c).toNatClampNeg) (G 3 (G 9 c).toNatClampNeg)) 1 := ⟨_, rfl⟩
  obtain ⟨z, hz⟩ : ∃ z, z = am_mx (am_td (G 2 (G 9 c).toNatClampNeg)) 1 := ⟨_, rfl⟩
  have hx' := hx
  have hy' := hy
  have hz' := hz
  rw [am_mx_comm] at hx' hy' hz'
  have h2 := hl _ ht.2
  have key := am_iter (fun k => am_exec 41 58 [am_U, .ref (A 1 c), .ref 14, .int (Int32.ofNat k)] [] (aw_H K A G (as_ga Q c (am_sum (fun k => if am_lb (M 0 c) k then am_fd (G 2 k) (G 3 k) else 0) x k) (am_sum (fun k => if am_lb (M 0 c) k then am_wk (G 2 k) (G 3 k) else 0) y k) (am_sum (fun k => if am_lb (M 0 c) k then am_td (G 2 k) else 0) z k)) M r)) 64 (fun k hk => by
    have c0 : ¬ (64 : Int32) ≤ Int32.ofNat k := am_lit 64 k hk (by decide)
    have hIk : am_I (Int32.ofNat k) 64 := am_Ik hk (by decide)
    have hJk := am_tcn (show k ≤ 100000 by omega)
    have h2k := hl k hk
    dsimp only [am_sum]
    show am_exec 41 58 _ _ _ = _
    rw [am_e41_58]
    by_cases h : am_lb (M 0 c) k
    · rw [if_pos h, if_pos h, if_pos h]
      have h' : ¬ (M 0 c >>> ((Int32.ofNat k).toInt64 &&& 63)) &&& 1 = 0 := by rw [am_and1l]; exact fun q => q h
      simp only [am_e41_0, am_e41_4, am_e41_125, am_e41_64, am_e41_7, am_e41_68, am_e41_15, am_e41_119, am_e41_77, am_e41_18, am_e41_82, am_e41_24, am_e41_87, am_e41_31, am_e41_91, am_e41_34, am_e41_96, am_e41_40, am_e41_101, am_e41_47, am_e41_105, am_e41_50, am_e41_110, am_e41_56, am_e41_115, aw_gU0, aw_pU0, aw_gU1, aw_gU2, aw_pU2, aw_gU3, aw_pU3, aw_gU4, aw_pU4, aw_gU5, aw_pU5, aw_gU6, aw_pU6, aw_gU7, aw_pU7, aw_gC1, aw_gC2, aw_pC2, aw_gC3, aw_pC3, aw_gC4, aw_pC4, aw_gC5, aw_pC5, aw_gC6, aw_pC6, aw_gC7, aw_pC7, aw_gC9, aw_pC9, aw_gC0, aw_gC8, aw_gC10, aw_pC10, aw_gC11, aw_pC11, aw_gC12, aw_pC12, aw_gC13, aw_pC13, aw_gC14, aw_pC14, aw_gC15, aw_pC15, aw_gC16, aw_pC16, aw_gT0, aw_gT1, aw_gT2, aw_gT3, aw_gT4, aw_pT4, aw_gT5, aw_pT5, aw_gT6, aw_pT6, aw_gO0, aw_gO1, aw_gO2, aw_gO3, aw_gO4, aw_gO5, aw_gO6, aw_gP1, aw_pP1, aw_gP2, aw_pP2, aw_gP3, aw_pP3, aw_gP4, aw_pP4, aw_gP5, aw_pP5, aw_gP6, aw_pP6, aw_gP0, aw_gP7, aw_isU, aw_isC, aw_isT, aw_isO, aw_isP, aw_isF12, aw_gF12_0, aw_gF12_1, aw_gF12_2, aw_gF12_3, aw_gF12_4, aw_isF13, aw_gF13_0, aw_gF13_1, aw_gF13_2, aw_gF13_3, aw_gF13_4, aw_gF13_5, aw_gF13_6, aw_gF13_7, aw_isF14, aw_gF14_0, aw_gF14_1, aw_gF14_2, aw_isF18, aw_gF18_0, aw_gF18_1, aw_isF19, aw_gF19_0, aw_gF19_1, aw_gF19_2, aw_isF21, aw_gF21_0, aw_gF21_1, aw_gF21_2, aw_isF22, aw_gF22_0, aw_gF22_1, aw_gF22_2, aw_isF23, aw_gF23_0, aw_gF23_1, aw_gF23_2, aw_isF34, aw_gF34_0, aw_gF34_1, aw_gF34_2, aw_gF34_3, aw_gF34_4, aw_gF34_5, aw_isF38, aw_gF38_0, aw_isF39, aw_gF39_0, aw_pF12_4, aw_pF13_6, aw_pF13_7, aw_pF34_4, aw_pF34_5, am_bk, am_pu1, am_pu0, Option.bind_some, eq_self, am_nli, am_nlr, am_nln, am_nlu, if_true, if_false, not_true_eq_false, not_false_eq_true, am_10, am_01, hV, hK, hIk, hJk, h2k, c0, am_lc, h', mc4, mc5, mc6, hS, am_succ, as_ga_0, as_ga_1, as_ga_2, as_ga_r0, as_ga_r1, as_ga_r2]
    · rw [if_neg h, if_neg h, if_neg h]
      have h' : (M 0 c >>> ((Int32.ofNat k).toInt64 &&& 63)) &&& 1 = 0 := by rw [am_and1l]; exact h
      simp only [am_e41_0, am_e41_4, am_e41_125, am_e41_64, am_e41_7, am_e41_68, am_e41_15, am_e41_119, am_e41_77, am_e41_18, am_e41_82, am_e41_24, am_e41_87, am_e41_31, am_e41_91, am_e41_34, am_e41_96, am_e41_40, am_e41_101, am_e41_47, am_e41_105, am_e41_50, am_e41_110, am_e41_56, am_e41_115, aw_gU0, aw_pU0, aw_gU1, aw_gU2, aw_pU2, aw_gU3, aw_pU3, aw_gU4, aw_pU4, aw_gU5, aw_pU5, aw_gU6, aw_pU6, aw_gU7, aw_pU7, aw_gC1, aw_gC2, aw_pC2, aw_gC3, aw_pC3, aw_gC4, aw_pC4, aw_gC5, aw_pC5, aw_gC6, aw_pC6, aw_gC7, aw_pC7, aw_gC9, aw_pC9, aw_gC0, aw_gC8, aw_gC10, aw_pC10, aw_gC11, aw_pC11, aw_gC12, aw_pC12, aw_gC13, aw_pC13, aw_gC14, aw_pC14, aw_gC15, aw_pC15, aw_gC16, aw_pC16, aw_gT0, aw_gT1, aw_gT2, aw_gT3, aw_gT4, aw_pT4, aw_gT5, aw_pT5, aw_gT6, aw_pT6, aw_gO0, aw_gO1, aw_gO2, aw_gO3, aw_gO4, aw_gO5, aw_gO6, aw_gP1, aw_pP1, aw_gP2, aw_pP2, aw_gP3, aw_pP3, aw_gP4, aw_pP4, aw_gP5, aw_pP5, aw_gP6, aw_pP6, aw_gP0, aw_gP7, aw_isU, aw_isC, aw_isT, aw_isO, aw_isP, aw_isF12, aw_gF12_0, aw_gF12_1, aw_gF12_2, aw_gF12_3, aw_gF12_4, aw_isF13, aw_gF13_0, aw_gF13_1, aw_gF13_2, aw_gF13_3, aw_gF13_4, aw_gF13_5, aw_gF13_6, aw_gF13_7, aw_isF14, aw_gF14_0, aw_gF14_1, aw_gF14_2, aw_isF18, aw_gF18_0, aw_gF18_1, aw_isF19, aw_gF19_0, aw_gF19_1, aw_gF19_2, aw_isF21, aw_gF21_0, aw_gF21_1, aw_gF21_2, aw_isF22, aw_gF22_0, aw_gF22_1, aw_gF22_2, aw_isF23, aw_gF23_0, aw_gF23_1, aw_gF23_2, aw_isF34, aw_gF34_0, aw_gF34_1, aw_gF34_2, aw_gF34_3, aw_gF34_4, aw_gF34_5, aw_isF38, aw_gF38_0, aw_isF39, aw_gF39_0, aw_pF12_4, aw_pF13_6, aw_pF13_7, aw_pF34_4, aw_pF34_5, am_bk, am_pu1, am_pu0, Option.bind_some, eq_self, am_nli, am_nlr, am_nln, am_nlu, if_true, if_false, not_true_eq_false, not_false_eq_true, am_10, am_01, hV, hK, c0, am_lc, h', am_succ, Int32.add_zero])
  rw [← hx, ← hy, ← hz]
  simp only [am_e41_0, am_e41_4, am_e41_125, am_e41_64, am_e41_7, am_e41_68, am_e41_15, am_e41_119, am_e41_77, am_e41_18, am_e41_82, am_e41_24, am_e41_87, am_e41_31, am_e41_91, am_e41_34, am_e41_96, am_e41_40, am_e41_101, am_e41_47, am_e41_105, am_e41_50, am_e41_110, am_e41_56, am_e41_115, aw_gU0, aw_pU0, aw_gU1, aw_gU2, aw_pU2, aw_gU3, aw_pU3, aw_gU4, aw_pU4, aw_gU5, aw_pU5, aw_gU6, aw_pU6, aw_gU7, aw_pU7, aw_gC1, aw_gC2, aw_pC2, aw_gC3, aw_pC3, aw_gC4, aw_pC4, aw_gC5, aw_pC5, aw_gC6, aw_pC6, aw_gC7, aw_pC7, aw_gC9, aw_pC9, aw_gC0, aw_gC8, aw_gC10, aw_pC10, aw_gC11, aw_pC11, aw_gC12, aw_pC12, aw_gC13, aw_pC13, aw_gC14, aw_pC14, aw_gC15, aw_pC15, aw_gC16, aw_pC16, aw_gT0, aw_gT1, aw_gT2, aw_gT3, aw_gT4, aw_pT4, aw_gT5, aw_pT5, aw_gT6, aw_pT6, aw_gO0, aw_gO1, aw_gO2, aw_gO3, aw_gO4, aw_gO5, aw_gO6, aw_gP1, aw_pP1, aw_gP2, aw_pP2, aw_gP3, aw_pP3, aw_gP4, aw_pP4, aw_gP5, aw_pP5, aw_gP6, aw_pP6, aw_gP0, aw_gP7, aw_isU, aw_isC, aw_isT, aw_isO, aw_isP, aw_isF12, aw_gF12_0, aw_gF12_1, aw_gF12_2, aw_gF12_3, aw_gF12_4, aw_isF13, aw_gF13_0, aw_gF13_1, aw_gF13_2, aw_gF13_3, aw_gF13_4, aw_gF13_5, aw_gF13_6, aw_gF13_7, aw_isF14, aw_gF14_0, aw_gF14_1, aw_gF14_2, aw_isF18, aw_gF18_0, aw_gF18_1, aw_isF19, aw_gF19_0, aw_gF19_1, aw_gF19_2, aw_isF21, aw_gF21_0, aw_gF21_1, aw_gF21_2, aw_isF22, aw_gF22_0, aw_gF22_1, aw_gF22_2, aw_isF23, aw_gF23_0, aw_gF23_1, aw_gF23_2, aw_isF34, aw_gF34_0, aw_gF34_1, aw_gF34_2, aw_gF34_3, aw_gF34_4, aw_gF34_5, aw_isF38, aw_gF38_0, aw_isF39, aw_gF39_0, aw_pF12_4, aw_pF13_6, aw_pF13_7, aw_pF34_4, aw_pF34_5, am_bk, am_pu1, am_pu0, Option.bind_some, eq_self, am_nli, am_nlr, am_nln, am_nlu, if_true, if_false, not_true_eq_false, not_false_eq_true, am_10, am_01, hV, hK, ht, h2, mc4, mc5, mc6, hS, ← hx', ← hy', ← hz']
  refine key.trans ?_
  show am_exec 41 58 _ _ _ = _
  rw [am_e41_58]
  simp only [am_e41_0, am_e41_4, am_e41_125, am_e41_64, am_e41_7, am_e41_68, am_e41_15, am_e41_119, am_e41_77, am_e41_18, am_e41_82, am_e41_24, am_e41_87, am_e41_31, am_e41_91, am_e41_34, am_e41_96, am_e41_40, am_e41_101, am_e41_47, am_e41_105, am_e41_50, am_e41_110, am_e41_56, am_e41_115, am_bk, am_pu1, am_pu0, Option.bind_some, eq_self, am_nli, am_nlr, am_nln, am_nlu, if_true, if_false, not_true_eq_false, not_false_eq_true, am_10, am_01, show (64 : Int32) ≤ Int32.ofNat 64 by decide]
  rfl
end
