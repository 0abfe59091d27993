/-! BORDERS AND JOBS -/
/-- the reference's way to whom a tile falls -/
def as_ff (u : Nat → Int32) : Nat → Option Nat
  | 0 => none
  | k + 1 => if as_mp u k < u k then some k else as_ff u k
def as_fh (u : Nat → Int32) : Nat → Bool
  | 0 => false
  | k + 1 => if as_mp u k < u k then false else as_fh u k || decide (u k = as_mp u k ∧ 0 < u k)
theorem as_mp_mx {u : Nat → Int32} {k : Nat} : as_mp u (k + 1) = if as_mp u k < u k then u k else as_mp u k := rfl
theorem as_mp_le {u : Nat → Int32} : ∀ k i, i < k → u i ≤ as_mp u k
  | 0, _, h => absurd h (Nat.not_lt_zero _)
  | k + 1, i, h => by
    rw [as_mp_mx]
    by_cases e : as_mp u k < u k
    · rw [if_pos e]
      rcases Nat.lt_succ_iff_lt_or_eq.mp h with q | q
      · exact Int32.le_of_lt (Int32.lt_of_le_of_lt (as_mp_le k i q) e)
      · subst q; exact Int32.le_refl _
    · rw [if_neg e]
      rcases Nat.lt_succ_iff_lt_or_eq.mp h with q | q
      · exact as_mp_le k i q
      · subst q; exact Int32.not_lt.mp e
theorem as_mp_0 {u : Nat → Int32} : ∀ k, 0 ≤ as_mp u k
  | 0 => Int32.le_refl _
  | k + 1 => by
    rw [as_mp_mx]
    split
    · next e => exact Int32.le_of_lt (Int32.lt_of_le_of_lt (as_mp_0 k) e)
    · exact as_mp_0 k
theorem as_ff_some {u : Nat → Int32} : ∀ {k i}, as_ff u k = some i → i < k ∧ u i = as_mp u k ∧ 0 < as_mp u k
  | 0, _, h => by cases h
  | k + 1, i, h => by
    unfold as_ff at h
    rw [as_mp_mx]
    split at h
    · next e => cases h; rw [if_pos e]; exact ⟨Nat.lt_succ_self _, rfl, Int32.lt_of_le_of_lt (as_mp_0 _) e⟩
    · next e => rw [if_neg e]; have := as_ff_some h; exact ⟨by omega, this.2.1, this.2.2⟩
theorem as_ff_none {u : Nat → Int32} : ∀ {k}, as_ff u k = none → as_mp u k = 0
  | 0, _ => rfl
  | k + 1, h => by
    unfold as_ff at h
    rw [as_mp_mx]
    split at h
    · cases h
    · next e => rw [if_neg e]; exact as_ff_none h
theorem as_fh_t {u : Nat → Int32} : ∀ {k}, as_fh u k = true → 0 < as_mp u k ∧ ∃ i j, i < j ∧ j < k ∧ u i = as_mp u k ∧ u j = as_mp u k
  | 0, h => by cases h
  | k + 1, h => by
    unfold as_fh at h
    rw [as_mp_mx]
    split at h
    · cases h
    · next e =>
      rw [if_neg e]
      rw [Bool.or_eq_true, decide_eq_true_iff] at h
      rcases h with h | ⟨h, h0⟩
      · obtain ⟨g, i, j, g1, g2, g3, g4⟩ := as_fh_t h
        exact ⟨g, i, j, g1, by omega, g3, g4⟩
      · rw [h] at h0
        refine ⟨h0, ?_⟩
        cases e2 : as_ff u k with
        | none => rw [as_ff_none e2] at h0; exact absurd h0 Int32.lt_irrefl
        | some i =>
          obtain ⟨g1, g2, -⟩ := as_ff_some e2
          exact ⟨i, k, g1, Nat.lt_succ_self k, g2, h⟩
theorem as_fh_f {u : Nat → Int32} : ∀ {k}, as_fh u k = false → ∀ i, i < k → u i = as_mp u k → 0 < as_mp u k → as_ff u k = some i
  | 0, _, _, h, _, _ => absurd h (Nat.not_lt_zero _)
  | k + 1, h, i, hi, h1, h2 => by
    unfold as_fh at h
    unfold as_ff
    rw [as_mp_mx] at h1 h2
    split at h
    · next e =>
      rw [if_pos e] at h1 h2
      rw [if_pos e]
      rcases Nat.lt_succ_iff_lt_or_eq.mp hi with q | q
      · have := as_mp_le (u := u) k i q
        rw [h1] at this
        exact absurd (Int32.lt_of_lt_of_le e this) Int32.lt_irrefl
      · rw [q]
    · next e =>
      rw [if_neg e] at h1 h2
      rw [if_neg e]
      rw [Bool.or_eq_false_iff, decide_eq_false_iff_not] at h
      rcases Nat.lt_succ_iff_lt_or_eq.mp hi with q | q
      · exact as_fh_f h.1 i q h1 h2
      · subst q
        exact absurd ⟨h1, by rw [h1]; exact h2⟩ h.2
theorem am_cnt_pos {p : Nat → Prop} [DecidablePred p] : ∀ {n i}, i < n → p i → 1 ≤ am_cnt p n
  | 0, _, h, _ => absurd h (Nat.not_lt_zero _)
  | n + 1, i, h, hp => by
    unfold am_cnt
    rcases Nat.lt_succ_iff_lt_or_eq.mp h with q | q
    · have := am_cnt_pos (n := n) q hp; omega
    · subst q; rw [if_pos hp]; omega
theorem am_cnt_two {p : Nat → Prop} [DecidablePred p] : ∀ {n i j}, i < j → j < n → p i → p j → 2 ≤ am_cnt p n
  | 0, _, _, _, h, _, _ => absurd h (Nat.not_lt_zero _)
  | n + 1, i, j, hij, h, hi, hj => by
    unfold am_cnt
    rcases Nat.lt_succ_iff_lt_or_eq.mp h with q | q
    · have := am_cnt_two (n := n) hij q hi hj; omega
    · subst q
      have := am_cnt_pos (n := j) hij hi
      rw [if_pos hj]; omega
theorem am_cnt_le1 {p : Nat → Prop} [DecidablePred p] : ∀ {n}, (∀ i j, i < n → j < n → p i → p j → i = j) → am_cnt p n ≤ 1
  | 0, _ => Nat.zero_le _
  | n + 1, h => by
    unfold am_cnt
    by_cases q : p n
    · rw [if_pos q]
      have : am_cnt p n = 0 := by
        rcases Nat.eq_zero_or_pos (am_cnt p n) with z | z
        · exact z
        · exfalso
          have : ∀ m, m ≤ n → (∀ i, i < m → ¬ p i) → am_cnt p m = 0 := by
            intro m
            induction m with
            | zero => intro _ _; rfl
            | succ m ih => intro hm hh; unfold am_cnt; rw [if_neg (hh m (by omega)), ih (by omega) fun i hi => hh i (by omega)]
          have := this n (Nat.le_refl n) fun i hi hpi => by have := h i n (by omega) (by omega) hpi q; omega
          omega
      omega
    · rw [if_neg q]
      exact am_cnt_le1 fun i j hi hj => h i j (by omega) (by omega)
theorem am_last_of {p : Nat → Prop} [DecidablePred p] {n i : Nat} (hi : i < n) (hp : p i) : ∃ j, am_last p n = some j := by
  cases e : am_last p n with
  | some j => exact ⟨j, rfl⟩
  | none => exact absurd hp (am_last_none e i hi)
/-- both ways lead to one owner -/
theorem as_so_ff {u : Nat → Int32} {h : Int32} (hh : h = -1 ∨ aw_P h) : as_so u h = if as_fh u 4 = true then (if ¬ h = -1 ∧ u h.toNatClampNeg = as_mp u 4 then h else -1) else am_oi (as_ff u 4) := by
  have pos : ∀ {i : Nat}, i < 4 → ¬ Int32.ofNat i = -1 := fun {i} hi e => by
    have : i = 0 ∨ i = 1 ∨ i = 2 ∨ i = 3 := by omega
    rcases this with rfl | rfl | rfl | rfl <;> exact absurd e (by decide)
  unfold as_so
  cases e : am_find (fun i => as_sq u i ∧ Int32.ofNat i = h) 0 4 with
  | some i =>
    obtain ⟨-, h1, ⟨h2, h3⟩, h4⟩ := am_find_ge 4 0 i e
    have hi : i < 4 := by omega
    have h5 : h.toNatClampNeg = i := by rw [← h4, am_tcn (by omega)]
    show Int32.ofNat i = _
    split
    · rw [if_pos ⟨by rw [← h4]; exact pos hi, by rw [h5]; exact h3⟩, h4]
    · next hf =>
      rw [as_fh_f (Bool.eq_false_iff.mpr hf) i hi h3 h2]
      rfl
  | none =>
    have hn := am_find_none 4 0 e
    show (if am_cnt (as_sq u) 4 = 1 then am_oi (am_last (as_sq u) 4) else -1) = _
    split
    · next hc =>
      split
      · next hf =>
        obtain ⟨g0, i, j, g1, g2, g3, g4⟩ := as_fh_t hf
        have := am_cnt_two (p := as_sq u) g1 g2 ⟨g0, g3⟩ ⟨g0, g4⟩
        omega
      · next hf =>
        cases el : am_last (as_sq u) 4 with
        | none =>
          exfalso
          have : ∀ i, i < 4 → ¬ as_sq u i := am_last_none el
          have : am_cnt (as_sq u) 4 = 0 := by
            unfold am_cnt am_cnt am_cnt am_cnt am_cnt
            rw [if_neg (this 0 (by decide)), if_neg (this 1 (by decide)), if_neg (this 2 (by decide)), if_neg (this 3 (by decide))]
          omega
        | some j =>
          obtain ⟨g1, g2, g3⟩ := am_last_lt el
          rw [as_fh_f (Bool.eq_false_iff.mpr hf) j g1 g3 g2]
    · next hc =>
      split
      · next hf =>
        split
        · next hq =>
          exfalso
          rcases hh with hh | hh
          · exact hq.1 hh
          · exact hn h.toNatClampNeg (Nat.zero_le _) (by have := hh.I.2; omega) ⟨⟨(as_fh_t hf).1, hq.2⟩, hh.no⟩
        · rfl
      · next hf =>
        cases ef : as_ff u 4 with
        | none => rfl
        | some i =>
          exfalso
          obtain ⟨g1, g2, g3⟩ := as_ff_some ef
          have a1 := am_cnt_pos (p := as_sq u) g1 ⟨g3, g2⟩
          have a2 := am_cnt_le1 (p := as_sq u) (n := 4) fun a b ha hb pa pb => by
            have x1 := as_fh_f (Bool.eq_false_iff.mpr hf) a ha pa.2 pa.1
            have x2 := as_fh_f (Bool.eq_false_iff.mpr hf) b hb pb.2 pb.1
            rw [x1] at x2
            exact Option.some.inj x2
          omega
/-- whom a tile falls to -/
def as_ft (F : Nat) (G : am_G) (t : Int32) : Int32 := if G 5 t.toNatClampNeg = -1 then as_so (fun i => am_sum (as_pu G (Int32.ofNat i) t) 0 F) (G 4 t.toNatClampNeg) else G 8 (G 5 t.toNatClampNeg).toNatClampNeg
section
variable {G : am_G} {L : Nat → Int64} {r : am_H} {F : Nat}
theorem mr232 (hF : G 6 0 = Int32.ofNat F) (hF2 : F ≤ 12) (hb : ∀ c, c < F → G 7 c = 0 ∨ G 7 c = 1) (hc : ∀ c, c < F → am_I (G 9 c) 64) {p t : Int32} (ht : am_I t 64) : am_exec 232 0 [.ref 40, .int p, .int t, am_U, am_U, am_U] [] (am_ov G L r) = some (.inl (some (.int (am_sum (as_pu G p t) 0 F))), am_ov G L r) := by
  have key := am_iter (fun k => am_exec 232 5 [.ref 40, .int p, .int t, .int (am_sum (as_pu G p t) 0 k), .int (Int32.ofNat k), am_U] [] (am_ov G L r)) F (fun k hk => by
    have c : ¬ Int32.ofNat F ≤ Int32.ofNat k := am_lit _ _ hk (by omega)
    have hI : am_I (Int32.ofNat k) 12 := am_Ik (by omega) (by omega)
    have hd := (aw_dist ht (hc k hk)).2.1
    show am_exec 232 5 _ _ _ = _
    rw [am_e232_5]
    rcases hb k hk with h1 | h1
    · simp only [am_e232_0, am_e232_11, am_e232_86, am_e232_14, am_e232_19, am_e232_22, am_e232_25, am_e232_32, am_e232_35, am_e232_77, am_e232_38, am_e232_42, am_e232_45, am_e232_49, am_e232_55, am_e232_60, am_e232_63, am_e232_74, am_gM0, am_pM0, am_gM1, am_pM1, am_gM2, am_lM2, am_sM2, am_gM3, am_lM3, am_sM3, am_gM4, am_lM4, am_sM4, am_gM5, am_lM5, am_sM5, am_gM6, am_pM6, am_gM7, am_lM7, am_sM7, am_gM8, am_lM8, am_sM8, am_gM9, am_lM9, am_sM9, am_gM10, am_lM10, am_sM10, am_gM11, am_lM11, am_sM11, am_gM12, am_lM12, am_sM12, am_gM13, am_lM13, am_sM13, am_gM14, am_lM14, am_sM14, am_gM15, am_lM15, am_sM15, am_gM16, am_lM16, am_sM16, am_gM17, am_lM17, am_sM17, am_gM18, am_lM18, am_sM18, am_gM19, am_pM19, am_gM20, am_lM20, am_sM20, am_gM21, am_lM21, am_sM21, am_gM22, am_lM22, am_sM22, am_gM23, am_lM23, am_sM23, am_gM24, am_pM24, am_gM25, am_pM25, am_gM26, am_lM26, am_sM26, am_gM27, am_lM27, am_sM27, am_gM28, am_lM28, am_sM28, am_gM29, am_lM29, am_sM29, am_gM30, am_lM30, am_sM30, am_gM31, am_lM31, am_sM31, am_gM32, am_lM32, am_sM32, am_gM33, am_lM33, am_sM33, am_gM34, am_lM34, am_sM34, am_gM35, am_lM35, am_sM35, am_gM36, am_lM36, am_sM36, am_gM37, am_lM37, am_sM37, am_gM38, am_lM38, am_sM38, am_gM39, am_lM39, am_sM39, am_gM40, am_lM40, am_sM40, am_gM41, am_lM41, am_sM41, am_gM42, am_lM42, am_sM42, am_gM43, am_lM43, am_sM43, am_gM44, am_lM44, am_sM44, am_gM45, am_pM45, am_gM46, am_lM46, am_sM46, am_gM47, am_lM47, am_sM47, am_gM48, am_lM48, am_sM48, am_gM49, am_lM49, am_sM49, am_gM50, am_lM50, am_sM50, am_gM51, am_lM51, am_sM51, am_gM52, am_lM52, am_sM52, am_isM, am_bk, am_pu1, am_pu0, Option.bind_some, eq_self, am_nli, am_nlr, am_nln, am_nlu, if_true, if_false, not_true_eq_false, not_false_eq_true, am_10, am_01, mr160, hF, c, hI, am_tcn (show k ≤ 100000 by omega), am_succ, am_sum, as_pu, h1, false_and]
    · by_cases h2 : G 8 k = p
      · by_cases h3 : am_dist t (G 9 k) ≤ 3
        · have h4 := aw_d3 hd h3
          simp only [am_e232_0, am_e232_11, am_e232_86, am_e232_14, am_e232_19, am_e232_22, am_e232_25, am_e232_32, am_e232_35, am_e232_77, am_e232_38, am_e232_42, am_e232_45, am_e232_49, am_e232_55, am_e232_60, am_e232_63, am_e232_74, am_gM0, am_pM0, am_gM1, am_pM1, am_gM2, am_lM2, am_sM2, am_gM3, am_lM3, am_sM3, am_gM4, am_lM4, am_sM4, am_gM5, am_lM5, am_sM5, am_gM6, am_pM6, am_gM7, am_lM7, am_sM7, am_gM8, am_lM8, am_sM8, am_gM9, am_lM9, am_sM9, am_gM10, am_lM10, am_sM10, am_gM11, am_lM11, am_sM11, am_gM12, am_lM12, am_sM12, am_gM13, am_lM13, am_sM13, am_gM14, am_lM14, am_sM14, am_gM15, am_lM15, am_sM15, am_gM16, am_lM16, am_sM16, am_gM17, am_lM17, am_sM17, am_gM18, am_lM18, am_sM18, am_gM19, am_pM19, am_gM20, am_lM20, am_sM20, am_gM21, am_lM21, am_sM21, am_gM22, am_lM22, am_sM22, am_gM23, am_lM23, am_sM23, am_gM24, am_pM24, am_gM25, am_pM25, am_gM26, am_lM26, am_sM26, am_gM27, am_lM27, am_sM27, am_gM28, am_lM28, am_sM28, am_gM29, am_lM29, am_sM29, am_gM30, am_lM30, am_sM30, am_gM31, am_lM31, am_sM31, am_gM32, am_lM32, am_sM32, am_gM33, am_lM33, am_sM33, am_gM34, am_lM34, am_sM34, am_gM35, am_lM35, am_sM35, am_gM36, am_lM36, am_sM36, am_gM37, am_lM37, am_sM37, am_gM38, am_lM38, am_sM38, am_gM39, am_lM39, am_sM39, am_gM40, am_lM40, am_sM40, am_gM41, am_lM41, am_sM41, am_gM42, am_lM42, am_sM42, am_gM43, am_lM43, am_sM43, am_gM44, am_lM44, am_sM44, am_gM45, am_pM45, am_gM46, am_lM46, am_sM46, am_gM47, am_lM47, am_sM47, am_gM48, am_lM48, am_sM48, am_gM49, am_lM49, am_sM49, am_gM50, am_lM50, am_sM50, am_gM51, am_lM51, am_sM51, am_gM52, am_lM52, am_sM52, am_isM, am_bk, am_pu1, am_pu0, Option.bind_some, eq_self, am_nli, am_nlr, am_nln, am_nlu, if_true, if_false, not_true_eq_false, not_false_eq_true, am_10, am_01, mr160, hF, c, hI, am_tcn (show k ≤ 100000 by omega), am_succ, am_sum, as_pu, h1, h2, h3, h4, am_nle, and_self]
        · simp only [am_e232_0, am_e232_11, am_e232_86, am_e232_14, am_e232_19, am_e232_22, am_e232_25, am_e232_32, am_e232_35, am_e232_77, am_e232_38, am_e232_42, am_e232_45, am_e232_49, am_e232_55, am_e232_60, am_e232_63, am_e232_74, am_gM0, am_pM0, am_gM1, am_pM1, am_gM2, am_lM2, am_sM2, am_gM3, am_lM3, am_sM3, am_gM4, am_lM4, am_sM4, am_gM5, am_lM5, am_sM5, am_gM6, am_pM6, am_gM7, am_lM7, am_sM7, am_gM8, am_lM8, am_sM8, am_gM9, am_lM9, am_sM9, am_gM10, am_lM10, am_sM10, am_gM11, am_lM11, am_sM11, am_gM12, am_lM12, am_sM12, am_gM13, am_lM13, am_sM13, am_gM14, am_lM14, am_sM14, am_gM15, am_lM15, am_sM15, am_gM16, am_lM16, am_sM16, am_gM17, am_lM17, am_sM17, am_gM18, am_lM18, am_sM18, am_gM19, am_pM19, am_gM20, am_lM20, am_sM20, am_gM21, am_lM21, am_sM21, am_gM22, am_lM22, am_sM22, am_gM23, am_lM23, am_sM23, am_gM24, am_pM24, am_gM25, am_pM25, am_gM26, am_lM26, am_sM26, am_gM27, am_lM27, am_sM27, am_gM28, am_lM28, am_sM28, am_gM29, am_lM29, am_sM29, am_gM30, am_lM30, am_sM30, am_gM31, am_lM31, am_sM31, am_gM32, am_lM32, am_sM32, am_gM33, am_lM33, am_sM33, am_gM34, am_lM34, am_sM34, am_gM35, am_lM35, am_sM35, am_gM36, am_lM36, am_sM36, am_gM37, am_lM37, am_sM37, am_gM38, am_lM38, am_sM38, am_gM39, am_lM39, am_sM39, am_gM40, am_lM40, am_sM40, am_gM41, am_lM41, am_sM41, am_gM42, am_lM42, am_sM42, am_gM43, am_lM43, am_sM43, am_gM44, am_lM44, am_sM44, am_gM45, am_pM45, am_gM46, am_lM46, am_sM46, am_gM47, am_lM47, am_sM47, am_gM48, am_lM48, am_sM48, am_gM49, am_lM49, am_sM49, am_gM50, am_lM50, am_sM50, am_gM51, am_lM51, am_sM51, am_gM52, am_lM52, am_sM52, am_isM, am_bk, am_pu1, am_pu0, Option.bind_some, eq_self, am_nli, am_nlr, am_nln, am_nlu, if_true, if_false, not_true_eq_false, not_false_eq_true, am_10, am_01, mr160, hF, c, hI, am_tcn (show k ≤ 100000 by omega), am_succ, am_sum, as_pu, h1, h2, h3, am_nle, and_false]
      · simp only [am_e232_0, am_e232_11, am_e232_86, am_e232_14, am_e232_19, am_e232_22, am_e232_25, am_e232_32, am_e232_35, am_e232_77, am_e232_38, am_e232_42, am_e232_45, am_e232_49, am_e232_55, am_e232_60, am_e232_63, am_e232_74, am_gM0, am_pM0, am_gM1, am_pM1, am_gM2, am_lM2, am_sM2, am_gM3, am_lM3, am_sM3, am_gM4, am_lM4, am_sM4, am_gM5, am_lM5, am_sM5, am_gM6, am_pM6, am_gM7, am_lM7, am_sM7, am_gM8, am_lM8, am_sM8, am_gM9, am_lM9, am_sM9, am_gM10, am_lM10, am_sM10, am_gM11, am_lM11, am_sM11, am_gM12, am_lM12, am_sM12, am_gM13, am_lM13, am_sM13, am_gM14, am_lM14, am_sM14, am_gM15, am_lM15, am_sM15, am_gM16, am_lM16, am_sM16, am_gM17, am_lM17, am_sM17, am_gM18, am_lM18, am_sM18, am_gM19, am_pM19, am_gM20, am_lM20, am_sM20, am_gM21, am_lM21, am_sM21, am_gM22, am_lM22, am_sM22, am_gM23, am_lM23, am_sM23, am_gM24, am_pM24, am_gM25, am_pM25, am_gM26, am_lM26, am_sM26, am_gM27, am_lM27, am_sM27, am_gM28, am_lM28, am_sM28, am_gM29, am_lM29, am_sM29, am_gM30, am_lM30, am_sM30, am_gM31, am_lM31, am_sM31, am_gM32, am_lM32, am_sM32, am_gM33, am_lM33, am_sM33, am_gM34, am_lM34, am_sM34, am_gM35, am_lM35, am_sM35, am_gM36, am_lM36, am_sM36, am_gM37, am_lM37, am_sM37, am_gM38, am_lM38, am_sM38, am_gM39, am_lM39, am_sM39, am_gM40, am_lM40, am_sM40, am_gM41, am_lM41, am_sM41, am_gM42, am_lM42, am_sM42, am_gM43, am_lM43, am_sM43, am_gM44, am_lM44, am_sM44, am_gM45, am_pM45, am_gM46, am_lM46, am_sM46, am_gM47, am_lM47, am_sM47, am_gM48, am_lM48, am_sM48, am_gM49, am_lM49, am_sM49, am_gM50, am_lM50, am_sM50, am_gM51, am_lM51, am_sM51, am_gM52, am_lM52, am_sM52, am_isM, am_bk, am_pu1, am_pu0, Option.bind_some, eq_self, am_nli, am_nlr, am_nln, am_nlu, if_true, if_false, not_true_eq_false, not_false_eq_true, am_10, am_01, mr160, hF, c, hI, am_tcn (show k ≤ 100000 by omega), am_succ, am_sum, as_pu, h1, h2, false_and, and_false])
  simp only [am_e232_0, am_e232_11, am_e232_86, am_e232_14, am_e232_19, am_e232_22, am_e232_25, am_e232_32, am_e232_35, am_e232_77, am_e232_38, am_e232_42, am_e232_45, am_e232_49, am_e232_55, am_e232_60, am_e232_63, am_e232_74, am_bk, am_pu1, am_pu0, Option.bind_some, eq_self, am_nli, am_nlr, am_nln, am_nlu, if_true, if_false, not_true_eq_false, not_false_eq_true, am_10, am_01]
  refine key.trans ?_
  show am_exec 232 5 _ _ _ = _
  rw [am_e232_5]
  simp only [am_e232_0, am_e232_11, am_e232_86, am_e232_14, am_e232_19, am_e232_22, am_e232_25, am_e232_32, am_e232_35, am_e232_77, am_e232_38, am_e232_42, am_e232_45, am_e232_49, am_e232_55, am_e232_60, am_e232_63, am_e232_74, am_gM0, am_pM0, am_gM1, am_pM1, am_gM2, am_lM2, am_sM2, am_gM3, am_lM3, am_sM3, am_gM4, am_lM4, am_sM4, am_gM5, am_lM5, am_sM5, am_gM6, am_pM6, am_gM7, am_lM7, am_sM7, am_gM8, am_lM8, am_sM8, am_gM9, am_lM9, am_sM9, am_gM10, am_lM10, am_sM10, am_gM11, am_lM11, am_sM11, am_gM12, am_lM12, am_sM12, am_gM13, am_lM13, am_sM13, am_gM14, am_lM14, am_sM14, am_gM15, am_lM15, am_sM15, am_gM16, am_lM16, am_sM16, am_gM17, am_lM17, am_sM17, am_gM18, am_lM18, am_sM18, am_gM19, am_pM19, am_gM20, am_lM20, am_sM20, am_gM21, am_lM21, am_sM21, am_gM22, am_lM22, am_sM22, am_gM23, am_lM23, am_sM23, am_gM24, am_pM24, am_gM25, am_pM25, am_gM26, am_lM26, am_sM26, am_gM27, am_lM27, am_sM27, am_gM28, am_lM28, am_sM28, am_gM29, am_lM29, am_sM29, am_gM30, am_lM30, am_sM30, am_gM31, am_lM31, am_sM31, am_gM32, am_lM32, am_sM32, am_gM33, am_lM33, am_sM33, am_gM34, am_lM34, am_sM34, am_gM35, am_lM35, am_sM35, am_gM36, am_lM36, am_sM36, am_gM37, am_lM37, am_sM37, am_gM38, am_lM38, am_sM38, am_gM39, am_lM39, am_sM39, am_gM40, am_lM40, am_sM40, am_gM41, am_lM41, am_sM41, am_gM42, am_lM42, am_sM42, am_gM43, am_lM43, am_sM43, am_gM44, am_lM44, am_sM44, am_gM45, am_pM45, am_gM46, am_lM46, am_sM46, am_gM47, am_lM47, am_sM47, am_gM48, am_lM48, am_sM48, am_gM49, am_lM49, am_sM49, am_gM50, am_lM50, am_sM50, am_gM51, am_lM51, am_sM51, am_gM52, am_lM52, am_sM52, am_isM, am_bk, am_pu1, am_pu0, Option.bind_some, eq_self, am_nli, am_nlr, am_nln, am_nlu, if_true, if_false, not_true_eq_false, not_false_eq_true, am_10, am_01, hF, Int32.le_refl]
theorem mr233 (hF : G 6 0 = Int32.ofNat F) (hF2 : F ≤ 12) (hb : ∀ c, c < F → G 7 c = 0 ∨ G 7 c = 1) (hc : ∀ c, c < F → am_I (G 9 c) 64) (hC : aw_CA G F) {t : Int32} (ht : am_I t 64) (hh : G 4 t.toNatClampNeg = -1 ∨ aw_P (G 4 t.toNatClampNeg)) : am_exec 233 0 [.ref 40, .int t, am_U, am_U, am_U, am_U, am_U] [] (am_ov G L r) = some (.inl (some (.int (as_ft F G t))), am_ov G L r) := by
  unfold as_ft
  by_cases h5 : G 5 t.toNatClampNeg = -1
  · rw [if_pos h5]
    have e1 : ∀ {p : Int32}, am_exec 232 0 [.ref 40, .int p, .int t, am_U, am_U, am_U] [] (am_ov G L r) = some (.inl (some (.int (am_sum (as_pu G p t) 0 F))), am_ov G L r) := mr232 hF hF2 hb hc ht
    have e2 : aw_P (G 4 t.toNatClampNeg) → am_exec 232 0 [.ref 40, .int (G 4 t.toNatClampNeg), .int t, am_U, am_U, am_U] [] (am_ov G L r) = some (.inl (some (.int ((fun i => am_sum (as_pu G (Int32.ofNat i) t) 0 F) (G 4 t.toNatClampNeg).toNatClampNeg))), am_ov G L r) := fun hp => by
      rw [e1]
      show _ = some (Sum.inl (some (Value.int (am_sum (as_pu G (Int32.ofNat (G 4 t.toNatClampNeg).toNatClampNeg) t) 0 F))), am_ov G L r)
      rw [hp.no]
    have e3 : ∀ k, am_exec 232 0 [.ref 40, .int (Int32.ofNat k), .int t, am_U, am_U, am_U] [] (am_ov G L r) = some (.inl (some (.int ((fun i => am_sum (as_pu G (Int32.ofNat i) t) 0 F) k))), am_ov G L r) := fun k => e1
    generalize (fun i => am_sum (as_pu G (Int32.ofNat i) t) 0 F) = u at e2 e3 ⊢
    clear e1
    rw [as_so_ff hh]
    have key := am_iter (fun k => am_exec 233 32 [.ref 40, .int t, .int (as_mp u k), .int (am_oi (as_ff u k)), .int (if as_fh u k = true then 1 else 0), .int (Int32.ofNat k), am_U] [] (am_ov G L r)) 4 (fun k hk => by
      have c : ¬ (4 : Int32) ≤ Int32.ofNat k := am_lit 4 k hk (by decide)
      show am_exec 233 32 _ _ _ = am_exec 233 32 [.ref 40, .int t, .int (as_mp u (k + 1)), .int (am_oi (as_ff u (k + 1))), .int (if as_fh u (k + 1) = true then 1 else 0), .int (Int32.ofNat (k + 1)), am_U] [] (am_ov G L r)
      rw [am_e233_32, as_mp_mx, as_ff, as_fh]
      by_cases h1 : u k ≤ as_mp u k
      · have h1' : ¬ as_mp u k < u k := Int32.not_lt.mpr h1
        cases h2 : as_fh u k
        · by_cases h3 : u k = as_mp u k
          · by_cases h4 : 0 < u k
            · have h4' : ¬ u k ≤ 0 := Int32.not_le.mpr h4
              simp only [am_e233_0, am_e233_4, am_e233_112, am_e233_38, am_e233_6, am_e233_146, am_e233_117, am_e233_45, am_e233_22, am_e233_10, am_e233_172, am_e233_154, am_e233_121, am_e233_57, am_e233_53, am_e233_14, am_e233_168, am_e233_159, am_e233_123, am_e233_73, am_e233_62, am_e233_91, am_e233_86, am_e233_18, am_e233_163, am_e233_127, am_e233_77, am_e233_68, am_e233_104, am_e233_99, am_e233_20, am_e233_165, am_e233_132, am_e233_21, am_e233_134, am_e233_138, am_e233_142, am_gM0, am_pM0, am_gM1, am_pM1, am_gM2, am_lM2, am_sM2, am_gM3, am_lM3, am_sM3, am_gM4, am_lM4, am_sM4, am_gM5, am_lM5, am_sM5, am_gM6, am_pM6, am_gM7, am_lM7, am_sM7, am_gM8, am_lM8, am_sM8, am_gM9, am_lM9, am_sM9, am_gM10, am_lM10, am_sM10, am_gM11, am_lM11, am_sM11, am_gM12, am_lM12, am_sM12, am_gM13, am_lM13, am_sM13, am_gM14, am_lM14, am_sM14, am_gM15, am_lM15, am_sM15, am_gM16, am_lM16, am_sM16, am_gM17, am_lM17, am_sM17, am_gM18, am_lM18, am_sM18, am_gM19, am_pM19, am_gM20, am_lM20, am_sM20, am_gM21, am_lM21, am_sM21, am_gM22, am_lM22, am_sM22, am_gM23, am_lM23, am_sM23, am_gM24, am_pM24, am_gM25, am_pM25, am_gM26, am_lM26, am_sM26, am_gM27, am_lM27, am_sM27, am_gM28, am_lM28, am_sM28, am_gM29, am_lM29, am_sM29, am_gM30, am_lM30, am_sM30, am_gM31, am_lM31, am_sM31, am_gM32, am_lM32, am_sM32, am_gM33, am_lM33, am_sM33, am_gM34, am_lM34, am_sM34, am_gM35, am_lM35, am_sM35, am_gM36, am_lM36, am_sM36, am_gM37, am_lM37, am_sM37, am_gM38, am_lM38, am_sM38, am_gM39, am_lM39, am_sM39, am_gM40, am_lM40, am_sM40, am_gM41, am_lM41, am_sM41, am_gM42, am_lM42, am_sM42, am_gM43, am_lM43, am_sM43, am_gM44, am_lM44, am_sM44, am_gM45, am_pM45, am_gM46, am_lM46, am_sM46, am_gM47, am_lM47, am_sM47, am_gM48, am_lM48, am_sM48, am_gM49, am_lM49, am_sM49, am_gM50, am_lM50, am_sM50, am_gM51, am_lM51, am_sM51, am_gM52, am_lM52, am_sM52, am_isM, am_bk, am_pu1, am_pu0, Option.bind_some, eq_self, am_nli, am_nlr, am_nln, am_nlu, if_true, if_false, not_true_eq_false, not_false_eq_true, am_10, am_01, e3, c, am_succ, h1, h1', h2, h4, h4', Bool.false_eq_true, Bool.false_or, decide_eq_true_eq]
              rw [h3] at h4 h4' ⊢
              simp only [am_e233_0, am_e233_4, am_e233_112, am_e233_38, am_e233_6, am_e233_146, am_e233_117, am_e233_45, am_e233_22, am_e233_10, am_e233_172, am_e233_154, am_e233_121, am_e233_57, am_e233_53, am_e233_14, am_e233_168, am_e233_159, am_e233_123, am_e233_73, am_e233_62, am_e233_91, am_e233_86, am_e233_18, am_e233_163, am_e233_127, am_e233_77, am_e233_68, am_e233_104, am_e233_99, am_e233_20, am_e233_165, am_e233_132, am_e233_21, am_e233_134, am_e233_138, am_e233_142, am_gM0, am_pM0, am_gM1, am_pM1, am_gM2, am_lM2, am_sM2, am_gM3, am_lM3, am_sM3, am_gM4, am_lM4, am_sM4, am_gM5, am_lM5, am_sM5, am_gM6, am_pM6, am_gM7, am_lM7, am_sM7, am_gM8, am_lM8, am_sM8, am_gM9, am_lM9, am_sM9, am_gM10, am_lM10, am_sM10, am_gM11, am_lM11, am_sM11, am_gM12, am_lM12, am_sM12, am_gM13, am_lM13, am_sM13, am_gM14, am_lM14, am_sM14, am_gM15, am_lM15, am_sM15, am_gM16, am_lM16, am_sM16, am_gM17, am_lM17, am_sM17, am_gM18, am_lM18, am_sM18, am_gM19, am_pM19, am_gM20, am_lM20, am_sM20, am_gM21, am_lM21, am_sM21, am_gM22, am_lM22, am_sM22, am_gM23, am_lM23, am_sM23, am_gM24, am_pM24, am_gM25, am_pM25, am_gM26, am_lM26, am_sM26, am_gM27, am_lM27, am_sM27, am_gM28, am_lM28, am_sM28, am_gM29, am_lM29, am_sM29, am_gM30, am_lM30, am_sM30, am_gM31, am_lM31, am_sM31, am_gM32, am_lM32, am_sM32, am_gM33, am_lM33, am_sM33, am_gM34, am_lM34, am_sM34, am_gM35, am_lM35, am_sM35, am_gM36, am_lM36, am_sM36, am_gM37, am_lM37, am_sM37, am_gM38, am_lM38, am_sM38, am_gM39, am_lM39, am_sM39, am_gM40, am_lM40, am_sM40, am_gM41, am_lM41, am_sM41, am_gM42, am_lM42, am_sM42, am_gM43, am_lM43, am_sM43, am_gM44, am_lM44, am_sM44, am_gM45, am_pM45, am_gM46, am_lM46, am_sM46, am_gM47, am_lM47, am_sM47, am_gM48, am_lM48, am_sM48, am_gM49, am_lM49, am_sM49, am_gM50, am_lM50, am_sM50, am_gM51, am_lM51, am_sM51, am_gM52, am_lM52, am_sM52, am_isM, am_bk, am_pu1, am_pu0, Option.bind_some, eq_self, am_nli, am_nlr, am_nln, am_nlu, if_true, if_false, not_true_eq_false, not_false_eq_true, am_10, am_01, am_succ, Int32.le_refl, h4, h4', and_self]
            · have h4' : u k ≤ 0 := Int32.not_lt.mp h4
              simp only [am_e233_0, am_e233_4, am_e233_112, am_e233_38, am_e233_6, am_e233_146, am_e233_117, am_e233_45, am_e233_22, am_e233_10, am_e233_172, am_e233_154, am_e233_121, am_e233_57, am_e233_53, am_e233_14, am_e233_168, am_e233_159, am_e233_123, am_e233_73, am_e233_62, am_e233_91, am_e233_86, am_e233_18, am_e233_163, am_e233_127, am_e233_77, am_e233_68, am_e233_104, am_e233_99, am_e233_20, am_e233_165, am_e233_132, am_e233_21, am_e233_134, am_e233_138, am_e233_142, am_gM0, am_pM0, am_gM1, am_pM1, am_gM2, am_lM2, am_sM2, am_gM3, am_lM3, am_sM3, am_gM4, am_lM4, am_sM4, am_gM5, am_lM5, am_sM5, am_gM6, am_pM6, am_gM7, am_lM7, am_sM7, am_gM8, am_lM8, am_sM8, am_gM9, am_lM9, am_sM9, am_gM10, am_lM10, am_sM10, am_gM11, am_lM11, am_sM11, am_gM12, am_lM12, am_sM12, am_gM13, am_lM13, am_sM13, am_gM14, am_lM14, am_sM14, am_gM15, am_lM15, am_sM15, am_gM16, am_lM16, am_sM16, am_gM17, am_lM17, am_sM17, am_gM18, am_lM18, am_sM18, am_gM19, am_pM19, am_gM20, am_lM20, am_sM20, am_gM21, am_lM21, am_sM21, am_gM22, am_lM22, am_sM22, am_gM23, am_lM23, am_sM23, am_gM24, am_pM24, am_gM25, am_pM25, am_gM26, am_lM26, am_sM26, am_gM27, am_lM27, am_sM27, am_gM28, am_lM28, am_sM28, am_gM29, am_lM29, am_sM29, am_gM30, am_lM30, am_sM30, am_gM31, am_lM31, am_sM31, am_gM32, am_lM32, am_sM32, am_gM33, am_lM33, am_sM33, am_gM34, am_lM34, am_sM34, am_gM35, am_lM35, am_sM35, am_gM36, am_lM36, am_sM36, am_gM37, am_lM37, am_sM37, am_gM38, am_lM38, am_sM38, am_gM39, am_lM39, am_sM39, am_gM40, am_lM40, am_sM40, am_gM41, am_lM41, am_sM41, am_gM42, am_lM42, am_sM42, am_gM43, am_lM43, am_sM43, am_gM44, am_lM44, am_sM44, am_gM45, am_pM45, am_gM46, am_lM46, am_sM46, am_gM47, am_lM47, am_sM47, am_gM48, am_lM48, am_sM48, am_gM49, am_lM49, am_sM49, am_gM50, am_lM50, am_sM50, am_gM51, am_lM51, am_sM51, am_gM52, am_lM52, am_sM52, am_isM, am_bk, am_pu1, am_pu0, Option.bind_some, eq_self, am_nli, am_nlr, am_nln, am_nlu, if_true, if_false, not_true_eq_false, not_false_eq_true, am_10, am_01, e3, c, am_succ, h1, h1', h2, h4, h4', Bool.false_eq_true, Bool.false_or, decide_eq_true_eq, and_false]
              rw [h3] at h4 h4' ⊢
              simp only [am_e233_0, am_e233_4, am_e233_112, am_e233_38, am_e233_6, am_e233_146, am_e233_117, am_e233_45, am_e233_22, am_e233_10, am_e233_172, am_e233_154, am_e233_121, am_e233_57, am_e233_53, am_e233_14, am_e233_168, am_e233_159, am_e233_123, am_e233_73, am_e233_62, am_e233_91, am_e233_86, am_e233_18, am_e233_163, am_e233_127, am_e233_77, am_e233_68, am_e233_104, am_e233_99, am_e233_20, am_e233_165, am_e233_132, am_e233_21, am_e233_134, am_e233_138, am_e233_142, am_gM0, am_pM0, am_gM1, am_pM1, am_gM2, am_lM2, am_sM2, am_gM3, am_lM3, am_sM3, am_gM4, am_lM4, am_sM4, am_gM5, am_lM5, am_sM5, am_gM6, am_pM6, am_gM7, am_lM7, am_sM7, am_gM8, am_lM8, am_sM8, am_gM9, am_lM9, am_sM9, am_gM10, am_lM10, am_sM10, am_gM11, am_lM11, am_sM11, am_gM12, am_lM12, am_sM12, am_gM13, am_lM13, am_sM13, am_gM14, am_lM14, am_sM14, am_gM15, am_lM15, am_sM15, am_gM16, am_lM16, am_sM16, am_gM17, am_lM17, am_sM17, am_gM18, am_lM18, am_sM18, am_gM19, am_pM19, am_gM20, am_lM20, am_sM20, am_gM21, am_lM21, am_sM21, am_gM22, am_lM22, am_sM22, am_gM23, am_lM23, am_sM23, am_gM24, am_pM24, am_gM25, am_pM25, am_gM26, am_lM26, am_sM26, am_gM27, am_lM27, am_sM27, am_gM28, am_lM28, am_sM28, am_gM29, am_lM29, am_sM29, am_gM30, am_lM30, am_sM30, am_gM31, am_lM31, am_sM31, am_gM32, am_lM32, am_sM32, am_gM33, am_lM33, am_sM33, am_gM34, am_lM34, am_sM34, am_gM35, am_lM35, am_sM35, am_gM36, am_lM36, am_sM36, am_gM37, am_lM37, am_sM37, am_gM38, am_lM38, am_sM38, am_gM39, am_lM39, am_sM39, am_gM40, am_lM40, am_sM40, am_gM41, am_lM41, am_sM41, am_gM42, am_lM42, am_sM42, am_gM43, am_lM43, am_sM43, am_gM44, am_lM44, am_sM44, am_gM45, am_pM45, am_gM46, am_lM46, am_sM46, am_gM47, am_lM47, am_sM47, am_gM48, am_lM48, am_sM48, am_gM49, am_lM49, am_sM49, am_gM50, am_lM50, am_sM50, am_gM51, am_lM51, am_sM51, am_gM52, am_lM52, am_sM52, am_isM, am_bk, am_pu1, am_pu0, Option.bind_some, eq_self, am_nli, am_nlr, am_nln, am_nlu, if_true, if_false, not_true_eq_false, not_false_eq_true, am_10, am_01, am_succ, Int32.le_refl, h4, h4']
          · simp only [am_e233_0, am_e233_4, am_e233_112, am_e233_38, am_e233_6, am_e233_146, am_e233_117, am_e233_45, am_e233_22, am_e233_10, am_e233_172, am_e233_154, am_e233_121, am_e233_57, am_e233_53, am_e233_14, am_e233_168, am_e233_159, am_e233_123, am_e233_73, am_e233_62, am_e233_91, am_e233_86, am_e233_18, am_e233_163, am_e233_127, am_e233_77, am_e233_68, am_e233_104, am_e233_99, am_e233_20, am_e233_165, am_e233_132, am_e233_21, am_e233_134, am_e233_138, am_e233_142, am_gM0, am_pM0, am_gM1, am_pM1, am_gM2, am_lM2, am_sM2, am_gM3, am_lM3, am_sM3, am_gM4, am_lM4, am_sM4, am_gM5, am_lM5, am_sM5, am_gM6, am_pM6, am_gM7, am_lM7, am_sM7, am_gM8, am_lM8, am_sM8, am_gM9, am_lM9, am_sM9, am_gM10, am_lM10, am_sM10, am_gM11, am_lM11, am_sM11, am_gM12, am_lM12, am_sM12, am_gM13, am_lM13, am_sM13, am_gM14, am_lM14, am_sM14, am_gM15, am_lM15, am_sM15, am_gM16, am_lM16, am_sM16, am_gM17, am_lM17, am_sM17, am_gM18, am_lM18, am_sM18, am_gM19, am_pM19, am_gM20, am_lM20, am_sM20, am_gM21, am_lM21, am_sM21, am_gM22, am_lM22, am_sM22, am_gM23, am_lM23, am_sM23, am_gM24, am_pM24, am_gM25, am_pM25, am_gM26, am_lM26, am_sM26, am_gM27, am_lM27, am_sM27, am_gM28, am_lM28, am_sM28, am_gM29, am_lM29, am_sM29, am_gM30, am_lM30, am_sM30, am_gM31, am_lM31, am_sM31, am_gM32, am_lM32, am_sM32, am_gM33, am_lM33, am_sM33, am_gM34, am_lM34, am_sM34, am_gM35, am_lM35, am_sM35, am_gM36, am_lM36, am_sM36, am_gM37, am_lM37, am_sM37, am_gM38, am_lM38, am_sM38, am_gM39, am_lM39, am_sM39, am_gM40, am_lM40, am_sM40, am_gM41, am_lM41, am_sM41, am_gM42, am_lM42, am_sM42, am_gM43, am_lM43, am_sM43, am_gM44, am_lM44, am_sM44, am_gM45, am_pM45, am_gM46, am_lM46, am_sM46, am_gM47, am_lM47, am_sM47, am_gM48, am_lM48, am_sM48, am_gM49, am_lM49, am_sM49, am_gM50, am_lM50, am_sM50, am_gM51, am_lM51, am_sM51, am_gM52, am_lM52, am_sM52, am_isM, am_bk, am_pu1, am_pu0, Option.bind_some, eq_self, am_nli, am_nlr, am_nln, am_nlu, if_true, if_false, not_true_eq_false, not_false_eq_true, am_10, am_01, e3, c, am_succ, h1, h1', h2, h3, Bool.false_eq_true, Bool.false_or, decide_eq_true_eq, false_and]
        · simp only [am_e233_0, am_e233_4, am_e233_112, am_e233_38, am_e233_6, am_e233_146, am_e233_117, am_e233_45, am_e233_22, am_e233_10, am_e233_172, am_e233_154, am_e233_121, am_e233_57, am_e233_53, am_e233_14, am_e233_168, am_e233_159, am_e233_123, am_e233_73, am_e233_62, am_e233_91, am_e233_86, am_e233_18, am_e233_163, am_e233_127, am_e233_77, am_e233_68, am_e233_104, am_e233_99, am_e233_20, am_e233_165, am_e233_132, am_e233_21, am_e233_134, am_e233_138, am_e233_142, am_gM0, am_pM0, am_gM1, am_pM1, am_gM2, am_lM2, am_sM2, am_gM3, am_lM3, am_sM3, am_gM4, am_lM4, am_sM4, am_gM5, am_lM5, am_sM5, am_gM6, am_pM6, am_gM7, am_lM7, am_sM7, am_gM8, am_lM8, am_sM8, am_gM9, am_lM9, am_sM9, am_gM10, am_lM10, am_sM10, am_gM11, am_lM11, am_sM11, am_gM12, am_lM12, am_sM12, am_gM13, am_lM13, am_sM13, am_gM14, am_lM14, am_sM14, am_gM15, am_lM15, am_sM15, am_gM16, am_lM16, am_sM16, am_gM17, am_lM17, am_sM17, am_gM18, am_lM18, am_sM18, am_gM19, am_pM19, am_gM20, am_lM20, am_sM20, am_gM21, am_lM21, am_sM21, am_gM22, am_lM22, am_sM22, am_gM23, am_lM23, am_sM23, am_gM24, am_pM24, am_gM25, am_pM25, am_gM26, am_lM26, am_sM26, am_gM27, am_lM27, am_sM27, am_gM28, am_lM28, am_sM28, am_gM29, am_lM29, am_sM29, am_gM30, am_lM30, am_sM30, am_gM31, am_lM31, am_sM31, am_gM32, am_lM32, am_sM32, am_gM33, am_lM33, am_sM33, am_gM34, am_lM34, am_sM34, am_gM35, am_lM35, am_sM35, am_gM36, am_lM36, am_sM36, am_gM37, am_lM37, am_sM37, am_gM38, am_lM38, am_sM38, am_gM39, am_lM39, am_sM39, am_gM40, am_lM40, am_sM40, am_gM41, am_lM41, am_sM41, am_gM42, am_lM42, am_sM42, am_gM43, am_lM43, am_sM43, am_gM44, am_lM44, am_sM44, am_gM45, am_pM45, am_gM46, am_lM46, am_sM46, am_gM47, am_lM47, am_sM47, am_gM48, am_lM48, am_sM48, am_gM49, am_lM49, am_sM49, am_gM50, am_lM50, am_sM50, am_gM51, am_lM51, am_sM51, am_gM52, am_lM52, am_sM52, am_isM, am_bk, am_pu1, am_pu0, Option.bind_some, eq_self, am_nli, am_nlr, am_nln, am_nlu, if_true, if_false, not_true_eq_false, not_false_eq_true, am_10, am_01, e3, c, am_succ, h1, h1', h2, Bool.true_or]
      · have h1' : as_mp u k < u k := Int32.not_le.mp h1
        simp only [am_e233_0, am_e233_4, am_e233_112, am_e233_38, am_e233_6, am_e233_146, am_e233_117, am_e233_45, am_e233_22, am_e233_10, am_e233_172, am_e233_154, am_e233_121, am_e233_57, am_e233_53, am_e233_14, am_e233_168, am_e233_159, am_e233_123, am_e233_73, am_e233_62, am_e233_91, am_e233_86, am_e233_18, am_e233_163, am_e233_127, am_e233_77, am_e233_68, am_e233_104, am_e233_99, am_e233_20, am_e233_165, am_e233_132, am_e233_21, am_e233_134, am_e233_138, am_e233_142, am_gM0, am_pM0, am_gM1, am_pM1, am_gM2, am_lM2, am_sM2, am_gM3, am_lM3, am_sM3, am_gM4, am_lM4, am_sM4, am_gM5, am_lM5, am_sM5, am_gM6, am_pM6, am_gM7, am_lM7, am_sM7, am_gM8, am_lM8, am_sM8, am_gM9, am_lM9, am_sM9, am_gM10, am_lM10, am_sM10, am_gM11, am_lM11, am_sM11, am_gM12, am_lM12, am_sM12, am_gM13, am_lM13, am_sM13, am_gM14, am_lM14, am_sM14, am_gM15, am_lM15, am_sM15, am_gM16, am_lM16, am_sM16, am_gM17, am_lM17, am_sM17, am_gM18, am_lM18, am_sM18, am_gM19, am_pM19, am_gM20, am_lM20, am_sM20, am_gM21, am_lM21, am_sM21, am_gM22, am_lM22, am_sM22, am_gM23, am_lM23, am_sM23, am_gM24, am_pM24, am_gM25, am_pM25, am_gM26, am_lM26, am_sM26, am_gM27, am_lM27, am_sM27, am_gM28, am_lM28, am_sM28, am_gM29, am_lM29, am_sM29, am_gM30, am_lM30, am_sM30, am_gM31, am_lM31, am_sM31, am_gM32, am_lM32, am_sM32, am_gM33, am_lM33, am_sM33, am_gM34, am_lM34, am_sM34, am_gM35, am_lM35, am_sM35, am_gM36, am_lM36, am_sM36, am_gM37, am_lM37, am_sM37, am_gM38, am_lM38, am_sM38, am_gM39, am_lM39, am_sM39, am_gM40, am_lM40, am_sM40, am_gM41, am_lM41, am_sM41, am_gM42, am_lM42, am_sM42, am_gM43, am_lM43, am_sM43, am_gM44, am_lM44, am_sM44, am_gM45, am_pM45, am_gM46, am_lM46, am_sM46, am_gM47, am_lM47, am_sM47, am_gM48, am_lM48, am_sM48, am_gM49, am_lM49, am_sM49, am_gM50, am_lM50, am_sM50, am_gM51, am_lM51, am_sM51, am_gM52, am_lM52, am_sM52, am_isM, am_bk, am_pu1, am_pu0, Option.bind_some, eq_self, am_nli, am_nlr, am_nln, am_nlu, if_true, if_false, not_true_eq_false, not_false_eq_true, am_10, am_01, e3, c, am_succ, h1, h1', am_oi, Bool.false_eq_true])
    simp only [am_e233_0, am_e233_4, am_e233_112, am_e233_38, am_e233_6, am_e233_146, am_e233_117, am_e233_45, am_e233_22, am_e233_10, am_e233_172, am_e233_154, am_e233_121, am_e233_57, am_e233_53, am_e233_14, am_e233_168, am_e233_159, am_e233_123, am_e233_73, am_e233_62, am_e233_91, am_e233_86, am_e233_18, am_e233_163, am_e233_127, am_e233_77, am_e233_68, am_e233_104, am_e233_99, am_e233_20, am_e233_165, am_e233_132, am_e233_21, am_e233_134, am_e233_138, am_e233_142, am_gM0, am_pM0, am_gM1, am_pM1, am_gM2, am_lM2, am_sM2, am_gM3, am_lM3, am_sM3, am_gM4, am_lM4, am_sM4, am_gM5, am_lM5, am_sM5, am_gM6, am_pM6, am_gM7, am_lM7, am_sM7, am_gM8, am_lM8, am_sM8, am_gM9, am_lM9, am_sM9, am_gM10, am_lM10, am_sM10, am_gM11, am_lM11, am_sM11, am_gM12, am_lM12, am_sM12, am_gM13, am_lM13, am_sM13, am_gM14, am_lM14, am_sM14, am_gM15, am_lM15, am_sM15, am_gM16, am_lM16, am_sM16, am_gM17, am_lM17, am_sM17, am_gM18, am_lM18, am_sM18, am_gM19, am_pM19, am_gM20, am_lM20, am_sM20, am_gM21, am_lM21, am_sM21, am_gM22, am_lM22, am_sM22, am_gM23, am_lM23, am_sM23, am_gM24, am_pM24, am_gM25, am_pM25, am_gM26, am_lM26, am_sM26, am_gM27, am_lM27, am_sM27, am_gM28, am_lM28, am_sM28, am_gM29, am_lM29, am_sM29, am_gM30, am_lM30, am_sM30, am_gM31, am_lM31, am_sM31, am_gM32, am_lM32, am_sM32, am_gM33, am_lM33, am_sM33, am_gM34, am_lM34, am_sM34, am_gM35, am_lM35, am_sM35, am_gM36, am_lM36, am_sM36, am_gM37, am_lM37, am_sM37, am_gM38, am_lM38, am_sM38, am_gM39, am_lM39, am_sM39, am_gM40, am_lM40, am_sM40, am_gM41, am_lM41, am_sM41, am_gM42, am_lM42, am_sM42, am_gM43, am_lM43, am_sM43, am_gM44, am_lM44, am_sM44, am_gM45, am_pM45, am_gM46, am_lM46, am_sM46, am_gM47, am_lM47, am_sM47, am_gM48, am_lM48, am_sM48, am_gM49, am_lM49, am_sM49, am_gM50, am_lM50, am_sM50, am_gM51, am_lM51, am_sM51, am_gM52, am_lM52, am_sM52, am_isM, am_bk, am_pu1, am_pu0, Option.bind_some, eq_self, am_nli, am_nlr, am_nln, am_nlu, if_true, if_false, not_true_eq_false, not_false_eq_true, am_10, am_01, ht, h5]
    refine key.trans ?_
    show am_exec 233 32 _ _ _ = _
    rw [am_e233_32]
    cases h2 : as_fh u 4
    · simp only [am_e233_0, am_e233_4, am_e233_112, am_e233_38, am_e233_6, am_e233_146, am_e233_117, am_e233_45, am_e233_22, am_e233_10, am_e233_172, am_e233_154, am_e233_121, am_e233_57, am_e233_53, am_e233_14, am_e233_168, am_e233_159, am_e233_123, am_e233_73, am_e233_62, am_e233_91, am_e233_86, am_e233_18, am_e233_163, am_e233_127, am_e233_77, am_e233_68, am_e233_104, am_e233_99, am_e233_20, am_e233_165, am_e233_132, am_e233_21, am_e233_134, am_e233_138, am_e233_142, am_gM0, am_pM0, am_gM1, am_pM1, am_gM2, am_lM2, am_sM2, am_gM3, am_lM3, am_sM3, am_gM4, am_lM4, am_sM4, am_gM5, am_lM5, am_sM5, am_gM6, am_pM6, am_gM7, am_lM7, am_sM7, am_gM8, am_lM8, am_sM8, am_gM9, am_lM9, am_sM9, am_gM10, am_lM10, am_sM10, am_gM11, am_lM11, am_sM11, am_gM12, am_lM12, am_sM12, am_gM13, am_lM13, am_sM13, am_gM14, am_lM14, am_sM14, am_gM15, am_lM15, am_sM15, am_gM16, am_lM16, am_sM16, am_gM17, am_lM17, am_sM17, am_gM18, am_lM18, am_sM18, am_gM19, am_pM19, am_gM20, am_lM20, am_sM20, am_gM21, am_lM21, am_sM21, am_gM22, am_lM22, am_sM22, am_gM23, am_lM23, am_sM23, am_gM24, am_pM24, am_gM25, am_pM25, am_gM26, am_lM26, am_sM26, am_gM27, am_lM27, am_sM27, am_gM28, am_lM28, am_sM28, am_gM29, am_lM29, am_sM29, am_gM30, am_lM30, am_sM30, am_gM31, am_lM31, am_sM31, am_gM32, am_lM32, am_sM32, am_gM33, am_lM33, am_sM33, am_gM34, am_lM34, am_sM34, am_gM35, am_lM35, am_sM35, am_gM36, am_lM36, am_sM36, am_gM37, am_lM37, am_sM37, am_gM38, am_lM38, am_sM38, am_gM39, am_lM39, am_sM39, am_gM40, am_lM40, am_sM40, am_gM41, am_lM41, am_sM41, am_gM42, am_lM42, am_sM42, am_gM43, am_lM43, am_sM43, am_gM44, am_lM44, am_sM44, am_gM45, am_pM45, am_gM46, am_lM46, am_sM46, am_gM47, am_lM47, am_sM47, am_gM48, am_lM48, am_sM48, am_gM49, am_lM49, am_sM49, am_gM50, am_lM50, am_sM50, am_gM51, am_lM51, am_sM51, am_gM52, am_lM52, am_sM52, am_isM, am_bk, am_pu1, am_pu0, Option.bind_some, eq_self, am_nli, am_nlr, am_nln, am_nlu, if_true, if_false, not_true_eq_false, not_false_eq_true, am_10, am_01, show (4 : Int32) ≤ Int32.ofNat 4 by decide, Bool.false_eq_true]
    · rcases hh with h3 | h3
      · simp only [am_e233_0, am_e233_4, am_e233_112, am_e233_38, am_e233_6, am_e233_146, am_e233_117, am_e233_45, am_e233_22, am_e233_10, am_e233_172, am_e233_154, am_e233_121, am_e233_57, am_e233_53, am_e233_14, am_e233_168, am_e233_159, am_e233_123, am_e233_73, am_e233_62, am_e233_91, am_e233_86, am_e233_18, am_e233_163, am_e233_127, am_e233_77, am_e233_68, am_e233_104, am_e233_99, am_e233_20, am_e233_165, am_e233_132, am_e233_21, am_e233_134, am_e233_138, am_e233_142, am_gM0, am_pM0, am_gM1, am_pM1, am_gM2, am_lM2, am_sM2, am_gM3, am_lM3, am_sM3, am_gM4, am_lM4, am_sM4, am_gM5, am_lM5, am_sM5, am_gM6, am_pM6, am_gM7, am_lM7, am_sM7, am_gM8, am_lM8, am_sM8, am_gM9, am_lM9, am_sM9, am_gM10, am_lM10, am_sM10, am_gM11, am_lM11, am_sM11, am_gM12, am_lM12, am_sM12, am_gM13, am_lM13, am_sM13, am_gM14, am_lM14, am_sM14, am_gM15, am_lM15, am_sM15, am_gM16, am_lM16, am_sM16, am_gM17, am_lM17, am_sM17, am_gM18, am_lM18, am_sM18, am_gM19, am_pM19, am_gM20, am_lM20, am_sM20, am_gM21, am_lM21, am_sM21, am_gM22, am_lM22, am_sM22, am_gM23, am_lM23, am_sM23, am_gM24, am_pM24, am_gM25, am_pM25, am_gM26, am_lM26, am_sM26, am_gM27, am_lM27, am_sM27, am_gM28, am_lM28, am_sM28, am_gM29, am_lM29, am_sM29, am_gM30, am_lM30, am_sM30, am_gM31, am_lM31, am_sM31, am_gM32, am_lM32, am_sM32, am_gM33, am_lM33, am_sM33, am_gM34, am_lM34, am_sM34, am_gM35, am_lM35, am_sM35, am_gM36, am_lM36, am_sM36, am_gM37, am_lM37, am_sM37, am_gM38, am_lM38, am_sM38, am_gM39, am_lM39, am_sM39, am_gM40, am_lM40, am_sM40, am_gM41, am_lM41, am_sM41, am_gM42, am_lM42, am_sM42, am_gM43, am_lM43, am_sM43, am_gM44, am_lM44, am_sM44, am_gM45, am_pM45, am_gM46, am_lM46, am_sM46, am_gM47, am_lM47, am_sM47, am_gM48, am_lM48, am_sM48, am_gM49, am_lM49, am_sM49, am_gM50, am_lM50, am_sM50, am_gM51, am_lM51, am_sM51, am_gM52, am_lM52, am_sM52, am_isM, am_bk, am_pu1, am_pu0, Option.bind_some, eq_self, am_nli, am_nlr, am_nln, am_nlu, if_true, if_false, not_true_eq_false, not_false_eq_true, am_10, am_01, ht, h3, show (4 : Int32) ≤ Int32.ofNat 4 by decide, false_and]
      · have h4 : ¬ G 4 t.toNatClampNeg = -1 := fun q => by rw [q] at h3; exact absurd h3 (by unfold aw_P; decide)
        have e9 := e2 h3
        by_cases h5 : u (G 4 t.toNatClampNeg).toNatClampNeg = as_mp u 4 <;> simp only [am_e233_0, am_e233_4, am_e233_112, am_e233_38, am_e233_6, am_e233_146, am_e233_117, am_e233_45, am_e233_22, am_e233_10, am_e233_172, am_e233_154, am_e233_121, am_e233_57, am_e233_53, am_e233_14, am_e233_168, am_e233_159, am_e233_123, am_e233_73, am_e233_62, am_e233_91, am_e233_86, am_e233_18, am_e233_163, am_e233_127, am_e233_77, am_e233_68, am_e233_104, am_e233_99, am_e233_20, am_e233_165, am_e233_132, am_e233_21, am_e233_134, am_e233_138, am_e233_142, am_gM0, am_pM0, am_gM1, am_pM1, am_gM2, am_lM2, am_sM2, am_gM3, am_lM3, am_sM3, am_gM4, am_lM4, am_sM4, am_gM5, am_lM5, am_sM5, am_gM6, am_pM6, am_gM7, am_lM7, am_sM7, am_gM8, am_lM8, am_sM8, am_gM9, am_lM9, am_sM9, am_gM10, am_lM10, am_sM10, am_gM11, am_lM11, am_sM11, am_gM12, am_lM12, am_sM12, am_gM13, am_lM13, am_sM13, am_gM14, am_lM14, am_sM14, am_gM15, am_lM15, am_sM15, am_gM16, am_lM16, am_sM16, am_gM17, am_lM17, am_sM17, am_gM18, am_lM18, am_sM18, am_gM19, am_pM19, am_gM20, am_lM20, am_sM20, am_gM21, am_lM21, am_sM21, am_gM22, am_lM22, am_sM22, am_gM23, am_lM23, am_sM23, am_gM24, am_pM24, am_gM25, am_pM25, am_gM26, am_lM26, am_sM26, am_gM27, am_lM27, am_sM27, am_gM28, am_lM28, am_sM28, am_gM29, am_lM29, am_sM29, am_gM30, am_lM30, am_sM30, am_gM31, am_lM31, am_sM31, am_gM32, am_lM32, am_sM32, am_gM33, am_lM33, am_sM33, am_gM34, am_lM34, am_sM34, am_gM35, am_lM35, am_sM35, am_gM36, am_lM36, am_sM36, am_gM37, am_lM37, am_sM37, am_gM38, am_lM38, am_sM38, am_gM39, am_lM39, am_sM39, am_gM40, am_lM40, am_sM40, am_gM41, am_lM41, am_sM41, am_gM42, am_lM42, am_sM42, am_gM43, am_lM43, am_sM43, am_gM44, am_lM44, am_sM44, am_gM45, am_pM45, am_gM46, am_lM46, am_sM46, am_gM47, am_lM47, am_sM47, am_gM48, am_lM48, am_sM48, am_gM49, am_lM49, am_sM49, am_gM50, am_lM50, am_sM50, am_gM51, am_lM51, am_sM51, am_gM52, am_lM52, am_sM52, am_isM, am_bk, am_pu1, am_pu0, Option.bind_some, eq_self, am_nli, am_nlr, am_nln, am_nlu, if_true, if_false, not_true_eq_false, not_false_eq_true, am_10, am_01, ht, h4, h5, e9, show (4 : Int32) ≤ Int32.ofNat 4 by decide, and_true, and_false]
  · obtain ⟨h1, h2, h3, h4⟩ := hC.c ht h5
    have hI : am_I (G 5 t.toNatClampNeg) 12 := by rw [h4]; exact am_Ik (by omega) (by decide)
    rw [if_neg h5]
    simp only [am_e233_0, am_e233_4, am_e233_112, am_e233_38, am_e233_6, am_e233_146, am_e233_117, am_e233_45, am_e233_22, am_e233_10, am_e233_172, am_e233_154, am_e233_121, am_e233_57, am_e233_53, am_e233_14, am_e233_168, am_e233_159, am_e233_123, am_e233_73, am_e233_62, am_e233_91, am_e233_86, am_e233_18, am_e233_163, am_e233_127, am_e233_77, am_e233_68, am_e233_104, am_e233_99, am_e233_20, am_e233_165, am_e233_132, am_e233_21, am_e233_134, am_e233_138, am_e233_142, am_gM0, am_pM0, am_gM1, am_pM1, am_gM2, am_lM2, am_sM2, am_gM3, am_lM3, am_sM3, am_gM4, am_lM4, am_sM4, am_gM5, am_lM5, am_sM5, am_gM6, am_pM6, am_gM7, am_lM7, am_sM7, am_gM8, am_lM8, am_sM8, am_gM9, am_lM9, am_sM9, am_gM10, am_lM10, am_sM10, am_gM11, am_lM11, am_sM11, am_gM12, am_lM12, am_sM12, am_gM13, am_lM13, am_sM13, am_gM14, am_lM14, am_sM14, am_gM15, am_lM15, am_sM15, am_gM16, am_lM16, am_sM16, am_gM17, am_lM17, am_sM17, am_gM18, am_lM18, am_sM18, am_gM19, am_pM19, am_gM20, am_lM20, am_sM20, am_gM21, am_lM21, am_sM21, am_gM22, am_lM22, am_sM22, am_gM23, am_lM23, am_sM23, am_gM24, am_pM24, am_gM25, am_pM25, am_gM26, am_lM26, am_sM26, am_gM27, am_lM27, am_sM27, am_gM28, am_lM28, am_sM28, am_gM29, am_lM29, am_sM29, am_gM30, am_lM30, am_sM30, am_gM31, am_lM31, am_sM31, am_gM32, am_lM32, am_sM32, am_gM33, am_lM33, am_sM33, am_gM34, am_lM34, am_sM34, am_gM35, am_lM35, am_sM35, am_gM36, am_lM36, am_sM36, am_gM37, am_lM37, am_sM37, am_gM38, am_lM38, am_sM38, am_gM39, am_lM39, am_sM39, am_gM40, am_lM40, am_sM40, am_gM41, am_lM41, am_sM41, am_gM42, am_lM42, am_sM42, am_gM43, am_lM43, am_sM43, am_gM44, am_lM44, am_sM44, am_gM45, am_pM45, am_gM46, am_lM46, am_sM46, am_gM47, am_lM47, am_sM47, am_gM48, am_lM48, am_sM48, am_gM49, am_lM49, am_sM49, am_gM50, am_lM50, am_sM50, am_gM51, am_lM51, am_sM51, am_gM52, am_lM52, am_sM52, am_isM, am_bk, am_pu1, am_pu0, Option.bind_some, eq_self, am_nli, am_nlr, am_nln, am_nlu, if_true, if_false, not_true_eq_false, not_false_eq_true, am_10, am_01, ht, h5, hI]
end
