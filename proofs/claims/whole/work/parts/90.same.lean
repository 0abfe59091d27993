/-! OPEN TILES are the tiles that a city can work -/
theorem am_far : ∀ t, t < 64 → ∀ u, u < 64 → ¬ t = u → 1 ≤ am_dist (Int32.ofNat t) (Int32.ofNat u) := by decide +kernel
theorem am_z64 {t : Nat} : (Int64.toBitVec 0).getLsbD t = false := by
  rw [show Int64.toBitVec 0 = 0#64 from rfl]
  exact BitVec.getLsbD_zero
section
variable {K : aw_K} {A : aw_A} {G : am_G} {n F T : Nat}
theorem as_city_bit (hW : aw_W K A G n F T) (hCA : aw_CA G F) {t : Nat} (ht : t < 64) : (as_orl (fun _ => True) (fun i => G 9 (A 7 i)) 0 (A 8 0)).toBitVec.getLsbD t = false ↔ G 5 t = -1 := by
  have hI : am_I (Int32.ofNat t) 64 := am_Ik ht (by decide)
  have hJ := am_tcn (show t ≤ 100000 by omega)
  rw [as_orl_bit ht (A 8 0) (fun i hi _ => (hCA.t (hW.li hi).1 (hW.li hi).2 rfl).1)]
  constructor
  · rintro ⟨-, h⟩
    by_cases e : G 5 t = -1
    · exact e
    · obtain ⟨h1, h2, h3, -⟩ := hCA.c hI (by rw [hJ]; exact e)
      obtain ⟨i, i1, i2⟩ := hW.lx h1 h2
      exact absurd (by rw [i2]; exact h3) (h i i1 trivial)
  · intro e
    refine ⟨am_z64, fun i hi _ q => ?_⟩
    have := (hCA.t (hW.li hi).1 (hW.li hi).2 q).2.2.1
    rw [hJ] at this
    exact this e
theorem as_foe_bit (hU : aw_IU G n) (hST : ∀ i, i < n → ∀ j, j < n → G 29 i = G 29 j → G 27 i = G 27 j) {p : Int32} {t : Nat} (ht : t < 64) : (as_orl (fun k => am_war G (G 27 k) p T) (G 29) 0 n).toBitVec.getLsbD t = false ↔ (as_so' G n (Int32.ofNat t) = -1 ∨ ¬ am_war G (as_so' G n (Int32.ofNat t)) p T) := by
  rw [as_orl_bit ht n (fun i hi _ => (hU i hi).2.2.1)]
  unfold as_so'
  rcases e : am_find (fun j => G 29 j = Int32.ofNat t) 0 n with _ | j
  · have h0 := am_find_none n 0 e
    constructor
    · intro _
      exact Or.inl rfl
    · intro _
      exact ⟨am_z64, fun i hi _ q => h0 i (Nat.zero_le _) (by omega) q⟩
  · obtain ⟨-, j2, j3⟩ := am_find_ge n 0 j e
    show _ ↔ (G 27 j = -1 ∨ ¬ am_war G (G 27 j) p T)
    constructor
    · rintro ⟨-, h⟩
      exact Or.inr fun q => h j (by omega) q j3
    · intro h
      refine ⟨am_z64, fun i hi hq q => ?_⟩
      have e27 : G 27 i = G 27 j := hST i hi j (by omega) (by rw [q, j3])
      rcases h with h | h
      · have := (hU j (by omega)).1.1
        rw [h] at this
        exact absurd this (by decide)
      · exact h (by rw [← e27]; exact hq)
theorem as_op_cw (hW : aw_W K A G n F T) (hCA : aw_CA G F) (hU : aw_IU G n) (hST : ∀ i, i < n → ∀ j, j < n → G 29 i = G 29 j → G 27 i = G 27 j) {c : Nat} (hc : c < F) (h7 : G 7 c = 1) {t : Nat} (ht : t < 64) {tk p : Int64} (htk : tk.toBitVec.getLsbD t = ((as_orl (fun _ => True) (fun i => G 9 (A 7 i)) 0 (A 8 0)).toBitVec.getLsbD t || p.toBitVec.getLsbD t)) : as_op G c t (tk ||| as_orl (fun k => am_war G (G 27 k) (G 8 c) T) (G 29) 0 n) ↔ as_cw G n T c t p := by
  unfold as_op as_cw
  rw [am_bit ht, am_bit ht, am_bor, Bool.or_eq_false_iff, htk, Bool.or_eq_false_iff, as_city_bit hW hCA ht, as_foe_bit hU hST ht]
  have far : G 5 t = -1 → 1 ≤ am_dist (Int32.ofNat t) (G 9 c) := fun h5 => by
    obtain ⟨h1, h2, h3, -⟩ := hCA.t hc h7 rfl
    obtain ⟨u, u1, u2⟩ := h1.cases
    rw [u2] at h3 ⊢
    rw [am_tcn (show u ≤ 100000 by omega)] at h3
    exact am_far t ht u u1 fun e => h3 (by rw [← e]; exact h5)
  constructor
  · rintro ⟨h1, ⟨⟨h2, h3⟩, h4⟩, h5⟩
    exact ⟨⟨far h2, h1⟩, h5, ⟨h2, h3⟩, h4⟩
  · rintro ⟨⟨-, h1⟩, h5, ⟨h2, h3⟩, h4⟩
    exact ⟨h1, ⟨⟨h2, h3⟩, h4⟩, h5⟩
end
