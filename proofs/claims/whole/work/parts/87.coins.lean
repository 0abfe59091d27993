/-! COINS: never below 0 in the cities' turn, and bounded -/
def aw_CO (G : am_G) (b : Nat) : Prop := ∃ c : Nat → Nat, (∀ p, p < 4 → G 34 p = Int32.ofNat (c p)) ∧ c 0 + c 1 + c 2 + c 3 ≤ b
theorem aw_CO.ne {G G' : am_G} {b : Nat} (h : aw_CO G b) (h34 : G' 34 = G 34) : aw_CO G' b := by
  unfold aw_CO
  rw [h34]
  exact h
theorem aw_CO.ge {G : am_G} {b j : Nat} (h : aw_CO G b) (hb : b < 2147483648) (hj : j < 4) : 0 ≤ G 34 j := by
  obtain ⟨c, h1, h2⟩ := h
  rw [h1 j hj]
  refine Int32.zero_le_ofNat_of_lt ?_
  rcases (show j = 0 ∨ j = 1 ∨ j = 2 ∨ j = 3 by omega) with rfl | rfl | rfl | rfl <;> omega
theorem aw_CO.add {G : am_G} {b p z : Nat} (h : aw_CO G b) (hp : p < 4) : aw_CO (am_up G 34 p (G 34 p + Int32.ofNat z)) (b + z) := by
  obtain ⟨c, h1, h2⟩ := h
  refine ⟨fun q => if q = p then c p + z else c q, fun q hq => ?_, ?_⟩
  · rw [am_up_eq]
    dsimp only
    by_cases e : q = p
    · rw [if_pos e, e, am_upd_eq, h1 p hp, Int32.ofNat_add]
    · rw [if_neg e, am_upd_ne e, h1 q hq]
  · rcases (show p = 0 ∨ p = 1 ∨ p = 2 ∨ p = 3 by omega) with rfl | rfl | rfl | rfl
    · show c 0 + z + c 1 + c 2 + c 3 ≤ b + z
      omega
    · show c 0 + (c 1 + z) + c 2 + c 3 ≤ b + z
      omega
    · show c 0 + c 1 + (c 2 + z) + c 3 ≤ b + z
      omega
    · show c 0 + c 1 + c 2 + (c 3 + z) ≤ b + z
      omega
theorem aw_CO.mono {G : am_G} {b b' : Nat} (h : aw_CO G b) (hb : b ≤ b') : aw_CO G b' := by
  obtain ⟨c, h1, h2⟩ := h
  exact ⟨c, h1, by omega⟩
theorem am_sum_natx {g : Nat → Int32} {b x0 : Nat} {x : Int32} (hx : x = Int32.ofNat x0) : ∀ n, (∀ k, k < n → ∃ z, z ≤ b ∧ g k = Int32.ofNat z) → ∃ z, z ≤ x0 + b * n ∧ am_sum g x n = Int32.ofNat z
  | 0, _ => ⟨x0, by omega, hx⟩
  | n + 1, h => by
    obtain ⟨z, z1, z2⟩ := am_sum_natx hx n (fun k hk => h k (by omega))
    obtain ⟨y, y1, y2⟩ := h n (by omega)
    refine ⟨z + y, ?_, by rw [am_sum, z2, y2, Int32.ofNat_add]⟩
    rw [Nat.mul_succ]
    omega
theorem am_td2 {l : Int32} : ∃ z, z ≤ 2 ∧ am_td l = Int32.ofNat z := by
  unfold am_td
  split
  · exact ⟨2, by decide, rfl⟩
  · split
    · exact ⟨1, by decide, rfl⟩
    · exact ⟨0, by decide, rfl⟩
theorem as_yt_le {G : am_G} {l : Int64} {c : Nat} : ∃ a, a ≤ 130 ∧ as_yt G l c = Int32.ofNat a := by
  obtain ⟨x0, x1, x2⟩ := am_td2 (l := G 2 (G 9 c).toNatClampNeg)
  have hm : ∀ x, x ≤ 2 → ∃ y, y ≤ 2 ∧ am_mx (Int32.ofNat x) 1 = Int32.ofNat y := by decide +kernel
  obtain ⟨y, y1, y2⟩ := hm x0 x1
  unfold as_yt am_all
  rw [x2, y2]
  obtain ⟨z, z1, z2⟩ := am_sum_natx (g := fun k => if am_lb l k then am_td (G 2 k) else 0) (b := 2) (x0 := y) rfl 64 (fun k _ => by
    show ∃ z, z ≤ 2 ∧ (if am_lb l k then am_td (G 2 k) else 0) = Int32.ofNat z
    split
    · exact am_td2
    · exact ⟨0, by decide, rfl⟩)
  exact ⟨z, by omega, z2⟩
theorem am_part : ∀ a, a < 131 → ∀ b, b < 101 → Int32.ofNat a - Int32.ofNat a * Int32.ofNat b / 100 = Int32.ofNat (a - a * b / 100) := by decide +kernel
theorem am_half : ∀ a, a < 131 → Int32.ofNat a / 2 = Int32.ofNat (a / 2) := by decide +kernel
theorem as_tr_CO {G : am_G} {b c a : Nat} {t : Int32} (h : aw_CO G b) (hp : aw_P (G 8 c)) (ht : t = Int32.ofNat a) (ha : a ≤ 130) {q : Nat} (hq : G 39 (G 8 c).toNatClampNeg = Int32.ofNat q) (hq2 : q ≤ 100) : aw_CO (as_tr G c t) (b + 300) := by
  have e1 := am_part a (by omega) q (by omega)
  have e2 := am_half (a - a * q / 100) (by omega)
  have hr : ∃ z, z ≤ 300 ∧ (t - t * G 39 (G 8 c).toNatClampNeg / 100) + (if am_hb (G 14 c) 9 then (t - t * G 39 (G 8 c).toNatClampNeg / 100) / 2 else 0) = Int32.ofNat z := by
    rw [ht, hq, e1]
    split
    · rw [e2, ← Int32.ofNat_add]
      exact ⟨_, by omega, rfl⟩
    · rw [Int32.add_zero]
      exact ⟨_, by omega, rfl⟩
  obtain ⟨z, z1, z2⟩ := hr
  have hI := hp.I.2
  have h2 := (h.ne (G' := am_up G 35 (G 8 c).toNatClampNeg (G 35 (G 8 c).toNatClampNeg + (t * G 39 (G 8 c).toNatClampNeg / 100 + if am_hb (G 14 c) 8 then t * G 39 (G 8 c).toNatClampNeg / 100 / 2 else 0))) (am_up_ne (by decide))).add hI (z := z)
  refine (aw_CO.mono ?_ (show b + z ≤ b + 300 by omega))
  unfold as_tr
  dsimp only
  rw [z2]
  rw [am_up_ne (show ¬ 34 = 35 by decide)] at h2
  exact h2.ne (am_up_ne (by decide))
theorem as_cy_CO {x w t : Int32} {c b a : Nat} {s : am_G × Nat} (h : aw_CO s.1 b) (hp : aw_P (s.1 8 c)) (ht : t = Int32.ofNat a) (ha : a ≤ 130) (hq : ∀ p, p < 4 → ∃ q, q ≤ 100 ∧ s.1 39 p = Int32.ofNat q) : aw_CO (as_cy x w t c s).1 (b + 300) := by
  obtain ⟨q, q1, q2⟩ := hq _ hp.I.2
  have ne : ∀ f, ¬ (10 ≤ f ∧ f ≤ 17) → ¬ (24 ≤ f ∧ f ≤ 33) → (as_bu (am_up (as_ea s.1 c x) 12 c (as_ea s.1 c x 12 c + w)) s.2 c).1 f = s.1 f := fun f h1 h2 => by
    rw [as_bu_ne (by omega), am_up_ne (by omega), as_ea_ne (by omega)]
  have := as_tr_CO (G := (as_bu (am_up (as_ea s.1 c x) 12 c (as_ea s.1 c x 12 c + w)) s.2 c).1) (c := c) (a := a) (t := t) (q := q) (h.ne (ne 34 (by decide) (by decide))) (by rw [ne 8 (by decide) (by decide)]; exact hp) ht ha (by rw [ne 8 (by decide) (by decide), ne 39 (by decide) (by decide)]; exact q2) q1
  unfold as_cy as_cu
  dsimp only
  exact this.ne (am_up_ne (by decide))
theorem as_cyl_CO {f w t : Nat → Int32} (ht : ∀ c, ∃ a, a ≤ 130 ∧ t c = Int32.ofNat a) (l : List Nat) : ∀ (s : am_G × Nat) (b : Nat), aw_CO s.1 b → (∀ c, c ∈ l → aw_P (s.1 8 c)) → (∀ p, p < 4 → ∃ q, q ≤ 100 ∧ s.1 39 p = Int32.ofNat q) → aw_CO (as_cyl f w t l s).1 (b + 300 * l.length) := by
  induction l with
  | nil => intro s b h _ _; unfold as_cyl; rw [List.foldl_nil]; exact h
  | cons c l ih =>
    intro s b h hp hq
    obtain ⟨a, a1, a2⟩ := ht c
    have h1 := as_cy_CO (x := f c) (w := w c) h (hp c List.mem_cons_self) a2 a1 hq
    have h2 := ih (as_cy (f c) (w c) (t c) c s) (b + 300) h1 (by rw [as_cy_ne (by decide)]; exact fun j hj => hp j (List.mem_cons_of_mem _ hj)) (by rw [as_cy_ne (by decide)]; exact hq)
    unfold as_cyl at h2 ⊢
    rw [List.foldl_cons]
    exact h2.mono (by rw [List.length_cons]; omega)
