/-! BOTH PLANS ARE THE SAME TILES -/
theorem ap_sh24 : ∀ w, w < 82 → (Int32.ofNat w).toInt64 <<< ((24 : Int32).toInt64 &&& 63) = Int64.ofNat (w * 16777216) := by decide +kernel
theorem ap_sh1 : ∀ i, i < 24 → (1 : Int64) <<< ((23 - Int32.ofNat i).toInt64 &&& 63) = Int64.ofNat (2 ^ (23 - i)) := by decide +kernel
theorem ap_vl {G : am_G} {c : Nat} {O : Nat → Int32} {i w : Nat} (hi : i < 24) (hw : as_wo G c (O i).toNatClampNeg = Int32.ofNat w) (hw2 : w < 82) {v : Nat → Nat} (hv : v i = w) : as_vl G c O i = Int64.ofNat (ap_v v i) := by
  unfold as_vl ap_v
  rw [hw, ap_sh24 w hw2, ap_sh1 i hi, hv, Int64.ofNat_add, ap_Kv]
theorem as_wk4 {l m : Int32} : ∃ z, z < 4 ∧ am_wk l m = Int32.ofNat z := by
  have h1 : (if l = 2 ∨ l = 3 then (2 : Int32) else if l = 1 ∨ l = 4 then 1 else 0) = 2 ∨ (if l = 2 ∨ l = 3 then (2 : Int32) else if l = 1 ∨ l = 4 then 1 else 0) = 1 ∨ (if l = 2 ∨ l = 3 then (2 : Int32) else if l = 1 ∨ l = 4 then 1 else 0) = 0 := by
    split
    · exact Or.inl rfl
    · split
      · exact Or.inr (Or.inl rfl)
      · exact Or.inr (Or.inr rfl)
  have h2 : (if m &&& 2 = 0 then (0 : Int32) else 1) = 0 ∨ (if m &&& 2 = 0 then (0 : Int32) else 1) = 1 := by
    split
    · exact Or.inl rfl
    · exact Or.inr rfl
  unfold am_wk
  rcases h1 with h1 | h1 | h1 <;> rcases h2 with h2 | h2 <;> rw [h1, h2]
  · exact ⟨2, by decide, rfl⟩
  · exact ⟨3, by decide, rfl⟩
  · exact ⟨1, by decide, rfl⟩
  · exact ⟨2, by decide, rfl⟩
  · exact ⟨0, by decide, rfl⟩
  · exact ⟨1, by decide, rfl⟩
/-- the weights of a city -/
def aw_we (G : am_G) (c : Nat) : Prop := (∃ a, a ≤ 9 ∧ G 15 (3 * c) = Int32.ofNat a) ∧ (∃ a, a ≤ 9 ∧ G 15 (3 * c + 1) = Int32.ofNat a) ∧ ∃ a, a ≤ 9 ∧ G 15 (3 * c + 2) = Int32.ofNat a
theorem as_wo81 {G : am_G} {c t : Nat} (h : aw_we G c) : ∃ w, w < 82 ∧ as_wo G c t = Int32.ofNat w := by
  obtain ⟨⟨a, a1, a2⟩, ⟨b, b1, b2⟩, ⟨d, d1, d2⟩⟩ := h
  obtain ⟨x, x1, x2⟩ := as_fd5 (l := G 2 t) (m := G 3 t)
  obtain ⟨y, y1, y2⟩ := as_wk4 (l := G 2 t) (m := G 3 t)
  obtain ⟨z, z1, z2⟩ := am_td2 (l := G 2 t)
  refine ⟨a * x + b * y + d * z, ?_, ?_⟩
  · have h1 : a * x ≤ 9 * 4 := Nat.mul_le_mul a1 (by omega)
    have h2 : b * y ≤ 9 * 3 := Nat.mul_le_mul b1 (by omega)
    have h3 : d * z ≤ 9 * 2 := Nat.mul_le_mul d1 z1
    omega
  · unfold as_wo as_fo
    rw [a2, b2, d2, x2, y2, z2, Int32.ofNat_add, Int32.ofNat_add, Int32.ofNat_mul, Int32.ofNat_mul, Int32.ofNat_mul]
theorem ap_bit {N i : Nat} (hi : i < 24) : ((Int64.ofNat N >>> ((23 - Int32.ofNat i).toInt64 &&& 63)) &&& 1 = 0) ↔ N / 2 ^ (23 - i) % 2 = 0 := by
  have e : (23 : Int32) - Int32.ofNat i = Int32.ofNat (23 - i) := (Int32.ofNat_sub 23 i (by omega)).symm
  rw [e, am_bit (by omega), show (Int64.ofNat N).toBitVec = BitVec.ofNat 64 N from rfl, BitVec.getLsbD_ofNat, Nat.testBit_eq_decide_div_mod_eq]
  rw [show decide (23 - i < 64) = true from decide_eq_true (by omega), Bool.true_and]
  have h2 : N / 2 ^ (23 - i) % 2 < 2 := Nat.mod_lt _ (by decide)
  constructor
  · intro h
    have := of_decide_eq_false h
    omega
  · intro h
    exact decide_eq_false (by omega)
theorem ap_ch {f w : Nat → Nat} {S m g N : Nat} {Y : am_G} {O : Nat → Int32} (hS : S ≤ 24) (hR : ap_R Y f w S) (hT : ∀ s, s ≤ S → ∀ k h, k ≤ m → h ≤ g → Y 23 (as_ix s k h) = ap_e (ap_B f w (S - s) s k h)) (hO : ∀ i, i < S → Y 20 i = O i) : ∀ (d s k h : Nat), s + d = S → k ≤ m → h ≤ g → N % 2 ^ (24 - s) = ap_n f w d s k h → as_ch Y d s k h (as_tl O (Int64.ofNat N) s) = as_tl O (Int64.ofNat N) S
  | 0, s, k, h, hs, _, _, _ => by
    rw [show S = s by omega]
    rfl
  | d + 1, s, k, h, hs, hk, hh, hN => by
    obtain ⟨r1, r2, r3, r4⟩ := hR s (by omega)
    have t1 := hT s (by omega) k h hk hh
    have t2 := hT (s + 1) (by omega) (k - 1) (h - f s) (by omega) (by omega)
    rw [show S - s = d + 1 by omega] at t1
    rw [show S - (s + 1) = d by omega] at t2
    have b1 : ∀ W, ap_B f w (d + 1) s k h = some W → W ≤ 2000000 := fun W q => by
      have := hR.b hS (by omega) q
      omega
    have b2 : ∀ W, ap_B f w d (s + 1) (k - 1) (h - f s) = some W → W ≤ 1200000 := fun W => hR.b hS (by omega)
    have hc : (1 ≤ k ∧ 0 ≤ Y 23 (as_ix (s + 1) (k - 1) (h - (Y 21 s).toNatClampNeg)) ∧ Y 23 (as_ix (s + 1) (k - 1) (h - (Y 21 s).toNatClampNeg)) + Y 22 s = Y 23 (as_ix s k h)) ↔ ap_t f w d s k h := by
      rw [r1, am_tcn (show f s ≤ 100000 by omega), t1, t2, r3, ap_e_ge (fun W q => by have := b2 W q; omega)]
      unfold ap_t
      generalize ap_B f w d (s + 1) (k - 1) (h - f s) = o2 at b2 ⊢
      generalize ap_B f w (d + 1) s k h = o1 at b1 ⊢
      cases o2 with
      | none => exact ⟨fun q => absurd rfl q.2.1, fun q => absurd rfl q.2.1⟩
      | some a =>
        have ha := b2 a rfl
        have e : ap_e (some a) + Int32.ofNat (w s) = ap_e (ap_pl (w s) (some a)) := (Int32.ofNat_add a (w s)).symm
        rw [e, ap_e_inj (fun W q => by cases q; omega) b1]
        exact ⟨fun q => ⟨by omega, q.2⟩, fun q => ⟨by have := q.1; omega, q.2⟩⟩
    obtain ⟨n1, -⟩ := ap_bits (f := f) (w := w) d (s + 1) (k - 1) (h - f s) (by omega)
    obtain ⟨n2, -⟩ := ap_bits (f := f) (w := w) d (s + 1) k h (by omega)
    have p1 : 2 ^ (24 - (s + 1)) = 2 ^ (23 - s) := by rw [show 24 - (s + 1) = 23 - s by omega]
    have p2 : 2 ^ (24 - s) = 2 ^ (23 - s) * 2 := by rw [show 24 - s = (23 - s) + 1 by omega, Nat.pow_succ]
    have m1 : N % (2 ^ (23 - s) * 2) / 2 ^ (23 - s) = N / 2 ^ (23 - s) % 2 := Nat.mod_mul_right_div_self N (2 ^ (23 - s)) 2
    have m2 : N % (2 ^ (23 - s) * 2) % 2 ^ (23 - s) = N % 2 ^ (23 - s) := Nat.mod_mod_of_dvd N ⟨2, rfl⟩
    have pp : 0 < 2 ^ (23 - s) := Nat.two_pow_pos _
    have bit := ap_bit (N := N) (i := s) (by omega)
    have no := ap_ch (N := N) hS hR hT hO d (s + 1) k h (by omega) hk hh
    have yes := ap_ch (N := N) hS hR hT hO d (s + 1) (k - 1) (h - f s) (by omega) (by omega) (by omega)
    rw [p2, ap_n_s] at hN
    rw [p1] at n1 n2 no yes
    rw [as_tl] at no yes
    rw [as_ch]
    by_cases ht : ap_t f w d s k h
    · rw [if_pos ht] at hN
      rw [if_pos (hc.mpr ht), r1, am_tcn (show f s ≤ 100000 by omega), hO s (by omega)]
      generalize ap_n f w d (s + 1) (k - 1) (h - f s) = nn at n1 hN yes
      rw [hN] at m1 m2
      generalize 2 ^ (23 - s) = p at *
      have q1 : (p + nn) / p = 1 := by
        rw [Nat.add_div_left nn pp, Nat.div_eq_of_lt n1]
      have q2 : (p + nn) % p = nn := by
        rw [Nat.add_mod_left, Nat.mod_eq_of_lt n1]
      rw [if_neg (fun q => by
        have := bit.mp q
        omega)] at yes
      exact yes (by omega)
    · rw [if_neg ht] at hN
      rw [if_neg (fun q => ht (hc.mp q))]
      generalize ap_n f w d (s + 1) k h = nn at n2 hN no
      rw [hN] at m1 m2
      generalize 2 ^ (23 - s) = p at *
      have q1 : nn / p = 0 := Nat.div_eq_of_lt n2
      have q2 : nn % p = nn := Nat.mod_eq_of_lt n2
      rw [if_pos (bit.mpr (by omega))] at no
      exact no (by omega)
theorem as_wf_at {X : am_G} : ∀ S i, as_wf S X 22 i = if i < S then X 22 i + 10000 * X 21 i else X 22 i
  | 0, i => by
    rw [if_neg (Nat.not_lt_zero i)]
    rfl
  | S + 1, i => by
    have e : as_wf (S + 1) X = am_up (as_wf S X) 22 S (as_wf S X 22 S + 10000 * as_wf S X 21 S) := rfl
    rw [e, am_up_eq]
    by_cases h : i = S
    · rw [h, am_upd_eq, as_wf_at S S, if_neg (Nat.lt_irrefl S), if_pos (Nat.lt_succ_self S), as_wf_ne (by decide)]
    · rw [am_upd_ne h, as_wf_at S i]
      by_cases h2 : i < S
      · rw [if_pos h2, if_pos (by omega)]
      · rw [if_neg h2, if_neg (by omega)]
/-- the tiles of a city in the rows of both -/
def ap_O (G X : am_G) (c S : Nat) (O : Nat → Int32) : Prop := ∀ i, i < S → ∃ u, u < 64 ∧ O i = Int32.ofNat u ∧ X 20 i = Int32.ofNat u ∧ X 21 i = as_fo G u ∧ X 22 i = as_wo G c u
section
variable {G X : am_G} {c S : Nat} {O : Nat → Int32}
theorem ap_O.f (h : ap_O G X c S O) {i : Nat} (hi : i < S) : X 21 i = Int32.ofNat (X 21 i).toNatClampNeg ∧ (X 21 i).toNatClampNeg < 5 ∧ as_fo G (O i).toNatClampNeg = Int32.ofNat (X 21 i).toNatClampNeg := by
  obtain ⟨u, u1, u2, u3, u4, u5⟩ := h i hi
  obtain ⟨z, z1, z2⟩ := as_fd5 (l := G 2 u) (m := G 3 u)
  have e : as_fo G u = Int32.ofNat z := z2
  rw [u2, am_tcn (by omega), u4, e, am_tcn (by omega)]
  exact ⟨rfl, z1, rfl⟩
theorem ap_O.w (h : ap_O G X c S O) (hw : aw_we G c) {i : Nat} (hi : i < S) : X 22 i = Int32.ofNat (X 22 i).toNatClampNeg ∧ (X 22 i).toNatClampNeg < 82 ∧ as_wo G c (O i).toNatClampNeg = Int32.ofNat (X 22 i).toNatClampNeg := by
  obtain ⟨u, u1, u2, u3, u4, u5⟩ := h i hi
  obtain ⟨z, z1, z2⟩ := as_wo81 (t := u) hw
  rw [u2, am_tcn (by omega), u5, z2, am_tcn (by omega)]
  exact ⟨rfl, z1, rfl⟩
theorem ap_O.R (h : ap_O G X c S O) (hw : aw_we G c) : ap_R X (fun i => (X 21 i).toNatClampNeg) (fun i => (X 22 i).toNatClampNeg) S := fun s hs => ⟨(h.f hs).1, (h.f hs).2.1, (h.w hw hs).1, by
  have := (h.w hw hs).2.1
  show (X 22 s).toNatClampNeg ≤ 50000
  omega⟩
/-- the number that the table comes to -/
theorem ap_num (h : ap_O G X c S O) (hw : aw_we G c) (hS : S ≤ 24) {m g : Nat} (hm : m ≤ 24) {M : aw_M} : as_b1 G c O (g + 1) m S (as_b0 ((m + 1) * (g + 1)) M) 1 (m * (g + 1) + g) = ap_l (ap_B (fun i => (X 21 i).toNatClampNeg) (ap_v fun i => (X 22 i).toNatClampNeg) S 0 m g) := by
  rw [← ap_FB]
  refine ap_b1 hm hS (fun i hi => ⟨?_, ?_, ?_⟩) S (Nat.le_refl S) m g (Nat.le_refl m) (Nat.lt_succ_self g)
  · rw [(h.f hi).2.2, am_tcn (by have := (h.f hi).2.1; omega)]
  · exact ap_vl (by omega) (h.w hw hi).2.2 (h.w hw hi).2.1 rfl
  · have h1 := (h.w hw hi).2.1
    have h2 : 2 ^ (23 - i) ≤ 2 ^ 23 := Nat.pow_le_pow_right (by decide) (by omega)
    show (X 22 i).toNatClampNeg * 16777216 + 2 ^ (23 - i) ≤ 10000000000
    omega
theorem ap_mo (h : ap_O G X c S O) {k : Nat} : (as_mo (fun i => as_fo G (O i).toNatClampNeg) S k).1 = ap_m (fun i => (X 21 i).toNatClampNeg) (List.range' 0 S) k := as_mo_m (fun j hj => ⟨(h.f hj).2.2, (h.f hj).2.1⟩)
/-- the table's number and the choice's bits -/
theorem ap_po (h : ap_O G X c S O) (hw : aw_we G c) (hS : S ≤ 24) {m nd : Nat} (hm : m ≤ S) : ∃ N, ap_B (fun i => (X 21 i).toNatClampNeg) (ap_v fun i => (X 22 i).toNatClampNeg) S 0 m (min nd (ap_m (fun i => (X 21 i).toNatClampNeg) (List.range' 0 S) m)) = some N ∧ (as_po m S nd X).1 = as_tl O (Int64.ofNat N) S := by
  have hR := h.R hw
  have hf4 : ∀ i, i ∈ List.range' 0 S → (X 21 i).toNatClampNeg ≤ 4 := fun i hi => by
    have := (h.f (i := i) (by have := List.mem_range'_1.mp hi; omega)).2.1
    omega
  have hw81 : ∀ i, i ∈ List.range' 0 S → ap_v (fun i => (X 22 i).toNatClampNeg) i ≤ 1400000000 := fun i hi => by
    have h1 := (h.w hw (i := i) (by have := List.mem_range'_1.mp hi; omega)).2.1
    have h2 : 2 ^ (23 - i) ≤ 2 ^ 23 := Nat.pow_le_pow_right (by decide) (by omega)
    show (X 22 i).toNatClampNeg * 16777216 + 2 ^ (23 - i) ≤ 1400000000
    omega
  have hO20 : ∀ i, i < S → X 20 i = O i := fun i hi => by
    obtain ⟨u, -, u2, u3, -⟩ := h i hi
    rw [u2, u3]
  have len : (List.range' 0 S).length = S := List.length_range'
  obtain ⟨x, x1, x2, x3⟩ := ap_m_ex (f := fun i => (X 21 i).toNatClampNeg) (List.range' 0 S) m hf4 (by rw [len]; exact hm)
  have up : ∀ y, y.Sublist (List.range' 0 S) → y.length = m → ap_s (fun i => (X 21 i).toNatClampNeg) y ≤ ap_m (fun i => (X 21 i).toNatClampNeg) (List.range' 0 S) m := fun y y1 y2 => by
    have := ap_m_ge hf4 y1
    rw [y2] at this
    exact this
  have vb : ∀ y, y.Sublist (List.range' 0 S) → y.length = m → ap_s (ap_v fun i => (X 22 i).toNatClampNeg) y < 167772160000 := fun y y1 y2 => by
    have h1 := ap_s_le (v := ap_v fun i => (X 22 i).toNatClampNeg) (b := 1400000000) y (fun i hi => hw81 i (y1.subset hi))
    rw [y2] at h1
    have h2 : 1400000000 * m ≤ 1400000000 * 24 := Nat.mul_le_mul_left _ (by omega)
    omega
  have mo96 : ap_m (fun i => (X 21 i).toNatClampNeg) (List.range' 0 S) m ≤ 4 * m := by
    unfold ap_m
    omega
  -- the case that no set is enough
  have second : ap_m (fun i => (X 21 i).toNatClampNeg) (List.range' 0 S) m < nd → ∀ Y : am_G, (∀ r, ¬ r = 23 → Y r = X r) → ∃ N, ap_B (fun i => (X 21 i).toNatClampNeg) (ap_v fun i => (X 22 i).toNatClampNeg) S 0 m (min nd (ap_m (fun i => (X 21 i).toNatClampNeg) (List.range' 0 S) m)) = some N ∧ as_p2 m S Y = as_tl O (Int64.ofNat N) S := by
    intro hlt Y hY
    rw [Nat.min_eq_right (by omega)]
    have hB := ap_B_is (f := fun i => (X 21 i).toNatClampNeg) (v := ap_v fun i => (X 22 i).toNatClampNeg) S 0 m (ap_m (fun i => (X 21 i).toNatClampNeg) (List.range' 0 S) m)
    cases eN : ap_B (fun i => (X 21 i).toNatClampNeg) (ap_v fun i => (X 22 i).toNatClampNeg) S 0 m (ap_m (fun i => (X 21 i).toNatClampNeg) (List.range' 0 S) m) with
    | none =>
      rw [eN] at hB
      exact absurd ⟨x1, x2, x3⟩ (hB x)
    | some N =>
      rw [eN] at hB
      refine ⟨N, rfl, ?_⟩
      have h2 := ap_inf hB up vb
      have h3 := ap_b_uniq h2 (ap_B_is (f := fun i => (X 21 i).toNatClampNeg) (v := ap_v (ap_w2 (fun i => (X 21 i).toNatClampNeg) fun i => (X 22 i).toNatClampNeg)) S 0 m 0)
      obtain ⟨n1, n2⟩ := ap_bits (f := fun i => (X 21 i).toNatClampNeg) (w := ap_w2 (fun i => (X 21 i).toNatClampNeg) fun i => (X 22 i).toNatClampNeg) S 0 m 0 (by omega)
      rw [← h3] at n2
      have R2 : ap_R (as_wf S Y) (fun i => (X 21 i).toNatClampNeg) (ap_w2 (fun i => (X 21 i).toNatClampNeg) fun i => (X 22 i).toNatClampNeg) S := fun s hs => by
        obtain ⟨r1, r2, r3, r4⟩ := hR s hs
        have r5 := (h.w hw hs).2.1
        rw [as_wf_ne (by decide), as_wf_at, if_pos hs, hY 21 (by decide), hY 22 (by decide)]
        refine ⟨r1, r2, ?_, ?_⟩
        · show X 22 s + 10000 * X 21 s = Int32.ofNat ((X 22 s).toNatClampNeg + 10000 * (X 21 s).toNatClampNeg)
          rw [Int32.ofNat_add, Int32.ofNat_mul, ← r3, ← r1]
          rfl
        · show (X 22 s).toNatClampNeg + 10000 * (X 21 s).toNatClampNeg ≤ 50000
          have r2' : (X 21 s).toNatClampNeg < 5 := r2
          omega
      have T2 := ap_fn (X := as_wf S Y) hS (show m ≤ 24 by omega) (show 0 ≤ 99 by omega) R2
      have ch := ap_ch (N := N) (O := O) (Y := as_fn m 0 S (as_wf S Y)) hS (fun s hs => by rw [as_fn_ne (by decide), as_fn_ne (by decide)]; exact R2 s hs) T2 (fun i hi => by rw [as_fn_ne (by decide), as_wf_ne (by decide), hY 20 (by decide)]; exact hO20 i hi) S 0 m 0 (by omega) (Nat.le_refl m) (Nat.le_refl 0)
      cases eW : ap_B (fun i => (X 21 i).toNatClampNeg) (ap_w2 (fun i => (X 21 i).toNatClampNeg) fun i => (X 22 i).toNatClampNeg) S 0 m 0 with
      | none => rw [eW] at n2; cases n2
      | some W =>
        rw [eW] at n2
        have n3 := Option.some.inj n2
        refine ch ?_
        have e24 : (2 : Nat) ^ (24 - 0) = 16777216 := by decide
        rw [e24] at n1 ⊢
        have n3' : N + 167772160000 * ap_m (fun i => (X 21 i).toNatClampNeg) (List.range' 0 S) m = W * 16777216 + ap_n (fun i => (X 21 i).toNatClampNeg) (ap_w2 (fun i => (X 21 i).toNatClampNeg) fun i => (X 22 i).toNatClampNeg) S 0 m 0 := n3
        omega
  by_cases h100 : nd < 100
  · have T1 := ap_fn (X := X) hS (show m ≤ 24 by omega) (show nd ≤ 99 by omega) hR
    have t0 := T1 0 (Nat.zero_le S) m nd (Nat.le_refl m) (Nat.le_refl nd)
    rw [Nat.sub_zero] at t0
    unfold as_po
    rw [if_pos h100]
    have bW : ∀ W, ap_B (fun i => (X 21 i).toNatClampNeg) (fun i => (X 22 i).toNatClampNeg) S 0 m nd = some W → W ≤ 2000000 := fun W q => by
      have := hR.b hS (by omega) q
      omega
    have hB := ap_B_is (f := fun i => (X 21 i).toNatClampNeg) (v := fun i => (X 22 i).toNatClampNeg) S 0 m nd
    cases eW : ap_B (fun i => (X 21 i).toNatClampNeg) (fun i => (X 22 i).toNatClampNeg) S 0 m nd with
    | none =>
      rw [eW] at t0 hB
      have c : ¬ 0 ≤ as_fn m nd S X 23 (as_ix 0 m nd) := by
        rw [t0]
        decide
      rw [if_neg c]
      exact second (Nat.lt_of_not_le fun q => hB x ⟨x1, x2, Nat.le_trans q x3⟩) _ (fun r hr => as_fn_ne hr)
    | some W =>
      rw [eW] at t0 hB
      have c : 0 ≤ as_fn m nd S X 23 (as_ix 0 m nd) := by
        rw [t0]
        exact ap_e_pos (bW W eW)
      rw [if_pos c]
      obtain ⟨⟨y, ⟨y1, y2, y3⟩, -⟩, -⟩ := hB
      have hle := up y y1 y2
      rw [Nat.min_eq_left (by omega)]
      obtain ⟨n1, n2⟩ := ap_bits (f := fun i => (X 21 i).toNatClampNeg) (w := fun i => (X 22 i).toNatClampNeg) S 0 m nd (by omega)
      rw [eW] at n2
      refine ⟨_, n2, ?_⟩
      refine ap_ch (O := O) (Y := as_fn m nd S X) hS (fun s hs => by rw [as_fn_ne (by decide), as_fn_ne (by decide)]; exact hR s hs) T1 (fun i hi => by rw [as_fn_ne (by decide)]; exact hO20 i hi) S 0 m nd (by omega) (Nat.le_refl m) (Nat.le_refl nd) ?_
      have e24 : (2 : Nat) ^ (24 - 0) = 16777216 := by decide
      rw [e24] at n1 ⊢
      show (W * 16777216 + ap_n (fun i => (X 21 i).toNatClampNeg) (fun i => (X 22 i).toNatClampNeg) S 0 m nd) % 16777216 = _
      omega
  · unfold as_po
    rw [if_neg h100]
    exact second (by omega) X (fun _ _ => rfl)
end
