/-! THE REFERENCE'S TABLE is the best of each end of the row of tiles -/
def ap_e : Option Nat → Int32
  | none => -1000000000
  | some m => Int32.ofNat m
theorem ap_ei {m : Nat} (hm : m ≤ 2000000) : (Int32.ofNat m).toInt = (m : Int) := Int32.toInt_ofNat_of_lt (by omega)
theorem ap_e_pos {m : Nat} (hm : m ≤ 2000000) : 0 ≤ Int32.ofNat m := by
  rw [Int32.le_iff_toInt_le, ap_ei hm]
  show (0 : Int) ≤ m
  omega
theorem ap_e_low : (-1000000000 : Int32).toInt = -1000000000 := by decide
theorem ap_e_neg {w : Nat} (hw : w ≤ 50000) : ¬ 0 ≤ (-1000000000 : Int32) + Int32.ofNat w := by
  rw [Int32.le_iff_toInt_le, Int32.toInt_add, ap_ei (by omega), ap_e_low]
  show ¬ (0 : Int) ≤ _
  rw [Int.bmod_eq_of_le (by omega) (by omega)]
  omega
theorem ap_e_mx {o o' : Option Nat} (h : ∀ m, o = some m → m ≤ 2000000) (h' : ∀ m, o' = some m → m ≤ 2000000) : am_mx (ap_e o) (ap_e o') = ap_e (ap_mx o o') := by
  unfold am_mx
  cases o with
  | none =>
    cases o' with
    | none => rfl
    | some b =>
      have hb := h' b rfl
      show (if (-1000000000 : Int32) < Int32.ofNat b then Int32.ofNat b else -1000000000) = Int32.ofNat b
      rw [if_pos]
      rw [Int32.lt_iff_toInt_lt, ap_ei hb, ap_e_low]
      omega
  | some a =>
    have ha := h a rfl
    cases o' with
    | none =>
      show (if Int32.ofNat a < (-1000000000 : Int32) then -1000000000 else Int32.ofNat a) = Int32.ofNat a
      rw [if_neg]
      rw [Int32.lt_iff_toInt_lt, ap_ei ha, ap_e_low]
      omega
    | some b =>
      have hb := h' b rfl
      show (if Int32.ofNat a < Int32.ofNat b then Int32.ofNat b else Int32.ofNat a) = Int32.ofNat (max a b)
      by_cases hab : a < b
      · rw [if_pos, Nat.max_eq_right (by omega)]
        rw [Int32.lt_iff_toInt_lt, ap_ei ha, ap_ei hb]
        omega
      · rw [if_neg, Nat.max_eq_left (by omega)]
        rw [Int32.lt_iff_toInt_lt, ap_ei ha, ap_ei hb]
        omega
theorem ap_e_pl {o : Option Nat} {w : Nat} (h : ∀ m, o = some m → m ≤ 1900000) (hw : w ≤ 50000) : (if 0 ≤ ap_e o + Int32.ofNat w then ap_e o + Int32.ofNat w else -1000000000) = ap_e (ap_pl w o) := by
  cases o with
  | none =>
    show (if 0 ≤ (-1000000000 : Int32) + Int32.ofNat w then (-1000000000 : Int32) + Int32.ofNat w else -1000000000) = -1000000000
    rw [if_neg (ap_e_neg hw)]
  | some m =>
    have hm := h m rfl
    show (if 0 ≤ Int32.ofNat m + Int32.ofNat w then Int32.ofNat m + Int32.ofNat w else -1000000000) = Int32.ofNat (m + w)
    rw [← Int32.ofNat_add, if_pos (ap_e_pos (by omega))]
theorem ap_e_ge {o : Option Nat} (h : ∀ m, o = some m → m ≤ 2000000) : 0 ≤ ap_e o ↔ ¬ o = none := by
  cases o with
  | none => exact ⟨fun q => absurd q (by decide), fun q => absurd rfl q⟩
  | some m => exact ⟨fun _ q => (by cases q), fun _ => ap_e_pos (h m rfl)⟩
theorem ap_e_inj {o o' : Option Nat} (h : ∀ m, o = some m → m ≤ 2000000) (h' : ∀ m, o' = some m → m ≤ 2000000) : ap_e o = ap_e o' ↔ o = o' := by
  refine ⟨fun q => ?_, fun q => by rw [q]⟩
  cases o with
  | none =>
    cases o' with
    | none => rfl
    | some b =>
      have q' : (-1000000000 : Int32).toInt = (Int32.ofNat b).toInt := congrArg Int32.toInt q
      rw [ap_e_low, ap_ei (h' b rfl)] at q'
      omega
  | some a =>
    cases o' with
    | none =>
      have q' : (Int32.ofNat a).toInt = (-1000000000 : Int32).toInt := congrArg Int32.toInt q
      rw [ap_e_low, ap_ei (h a rfl)] at q'
      omega
    | some b =>
      have q' : (Int32.ofNat a).toInt = (Int32.ofNat b).toInt := congrArg Int32.toInt q
      rw [ap_ei (h a rfl), ap_ei (h' b rfl)] at q'
      exact congrArg some (by omega)
theorem as_ix_inj {s k f s' k' f' : Nat} (hk : k ≤ 24) (hf : f ≤ 99) (hk' : k' ≤ 24) (hf' : f' ≤ 99) : as_ix s k f = as_ix s' k' f' ↔ s = s' ∧ k = k' ∧ f = f' := by
  unfold as_ix
  omega
/-- what a row's place gets -/
def ap_y (X : am_G) (s k f : Nat) : Int32 := am_mx (X 23 (as_ix (s + 1) k f)) (if 0 ≤ as_bv X s k f then as_bv X s k f else -1000000000)
theorem ap_y_eq {X Y : am_G} {s k f : Nat} (hk : k ≤ 24) (hf : f ≤ 99) (h : ∀ k' f', k' ≤ 24 → f' ≤ 99 → Y 23 (as_ix (s + 1) k' f') = X 23 (as_ix (s + 1) k' f')) (h21 : Y 21 = X 21) (h22 : Y 22 = X 22) : ap_y Y s k f = ap_y X s k f := by
  unfold ap_y as_bv
  rw [h21, h22, h k f hk hf, h (k - 1) (f - (X 21 s).toNatClampNeg) (by omega) (by omega)]
theorem ap_r1i {X : am_G} {s k : Nat} (hk : k ≤ 24) : ∀ n, n ≤ 100 → (∀ x, ¬ x = 23 → am_it (fun f X => as_st s k f X) X n x = X x) ∧ ∀ s' k' f', k' ≤ 24 → f' ≤ 99 → am_it (fun f X => as_st s k f X) X n 23 (as_ix s' k' f') = if s' = s ∧ k' = k ∧ f' < n then ap_y X s k f' else X 23 (as_ix s' k' f') := by
  intro n
  induction n with
  | zero =>
    intro _
    refine ⟨fun _ _ => rfl, fun s' k' f' _ _ => ?_⟩
    rw [if_neg (fun q => Nat.not_lt_zero _ q.2.2)]
    rfl
  | succ n ih =>
    intro hn
    obtain ⟨i1, i2⟩ := ih (by omega)
    refine ⟨fun x hx => ?_, fun s' k' f' hk' hf' => ?_⟩
    · show as_st s k n (am_it (fun f X => as_st s k f X) X n) x = X x
      rw [as_st_ne hx, i1 x hx]
    · show as_st s k n (am_it (fun f X => as_st s k f X) X n) 23 (as_ix s' k' f') = _
      have ey : ap_y (am_it (fun f X => as_st s k f X) X n) s k n = ap_y X s k n := ap_y_eq hk (by omega) (fun k2 f2 h1 h2 => by rw [i2 _ _ _ h1 h2, if_neg (fun q => by omega)]) (i1 21 (by decide)) (i1 22 (by decide))
      have i3 := i2 s' k' f' hk' hf'
      generalize am_it (fun f X => as_st s k f X) X n = Y at *
      show am_up Y 23 (as_ix s k n) (ap_y Y s k n) 23 (as_ix s' k' f') = _
      rw [am_up_eq]
      by_cases e : s' = s ∧ k' = k ∧ f' = n
      · obtain ⟨rfl, rfl, rfl⟩ := e
        rw [am_upd_eq, if_pos ⟨rfl, rfl, by omega⟩]
        exact ey
      · rw [am_upd_ne (fun q => e ((as_ix_inj hk' hf' hk (by omega)).mp q)), i3]
        by_cases h : s' = s ∧ k' = k ∧ f' < n
        · rw [if_pos h, if_pos ⟨h.1, h.2.1, by omega⟩]
        · rw [if_neg h, if_neg (fun q => h ⟨q.1, q.2.1, by
            have : ¬ f' = n := fun z => e ⟨q.1, q.2.1, z⟩
            omega⟩)]
theorem ap_r1 {X : am_G} {s g : Nat} (hg : g ≤ 99) : ∀ K, K ≤ 25 → (∀ x, ¬ x = 23 → am_it (fun k X => am_it (fun f X => as_st s k f X) X (g + 1)) X K x = X x) ∧ ∀ s' k' f', k' ≤ 24 → f' ≤ 99 → am_it (fun k X => am_it (fun f X => as_st s k f X) X (g + 1)) X K 23 (as_ix s' k' f') = if s' = s ∧ k' < K ∧ f' < g + 1 then ap_y X s k' f' else X 23 (as_ix s' k' f') := by
  intro K
  induction K with
  | zero =>
    intro _
    refine ⟨fun _ _ => rfl, fun s' k' f' _ _ => ?_⟩
    rw [if_neg (fun q => Nat.not_lt_zero _ q.2.1)]
    rfl
  | succ K ih =>
    intro hK
    obtain ⟨i1, i2⟩ := ih (by omega)
    obtain ⟨j1, j2⟩ := ap_r1i (X := am_it (fun k X => am_it (fun f X => as_st s k f X) X (g + 1)) X K) (s := s) (k := K) (by omega) (g + 1) (by omega)
    refine ⟨fun x hx => ?_, fun s' k' f' hk' hf' => ?_⟩
    · rw [am_it, j1 x hx, i1 x hx]
    · rw [am_it, j2 _ _ _ hk' hf']
      have ey : ap_y (am_it (fun k X => am_it (fun f X => as_st s k f X) X (g + 1)) X K) s K f' = ap_y X s K f' := ap_y_eq (by omega) hf' (fun k2 f2 h1 h2 => by rw [i2 _ _ _ h1 h2, if_neg (fun q => by omega)]) (i1 21 (by decide)) (i1 22 (by decide))
      rw [ey, i2 _ _ _ hk' hf']
      by_cases h : s' = s ∧ k' = K ∧ f' < g + 1
      · obtain ⟨rfl, rfl, h3⟩ := h
        rw [if_pos ⟨rfl, rfl, h3⟩, if_pos ⟨rfl, by omega, h3⟩]
      · rw [if_neg h]
        by_cases h' : s' = s ∧ k' < K ∧ f' < g + 1
        · rw [if_pos h', if_pos ⟨h'.1, by omega, h'.2.2⟩]
        · rw [if_neg h', if_neg (fun q => h' ⟨q.1, by
            have : ¬ k' = K := fun z => h ⟨q.1, z, q.2.2⟩
            omega, q.2.2⟩)]
def ap_i (k f : Nat) : Int32 := if k = 0 ∧ f = 0 then 0 else -1000000000
theorem ap_r0i {X : am_G} {S k : Nat} (hk : k ≤ 24) : ∀ n, n ≤ 100 → (∀ x, ¬ x = 23 → am_it (fun f X => as_i0 S k f X) X n x = X x) ∧ ∀ s' k' f', k' ≤ 24 → f' ≤ 99 → am_it (fun f X => as_i0 S k f X) X n 23 (as_ix s' k' f') = if s' = S ∧ k' = k ∧ f' < n then ap_i k f' else X 23 (as_ix s' k' f') := by
  intro n
  induction n with
  | zero =>
    intro _
    refine ⟨fun _ _ => rfl, fun s' k' f' _ _ => ?_⟩
    rw [if_neg (fun q => Nat.not_lt_zero _ q.2.2)]
    rfl
  | succ n ih =>
    intro hn
    obtain ⟨i1, i2⟩ := ih (by omega)
    refine ⟨fun x hx => ?_, fun s' k' f' hk' hf' => ?_⟩
    · show as_i0 S k n (am_it (fun f X => as_i0 S k f X) X n) x = X x
      rw [as_i0_ne hx, i1 x hx]
    · show as_i0 S k n (am_it (fun f X => as_i0 S k f X) X n) 23 (as_ix s' k' f') = _
      have i3 := i2 s' k' f' hk' hf'
      generalize am_it (fun f X => as_i0 S k f X) X n = Y at *
      show am_up Y 23 (as_ix S k n) (ap_i k n) 23 (as_ix s' k' f') = _
      rw [am_up_eq]
      by_cases e : s' = S ∧ k' = k ∧ f' = n
      · obtain ⟨rfl, rfl, rfl⟩ := e
        rw [am_upd_eq, if_pos ⟨rfl, rfl, by omega⟩]
      · rw [am_upd_ne (fun q => e ((as_ix_inj hk' hf' hk (by omega)).mp q)), i3]
        by_cases h : s' = S ∧ k' = k ∧ f' < n
        · rw [if_pos h, if_pos ⟨h.1, h.2.1, by omega⟩]
        · rw [if_neg h, if_neg (fun q => h ⟨q.1, q.2.1, by
            have : ¬ f' = n := fun z => e ⟨q.1, q.2.1, z⟩
            omega⟩)]
theorem ap_r0 {X : am_G} {S g : Nat} (hg : g ≤ 99) : ∀ K, K ≤ 25 → (∀ x, ¬ x = 23 → am_it (fun k X => am_it (fun f X => as_i0 S k f X) X (g + 1)) X K x = X x) ∧ ∀ k' f', k' < K → f' < g + 1 → am_it (fun k X => am_it (fun f X => as_i0 S k f X) X (g + 1)) X K 23 (as_ix S k' f') = ap_i k' f' := by
  intro K
  induction K with
  | zero =>
    intro _
    exact ⟨fun _ _ => rfl, fun k' f' h _ => absurd h (Nat.not_lt_zero _)⟩
  | succ K ih =>
    intro hK
    obtain ⟨i1, i2⟩ := ih (by omega)
    obtain ⟨j1, j2⟩ := ap_r0i (X := am_it (fun k X => am_it (fun f X => as_i0 S k f X) X (g + 1)) X K) (S := S) (k := K) (by omega) (g + 1) (by omega)
    refine ⟨fun x hx => ?_, fun k' f' hk' hf' => ?_⟩
    · rw [am_it, j1 x hx, i1 x hx]
    · rw [am_it, j2 _ _ _ (by omega) (by omega)]
      by_cases h : k' = K
      · rw [if_pos ⟨rfl, h, hf'⟩, h]
      · rw [if_neg (fun q => h q.2.1)]
        exact i2 k' f' (by omega) hf'
/-- the tiles' foods and worths in the rows of a state -/
def ap_R (X : am_G) (f w : Nat → Nat) (S : Nat) : Prop := ∀ s, s < S → X 21 s = Int32.ofNat (f s) ∧ f s < 5 ∧ X 22 s = Int32.ofNat (w s) ∧ w s ≤ 50000
theorem ap_R.b {X : am_G} {f w : Nat → Nat} {S : Nat} (h : ap_R X f w S) (hS : S ≤ 24) {d s k g W : Nat} (hd : s + d ≤ S) (e : ap_B f w d s k g = some W) : W ≤ 1200000 := by
  have h1 := ap_B_le (b := 50000) d s k g W (fun i hi => (h i (by omega)).2.2.2) e
  have h2 : 50000 * d ≤ 50000 * 24 := Nat.mul_le_mul_left _ (by omega)
  omega
theorem ap_fn' {f w : Nat → Nat} {S m g : Nat} (hS : S ≤ 24) (hm : m ≤ 24) (hg : g ≤ 99) : ∀ (n : Nat) (Z : am_G), n ≤ S → ap_R Z f w S → (∀ s, n ≤ s → s ≤ S → ∀ k h, k ≤ m → h ≤ g → Z 23 (as_ix s k h) = ap_e (ap_B f w (S - s) s k h)) → ∀ s, s ≤ S → ∀ k h, k ≤ m → h ≤ g → as_dn (as_r1 m g) n Z 23 (as_ix s k h) = ap_e (ap_B f w (S - s) s k h)
  | 0, Z, _, _, hZ => fun s hs k h hk hh => hZ s (Nat.zero_le s) hs k h hk hh
  | n + 1, Z, hn, hR, hZ => by
    obtain ⟨i1, i2⟩ := ap_r1 (X := Z) (s := n) hg (m + 1) (by omega)
    refine ap_fn' hS hm hg n (as_r1 m g n Z) (by omega) (fun s hs => ?_) (fun s h1 h2 k h hk hh => ?_)
    · rw [as_r1_ne (by decide), as_r1_ne (by decide)]
      exact hR s hs
    · have i3 := i2 s k h (by omega) (by omega)
      show am_it (fun k X => am_it (fun f X => as_st n k f X) X (g + 1)) Z (m + 1) 23 (as_ix s k h) = _
      rw [i3]
      by_cases e : s = n
      · subst e
        rw [if_pos ⟨rfl, by omega, by omega⟩]
        obtain ⟨r1, r2, r3, r4⟩ := hR s (by omega)
        rw [show S - s = (S - (s + 1)) + 1 by omega, ap_B]
        unfold ap_y as_bv
        rw [hZ (s + 1) (by omega) (by omega) k h hk hh, r1, am_tcn (by omega), r3]
        have b1 : ∀ W, ap_B f w (S - (s + 1)) (s + 1) k h = some W → W ≤ 1200000 := fun W => hR.b hS (by omega)
        have b2 : ∀ W, ap_B f w (S - (s + 1)) (s + 1) (k - 1) (h - f s) = some W → W ≤ 1200000 := fun W => hR.b hS (by omega)
        by_cases hk0 : k = 0
        · rw [if_pos hk0, if_pos hk0, if_neg (by decide), ap_mx_n]
          refine (ap_e_mx (o' := none) (fun W q => by have := b1 W q; omega) (fun W q => by cases q)).trans ?_
          rw [ap_mx_n]
        · rw [if_neg hk0, if_neg hk0, hZ (s + 1) (by omega) (by omega) (k - 1) (h - f s) (by omega) (by omega), ap_e_pl (fun W q => by have := b2 W q; omega) r4]
          refine ap_e_mx (fun W q => by have := b1 W q; omega) (fun W q => ?_)
          cases e2 : ap_B f w (S - (s + 1)) (s + 1) (k - 1) (h - f s) with
          | none => rw [e2] at q; cases q
          | some c =>
            rw [e2] at q
            have := b2 c e2
            cases q
            omega
      · rw [if_neg (fun q => e q.1)]
        exact hZ s (by omega) h2 k h hk hh
theorem ap_fn {f w : Nat → Nat} {S m g : Nat} {X : am_G} (hS : S ≤ 24) (hm : m ≤ 24) (hg : g ≤ 99) (hR : ap_R X f w S) : ∀ s, s ≤ S → ∀ k h, k ≤ m → h ≤ g → as_fn m g S X 23 (as_ix s k h) = ap_e (ap_B f w (S - s) s k h) := by
  obtain ⟨i1, i2⟩ := ap_r0 (X := X) (S := S) hg (m + 1) (by omega)
  refine ap_fn' hS hm hg S (as_r0 m g S X) (Nat.le_refl S) (fun s hs => ?_) (fun s h1 h2 k h hk hh => ?_)
  · rw [as_r0_ne (by decide), as_r0_ne (by decide)]
    exact hR s hs
  · rw [show s = S by omega, Nat.sub_self, ap_B]
    show am_it (fun k X => am_it (fun f X => as_i0 S k f X) X (g + 1)) X (m + 1) 23 (as_ix S k h) = _
    rw [i2 k h (by omega) (by omega), ap_i]
    by_cases e : k = 0 ∧ h = 0
    · rw [if_pos e, if_pos e]
      rfl
    · rw [if_neg e, if_neg e]
      rfl
