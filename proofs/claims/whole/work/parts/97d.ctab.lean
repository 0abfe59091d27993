/-! THE CLASS'S TABLE is the best of each beginning of the row of tiles -/
def ap_l : Option Nat → Int64
  | none => -1
  | some m => Int64.ofNat m
theorem ap_li {m : Nat} (hm : m < 4611686018427387904) : (Int64.ofNat m).toInt = (m : Int) := Int64.toInt_ofNat_of_lt (by omega)
theorem ap_lm : (-1 : Int64).toInt = -1 := by decide
theorem ap_lz : (0 : Int64).toInt = 0 := by decide
theorem ap_clt {x y : Int64} : lg_cmp x y < 0 ↔ x.toInt < y.toInt := by
  unfold lg_cmp
  by_cases h1 : x > y
  · have h1' : y.toInt < x.toInt := Int64.lt_iff_toInt_lt.mp h1
    rw [if_pos h1]
    exact ⟨fun q => absurd q (by decide), fun q => by omega⟩
  · have h1' : ¬ y.toInt < x.toInt := fun q => h1 (Int64.lt_iff_toInt_lt.mpr q)
    rw [if_neg h1]
    by_cases h2 : x = y
    · rw [if_pos h2, h2]
      exact ⟨fun q => absurd q (by decide), fun q => by omega⟩
    · have h2' : ¬ x.toInt = y.toInt := fun q => h2 (Int64.toInt_inj.mp q)
      rw [if_neg h2]
      exact ⟨fun _ => by omega, fun _ => by decide⟩
theorem ap_cle {x y : Int64} : lg_cmp x y ≤ 0 ↔ x.toInt ≤ y.toInt := by
  unfold lg_cmp
  by_cases h1 : x > y
  · have h1' : y.toInt < x.toInt := Int64.lt_iff_toInt_lt.mp h1
    rw [if_pos h1]
    exact ⟨fun q => absurd q (by decide), fun q => by omega⟩
  · have h1' : ¬ y.toInt < x.toInt := fun q => h1 (Int64.lt_iff_toInt_lt.mpr q)
    rw [if_neg h1]
    by_cases h2 : x = y
    · rw [if_pos h2, h2]
      exact ⟨fun _ => Int.le_refl _, fun _ => by decide⟩
    · rw [if_neg h2]
      exact ⟨fun _ => by omega, fun _ => by decide⟩
/-- what a place of the table gets -/
def ap_z (w fd : Nat) (v : Int64) (M : aw_M) (k f : Nat) : Int64 := if ¬ lg_cmp (M 1 ((k - 1) * w + (f - fd))) 0 < 0 ∧ ¬ lg_cmp (M 1 ((k - 1) * w + (f - fd)) + v) (M 1 (k * w + f)) ≤ 0 then M 1 ((k - 1) * w + (f - fd)) + v else M 1 (k * w + f)
theorem ap_z_mx {w fd k f v : Nat} {M : aw_M} {o o' : Option Nat} (h1 : M 1 ((k - 1) * w + (f - fd)) = ap_l o') (h2 : M 1 (k * w + f) = ap_l o) (b : ∀ m, o = some m → m < 1000000000000) (b' : ∀ m, o' = some m → m < 1000000000000) (hv : v < 1000000000000) : ap_z w fd (Int64.ofNat v) M k f = ap_l (ap_mx o (ap_pl v o')) := by
  unfold ap_z
  rw [h1, h2]
  cases o' with
  | none =>
    rw [if_neg (fun q => q.1 (ap_clt.mpr (by
      show (-1 : Int64).toInt < (0 : Int64).toInt
      rw [ap_lm, ap_lz]
      omega)))]
    show ap_l o = ap_l (ap_mx o none)
    rw [ap_mx_n]
  | some c =>
    have hc := b' c rfl
    have c1 : ¬ lg_cmp (ap_l (some c)) 0 < 0 := fun q => by
      have := ap_clt.mp q
      rw [show ap_l (some c) = Int64.ofNat c from rfl, ap_li (by omega), ap_lz] at this
      omega
    have e : ap_l (some c) + Int64.ofNat v = Int64.ofNat (c + v) := (Int64.ofNat_add c v).symm
    have ei := ap_li (show c + v < 4611686018427387904 by omega)
    rw [e]
    cases o with
    | none =>
      rw [if_pos ⟨c1, fun q => by
        have := ap_cle.mp q
        rw [ei, show ap_l none = -1 from rfl, ap_lm] at this
        omega⟩]
      rfl
    | some a =>
      have ha := b a rfl
      have ea := ap_li (show a < 4611686018427387904 by omega)
      by_cases h : c + v ≤ a
      · rw [if_neg (fun q => q.2 (ap_cle.mpr (by
          show (Int64.ofNat (c + v)).toInt ≤ (Int64.ofNat a).toInt
          rw [ei, ea]
          omega)))]
        exact (congrArg Int64.ofNat (Nat.max_eq_left h)).symm
      · rw [if_pos ⟨c1, fun q => by
          have q2 : (Int64.ofNat (c + v)).toInt ≤ (Int64.ofNat a).toInt := ap_cle.mp q
          rw [ei, ea] at q2
          omega⟩]
        exact (congrArg Int64.ofNat (Nat.max_eq_right (show a ≤ c + v by omega))).symm
theorem ap_a1 {w fd : Nat} {v : Int64} {M : aw_M} {k f j : Nat} : as_a1 w fd v k f M 1 j = if j = k * w + f then ap_z w fd v M k f else M 1 j := by
  unfold as_a1 ap_z
  by_cases h : ¬ lg_cmp (M 1 ((k - 1) * w + (f - fd))) 0 < 0 ∧ ¬ lg_cmp (M 1 ((k - 1) * w + (f - fd)) + v) (M 1 (k * w + f)) ≤ 0
  · rw [if_pos h, if_pos h, aw_mu_eq]
    rfl
  · rw [if_neg h, if_neg h]
    by_cases e : j = k * w + f
    · rw [if_pos e, e]
    · rw [if_neg e]
theorem ap_ix {w k f k' f' : Nat} (hf : f < w) (hf' : f' < w) : k * w + f = k' * w + f' ↔ k = k' ∧ f = f' := by
  constructor
  · intro h
    rcases Nat.lt_trichotomy k k' with q | q | q
    · have h1 : (k + 1) * w ≤ k' * w := Nat.mul_le_mul_right w q
      have h2 : (k + 1) * w = k * w + w := Nat.succ_mul k w
      omega
    · subst q
      exact ⟨rfl, by omega⟩
    · have h1 : (k' + 1) * w ≤ k * w := Nat.mul_le_mul_right w q
      have h2 : (k' + 1) * w = k' * w + w := Nat.succ_mul k' w
      omega
  · rintro ⟨rfl, rfl⟩
    rfl
theorem ap_a2 {w fd : Nat} {v : Int64} {M : aw_M} {k : Nat} (hk : 1 ≤ k) : ∀ n, n ≤ w → ∀ k' f', f' < w → am_it (fun f M => as_a1 w fd v k f M) M n 1 (k' * w + f') = if k' = k ∧ f' < n then ap_z w fd v M k f' else M 1 (k' * w + f') := by
  intro n
  induction n with
  | zero =>
    intro _ k' f' _
    rw [if_neg (fun q => Nat.not_lt_zero _ q.2)]
    rfl
  | succ n ih =>
    intro hn k' f' hf'
    have i2 := ih (by omega)
    show as_a1 w fd v k n (am_it (fun f M => as_a1 w fd v k f M) M n) 1 (k' * w + f') = _
    have ez : ap_z w fd v (am_it (fun f M => as_a1 w fd v k f M) M n) k n = ap_z w fd v M k n := by
      have h1 : am_it (fun f M => as_a1 w fd v k f M) M n 1 ((k - 1) * w + (n - fd)) = M 1 ((k - 1) * w + (n - fd)) := by rw [i2 (k - 1) (n - fd) (by omega), if_neg (fun q => by omega)]
      have h2 : am_it (fun f M => as_a1 w fd v k f M) M n 1 (k * w + n) = M 1 (k * w + n) := by rw [i2 k n (by omega), if_neg (fun q => by omega)]
      unfold ap_z
      rw [h1, h2]
    rw [ap_a1, ez, i2 k' f' hf']
    by_cases e : k' * w + f' = k * w + n
    · obtain ⟨rfl, rfl⟩ := (ap_ix hf' (by omega)).mp e
      rw [if_pos rfl, if_pos ⟨rfl, by omega⟩]
    · rw [if_neg e]
      have e' : ¬ (k' = k ∧ f' = n) := fun q => e ((ap_ix hf' (by omega)).mpr q)
      by_cases h : k' = k ∧ f' < n
      · rw [if_pos h, if_pos ⟨h.1, by omega⟩]
      · rw [if_neg h, if_neg (fun q => h ⟨q.1, by
          have : ¬ f' = n := fun z => e' ⟨q.1, z⟩
          omega⟩)]
theorem ap_a3 {w fd : Nat} {v : Int64} : ∀ (k : Nat) (M : aw_M) (k' f' : Nat), f' < w → as_a3 w fd v k M 1 (k' * w + f') = if 1 ≤ k' ∧ k' ≤ k then ap_z w fd v M k' f' else M 1 (k' * w + f')
  | 0, M, k', f', _ => by
    rw [if_neg (fun q => by omega)]
    rfl
  | k + 1, M, k', f', hf' => by
    have ih := ap_a3 (w := w) (fd := fd) (v := v) k (as_a2 w fd v (k + 1) M) k' f' hf'
    have a2 := ap_a2 (w := w) (fd := fd) (v := v) (M := M) (k := k + 1) (by omega) w (Nat.le_refl w)
    show as_a3 w fd v k (as_a2 w fd v (k + 1) M) 1 (k' * w + f') = _
    rw [ih]
    by_cases h : 1 ≤ k' ∧ k' ≤ k
    · rw [if_pos h, if_pos ⟨h.1, by omega⟩]
      have h1 : as_a2 w fd v (k + 1) M 1 ((k' - 1) * w + (f' - fd)) = M 1 ((k' - 1) * w + (f' - fd)) := (a2 (k' - 1) (f' - fd) (by omega)).trans (if_neg (fun q => by omega))
      have h2 : as_a2 w fd v (k + 1) M 1 (k' * w + f') = M 1 (k' * w + f') := (a2 k' f' hf').trans (if_neg (fun q => by omega))
      unfold ap_z
      rw [h1, h2]
    · rw [if_neg h]
      show am_it (fun f M => as_a1 w fd v (k + 1) f M) M w 1 (k' * w + f') = _
      rw [a2 k' f' hf']
      by_cases e : k' = k + 1
      · rw [if_pos ⟨e, hf'⟩, if_pos ⟨by omega, by omega⟩, e]
      · rw [if_neg (fun q => e q.1), if_neg (fun q => h ⟨q.1, by omega⟩)]
theorem ap_b0' {M : aw_M} : ∀ N j, am_it (fun i M => aw_mu M 1 i (-1)) M N 1 j = if j < N then -1 else M 1 j
  | 0, j => by
    rw [if_neg (Nat.not_lt_zero j)]
    rfl
  | N + 1, j => by
    show aw_mu (am_it (fun i M => aw_mu M 1 i (-1)) M N) 1 N (-1) 1 j = _
    rw [aw_mu_eq]
    by_cases e : j = N
    · rw [e, am_upd_eq, if_pos (Nat.lt_succ_self N)]
    · rw [am_upd_ne e, ap_b0' N j]
      by_cases h : j < N
      · rw [if_pos h, if_pos (by omega)]
      · rw [if_neg h, if_neg (by omega)]
theorem ap_b0 {M : aw_M} {f v : Nat → Nat} {m w k h : Nat} (hk : k ≤ m) (hh : h < w) : as_b0 ((m + 1) * w) M 1 (k * w + h) = ap_l (ap_F f v 0 k h) := by
  unfold as_b0
  have hlt : k * w + h < (m + 1) * w := by
    have h1 : (k + 1) * w ≤ (m + 1) * w := Nat.mul_le_mul_right w (by omega)
    have h2 : (k + 1) * w = k * w + w := Nat.succ_mul k w
    omega
  rw [aw_mu_eq, ap_F]
  by_cases e : k = 0 ∧ h = 0
  · obtain ⟨rfl, rfl⟩ := e
    rw [if_pos ⟨rfl, rfl⟩, show 0 * w + 0 = 0 by omega, am_upd_eq]
    rfl
  · have ne : ¬ k * w + h = 0 := fun q => by
      have h3 := (ap_ix (k' := 0) (f' := 0) hh (by omega)).mp (by rw [q, Nat.zero_mul])
      exact e h3
    rw [if_neg e, am_upd_ne ne, ap_b0', if_pos hlt]
    rfl
theorem ap_b1 {G : am_G} {c : Nat} {O : Nat → Int32} {M : aw_M} {f v : Nat → Nat} {m w S : Nat} (hm : m ≤ 24) (hS : S ≤ 24) (hi : ∀ i, i < S → (as_fo G (O i).toNatClampNeg).toNatClampNeg = f i ∧ as_vl G c O i = Int64.ofNat (v i) ∧ v i ≤ 10000000000) : ∀ i, i ≤ S → ∀ k h, k ≤ m → h < w → as_b1 G c O w m i (as_b0 ((m + 1) * w) M) 1 (k * w + h) = ap_l (ap_F f v i k h) := by
  have bd : ∀ i k h W, i ≤ S → ap_F f v i k h = some W → W < 1000000000000 := fun i k h W his e => by
    rw [ap_FB] at e
    have h1 := ap_B_le (b := 10000000000) i 0 k h W (fun j hj => (hi j (by omega)).2.2) e
    have h2 : 10000000000 * i ≤ 10000000000 * 24 := Nat.mul_le_mul_left _ (by omega)
    omega
  intro i
  induction i with
  | zero => exact fun _ k h hk hh => ap_b0 hk hh
  | succ i ih =>
    intro his k h hk hh
    have ih := ih (by omega)
    obtain ⟨h1, h2, h3⟩ := hi i (by omega)
    show as_a3 w (as_fo G (O i).toNatClampNeg).toNatClampNeg (as_vl G c O i) m (as_b1 G c O w m i (as_b0 ((m + 1) * w) M)) 1 (k * w + h) = _
    rw [ap_a3 _ _ _ _ hh, h1, h2]
    generalize as_b1 G c O w m i (as_b0 ((m + 1) * w) M) = N at ih ⊢
    rw [ap_F]
    by_cases k0 : k = 0
    · rw [if_neg (by omega), if_pos k0, ap_mx_n]
      exact ih k h hk hh
    · rw [if_pos ⟨by omega, hk⟩, if_neg k0]
      exact ap_z_mx (ih (k - 1) (h - f i) (by omega) (by omega)) (ih k h hk hh) (fun W q => bd i _ _ W (by omega) q) (fun W q => bd i _ _ W (by omega) q) (by omega)
