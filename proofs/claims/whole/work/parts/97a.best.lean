/-! SETS OF TILES AS LISTS, and the best of them -/
def ap_s (g : Nat → Nat) : List Nat → Nat
  | [] => 0
  | a :: l => g a + ap_s g l
theorem ap_s_app {g : Nat → Nat} : ∀ (x y : List Nat), ap_s g (x ++ y) = ap_s g x + ap_s g y
  | [], y => (Nat.zero_add _).symm
  | a :: x, y => by rw [List.cons_append, ap_s, ap_s, ap_s_app x y, Nat.add_assoc]
theorem ap_s_one {g : Nat → Nat} {x : List Nat} {a : Nat} : ap_s g (x ++ [a]) = ap_s g x + g a := by
  rw [ap_s_app]
  rfl
/-- the greatest v of the lists with P -/
def ap_b (P : List Nat → Prop) (v : Nat → Nat) : Option Nat → Prop
  | none => ∀ x, ¬ P x
  | some m => (∃ x, P x ∧ ap_s v x = m) ∧ ∀ x, P x → ap_s v x ≤ m
theorem ap_b_uniq {P : List Nat → Prop} {v : Nat → Nat} {o o' : Option Nat} (h : ap_b P v o) (h' : ap_b P v o') : o = o' := by
  cases o with
  | none =>
    cases o' with
    | none => rfl
    | some m =>
      obtain ⟨⟨x, hx, -⟩, -⟩ := h'
      exact absurd hx (h x)
  | some m =>
    cases o' with
    | none =>
      obtain ⟨⟨x, hx, -⟩, -⟩ := h
      exact absurd hx (h' x)
    | some m' =>
      obtain ⟨⟨x, hx, ex⟩, ux⟩ := h
      obtain ⟨⟨y, hy, ey⟩, uy⟩ := h'
      have h1 := ux y hy
      have h2 := uy x hx
      exact congrArg some (by omega)
theorem ap_b_cg {P P' : List Nat → Prop} {v : Nat → Nat} {o : Option Nat} (h : ∀ x, P x ↔ P' x) (ho : ap_b P v o) : ap_b P' v o := by
  cases o with
  | none => exact fun x hx => ho x ((h x).mpr hx)
  | some m =>
    obtain ⟨⟨x, hx, ex⟩, ux⟩ := ho
    exact ⟨⟨x, (h x).mp hx, ex⟩, fun y hy => ux y ((h y).mpr hy)⟩
def ap_mx : Option Nat → Option Nat → Option Nat
  | none, o => o
  | some a, none => some a
  | some a, some b => some (max a b)
def ap_pl (w : Nat) : Option Nat → Option Nat
  | none => none
  | some a => some (a + w)
theorem ap_mx_n {o : Option Nat} : ap_mx o none = o := by cases o <;> rfl
theorem ap_b_mx {P P' R : List Nat → Prop} {v : Nat → Nat} {o o' : Option Nat} {w : Nat} {h : List Nat → List Nat} (ho : ap_b P v o) (ho' : ap_b P' v o') (hR : ∀ x, R x ↔ P x ∨ ∃ y, P' y ∧ x = h y) (hw : ∀ y, ap_s v (h y) = ap_s v y + w) : ap_b R v (ap_mx o (ap_pl w o')) := by
  cases o with
  | none =>
    cases o' with
    | none =>
      intro x hx
      rcases (hR x).mp hx with h1 | ⟨y, h1, -⟩
      · exact ho x h1
      · exact ho' y h1
    | some b =>
      obtain ⟨⟨y, hy, ey⟩, uy⟩ := ho'
      refine ⟨⟨h y, (hR _).mpr (Or.inr ⟨y, hy, rfl⟩), by rw [hw, ey]⟩, fun x hx => ?_⟩
      rcases (hR x).mp hx with h1 | ⟨z, h1, rfl⟩
      · exact absurd h1 (ho x)
      · rw [hw]
        have := uy z h1
        omega
  | some a =>
    obtain ⟨⟨x, hx, ex⟩, ux⟩ := ho
    cases o' with
    | none =>
      refine ⟨⟨x, (hR x).mpr (Or.inl hx), ex⟩, fun z hz => ?_⟩
      rcases (hR z).mp hz with h1 | ⟨y, h1, -⟩
      · exact ux z h1
      · exact absurd h1 (ho' y)
    | some b =>
      obtain ⟨⟨y, hy, ey⟩, uy⟩ := ho'
      refine ⟨?_, fun z hz => ?_⟩
      · rcases Nat.le_total a (b + w) with hab | hab
        · refine ⟨h y, (hR _).mpr (Or.inr ⟨y, hy, rfl⟩), ?_⟩
          rw [hw, ey, Nat.max_eq_right hab]
        · refine ⟨x, (hR x).mpr (Or.inl hx), ?_⟩
          rw [ex, Nat.max_eq_left hab]
      · rcases (hR z).mp hz with h1 | ⟨y', h1, rfl⟩
        · have := ux z h1
          have := Nat.le_max_left a (b + w)
          omega
        · rw [hw]
          have := uy y' h1
          have := Nat.le_max_right a (b + w)
          omega
/-- k of the list l, with at least so much food -/
abbrev ap_P (f : Nat → Nat) (l : List Nat) (k g : Nat) (x : List Nat) : Prop := x.Sublist l ∧ x.length = k ∧ g ≤ ap_s f x
theorem ap_nil {f v : Nat → Nat} {k g : Nat} : ap_b (ap_P f [] k g) v (if k = 0 ∧ g = 0 then some 0 else none) := by
  by_cases h : k = 0 ∧ g = 0
  · rw [if_pos h]
    refine ⟨⟨[], ⟨List.Sublist.refl _, h.1.symm, by rw [h.2]; exact Nat.zero_le _⟩, rfl⟩, fun x hx => ?_⟩
    rw [List.sublist_nil.mp hx.1]
    exact Nat.le_refl _
  · rw [if_neg h]
    intro x hx
    have e := List.sublist_nil.mp hx.1
    rw [e] at hx
    have h2 := hx.2.1
    have h3 : g ≤ 0 := hx.2.2
    exact h ⟨h2.symm, by omega⟩
theorem ap_cons {f v : Nat → Nat} {a : Nat} {l : List Nat} {k g : Nat} {o o' : Option Nat} (ho : ap_b (ap_P f l k g) v o) (ho' : ¬ k = 0 → ap_b (ap_P f l (k - 1) (g - f a)) v o') : ap_b (ap_P f (a :: l) k g) v (ap_mx o (if k = 0 then none else ap_pl (v a) o')) := by
  by_cases hk : k = 0
  · rw [if_pos hk, ap_mx_n]
    refine ap_b_cg (fun x => ?_) ho
    constructor
    · exact fun h => ⟨List.Sublist.cons a h.1, h.2⟩
    · intro h
      rcases List.sublist_cons_iff.mp h.1 with h1 | ⟨r, rfl, h1⟩
      · exact ⟨h1, h.2⟩
      · have := h.2.1
        rw [List.length_cons] at this
        omega
  · rw [if_neg hk]
    refine ap_b_mx (h := fun y => a :: y) ho (ho' hk) (fun x => ?_) (fun y => Nat.add_comm _ _)
    constructor
    · intro h
      rcases List.sublist_cons_iff.mp h.1 with h1 | ⟨r, rfl, h1⟩
      · exact Or.inl ⟨h1, h.2⟩
      · refine Or.inr ⟨r, ⟨h1, ?_, ?_⟩, rfl⟩
        · have := h.2.1
          rw [List.length_cons] at this
          omega
        · have : g ≤ f a + ap_s f r := h.2.2
          omega
    · rintro (h | ⟨y, h, rfl⟩)
      · exact ⟨List.Sublist.cons a h.1, h.2⟩
      · refine ⟨List.Sublist.cons_cons a h.1, ?_, ?_⟩
        · rw [List.length_cons, h.2.1]
          omega
        · have := h.2.2
          show g ≤ f a + ap_s f y
          omega
theorem ap_sub1 {x l : List Nat} {a : Nat} : x.Sublist (l ++ [a]) ↔ x.Sublist l ∨ ∃ y, y.Sublist l ∧ x = y ++ [a] := by
  constructor
  · intro h
    obtain ⟨l1, l2, rfl, h1, h2⟩ := List.sublist_append_iff.mp h
    rcases List.sublist_cons_iff.mp h2 with h3 | ⟨r, rfl, h3⟩
    · rw [List.sublist_nil.mp h3, List.append_nil]
      exact Or.inl h1
    · rw [List.sublist_nil.mp h3]
      exact Or.inr ⟨l1, h1, rfl⟩
  · rintro (h | ⟨y, h, rfl⟩)
    · exact h.trans (List.sublist_append_left l [a])
    · exact List.Sublist.append h (List.Sublist.refl _)
theorem ap_snoc {f v : Nat → Nat} {a : Nat} {l : List Nat} {k g : Nat} {o o' : Option Nat} (ho : ap_b (ap_P f l k g) v o) (ho' : ¬ k = 0 → ap_b (ap_P f l (k - 1) (g - f a)) v o') : ap_b (ap_P f (l ++ [a]) k g) v (ap_mx o (if k = 0 then none else ap_pl (v a) o')) := by
  by_cases hk : k = 0
  · rw [if_pos hk, ap_mx_n]
    refine ap_b_cg (fun x => ?_) ho
    constructor
    · exact fun h => ⟨ap_sub1.mpr (Or.inl h.1), h.2⟩
    · intro h
      rcases ap_sub1.mp h.1 with h1 | ⟨r, -, rfl⟩
      · exact ⟨h1, h.2⟩
      · have := h.2.1
        rw [List.length_append] at this
        have e : [a].length = 1 := rfl
        omega
  · rw [if_neg hk]
    refine ap_b_mx (h := fun y => y ++ [a]) ho (ho' hk) (fun x => ?_) (fun y => ap_s_one)
    constructor
    · intro h
      rcases ap_sub1.mp h.1 with h1 | ⟨r, h1, rfl⟩
      · exact Or.inl ⟨h1, h.2⟩
      · refine Or.inr ⟨r, ⟨h1, ?_, ?_⟩, rfl⟩
        · have := h.2.1
          rw [List.length_append] at this
          have e : [a].length = 1 := rfl
          omega
        · have := h.2.2
          rw [ap_s_one] at this
          omega
    · rintro (h | ⟨y, h, rfl⟩)
      · exact ⟨ap_sub1.mpr (Or.inl h.1), h.2⟩
      · refine ⟨ap_sub1.mpr (Or.inr ⟨y, h.1, rfl⟩), ?_, ?_⟩
        · rw [List.length_append, h.2.1]
          have e : [a].length = 1 := rfl
          omega
        · have := h.2.2
          rw [ap_s_one]
          omega
/-- the best from the s-th on, of d many: backwards -/
def ap_B (f v : Nat → Nat) : Nat → Nat → Nat → Nat → Option Nat
  | 0, _, k, g => if k = 0 ∧ g = 0 then some 0 else none
  | d + 1, s, k, g => ap_mx (ap_B f v d (s + 1) k g) (if k = 0 then none else ap_pl (v s) (ap_B f v d (s + 1) (k - 1) (g - f s)))
theorem ap_B_is {f v : Nat → Nat} : ∀ d s k g, ap_b (ap_P f (List.range' s d) k g) v (ap_B f v d s k g)
  | 0, s, k, g => ap_nil
  | d + 1, s, k, g => by
    rw [List.range'_succ, ap_B]
    exact ap_cons (ap_B_is d (s + 1) k g) (fun _ => ap_B_is d (s + 1) (k - 1) (g - f s))
/-- the best of the first i: forwards -/
def ap_F (f v : Nat → Nat) : Nat → Nat → Nat → Option Nat
  | 0, k, g => if k = 0 ∧ g = 0 then some 0 else none
  | i + 1, k, g => ap_mx (ap_F f v i k g) (if k = 0 then none else ap_pl (v i) (ap_F f v i (k - 1) (g - f i)))
theorem ap_F_is {f v : Nat → Nat} : ∀ i k g, ap_b (ap_P f (List.range' 0 i) k g) v (ap_F f v i k g)
  | 0, k, g => ap_nil
  | i + 1, k, g => by
    rw [List.range'_1_concat, ap_F, Nat.zero_add]
    exact ap_snoc (ap_F_is i k g) (fun _ => ap_F_is i (k - 1) (g - f i))
theorem ap_FB {f v : Nat → Nat} {i k g : Nat} : ap_F f v i k g = ap_B f v i 0 k g := ap_b_uniq (ap_F_is i k g) (ap_B_is i 0 k g)
theorem ap_B_le {f v : Nat → Nat} {b : Nat} : ∀ (d s k g W : Nat), (∀ i, i < s + d → v i ≤ b) → ap_B f v d s k g = some W → W ≤ b * d
  | 0, s, k, g, W, _, h => by
    rw [ap_B] at h
    split at h
    · cases h
      exact Nat.zero_le _
    · cases h
  | d + 1, s, k, g, W, hb, h => by
    rw [ap_B] at h
    have hb' : ∀ i, i < s + 1 + d → v i ≤ b := fun i hi => hb i (by omega)
    have hs := hb s (by omega)
    have i1 := fun W => ap_B_le (f := f) d (s + 1) k g W hb'
    have i2 := fun W => ap_B_le (f := f) d (s + 1) (k - 1) (g - f s) W hb'
    have e : b * (d + 1) = b * d + b := Nat.mul_succ b d
    cases h1 : ap_B f v d (s + 1) k g with
    | none =>
      rw [h1, ap_mx] at h
      split at h
      · cases h
      · cases h2 : ap_B f v d (s + 1) (k - 1) (g - f s) with
        | none => rw [h2] at h; cases h
        | some c =>
          rw [h2] at h
          have := i2 c h2
          cases h
          omega
    | some a =>
      have ha := i1 a h1
      rw [h1] at h
      split at h
      · cases h
        omega
      · cases h2 : ap_B f v d (s + 1) (k - 1) (g - f s) with
        | none =>
          rw [h2] at h
          cases h
          omega
        | some c =>
          rw [h2] at h
          have := i2 c h2
          have h3 : max a (c + v s) = W := Option.some.inj h
          have := Nat.max_le.mpr ⟨show a ≤ b * (d + 1) by omega, show c + v s ≤ b * (d + 1) by omega⟩
          omega
/-- the number of a tile -/
def ap_K : Nat := 16777216
theorem ap_Kv : ap_K = 16777216 := rfl
def ap_v (w : Nat → Nat) (i : Nat) : Nat := w i * ap_K + 2 ^ (23 - i)
/-- whether the choice takes the s-th -/
abbrev ap_t (f w : Nat → Nat) (d s k g : Nat) : Prop := ¬ k = 0 ∧ ¬ ap_B f w d (s + 1) (k - 1) (g - f s) = none ∧ ap_pl (w s) (ap_B f w d (s + 1) (k - 1) (g - f s)) = ap_B f w (d + 1) s k g
/-- the bits of the choice -/
def ap_n (f w : Nat → Nat) : Nat → Nat → Nat → Nat → Nat
  | 0, _, _, _ => 0
  | d + 1, s, k, g => if ap_t f w d s k g then 2 ^ (23 - s) + ap_n f w d (s + 1) (k - 1) (g - f s) else ap_n f w d (s + 1) k g
theorem ap_n_s {f w : Nat → Nat} {d s k g : Nat} : ap_n f w (d + 1) s k g = if ap_t f w d s k g then 2 ^ (23 - s) + ap_n f w d (s + 1) (k - 1) (g - f s) else ap_n f w d (s + 1) k g := rfl
theorem ap_bits {f w : Nat → Nat} : ∀ d s k g, s + d ≤ 24 → ap_n f w d s k g < 2 ^ (24 - s) ∧ ap_B f (ap_v w) d s k g = (ap_B f w d s k g).map fun W => W * ap_K + ap_n f w d s k g
  | 0, s, k, g, _ => by
    refine ⟨Nat.two_pow_pos _, ?_⟩
    rw [ap_B, ap_B]
    split
    · rfl
    · rfl
  | d + 1, s, k, g, hs => by
    obtain ⟨b1, e1⟩ := ap_bits (f := f) (w := w) d (s + 1) k g (by omega)
    obtain ⟨b2, e2⟩ := ap_bits (f := f) (w := w) d (s + 1) (k - 1) (g - f s) (by omega)
    have p1 : 2 ^ (24 - (s + 1)) = 2 ^ (23 - s) := by rw [show 24 - (s + 1) = 23 - s by omega]
    have p2 : 2 ^ (24 - s) = 2 * 2 ^ (23 - s) := by rw [show 24 - s = (23 - s) + 1 by omega, Nat.pow_succ, Nat.mul_comm]
    rw [p1] at b1 b2
    have eV : ap_B f (ap_v w) (d + 1) s k g = ap_mx (ap_B f (ap_v w) d (s + 1) k g) (if k = 0 then none else ap_pl (ap_v w s) (ap_B f (ap_v w) d (s + 1) (k - 1) (g - f s))) := rfl
    rw [p2, ap_n_s, eV, e1, e2]
    have eB : ap_B f w (d + 1) s k g = ap_mx (ap_B f w d (s + 1) k g) (if k = 0 then none else ap_pl (w s) (ap_B f w d (s + 1) (k - 1) (g - f s))) := rfl
    by_cases hk : k = 0
    · have ht : ¬ ap_t f w d s k g := fun q => q.1 hk
      rw [if_neg ht, eB, if_pos hk, if_pos hk, ap_mx_n, ap_mx_n]
      exact ⟨by omega, rfl⟩
    · rw [if_neg hk] at eB ⊢
      unfold ap_t
      rw [eB]
      generalize ap_n f w d (s + 1) k g = n1 at b1 ⊢
      generalize ap_n f w d (s + 1) (k - 1) (g - f s) = n2 at b2 ⊢
      generalize ap_B f w d (s + 1) k g = o1
      generalize ap_B f w d (s + 1) (k - 1) (g - f s) = o2
      have vs : ap_v w s = w s * ap_K + 2 ^ (23 - s) := rfl
      have hp : 2 ^ (23 - s) ≤ 2 ^ 23 := Nat.pow_le_pow_right (by decide) (by omega)
      generalize 2 ^ (23 - s) = p at b1 b2 vs hp ⊢
      cases o2 with
      | none =>
        rw [if_neg (fun q => q.2.1 rfl)]
        refine ⟨by omega, ?_⟩
        show ap_mx (o1.map fun W => W * ap_K + n1) none = (ap_mx o1 none).map fun W => W * ap_K + n1
        rw [ap_mx_n, ap_mx_n]
      | some c =>
        cases o1 with
        | none =>
          have ht : ¬ k = 0 ∧ ¬ some c = none ∧ ap_pl (w s) (some c) = ap_mx none (ap_pl (w s) (some c)) := ⟨hk, (fun q => by cases q), rfl⟩
          rw [if_pos ht]
          refine ⟨by omega, ?_⟩
          show some (c * ap_K + n2 + ap_v w s) = some ((c + w s) * ap_K + (p + n2))
          rw [vs, Nat.add_mul]
          exact congrArg some (by omega)
        | some a =>
          have em : ap_mx (some a) (ap_pl (w s) (some c)) = some (max a (c + w s)) := rfl
          rw [em]
          show _ ∧ some (max (a * ap_K + n1) (c * ap_K + n2 + ap_v w s)) = some (max a (c + w s) * ap_K + _)
          rw [vs]
          by_cases hm : a ≤ c + w s
          · have ht : ¬ k = 0 ∧ ¬ some c = none ∧ ap_pl (w s) (some c) = some (max a (c + w s)) := ⟨hk, (fun q => by cases q), by rw [Nat.max_eq_right hm]; rfl⟩
            rw [if_pos ht, Nat.max_eq_right hm]
            refine ⟨by omega, congrArg some ?_⟩
            have e4 : a * ap_K ≤ (c + w s) * ap_K := Nat.mul_le_mul_right _ hm
            rw [Nat.add_mul] at e4 ⊢
            rw [Nat.max_eq_right (by omega)]
            omega
          · have ht : ¬ (¬ k = 0 ∧ ¬ some c = none ∧ ap_pl (w s) (some c) = some (max a (c + w s))) := fun q => by
              have := Option.some.inj q.2.2
              rw [Nat.max_eq_left (by omega)] at this
              omega
            rw [if_neg ht, Nat.max_eq_left (show c + w s ≤ a by omega)]
            refine ⟨by omega, congrArg some ?_⟩
            have e3 : (c + w s + 1) * ap_K ≤ a * ap_K := Nat.mul_le_mul_right _ (by omega)
            have e5 : (c + w s + 1) * ap_K = c * ap_K + w s * ap_K + ap_K := by rw [Nat.add_mul, Nat.add_mul, Nat.one_mul]
            have eK := ap_Kv
            rw [Nat.max_eq_left (by omega)]
