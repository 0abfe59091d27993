/-! ALL SETS of k tiles in their order, and the first of the best -/
def ap_cb : Nat → List Nat → List (List Nat)
  | 0, _ => [[]]
  | _ + 1, [] => []
  | k + 1, a :: l => (ap_cb k l).map (fun x => a :: x) ++ ap_cb (k + 1) l
theorem ap_cb_mem : ∀ (l : List Nat) (k : Nat) (x : List Nat), x ∈ ap_cb k l ↔ x.Sublist l ∧ x.length = k
  | l, 0, x => by
    rw [ap_cb, List.mem_singleton]
    constructor
    · rintro rfl
      exact ⟨List.nil_sublist l, rfl⟩
    · exact fun h => List.eq_nil_of_length_eq_zero h.2
  | [], k + 1, x => by
    rw [ap_cb]
    constructor
    · exact fun h => absurd h List.not_mem_nil
    · intro h
      rw [List.sublist_nil.mp h.1] at h
      exact absurd h.2 (by simp)
  | a :: l, k + 1, x => by
    rw [ap_cb, List.mem_append, List.mem_map, ap_cb_mem l (k + 1) x, List.sublist_cons_iff]
    constructor
    · rintro (⟨y, hy, rfl⟩ | h)
      · have h2 := (ap_cb_mem l k y).mp hy
        exact ⟨Or.inr ⟨y, rfl, h2.1⟩, by rw [List.length_cons, h2.2]⟩
      · exact ⟨Or.inl h.1, h.2⟩
    · rintro ⟨h | ⟨y, rfl, h⟩, h2⟩
      · exact Or.inr ⟨h, h2⟩
      · rw [List.length_cons] at h2
        exact Or.inl ⟨y, (ap_cb_mem l k y).mpr ⟨h, by omega⟩, rfl⟩
/-- the bits of a set -/
abbrev ap_w (i : Nat) : Nat := 2 ^ (23 - i)
theorem ap_w_lt : ∀ (d s : Nat) (x : List Nat), s + d ≤ 24 → x.Sublist (List.range' s d) → ap_s ap_w x < 2 ^ (24 - s)
  | 0, s, x, _, h => by
    rw [List.sublist_nil.mp h]
    exact Nat.two_pow_pos _
  | d + 1, s, x, hs, h => by
    have p1 : 2 ^ (24 - (s + 1)) = 2 ^ (23 - s) := by rw [show 24 - (s + 1) = 23 - s by omega]
    have p2 : 2 ^ (24 - s) = 2 * 2 ^ (23 - s) := by rw [show 24 - s = (23 - s) + 1 by omega, Nat.pow_succ, Nat.mul_comm]
    rw [List.range'_succ] at h
    rw [p2]
    rcases List.sublist_cons_iff.mp h with h1 | ⟨r, rfl, h1⟩
    · have := ap_w_lt d (s + 1) x (by omega) h1
      rw [p1] at this
      omega
    · have := ap_w_lt d (s + 1) r (by omega) h1
      rw [p1] at this
      show 2 ^ (23 - s) + ap_s ap_w r < _
      omega
theorem ap_cb_desc : ∀ (d s k : Nat), s + d ≤ 24 → (ap_cb k (List.range' s d)).Pairwise fun x y => ap_s ap_w y < ap_s ap_w x
  | _, _, 0, _ => by
    rw [ap_cb]
    exact List.pairwise_singleton _ _
  | 0, s, k + 1, _ => List.Pairwise.nil
  | d + 1, s, k + 1, hs => by
    have p1 : 2 ^ (24 - (s + 1)) = 2 ^ (23 - s) := by rw [show 24 - (s + 1) = 23 - s by omega]
    rw [List.range'_succ, ap_cb, List.pairwise_append]
    refine ⟨?_, ap_cb_desc d (s + 1) (k + 1) (by omega), fun x hx y hy => ?_⟩
    · rw [List.pairwise_map]
      refine (ap_cb_desc d (s + 1) k (by omega)).imp fun {x y} h => ?_
      show ap_w s + ap_s ap_w y < ap_w s + ap_s ap_w x
      omega
    · obtain ⟨z, -, rfl⟩ := List.mem_map.mp hx
      have h := ap_w_lt d (s + 1) y (by omega) ((ap_cb_mem _ _ y).mp hy).1
      rw [p1] at h
      show ap_s ap_w y < 2 ^ (23 - s) + ap_s ap_w z
      omega
theorem ap_v_s {w : Nat → Nat} : ∀ x : List Nat, ap_s (ap_v w) x = ap_s w x * ap_K + ap_s ap_w x
  | [] => by rw [ap_s, ap_s, ap_s, Nat.zero_mul]
  | a :: x => by
    have e : ap_v w a = w a * ap_K + ap_w a := rfl
    rw [ap_s, ap_s, ap_s, ap_v_s x, e, Nat.add_mul]
    omega
/-- whether y is better than x -/
abbrev ap_lt (f w : Nat → Nat) (g : Nat) (x y : List Nat) : Prop := min (ap_s f x) g < min (ap_s f y) g ∨ min (ap_s f x) g = min (ap_s f y) g ∧ ap_s w x < ap_s w y
def ap_g (f w : Nat → Nat) (g : Nat) (a : Option (List Nat)) (x : List Nat) : Option (List Nat) :=
  match a with
  | none => some x
  | some b => if ap_lt f w g b x then some x else some b
/-- what holds behind all sets of a row -/
def ap_ok (f w : Nat → Nat) (g : Nat) (l : List (List Nat)) : Option (List Nat) → Prop
  | none => l = []
  | some b => b ∈ l ∧ ∀ y, y ∈ l → ap_lt f w g y b ∨ (min (ap_s f y) g = min (ap_s f b) g ∧ ap_s w y = ap_s w b ∧ ap_s ap_w y ≤ ap_s ap_w b)
theorem ap_g_ok {f w : Nat → Nat} {g : Nat} : ∀ (l p : List (List Nat)) (a : Option (List Nat)), ap_ok f w g p a → (p ++ l).Pairwise (fun x y => ap_s ap_w y < ap_s ap_w x) → ap_ok f w g (p ++ l) (l.foldl (ap_g f w g) a)
  | [], p, a, h, _ => by
    rw [List.append_nil]
    exact h
  | x :: l, p, a, h, hd => by
    have e : p ++ x :: l = (p ++ [x]) ++ l := by rw [List.append_assoc]; rfl
    rw [List.foldl_cons, e]
    rw [e] at hd
    refine ap_g_ok l (p ++ [x]) (ap_g f w g a x) ?_ hd
    have hx : ∀ y, y ∈ p → ap_s ap_w x < ap_s ap_w y := fun y hy => (List.pairwise_append.mp (List.pairwise_append.mp hd).1).2.2 y hy x (List.mem_singleton.mpr rfl)
    cases a with
    | none =>
      have hp : p = [] := h
      rw [hp]
      refine ⟨List.mem_singleton.mpr rfl, fun y hy => ?_⟩
      rw [List.mem_singleton.mp hy]
      exact Or.inr ⟨rfl, rfl, Nat.le_refl _⟩
    | some b =>
      obtain ⟨h1, h2⟩ := h
      unfold ap_g
      by_cases hlt : ap_lt f w g b x
      · show ap_ok f w g (p ++ [x]) (if ap_lt f w g b x then some x else some b)
        rw [if_pos hlt]
        refine ⟨List.mem_append.mpr (Or.inr (List.mem_singleton.mpr rfl)), fun y hy => ?_⟩
        rcases List.mem_append.mp hy with hy | hy
        · left
          have hb := h2 y hy
          unfold ap_lt at hlt hb ⊢
          omega
        · rw [List.mem_singleton.mp hy]
          exact Or.inr ⟨rfl, rfl, Nat.le_refl _⟩
      · show ap_ok f w g (p ++ [x]) (if ap_lt f w g b x then some x else some b)
        rw [if_neg hlt]
        refine ⟨List.mem_append.mpr (Or.inl h1), fun y hy => ?_⟩
        rcases List.mem_append.mp hy with hy | hy
        · exact h2 y hy
        · rw [List.mem_singleton.mp hy]
          have := hx b h1
          unfold ap_lt at hlt ⊢
          omega
/-- the best of all sets is the table's -/
theorem ap_all {f w : Nat → Nat} {S m nd : Nat} {b : List Nat} (hf : ∀ i, i ∈ List.range' 0 S → f i ≤ 4) (hS : S ≤ 24) (hm : m ≤ S) (h : ap_ok f w nd (ap_cb m (List.range' 0 S)) (some b)) : b.Sublist (List.range' 0 S) ∧ b.length = m ∧ ap_B f (ap_v w) S 0 m (min nd (ap_m f (List.range' 0 S) m)) = some (ap_s (ap_v w) b) := by
  obtain ⟨h1, h2⟩ := h
  obtain ⟨b1, b2⟩ := (ap_cb_mem _ _ _).mp h1
  refine ⟨b1, b2, ?_⟩
  refine ap_b_uniq (ap_B_is S 0 m _) ?_
  have len : (List.range' 0 S).length = S := List.length_range'
  obtain ⟨x, x1, x2, x3⟩ := ap_m_ex (f := f) (List.range' 0 S) m hf (by rw [len]; exact hm)
  have up : ∀ y, y.Sublist (List.range' 0 S) → y.length = m → ap_s f y ≤ ap_m f (List.range' 0 S) m := fun y y1 y2 => by
    have := ap_m_ge hf y1
    rw [y2] at this
    exact this
  have hx := h2 x ((ap_cb_mem _ _ _).mpr ⟨x1, x2⟩)
  have ub := up b b1 b2
  have key : min nd (ap_m f (List.range' 0 S) m) ≤ ap_s f b := by
    unfold ap_lt at hx
    omega
  refine ⟨⟨b, ⟨b1, b2, key⟩, rfl⟩, fun y hy => ?_⟩
  have hy2 := h2 y ((ap_cb_mem _ _ _).mpr ⟨hy.1, hy.2.1⟩)
  have uy := up y hy.1 hy.2.1
  have l1 := ap_w_lt S 0 y (by omega) hy.1
  have e24 : (2 : Nat) ^ (24 - 0) = 16777216 := by decide
  rw [e24] at l1
  have k2 := hy.2.2
  rw [ap_v_s, ap_v_s]
  unfold ap_lt at hy2
  have eK := ap_Kv
  have hw : ap_s w y ≤ ap_s w b := by omega
  by_cases e : ap_s w y = ap_s w b
  · have : ap_s ap_w y ≤ ap_s ap_w b := by omega
    rw [e]
    omega
  · have : (ap_s w y + 1) * ap_K ≤ ap_s w b * ap_K := Nat.mul_le_mul_right _ (by omega)
    rw [Nat.add_mul, Nat.one_mul] at this
    omega
/-- the tiles of a set -/
def ap_o (O : Nat → Int32) (p : Int64) : List Nat → Int64
  | [] => p
  | i :: x => ap_o O (p ||| (1 <<< ((O i).toInt64 &&& 63))) x
theorem ap_o_tl {O : Nat → Int32} {S N : Nat} (hS : S ≤ 24) : ∀ (d s : Nat) (x : List Nat), s + d = S → x.Sublist (List.range' s d) → N % 2 ^ (24 - s) = ap_s ap_w x → ap_o O (as_tl O (Int64.ofNat N) s) x = as_tl O (Int64.ofNat N) S
  | 0, s, x, hs, h, _ => by
    rw [List.sublist_nil.mp h, show S = s by omega]
    rfl
  | d + 1, s, x, hs, h, hN => by
    have p1 : 2 ^ (24 - (s + 1)) = 2 ^ (23 - s) := by rw [show 24 - (s + 1) = 23 - s by omega]
    have p2 : 2 ^ (24 - s) = 2 ^ (23 - s) * 2 := by rw [show 24 - s = (23 - s) + 1 by omega, Nat.pow_succ]
    have m1 : N % (2 ^ (23 - s) * 2) / 2 ^ (23 - s) = N / 2 ^ (23 - s) % 2 := Nat.mod_mul_right_div_self N (2 ^ (23 - s)) 2
    have m2 : N % (2 ^ (23 - s) * 2) % 2 ^ (23 - s) = N % 2 ^ (23 - s) := Nat.mod_mod_of_dvd N ⟨2, rfl⟩
    have pp : 0 < 2 ^ (23 - s) := Nat.two_pow_pos _
    have bit := ap_bit (N := N) (i := s) (by omega)
    rw [p2] at hN
    rw [List.range'_succ] at h
    rcases List.sublist_cons_iff.mp h with h1 | ⟨r, rfl, h1⟩
    · have no := ap_o_tl (N := N) (O := O) hS d (s + 1) x (by omega) h1
      have n2 := ap_w_lt d (s + 1) x (by omega) h1
      rw [p1] at no n2
      rw [as_tl] at no
      rw [hN] at m1 m2
      generalize ap_s ap_w x = nn at *
      generalize 2 ^ (23 - s) = p at *
      have q1 : nn / p = 0 := Nat.div_eq_of_lt n2
      have q2 : nn % p = nn := Nat.mod_eq_of_lt n2
      rw [if_pos (bit.mpr (by omega))] at no
      exact no (by omega)
    · have yes := ap_o_tl (N := N) (O := O) hS d (s + 1) r (by omega) h1
      have n1 := ap_w_lt d (s + 1) r (by omega) h1
      rw [p1] at yes n1
      rw [as_tl] at yes
      have hN' : N % (2 ^ (23 - s) * 2) = 2 ^ (23 - s) + ap_s ap_w r := hN
      rw [hN'] at m1 m2
      generalize ap_s ap_w r = nn at *
      generalize 2 ^ (23 - s) = p at *
      have q1 : (p + nn) / p = 1 := by
        rw [Nat.add_div_left nn pp, Nat.div_eq_of_lt n1]
      have q2 : (p + nn) % p = nn := by
        rw [Nat.add_mod_left, Nat.mod_eq_of_lt n1]
      rw [if_neg (fun q => by
        have := bit.mp q
        omega)] at yes
      exact yes (by omega)
/-- the next set -/
def ap_x (S : Nat) : List Nat → Option (List Nat)
  | [] => none
  | a :: l =>
    match ap_x S l with
    | some y => some (a :: y)
    | none => if a + 1 + (l.length + 1) ≤ S then some (List.range' (a + 1) (l.length + 1)) else none
def ap_h (S : Nat) : List Nat → List (List Nat) → Bool
  | x, [] => decide (ap_x S x = none)
  | x, y :: l => decide (ap_x S x = some y) && ap_h S y l
theorem ap_x_cons {S a : Nat} {v : List Nat} (h : ap_x S v = none) : ap_x S (a :: v) = if a + 1 + (v.length + 1) ≤ S then some (List.range' (a + 1) (v.length + 1)) else none := by
  rw [ap_x, h]
theorem ap_x_cons' {S a : Nat} {v y : List Nat} (h : ap_x S v = some y) : ap_x S (a :: v) = some (a :: y) := by
  rw [ap_x, h]
theorem ap_h_map {S s k : Nat} {t : List (List Nat)} (ht : t = [] ∧ ¬ s + 1 + (k + 1) ≤ S ∨ ∃ l2, t = List.range' (s + 1) (k + 1) :: l2 ∧ s + 1 + (k + 1) ≤ S ∧ ap_h S (List.range' (s + 1) (k + 1)) l2 = true) : ∀ (l : List (List Nat)) (x : List Nat), (∀ y, y ∈ x :: l → y.length = k) → ap_h S x l = true → ap_h S (s :: x) (l.map (fun y => s :: y) ++ t) = true
  | [], x, hk, h => by
    have hx := hk x List.mem_cons_self
    have h0 : ap_x S x = none := of_decide_eq_true h
    have h1 := ap_x_cons (a := s) h0
    rw [hx] at h1
    rw [List.map_nil, List.nil_append]
    rcases ht with ⟨rfl, h2⟩ | ⟨l2, rfl, h2, h3⟩
    · rw [if_neg h2] at h1
      exact decide_eq_true h1
    · rw [if_pos h2] at h1
      rw [ap_h, Bool.and_eq_true]
      exact ⟨decide_eq_true h1, h3⟩
  | y :: l, x, hk, h => by
    rw [ap_h, Bool.and_eq_true] at h
    have h0 : ap_x S x = some y := of_decide_eq_true h.1
    rw [List.map_cons, List.cons_append, ap_h, Bool.and_eq_true]
    exact ⟨decide_eq_true (ap_x_cons' h0), ap_h_map ht l y (fun z hz => hk z (List.mem_cons_of_mem x hz)) h.2⟩
theorem ap_h_all {S : Nat} : ∀ (d s k : Nat), s + d = S → (k ≤ d → ∃ l, ap_cb k (List.range' s d) = List.range' s k :: l ∧ ap_h S (List.range' s k) l = true) ∧ (d < k → ap_cb k (List.range' s d) = [])
  | 0, s, 0, _ => ⟨fun _ => ⟨[], by rw [ap_cb]; rfl, rfl⟩, fun h => absurd h (Nat.lt_irrefl _)⟩
  | 0, s, k + 1, _ => ⟨fun h => absurd h (by omega), fun _ => rfl⟩
  | d + 1, s, 0, _ => ⟨fun _ => ⟨[], by rw [ap_cb]; rfl, rfl⟩, fun h => absurd h (by omega)⟩
  | d + 1, s, k + 1, hs => by
    obtain ⟨a1, a2⟩ := ap_h_all (S := S) d (s + 1) k (by omega)
    obtain ⟨b1, b2⟩ := ap_h_all (S := S) d (s + 1) (k + 1) (by omega)
    rw [List.range'_succ, ap_cb]
    constructor
    · intro hk
      obtain ⟨l1, e1, c1⟩ := a1 (by omega)
      have hlen : ∀ y, y ∈ List.range' (s + 1) k :: l1 → y.length = k := fun y hy => by
        rw [← e1] at hy
        exact ((ap_cb_mem _ _ y).mp hy).2
      rw [e1, List.map_cons, List.cons_append, List.range'_succ]
      refine ⟨_, rfl, ap_h_map ?_ l1 _ hlen c1⟩
      by_cases h : k + 1 ≤ d
      · obtain ⟨l2, e2, c2⟩ := b1 h
        exact Or.inr ⟨l2, e2, by omega, c2⟩
      · exact Or.inl ⟨b2 (by omega), by omega⟩
    · intro hk
      rw [a2 (by omega), b2 (by omega)]
      rfl
def ap_nb : Nat → Nat → Nat
  | _, 0 => 1
  | 0, _ + 1 => 0
  | n + 1, k + 1 => ap_nb n k + ap_nb n (k + 1)
theorem ap_nb_len : ∀ (l : List Nat) (k : Nat), (ap_cb k l).length = ap_nb l.length k
  | l, 0 => by
    rw [ap_cb]
    cases l <;> rfl
  | [], k + 1 => rfl
  | a :: l, k + 1 => by
    rw [ap_cb, List.length_append, List.length_map, ap_nb_len l k, ap_nb_len l (k + 1), List.length_cons, ap_nb]
theorem ap_nb24 : ∀ S, S < 25 → ∀ k, k < 4 → ap_nb S k ≤ 2024 := by decide +kernel
theorem ap_h24 {S k : Nat} (hS : S ≤ 24) (hk : k ≤ 3) (hkS : k ≤ S) : ∃ l, ap_cb k (List.range' 0 S) = List.range' 0 k :: l ∧ ap_h S (List.range' 0 k) l = true ∧ l.length < 2024 := by
  obtain ⟨l, e, h⟩ := (ap_h_all (S := S) S 0 k (by omega)).1 hkS
  refine ⟨l, e, h, ?_⟩
  have h1 := ap_nb_len (List.range' 0 S) k
  rw [e, List.length_cons, List.length_range'] at h1
  have h2 := ap_nb24 S (by omega) k (by omega)
  omega
