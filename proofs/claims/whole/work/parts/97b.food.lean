/-! the most food of k tiles -/
def ap_c (f : Nat → Nat) (a : Nat) : List Nat → Nat
  | [] => 0
  | x :: l => ap_c f a l + if a ≤ f x then 1 else 0
def ap_q (f : Nat → Nat) (a : Nat) : List Nat → Nat
  | [] => 0
  | x :: l => ap_q f a l + if f x = a then 1 else 0
def ap_m (f : Nat → Nat) (l : List Nat) (k : Nat) : Nat := min k (ap_c f 1 l) + min k (ap_c f 2 l) + min k (ap_c f 3 l) + min k (ap_c f 4 l)
theorem ap_c_len {f : Nat → Nat} {a : Nat} : ∀ l : List Nat, ap_c f a l ≤ l.length
  | [] => Nat.le_refl _
  | x :: l => by
    have := ap_c_len (f := f) (a := a) l
    rw [ap_c, List.length_cons]
    split <;> omega
theorem ap_c_mono {f : Nat → Nat} {a b : Nat} (h : a ≤ b) : ∀ l : List Nat, ap_c f b l ≤ ap_c f a l
  | [] => Nat.le_refl _
  | x :: l => by
    have := ap_c_mono (f := f) h l
    rw [ap_c, ap_c]
    split <;> split <;> omega
theorem ap_c_sub {f : Nat → Nat} {a : Nat} {x l : List Nat} (h : x.Sublist l) : ap_c f a x ≤ ap_c f a l := by
  induction h with
  | slnil => exact Nat.le_refl _
  | cons y _ ih =>
    rw [ap_c]
    omega
  | cons_cons y _ ih =>
    rw [ap_c, ap_c]
    omega
theorem ap_c_sum {f : Nat → Nat} : ∀ l : List Nat, (∀ i, i ∈ l → f i ≤ 4) → ap_s f l = ap_c f 1 l + ap_c f 2 l + ap_c f 3 l + ap_c f 4 l
  | [], _ => rfl
  | x :: l, h => by
    have ih := ap_c_sum l (fun i hi => h i (List.mem_cons_of_mem x hi))
    have hx := h x List.mem_cons_self
    rw [ap_s, ap_c, ap_c, ap_c, ap_c, ih]
    have : f x = 0 ∨ f x = 1 ∨ f x = 2 ∨ f x = 3 ∨ f x = 4 := by omega
    rcases this with e | e | e | e | e <;> rw [e] <;> simp only [Nat.reduceLeDiff, if_true, if_false] <;> omega
theorem ap_m_ge {f : Nat → Nat} {x l : List Nat} (hf : ∀ i, i ∈ l → f i ≤ 4) (h : x.Sublist l) : ap_s f x ≤ ap_m f l x.length := by
  have h1 := ap_c_sum x (fun i hi => hf i (h.subset hi))
  have a1 := ap_c_sub (f := f) (a := 1) h
  have a2 := ap_c_sub (f := f) (a := 2) h
  have a3 := ap_c_sub (f := f) (a := 3) h
  have a4 := ap_c_sub (f := f) (a := 4) h
  have b1 := ap_c_len (f := f) (a := 1) x
  have b2 := ap_c_len (f := f) (a := 2) x
  have b3 := ap_c_len (f := f) (a := 3) x
  have b4 := ap_c_len (f := f) (a := 4) x
  unfold ap_m
  omega
theorem ap_m_ex {f : Nat → Nat} : ∀ (l : List Nat) (k : Nat), (∀ i, i ∈ l → f i ≤ 4) → k ≤ l.length → ∃ x, x.Sublist l ∧ x.length = k ∧ ap_m f l k ≤ ap_s f x
  | [], k, _, hk => by
    refine ⟨[], List.Sublist.refl _, ?_, ?_⟩
    · have : k ≤ 0 := hk
      have e : ([] : List Nat).length = 0 := rfl
      omega
    · show min k 0 + min k 0 + min k 0 + min k 0 ≤ 0
      omega
  | a :: l, k, hf, hk => by
    rw [List.length_cons] at hk
    have hf' : ∀ i, i ∈ l → f i ≤ 4 := fun i hi => hf i (List.mem_cons_of_mem a hi)
    have ha := hf a List.mem_cons_self
    by_cases h0 : k = 0
    · refine ⟨[], List.nil_sublist _, h0.symm, ?_⟩
      unfold ap_m
      omega
    · obtain ⟨x, x1, x2, x3⟩ := ap_m_ex l (k - 1) hf' (by omega)
      have c12 := ap_c_mono (f := f) (show 1 ≤ 2 by decide) l
      have c23 := ap_c_mono (f := f) (show 2 ≤ 3 by decide) l
      have c34 := ap_c_mono (f := f) (show 3 ≤ 4 by decide) l
      have cl := ap_c_len (f := f) (a := 1) l
      by_cases h : k ≤ l.length ∧ ap_m f (a :: l) k ≤ ap_m f l k
      · obtain ⟨y, y1, y2, y3⟩ := ap_m_ex l k hf' h.1
        exact ⟨y, List.Sublist.cons a y1, y2, Nat.le_trans h.2 y3⟩
      · refine ⟨a :: x, List.Sublist.cons_cons a x1, by rw [List.length_cons]; omega, ?_⟩
        rw [ap_s]
        refine Nat.le_trans ?_ (Nat.add_le_add_left x3 (f a))
        unfold ap_m at h ⊢
        rw [ap_c, ap_c, ap_c, ap_c] at h ⊢
        generalize ap_c f 1 l = c1 at *
        generalize ap_c f 2 l = c2 at *
        generalize ap_c f 3 l = c3 at *
        generalize ap_c f 4 l = c4 at *
        generalize l.length = n at *
        clear x3 hf hf'
        have : f a = 0 ∨ f a = 1 ∨ f a = 2 ∨ f a = 3 ∨ f a = 4 := by omega
        rcases this with e | e | e | e | e <;> rw [e] at h ⊢ <;> simp only [Nat.reduceLeDiff, if_true, if_false] at h ⊢ <;> omega
theorem ap_c_q {f : Nat → Nat} {a : Nat} : ∀ l : List Nat, ap_c f a l = ap_q f a l + ap_c f (a + 1) l
  | [] => rfl
  | x :: l => by
    rw [ap_c, ap_c, ap_q, ap_c_q l]
    by_cases h1 : f x = a
    · rw [if_pos (by omega), if_pos h1, if_neg (by omega)]
      omega
    · by_cases h2 : a ≤ f x
      · rw [if_pos h2, if_neg h1, if_pos (by omega)]
        omega
      · rw [if_neg h2, if_neg h1, if_neg (by omega)]
        omega
theorem ap_c_5 {f : Nat → Nat} : ∀ l : List Nat, (∀ i, i ∈ l → f i ≤ 4) → ap_c f 5 l = 0
  | [], _ => rfl
  | x :: l, h => by
    have := h x List.mem_cons_self
    rw [ap_c, ap_c_5 l (fun i hi => h i (List.mem_cons_of_mem x hi)), if_neg (by omega)]
theorem am_ofi {a b : Nat} (ha : a ≤ 100000) (hb : b ≤ 100000) : Int32.ofNat a = Int32.ofNat b ↔ a = b := ⟨fun h => by have := congrArg Int32.toNatClampNeg h; rw [am_tcn ha, am_tcn hb] at this; exact this, fun h => by rw [h]⟩
theorem as_ml_q {g : Nat → Int32} {f : Nat → Nat} {a : Nat} (ha : a ≤ 4) : ∀ (m i : Nat) (s : Nat × Nat), (∀ j, j < i + m → g j = Int32.ofNat (f j) ∧ f j < 5) → as_ml g a i m s = (s.1 + a * min s.2 (ap_q f a (List.range' i m)), s.2 - min s.2 (ap_q f a (List.range' i m)))
  | 0, i, s, _ => by
    show s = (s.1 + a * min s.2 0, s.2 - min s.2 0)
    rw [Nat.min_zero, Nat.mul_zero, Nat.add_zero, Nat.sub_zero]
  | m + 1, i, s, h => by
    have ih := as_ml_q ha m (i + 1) (as_mr g a i s) (fun j hj => h j (by omega))
    have e2 : as_ml g a i (m + 1) s = as_ml g a (i + 1) m (as_mr g a i s) := by
      unfold as_ml
      rw [List.range'_succ, List.foldl_cons]
    obtain ⟨gi, fi⟩ := h i (by omega)
    rw [e2, ih, List.range'_succ, ap_q]
    generalize ap_q f a (List.range' (i + 1) m) = c
    unfold as_mr
    by_cases h1 : f i = a
    · rw [if_pos h1]
      by_cases h2 : s.2 = 0
      · rw [if_neg (fun q => q.1 h2), h2, Nat.zero_min, Nat.zero_min]
      · rw [if_pos ⟨h2, by rw [gi, h1]⟩]
        refine Prod.ext ?_ ?_
        · show s.1 + a + a * min (s.2 - 1) c = s.1 + a * min s.2 (c + 1)
          rw [show min s.2 (c + 1) = min (s.2 - 1) c + 1 by omega, Nat.mul_add]
          omega
        · show s.2 - 1 - min (s.2 - 1) c = s.2 - min s.2 (c + 1)
          omega
    · rw [if_neg h1, if_neg (fun q => h1 ((am_ofi (by omega) (by omega)).mp (gi.symm.trans q.2))), Nat.add_zero]
theorem as_mo_m {g : Nat → Int32} {f : Nat → Nat} {S k : Nat} (h : ∀ j, j < S → g j = Int32.ofNat (f j) ∧ f j < 5) : (as_mo g S k).1 = ap_m f (List.range' 0 S) k := by
  have h' : ∀ j, j < 0 + S → g j = Int32.ofNat (f j) ∧ f j < 5 := fun j hj => h j (by omega)
  have c1 : ap_c f 1 (List.range' 0 S) = ap_q f 1 (List.range' 0 S) + ap_c f 2 (List.range' 0 S) := ap_c_q (List.range' 0 S)
  have c2 : ap_c f 2 (List.range' 0 S) = ap_q f 2 (List.range' 0 S) + ap_c f 3 (List.range' 0 S) := ap_c_q (List.range' 0 S)
  have c3 : ap_c f 3 (List.range' 0 S) = ap_q f 3 (List.range' 0 S) + ap_c f 4 (List.range' 0 S) := ap_c_q (List.range' 0 S)
  have c4 : ap_c f 4 (List.range' 0 S) = ap_q f 4 (List.range' 0 S) + ap_c f 5 (List.range' 0 S) := ap_c_q (List.range' 0 S)
  have c5 := ap_c_5 (f := f) (List.range' 0 S) (fun i hi => by
    have h3 := h i (by
      have := List.mem_range'_1.mp hi
      omega)
    omega)
  unfold as_mo ap_m
  rw [as_ml_q (f := f) (by decide) S 0 _ h', as_ml_q (f := f) (by decide) S 0 _ h', as_ml_q (f := f) (by decide) S 0 _ h', as_ml_q (f := f) (by decide) S 0 _ h']
  generalize ap_q f 1 (List.range' 0 S) = q1 at *
  generalize ap_q f 2 (List.range' 0 S) = q2 at *
  generalize ap_q f 3 (List.range' 0 S) = q3 at *
  generalize ap_q f 4 (List.range' 0 S) = q4 at *
  rw [c5] at c4
  show 0 + 4 * min k q4 + 3 * min (k - min k q4) q3 + 2 * min (k - min k q4 - min (k - min k q4) q3) q2 + 1 * min (k - min k q4 - min (k - min k q4) q3 - min (k - min k q4 - min (k - min k q4) q3) q2) q1 = _
  omega
/-! where no set has enough food -/
theorem ap_s_le {v : Nat → Nat} {b : Nat} : ∀ x : List Nat, (∀ i, i ∈ x → v i ≤ b) → ap_s v x ≤ b * x.length
  | [], _ => Nat.zero_le _
  | a :: x, h => by
    have ih := ap_s_le x (fun i hi => h i (List.mem_cons_of_mem a hi))
    have := h a List.mem_cons_self
    rw [ap_s, List.length_cons, Nat.mul_add]
    omega
def ap_w2 (f w : Nat → Nat) (i : Nat) : Nat := w i + 10000 * f i
theorem ap_w2_s {f w : Nat → Nat} : ∀ x : List Nat, ap_s (ap_v (ap_w2 f w)) x = ap_s (ap_v w) x + 167772160000 * ap_s f x
  | [] => rfl
  | a :: x => by
    have e : ap_v (ap_w2 f w) a = ap_v w a + 167772160000 * f a := by
      show (w a + 10000 * f a) * ap_K + _ = w a * ap_K + _ + _
      rw [ap_Kv]
      generalize 2 ^ (23 - a) = p
      omega
    rw [ap_s, ap_s, ap_s, ap_w2_s x, e]
    omega
theorem ap_inf {f w : Nat → Nat} {l : List Nat} {m g N : Nat} (hN : ap_b (ap_P f l m g) (ap_v w) (some N)) (hg : ∀ x, x.Sublist l → x.length = m → ap_s f x ≤ g) (hb : ∀ x, x.Sublist l → x.length = m → ap_s (ap_v w) x < 167772160000) : ap_b (ap_P f l m 0) (ap_v (ap_w2 f w)) (some (N + 167772160000 * g)) := by
  obtain ⟨⟨x, ⟨x1, x2, x3⟩, x4⟩, u⟩ := hN
  have x5 := hg x x1 x2
  refine ⟨⟨x, ⟨x1, x2, Nat.zero_le _⟩, ?_⟩, fun y hy => ?_⟩
  · rw [ap_w2_s, x4, show ap_s f x = g by omega]
  · rw [ap_w2_s]
    have h1 := hg y hy.1 hy.2.1
    have h2 := hb y hy.1 hy.2.1
    by_cases h3 : g ≤ ap_s f y
    · have := u y ⟨hy.1, hy.2.1, h3⟩
      omega
    · omega
