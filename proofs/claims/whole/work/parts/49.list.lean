/-! THE JDK'S LISTS WRITTEN: remove, add, grow -/
theorem aw_seta {h : am_H} {k : Nat} {c : am_C} : (am_set h k c).1 k = some c := if_pos (Eq.refl k)
theorem aw_setn {h : am_H} {k j : Nat} {c : am_C} (e : ¬ j = k) : (am_set h k c).1 j = h.1 j := if_neg e
theorem aw_set2 {h : am_H} {k : Nat} {c c' : am_C} : am_set (am_set h k c) k c' = am_set h k c' := by
  refine Prod.ext (funext fun j => ?_) rfl
  show (if j = k then some c' else if j = k then some c else h.1 j) = if j = k then some c' else h.1 j
  by_cases e : j = k
  · rw [if_pos e, if_pos e]
  · rw [if_neg e, if_neg e, if_neg e]
theorem aw_setc {h : am_H} {k i : Nat} {c c' : am_C} (e : ¬ k = i) : am_set (am_set h k c) i c' = am_set (am_set h i c') k c := by
  refine Prod.ext (funext fun j => ?_) rfl
  show (if j = i then some c' else if j = k then some c else h.1 j) = if j = k then some c else if j = i then some c' else h.1 j
  by_cases e1 : j = k
  · subst e1
    rw [if_neg e, if_pos rfl, if_pos rfl]
  · by_cases e2 : j = i
    · rw [if_pos e2, if_neg e1, if_pos e2]
    · rw [if_neg e2, if_neg e1, if_neg e1, if_neg e2]
theorem aw_fitset {h : am_H} {k t t' : Nat} {vs vs' : List Value} {x : Value} (h0 : h.1 k = some (t, vs)) : am_fitq (am_set h k (t, vs')) t' x = am_fitq h t' x := by
  cases x with
  | ref r =>
    by_cases e : r = k
    · subst e
      unfold am_fitq
      dsimp only
      rw [aw_seta, h0]
    · unfold am_fitq
      dsimp only
      rw [aw_setn e]
  | _ => rfl
theorem aw_asq {h : am_H} {d k : Nat} {vs : List Value} {v : Value} (h0 : h.1 d = some (53, vs)) (hf : am_fitq h 53 v = true) (hk : k < vs.length) (h9 : k ≤ 50000) : am_asq h d (Int32.ofNat k) v = some (am_set h d (53, vs.set k v)) := by
  unfold am_asq
  rw [h0, Option.bind_some]
  dsimp only
  rw [if_pos ⟨Or.inl rfl, hf⟩]
  unfold am_ix
  rw [if_neg (am_I.nat (show k < k + 1 by omega) (by omega) : am_I (Int32.ofNat k) (k + 1)).1, Option.bind_some, am_tcn (by omega), if_pos hk]
theorem aw_copy {h : am_H} {d0 d1 s d m t : Nat} {v0 v1 : List Value} (h0 : h.1 d0 = some (t, v0)) (ht : t = 53 ∨ t = 63) (h1 : h.1 d1 = some (53, v1)) (b0 : s + m ≤ v0.length) (b1 : d + m ≤ v1.length) (hs : s ≤ 50000) (hm : m ≤ 50000) (hd : d ≤ 50000) (hf : ((v0.drop s).take m).all (am_fitq h 53) = true) : am_copy h d0 d1 (Int32.ofNat s) (Int32.ofNat d) (Int32.ofNat m) = some (am_set h d1 (53, v1.take d ++ (v0.drop s).take m ++ v1.drop (d + m))) := by
  have e : ∀ k, k ≤ 50000 → am_ix (Int32.ofNat k) = some k := fun k hk => by
    unfold am_ix
    rw [if_neg (am_I.nat (show k < k + 1 by omega) (by omega) : am_I (Int32.ofNat k) (k + 1)).1, am_tcn (by omega)]
  unfold am_copy
  rw [h0, Option.bind_some, h1, Option.bind_some, e s hs, Option.bind_some, e d hd, Option.bind_some, e m hm, Option.bind_some]
  dsimp only
  rw [if_pos ⟨ht, rfl, b0, b1, hf⟩]
def aw_rm (vs : List Value) (i n : Nat) : List Value := (vs.take i ++ (vs.drop (i + 1)).take (n - 1 - i) ++ vs.drop (n - 1)).set (n - 1) .null
theorem aw_rm_last {vs : List Value} {n : Nat} (h : 1 ≤ n) : aw_rm vs (n - 1) n = vs.set (n - 1) .null := by
  unfold aw_rm
  rw [show n - 1 - (n - 1) = 0 by omega, List.take_zero, List.append_nil, List.take_append_drop]
theorem mc256 {h : am_H} {a d i n v : Nat} {m : Int32} {vs : List Value} (h0 : h.1 a = some (0, [.int m, .ref d, .int (Int32.ofNat n)])) (h1 : h.1 d = some (53, vs)) (had : ¬ a = d) (hi : i < n) (hn : n ≤ vs.length) (h9 : n ≤ 40000) (hv : vs[i]? = some (.ref v)) (hf : ∀ x ∈ vs, am_fitq h 53 x = true) : am_exec 256 0 [.ref a, .int (Int32.ofNat i), am_U, am_U] [] h = some (.inl (some (.ref v)), am_set (am_set h a (0, [.int (m + 1), .ref d, .int (Int32.ofNat (n - 1))])) d (53, aw_rm vs i n)) := by
  have g0 := aw_getf (b := 0) h0 rfl
  have g1 := aw_getf (b := 1) h0 rfl
  have g2 := aw_getf (b := 2) h0 rfl
  have s0 := aw_isa h0
  have e1 : ¬ Int32.ofNat i < 0 := (am_I.nat hi (by omega)).1
  have e2 : Int32.ofNat i < Int32.ofNat n := (am_lt_nat (by omega) (by omega)).mpr hi
  have e3 : am_ald h d [53, 54, 63] 2 (Int32.ofNat i) = some (.ref v) := by
    refine aw_ald2 h1 (by decide) e1 ?_ rfl
    rw [am_tcn (by omega)]
    exact hv
  have e4 : Int32.ofNat n - 1 = Int32.ofNat (n - 1) := (Int32.ofNat_sub n 1 (by omega)).symm
  have p1 : am_putf h a 0 0 0 (.int (m + 1)) = some (am_set h a (0, [.int (m + 1), .ref d, .int (Int32.ofNat n)])) := aw_putf h0 (Nat.le_of_ble_eq_true rfl) rfl
  have k0 : (am_set h a (0, [.int (m + 1), .ref d, .int (Int32.ofNat n)])).1 a = some (0, [.int (m + 1), .ref d, .int (Int32.ofNat n)]) := aw_seta
  have k1 : (am_set h a (0, [.int (m + 1), .ref d, .int (Int32.ofNat n)])).1 d = some (53, vs) := by rw [aw_setn (fun e => had e.symm), h1]
  have g3 := aw_getf (b := 2) k0 rfl
  have e5 : (Int32.ofNat (n - 1) ≤ Int32.ofNat i) = (n - 1 ≤ i) := am_le_nat (by omega) (by omega)
  have main : am_exec 257 0 [.ref a, .ref d, .int (Int32.ofNat i), am_U] [] h = some (.inl none, am_set (am_set h a (0, [.int (m + 1), .ref d, .int (Int32.ofNat (n - 1))])) d (53, aw_rm vs i n)) := by
    by_cases c : n - 1 ≤ i
    · have e6 : i = n - 1 := by omega
      have p2 : am_putf (am_set h a (0, [.int (m + 1), .ref d, .int (Int32.ofNat n)])) a 0 2 0 (.int (Int32.ofNat (n - 1))) = some (am_set h a (0, [.int (m + 1), .ref d, .int (Int32.ofNat (n - 1))])) := by
        refine (aw_putf k0 (Nat.le_of_ble_eq_true rfl) rfl).trans ?_
        rw [aw_set2]
        rfl
      have k2 : (am_set h a (0, [.int (m + 1), .ref d, .int (Int32.ofNat (n - 1))])).1 d = some (53, vs) := by rw [aw_setn (fun e => had e.symm), h1]
      have q1 := aw_asq (k := n - 1) (v := .null) k2 rfl (by omega) (by omega)
      rw [e6, aw_rm_last (by omega)]
      have c1 : n - 1 ≤ n - 1 := Nat.le_refl _
      have e5' : (Int32.ofNat (n - 1) ≤ Int32.ofNat (n - 1)) = True := eq_true (Int32.le_refl _)
      simp only [am_e257_0, am_e257_5, am_e257_10, am_e257_14, am_e257_34, am_e257_22, am_e257_41, am_e257_43, am_bk, am_pu1, am_pu0, Option.bind_some, eq_self, am_nli, am_nlr, am_nln, am_nlu, if_true, if_false, not_true_eq_false, not_false_eq_true, am_10, am_01, g0, p1, g3, e4, e5', p2, q1]
    · have c1 : Int32.ofNat i + 1 = Int32.ofNat (i + 1) := am_succ
      have c2 : Int32.ofNat (n - 1) - Int32.ofNat i = Int32.ofNat (n - 1 - i) := (Int32.ofNat_sub (n - 1) i (by omega)).symm
      have q0 := aw_copy (s := i + 1) (d := i) (m := n - 1 - i) k1 (Or.inl rfl) k1 (by omega) (by omega) (by omega) (by omega) (by omega) (List.all_eq_true.mpr fun x hx => by
        rw [aw_fitset h0]
        exact hf x (List.drop_subset _ _ (List.take_subset _ _ hx)))
      rw [show i + (n - 1 - i) = n - 1 by omega] at q0
      have k2 : (am_set (am_set h a (0, [.int (m + 1), .ref d, .int (Int32.ofNat n)])) d (53, vs.take i ++ (vs.drop (i + 1)).take (n - 1 - i) ++ vs.drop (n - 1))).1 a = some (0, [.int (m + 1), .ref d, .int (Int32.ofNat n)]) := by rw [aw_setn had, k0]
      have p2 : am_putf (am_set (am_set h a (0, [.int (m + 1), .ref d, .int (Int32.ofNat n)])) d (53, vs.take i ++ (vs.drop (i + 1)).take (n - 1 - i) ++ vs.drop (n - 1))) a 0 2 0 (.int (Int32.ofNat (n - 1))) = some (am_set (am_set h a (0, [.int (m + 1), .ref d, .int (Int32.ofNat (n - 1))])) d (53, vs.take i ++ (vs.drop (i + 1)).take (n - 1 - i) ++ vs.drop (n - 1))) := by
        refine (aw_putf k2 (Nat.le_of_ble_eq_true rfl) rfl).trans ?_
        rw [aw_setc (fun e => had e.symm), aw_set2]
        rfl
      have k3 : (am_set (am_set h a (0, [.int (m + 1), .ref d, .int (Int32.ofNat (n - 1))])) d (53, vs.take i ++ (vs.drop (i + 1)).take (n - 1 - i) ++ vs.drop (n - 1))).1 d = some (53, _) := aw_seta
      have q1 := aw_asq (k := n - 1) (v := .null) k3 rfl (by
        rw [List.length_append, List.length_append, List.length_take, List.length_take, List.length_drop, List.length_drop]
        omega) (by omega)
      rw [aw_set2] at q1
      simp only [am_e257_0, am_e257_5, am_e257_10, am_e257_14, am_e257_34, am_e257_22, am_e257_41, am_e257_43, am_bk, am_pu1, am_pu0, Option.bind_some, eq_self, am_nli, am_nlr, am_nln, am_nlu, if_true, if_false, not_true_eq_false, not_false_eq_true, am_10, am_01, g0, p1, g3, e4, e5, c, c1, c2, q0, p2, q1]
      rfl
  simp only [am_e256_0, am_e256_5, am_e256_8, am_e256_13, am_e256_17, am_e256_24, am_e261_0, am_e261_6, am_e264_0, am_e264_4, am_e264_16, am_bk, am_pu1, am_pu0, Option.bind_some, eq_self, am_nli, am_nlr, am_nln, am_nlu, if_true, if_false, not_true_eq_false, not_false_eq_true, am_10, am_01, g1, g2, s0, e1, e2, e3, main]
/-! add -/
theorem aw_acr {h : am_H} {k : Nat} : am_acmp h (.ref k) (.ref k) = some true := by
  show (if k = k then some true else _) = _
  rw [if_pos rfl]
theorem aw_newa {h : am_H} {c : am_C} {n : Nat} : (am_new h c n).1 h.2.1 = some c := if_pos (Eq.refl h.2.1)
theorem aw_newn {h : am_H} {c : am_C} {n j : Nat} (e : ¬ j = h.2.1) : (am_new h c n).1 j = h.1 j := if_neg e
theorem aw_mkarr {h : am_H} {n : Nat} (hn : n ≤ 50000) : am_newa h 53 (Int32.ofNat n) = some (am_new h (53, List.replicate n .null) n) := by
  unfold am_newa am_ix
  rw [if_neg (am_I.nat (show n < n + 1 by omega) (by omega) : am_I (Int32.ofNat n) (n + 1)).1, Option.bind_some, am_tcn (by omega), if_pos (by omega)]
  rfl
theorem aw_fitnew {h : am_H} {c : am_C} {n t : Nat} {x : Value} (hx : am_fitq h t x = true) (hr : ∀ r, x = .ref r → r < h.2.1) : am_fitq (am_new h c n) t x = true := by
  cases x with
  | ref r =>
    have h1 := hr r rfl
    unfold am_fitq at hx ⊢
    dsimp only at hx ⊢
    rw [aw_newn (Nat.ne_of_lt h1)]
    exact hx
  | null => rfl
  | _ => cases hx
theorem aw_len {h : am_H} {d t : Nat} {vs : List Value} (h0 : h.1 d = some (t, vs)) (ht : 50 ≤ t ∧ t < 70) : am_len h d = some (Int32.ofNat vs.length) := by
  unfold am_len
  rw [h0, Option.bind_some, if_pos ht]
theorem aw_half : ∀ c, c ≤ 100 → 1 ≤ c → Int32.ofNat c + am_mx (Int32.ofNat (c + 1) - Int32.ofNat c) (Int32.ofNat c >>> ((1 : Int32) &&& 31)) = Int32.ofNat (c + max 1 (c / 2)) ∧ ¬ Int32.ofNat (c + max 1 (c / 2)) ≤ 0 ∧ ¬ (2147483639 : Int32) < Int32.ofNat (c + max 1 (c / 2)) ∧ am_mi (Int32.ofNat c) (Int32.ofNat (c + max 1 (c / 2))) = Int32.ofNat c ∧ (0 : Int32) < Int32.ofNat c := by decide +kernel
/-- what add does to a list at a, its row at d -/
def aw_ad (h h' : am_H) (a d n v : Nat) (m : Int32) (vs : List Value) : Prop := ∃ (d' : Nat) (vs' : List Value), h'.1 a = some (0, [.int (m + 1), .ref d', .int (Int32.ofNat (n + 1))]) ∧ h'.1 d' = some (53, vs') ∧ n < vs'.length ∧ vs'.length ≤ 10 + 2 * vs.length ∧ (∀ j, j < n → vs'[j]? = vs[j]?) ∧ vs'[n]? = some (.ref v) ∧ (∀ j, n < j → j < vs'.length → vs'[j]? = some .null) ∧ (∀ b, ¬ b = a → ¬ b = d' → h'.1 b = h.1 b) ∧ ((d' = d ∧ vs'.length = vs.length ∧ h'.2 = h.2) ∨ (d' = h.2.1 ∧ vs.length = n ∧ h'.2 = (h.2.1 + 1, h.2.2 + vs'.length)))
theorem mc255 {h : am_H} {a d n v t : Nat} {m : Int32} {vs : List Value} (h0 : h.1 a = some (0, [.int m, .ref d, .int (Int32.ofNat n)])) (h1 : h.1 d = some (t, vs)) (ht : t = 53 ∧ ¬ d = 9 ∧ 1 ≤ vs.length ∨ t = 63 ∧ d = 9 ∧ vs = []) (had : ¬ a = d) (hn : n ≤ vs.length) (h9 : vs.length ≤ 100) (hv : am_fitq h 53 (.ref v) = true) (hva : v < h.2.1) (haa : a < h.2.1) (hdd : d < h.2.1) (hf : ∀ x ∈ vs, am_fitq h 53 x = true ∧ ∀ r, x = .ref r → r < h.2.1) (hz : ∀ j, n ≤ j → j < vs.length → vs[j]? = some Value.null) : ∃ h', am_exec 255 0 [.ref a, .ref v] [] h = some (.inl (some (.int 1)), h') ∧ aw_ad h h' a d n v m vs := by
  have g0 := aw_getf (b := 0) h0 rfl
  have s0 := aw_isa h0
  have p1 : am_putf h a 0 0 0 (.int (m + 1)) = some (am_set h a (0, [.int (m + 1), .ref d, .int (Int32.ofNat n)])) := aw_putf h0 (Nat.le_of_ble_eq_true rfl) rfl
  have k0 : (am_set h a (0, [.int (m + 1), .ref d, .int (Int32.ofNat n)])).1 a = some (0, [.int (m + 1), .ref d, .int (Int32.ofNat n)]) := aw_seta
  have k1 : (am_set h a (0, [.int (m + 1), .ref d, .int (Int32.ofNat n)])).1 d = some (t, vs) := by rw [aw_setn (fun e => had e.symm), h1]
  have hv1 : am_fitq (am_set h a (0, [.int (m + 1), .ref d, .int (Int32.ofNat n)])) 53 (.ref v) = true := by rw [aw_fitset h0]; exact hv
  have hf1 : ∀ x ∈ vs, am_fitq (am_set h a (0, [.int (m + 1), .ref d, .int (Int32.ofNat n)])) 53 x = true ∧ ∀ r, x = .ref r → r < h.2.1 := fun x hx => ⟨by rw [aw_fitset h0]; exact (hf x hx).1, (hf x hx).2⟩
  have hs2 : (am_set h a (0, [.int (m + 1), .ref d, .int (Int32.ofNat n)])).2 = h.2 := rfl
  have hrest : ∀ b, ¬ b = a → (am_set h a (0, [.int (m + 1), .ref d, .int (Int32.ofNat n)])).1 b = h.1 b := fun b hb => aw_setn hb
  generalize am_set h a (0, [.int (m + 1), .ref d, .int (Int32.ofNat n)]) = h2 at p1 k0 k1 hv1 hf1 hs2 hrest
  have g1 := aw_getf (b := 1) k0 rfl
  have g2 := aw_getf (b := 2) k0 rfl
  have s2 := aw_isa k0
  have e1 : Int32.ofNat n + 1 = Int32.ofNat (n + 1) := am_succ
  have l1 := aw_len k1 (by rcases ht with ⟨rfl, -⟩ | ⟨rfl, -⟩ <;> exact ⟨by decide, by decide⟩)
  have main : ∃ h', am_exec 254 0 [.ref a, .ref v, .ref d, .int (Int32.ofNat n)] [] h2 = some (.inl none, h') ∧ aw_ad h h' a d n v m vs := by
    rcases Nat.lt_or_ge n vs.length with c | c
    · -- it fits
      have ht53 : t = 53 := by
        rcases ht with ⟨h, -⟩ | ⟨-, -, h⟩
        · exact h
        · subst h; exact absurd c (Nat.not_lt_zero n)
      subst ht53
      have c2 : ¬ Int32.ofNat n = Int32.ofNat vs.length := fun e => by
        have := congrArg Int32.toNatClampNeg e
        rw [am_tcn (by omega), am_tcn (by omega)] at this
        omega
      have q1 := aw_asq (k := n) k1 hv1 c (by omega)
      have k2 : (am_set h2 d (53, vs.set n (.ref v))).1 a = some (0, [.int (m + 1), .ref d, .int (Int32.ofNat n)]) := by rw [aw_setn had, k0]
      have p2 : am_putf (am_set h2 d (53, vs.set n (.ref v))) a 0 2 0 (.int (Int32.ofNat (n + 1))) = some (am_set (am_set h2 d (53, vs.set n (.ref v))) a (0, [.int (m + 1), .ref d, .int (Int32.ofNat (n + 1))])) := aw_putf k2 (Nat.le_of_ble_eq_true rfl) rfl
      refine ⟨am_set (am_set h2 d (53, vs.set n (.ref v))) a (0, [.int (m + 1), .ref d, .int (Int32.ofNat (n + 1))]), by simp only [am_e254_0, am_e254_3, am_e254_11, am_e254_6, am_e254_15, am_e254_10, am_e254_22, am_bk, am_pu1, am_pu0, Option.bind_some, eq_self, am_nli, am_nlr, am_nln, am_nlu, if_true, if_false, not_true_eq_false, not_false_eq_true, am_10, am_01, l1, c2, q1, e1, p2], d, vs.set n (.ref v), aw_seta, ?_, ?_, ?_, ?_, ?_, ?_, ?_, ?_⟩
      · rw [aw_setn (fun e => had e.symm), aw_seta]
      · rw [List.length_set]; exact c
      · rw [List.length_set]; omega
      · intro j hj; rw [List.getElem?_set_ne (by omega)]
      · rw [List.getElem?_set_self c]
      · intro j hj hl; rw [List.getElem?_set_ne (by omega)]; exact hz j (by omega) (by rw [List.length_set] at hl; exact hl)
      · intro b hb hb2; rw [aw_setn hb, aw_setn hb2, hrest b hb]
      · exact Or.inl ⟨rfl, List.length_set, hs2⟩
    · have hne : n = vs.length := by omega
      have c2 : Int32.ofNat n = Int32.ofNat vs.length := by rw [hne]
      -- the new row
      have grow : ∃ (h3 : am_H) (N : Nat), am_exec 249 0 [.ref a, .int (Int32.ofNat (n + 1)), am_U, am_U] [] h2 = some (.inl (some (.ref h.2.1)), h3) ∧ n < N ∧ N ≤ 10 + 2 * vs.length ∧ h3.1 h.2.1 = some (53, vs ++ List.replicate (N - n) Value.null) ∧ h3.1 a = some (0, [.int (m + 1), .ref h.2.1, .int (Int32.ofNat n)]) ∧ (∀ b, ¬ b = a → ¬ b = h.2.1 → h3.1 b = h.1 b) ∧ h3.2 = (h.2.1 + 1, h.2.2 + N) := by
        have ha2 : ¬ a = h.2.1 := by omega
        have hd2 : ¬ d = h.2.1 := by omega
        rcases ht with ⟨rfl, hd9, hl⟩ | ⟨rfl, hd9, hl⟩
        · -- a longer one
          obtain ⟨y1, y2, y3, y4, y5⟩ := aw_half vs.length h9 hl
          have nw := aw_mkarr (h := h2) (n := vs.length + max 1 (vs.length / 2)) (by omega)
          have w0 : (am_new h2 (53, List.replicate (vs.length + max 1 (vs.length / 2)) Value.null) (vs.length + max 1 (vs.length / 2))).1 h.2.1 = some (53, List.replicate (vs.length + max 1 (vs.length / 2)) Value.null) := by
            have := aw_newa (h := h2) (c := (53, List.replicate (vs.length + max 1 (vs.length / 2)) Value.null)) (n := vs.length + max 1 (vs.length / 2))
            rw [show h2.2.1 = h.2.1 from congrArg Prod.fst hs2] at this
            exact this
          have hne2 : ∀ j, ¬ j = h.2.1 → ¬ j = h2.2.1 := fun j hj => by rw [show h2.2.1 = h.2.1 from congrArg Prod.fst hs2]; exact hj
          have w1 : (am_new h2 (53, List.replicate (vs.length + max 1 (vs.length / 2)) Value.null) (vs.length + max 1 (vs.length / 2))).1 d = some (53, vs) := by rw [aw_newn (hne2 _ hd2), k1]
          have w2 := aw_len w1 ⟨by decide, by decide⟩
          have w3 := aw_copy (s := 0) (d := 0) (m := vs.length) w1 (Or.inl rfl) w0 (by omega) (by rw [List.length_replicate]; omega) (by omega) (by omega) (by omega) (List.all_eq_true.mpr fun x hx => by
            have hx := List.mem_of_mem_take hx
            rw [List.drop_zero] at hx
            exact aw_fitnew (hf1 x hx).1 (fun r hr => by rw [show h2.2.1 = h.2.1 from congrArg Prod.fst hs2]; exact (hf1 x hx).2 r hr))
          rw [List.take_zero, List.nil_append, List.drop_zero, List.take_length, Nat.zero_add, List.drop_replicate, show vs.length + max 1 (vs.length / 2) - vs.length = max 1 (vs.length / 2) by omega] at w3
          have w4 : (am_set (am_new h2 (53, List.replicate (vs.length + max 1 (vs.length / 2)) Value.null) (vs.length + max 1 (vs.length / 2))) h.2.1 (53, vs ++ List.replicate (max 1 (vs.length / 2)) Value.null)).1 a = some (0, [.int (m + 1), .ref d, .int (Int32.ofNat n)]) := by rw [aw_setn ha2, aw_newn (hne2 _ ha2), k0]
          have w5 : am_putf (am_set (am_new h2 (53, List.replicate (vs.length + max 1 (vs.length / 2)) Value.null) (vs.length + max 1 (vs.length / 2))) h.2.1 (53, vs ++ List.replicate (max 1 (vs.length / 2)) Value.null)) a 0 1 2 (.ref h.2.1) = some (am_set (am_set (am_new h2 (53, List.replicate (vs.length + max 1 (vs.length / 2)) Value.null) (vs.length + max 1 (vs.length / 2))) h.2.1 (53, vs ++ List.replicate (max 1 (vs.length / 2)) Value.null)) a (0, [.int (m + 1), .ref h.2.1, .int (Int32.ofNat n)])) := aw_putf w4 (Nat.le_of_ble_eq_true rfl) rfl
          have w6 := aw_isa k1
          have w7 : am_acmp h2 (.ref 10) (.ref 10) = some true := aw_acr
          refine ⟨am_set (am_set (am_new h2 (53, List.replicate (vs.length + max 1 (vs.length / 2)) Value.null) (vs.length + max 1 (vs.length / 2))) h.2.1 (53, vs ++ List.replicate (max 1 (vs.length / 2)) Value.null)) a (0, [.int (m + 1), .ref h.2.1, .int (Int32.ofNat n)]), vs.length + max 1 (vs.length / 2), ?_, by omega, by omega, ?_, aw_seta, ?_, ?_⟩
          rotate_left
          · rw [aw_setn (fun e => ha2 e.symm), aw_seta, show vs.length + max 1 (vs.length / 2) - n = max 1 (vs.length / 2) by omega]
          · intro b hb hb2
            rw [aw_setn hb, aw_setn hb2, aw_newn (hne2 _ hb2), hrest b hb]
          · show (h2.2.1 + 1, h2.2.2 + (vs.length + max 1 (vs.length / 2))) = _
            rw [hs2]
          · rw [← hne] at y1 y2 y3 y4 y5 nw w2 w3 l1 w5
            have z0 : Int32.ofNat 0 = (0 : Int32) := rfl
            rw [z0] at w3
            rw [← hne]
            simp only [am_e249_0, am_e249_4, am_e249_5, am_e249_20, am_e249_10, am_e249_30, am_e249_14, am_e249_36, am_e249_45, am_e249_40, am_e249_55, am_e249_44, am_e249_59, am_e262_0, am_e262_21, am_e262_13, am_e262_26, am_e262_19, am_e259_0, am_e259_9, am_e260_0, am_e260_6, am_e260_10, am_e260_31, am_e260_38, am_bk, am_pu1, am_pu0, Option.bind_some, eq_self, am_nli, am_nlr, am_nln, am_nlu, if_true, if_false, not_true_eq_false, not_false_eq_true, am_10, am_01, g1, l1, y5, y1, y2, y3, w6, w7, nw, w2, y4, hs2, w3, w5]
        · -- the first
          subst hl
          have n0 : n = 0 := by simpa using hne
          subst n0
          subst hd9
          have nw := aw_mkarr (h := h2) (n := 10) (by omega)
          have nw : am_newa h2 53 (am_mx 10 (Int32.ofNat (0 + 1))) = some (am_new h2 (53, List.replicate 10 Value.null) 10) := nw
          have hne2 : ∀ j, ¬ j = h.2.1 → ¬ j = h2.2.1 := fun j hj => by rw [show h2.2.1 = h.2.1 from congrArg Prod.fst hs2]; exact hj
          have w4 : (am_new h2 (53, List.replicate 10 Value.null) 10).1 a = some (0, [.int (m + 1), .ref 9, .int (Int32.ofNat 0)]) := by rw [aw_newn (hne2 _ ha2), k0]
          have w5 : am_putf (am_new h2 (53, List.replicate 10 Value.null) 10) a 0 1 2 (.ref h.2.1) = some (am_set (am_new h2 (53, List.replicate 10 Value.null) 10) a (0, [.int (m + 1), .ref h.2.1, .int (Int32.ofNat 0)])) := aw_putf w4 (Nat.le_of_ble_eq_true rfl) rfl
          have w7 : am_acmp h2 (.ref 9) (.ref 9) = some true := aw_acr
          have l1 : am_len h2 9 = some 0 := l1
          refine ⟨am_set (am_new h2 (53, List.replicate 10 Value.null) 10) a (0, [.int (m + 1), .ref h.2.1, .int (Int32.ofNat 0)]), 10, ?_, by omega, by decide, ?_, aw_seta, ?_, ?_⟩
          rotate_left
          · rw [aw_setn (fun e => ha2 e.symm)]
            have := aw_newa (h := h2) (c := (53, List.replicate 10 Value.null)) (n := 10)
            rw [show h2.2.1 = h.2.1 from congrArg Prod.fst hs2] at this
            exact this
          · intro b hb hb2
            rw [aw_setn hb, aw_newn (hne2 _ hb2), hrest b hb]
          · show (h2.2.1 + 1, h2.2.2 + 10) = _
            rw [hs2]
          · simp only [am_e249_0, am_e249_4, am_e249_5, am_e249_20, am_e249_10, am_e249_30, am_e249_14, am_e249_36, am_e249_45, am_e249_40, am_e249_55, am_e249_44, am_e249_59, am_bk, am_pu1, am_pu0, Option.bind_some, eq_self, am_nli, am_nlr, am_nln, am_nlu, if_true, if_false, not_true_eq_false, not_false_eq_true, am_10, am_01, g1, l1, w7, nw, hs2, w5, show ¬ (0 : Int32) < 0 by decide]
      obtain ⟨h3, N, x1, x2, x3, x4, x5, x6, x7⟩ := grow
      have v3 : am_fitq h3 53 (.ref v) = true := by
        have e : h3.1 v = h.1 v ∨ v = a := by
          by_cases e : v = a
          · exact Or.inr e
          · exact Or.inl (x6 v e (by omega))
        unfold am_fitq at hv ⊢
        dsimp only at hv ⊢
        rcases e with e | e
        · rw [e]; exact hv
        · rw [e, x5]; rfl
      have q1 := aw_asq (k := n) x4 v3 (by rw [List.length_append, List.length_replicate]; omega) (by omega)
      have ha2 : ¬ a = h.2.1 := by omega
      have k2 : (am_set h3 h.2.1 (53, (vs ++ List.replicate (N - n) Value.null).set n (.ref v))).1 a = some (0, [.int (m + 1), .ref h.2.1, .int (Int32.ofNat n)]) := by rw [aw_setn ha2, x5]
      have p2 : am_putf (am_set h3 h.2.1 (53, (vs ++ List.replicate (N - n) Value.null).set n (.ref v))) a 0 2 0 (.int (Int32.ofNat (n + 1))) = some (am_set (am_set h3 h.2.1 (53, (vs ++ List.replicate (N - n) Value.null).set n (.ref v))) a (0, [.int (m + 1), .ref h.2.1, .int (Int32.ofNat (n + 1))])) := aw_putf k2 (Nat.le_of_ble_eq_true rfl) rfl
      have hlen : ((vs ++ List.replicate (N - n) Value.null).set n (.ref v)).length = N := by
        rw [List.length_set, List.length_append, List.length_replicate]; omega
      refine ⟨am_set (am_set h3 h.2.1 (53, (vs ++ List.replicate (N - n) Value.null).set n (.ref v))) a (0, [.int (m + 1), .ref h.2.1, .int (Int32.ofNat (n + 1))]), by simp only [am_e254_0, am_e254_3, am_e254_11, am_e254_6, am_e254_15, am_e254_10, am_e254_22, am_e250_0, am_e250_5, am_e250_10, am_bk, am_pu1, am_pu0, Option.bind_some, eq_self, am_nli, am_nlr, am_nln, am_nlu, if_true, if_false, not_true_eq_false, not_false_eq_true, am_10, am_01, l1, ← c2, g2, s2, e1, x1, q1, p2], h.2.1, (vs ++ List.replicate (N - n) Value.null).set n (.ref v), aw_seta, ?_, by rw [hlen]; exact x2, by rw [hlen]; exact x3, ?_, ?_, ?_, ?_, Or.inr ⟨rfl, hne.symm, ?_⟩⟩
      · rw [aw_setn (fun e => ha2 e.symm), aw_seta]
      · intro j hj; rw [List.getElem?_set_ne (by omega), List.getElem?_append_left (by omega)]
      · rw [List.getElem?_set_self (by rw [List.length_append, List.length_replicate]; omega)]
      · intro j hj hl
        rw [hlen] at hl
        rw [List.getElem?_set_ne (by omega), List.getElem?_append_right (by omega), List.getElem?_replicate, if_pos (by omega)]
      · intro b hb hb2; rw [aw_setn hb, aw_setn hb2, x6 b hb hb2]
      · rw [hlen]; exact x7
  obtain ⟨h', m1, m2⟩ := main
  exact ⟨h', by simp only [am_e255_0, am_e255_5, am_e255_10, am_e255_16, am_e255_20, am_e255_23, am_bk, am_pu1, am_pu0, Option.bind_some, eq_self, am_nli, am_nlr, am_nln, am_nlu, if_true, if_false, not_true_eq_false, not_false_eq_true, am_10, am_01, g0, p1, g1, g2, s2, m1], m2⟩
