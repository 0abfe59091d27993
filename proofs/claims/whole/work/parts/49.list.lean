/-! THE JDK'S LISTS WRITTEN: remove, add, grow -/
theorem aw_seta {h : am_H} {k : Nat} {c : am_C} : (am_set h k c).1 k = some c := if_pos (Eq.refl k)
theorem aw_setn {h : am_H} {k j : Nat} {c : am_C} (e : ¬ j = k) : (am_set h k c).1 j = h.1 j := if_neg e
theorem aw_set2 {h : am_H} {k : Nat} {c c' : am_C} : am_set (am_set h k c) k c' = am_set h k c' := by
  refine Prod.ext (funext fun j => ?_) rfl
  show (if j = k then some c' else if j = k then some c else h.1 j) = if j = k then some c' else h.1 j
  by_cases e : j = k
  · rw [if_pos e, if_pos e]
  · rw [if_neg e, if_neg e, if_neg e]
theorem aw_setc {h : am_H} {k i : Nat} {c c' : am_C} (e : ¬ k = i) : am_set (am_set h k c) i c' = am_set (am_set h i c') k c := by
  refine Prod.ext (funext fun j => ?_) rfl
  show (if j = i then some c' else if j = k then some c else h.1 j) = if j = k then some c else if j = i then some c' else h.1 j
  by_cases e1 : j = k
  · subst e1
    rw [if_neg e, if_pos rfl, if_pos rfl]
  · by_cases e2 : j = i
    · rw [if_pos e2, if_neg e1, if_pos e2]
    · rw [if_neg e2, if_neg e1, if_neg e1, if_neg e2]
theorem aw_fitset {h : am_H} {k t t' : Nat} {vs vs' : List Value} {x : Value} (h0 : h.1 k = some (t, vs)) : am_fitq (am_set h k (t, vs')) t' x = am_fitq h t' x := by
  cases x with
  | ref r =>
    by_cases e : r = k
    · subst e
      unfold am_fitq
      dsimp only
      rw [aw_seta, h0]
    · unfold am_fitq
      dsimp only
      rw [aw_setn e]
  | _ => rfl
theorem aw_asq {h : am_H} {d k : Nat} {vs : List Value} {v : Value} (h0 : h.1 d = some (53, vs)) (hf : am_fitq h 53 v = true) (hk : k < vs.length) (h9 : k ≤ 50000) : am_asq h d (Int32.ofNat k) v = some (am_set h d (53, vs.set k v)) := by
  unfold am_asq
  rw [h0, Option.bind_some]
  dsimp only
  rw [if_pos ⟨Or.inl rfl, hf⟩]
  unfold am_ix
  rw [if_neg (am_I.nat (show k < k + 1 by omega) (by omega) : am_I (Int32.ofNat k) (k + 1)).1, Option.bind_some, am_tcn (by omega), if_pos hk]
theorem aw_copy {h : am_H} {d0 d1 s d m t : Nat} {v0 v1 : List Value} (h0 : h.1 d0 = some (t, v0)) (ht : t = 53 ∨ t = 63) (h1 : h.1 d1 = some (53, v1)) (b0 : s + m ≤ v0.length) (b1 : d + m ≤ v1.length) (hs : s ≤ 50000) (hm : m ≤ 50000) (hd : d ≤ 50000) (hf : ((v0.drop s).take m).all (am_fitq h 53) = true) : am_copy h d0 d1 (Int32.ofNat s) (Int32.ofNat d) (Int32.ofNat m) = some (am_set h d1 (53, v1.take d ++ (v0.drop s).take m ++ v1.drop (d + m))) := by
  have e : ∀ k, k ≤ 50000 → am_ix (Int32.ofNat k) = some k := fun k hk => by
    unfold am_ix
    rw [if_neg (am_I.nat (show k < k + 1 by omega) (by omega) : am_I (Int32.ofNat k) (k + 1)).1, am_tcn (by omega)]
  unfold am_copy
  rw [h0, Option.bind_some, h1, Option.bind_some, e s hs, Option.bind_some, e d hd, Option.bind_some, e m hm, Option.bind_some]
  dsimp only
  rw [if_pos ⟨ht, rfl, b0, b1, hf⟩]
def aw_rm (vs : List Value) (i n : Nat) : List Value := (vs.take i ++ (vs.drop (i + 1)).take (n - 1 - i) ++ vs.drop (n - 1)).set (n - 1) .null
theorem aw_rm_last {vs : List Value} {n : Nat} (h : 1 ≤ n) : aw_rm vs (n - 1) n = vs.set (n - 1) .null := by
  unfold aw_rm
  rw [show n - 1 - (n - 1) = 0 by omega, List.take_zero, List.append_nil, List.take_append_drop]
theorem mc256 {h : am_H} {a d i n v : Nat} {m : Int32} {vs : List Value} (h0 : h.1 a = some (0, [.int m, .ref d, .int (Int32.ofNat n)])) (h1 : h.1 d = some (53, vs)) (had : ¬ a = d) (hi : i < n) (hn : n ≤ vs.length) (h9 : n ≤ 40000) (hv : vs[i]? = some (.ref v)) (hf : ∀ x ∈ vs, am_fitq h 53 x = true) : am_exec 256 0 [.ref a, .int (Int32.ofNat i), am_U, am_U] [] h = some (.inl (some (.ref v)), am_set (am_set h a (0, [.int (m + 1), .ref d, .int (Int32.ofNat (n - 1))])) d (53, aw_rm vs i n)) := by
  have g0 := aw_getf (b := 0) h0 rfl
  have g1 := aw_getf (b := 1) h0 rfl
  have g2 := aw_getf (b := 2) h0 rfl
  have s0 := aw_isa h0
  have e1 : ¬ Int32.ofNat i < 0 := (am_I.nat hi (by omega)).1
  have e2 : Int32.ofNat i < Int32.ofNat n := (am_lt_nat (by omega) (by omega)).mpr hi
  have e3 : am_ald h d [53, 54, 63] 2 (Int32.ofNat i) = some (.ref v) := by
    refine aw_ald2 h1 (by decide) e1 ?_ rfl
    rw [am_tcn (by omega)]
    exact hv
  have e4 : Int32.ofNat n - 1 = Int32.ofNat (n - 1) := (Int32.ofNat_sub n 1 (by omega)).symm
  have p1 : am_putf h a 0 0 0 (.int (m + 1)) = some (am_set h a (0, [.int (m + 1), .ref d, .int (Int32.ofNat n)])) := aw_putf h0 (Nat.le_of_ble_eq_true rfl) rfl
  have k0 : (am_set h a (0, [.int (m + 1), .ref d, .int (Int32.ofNat n)])).1 a = some (0, [.int (m + 1), .ref d, .int (Int32.ofNat n)]) := aw_seta
  have k1 : (am_set h a (0, [.int (m + 1), .ref d, .int (Int32.ofNat n)])).1 d = some (53, vs) := by rw [aw_setn (fun e => had e.symm), h1]
  have g3 := aw_getf (b := 2) k0 rfl
  have e5 : (Int32.ofNat (n - 1) ≤ Int32.ofNat i) = (n - 1 ≤ i) := am_le_nat (by omega) (by omega)
  have main : am_exec 257 0 [.ref a, .ref d, .int (Int32.ofNat i), am_U] [] h = some (.inl none, am_set (am_set h a (0, [.int (m + 1), .ref d, .int (Int32.ofNat (n - 1))])) d (53, aw_rm vs i n)) := by
    by_cases c : n - 1 ≤ i
    · have e6 : i = n - 1 := by omega
      have p2 : am_putf (am_set h a (0, [.int (m + 1), .ref d, .int (Int32.ofNat n)])) a 0 2 0 (.int (Int32.ofNat (n - 1))) = some (am_set h a (0, [.int (m + 1), .ref d, .int (Int32.ofNat (n - 1))])) := by
        refine (aw_putf k0 (Nat.le_of_ble_eq_true rfl) rfl).trans ?_
        rw [aw_set2]
        rfl
      have k2 : (am_set h a (0, [.int (m + 1), .ref d, .int (Int32.ofNat (n - 1))])).1 d = some (53, vs) := by rw [aw_setn (fun e => had e.symm), h1]
      have q1 := aw_asq (k := n - 1) (v := .null) k2 rfl (by omega) (by omega)
      rw [e6, aw_rm_last (by omega)]
      have c1 : n - 1 ≤ n - 1 := Nat.le_refl _
      have e5' : (Int32.ofNat (n - 1) ≤ Int32.ofNat (n - 1)) = True := eq_true (Int32.le_refl _)
      simp only [am_e257_0, am_e257_5, am_e257_10, am_e257_14, am_e257_34, am_e257_22, am_e257_41, am_e257_43, am_bk, am_pu1, am_pu0, Option.bind_some, eq_self, am_nli, am_nlr, am_nln, am_nlu, if_true, if_false, not_true_eq_false, not_false_eq_true, am_10, am_01, g0, p1, g3, e4, e5', p2, q1]
    · have c1 : Int32.ofNat i + 1 = Int32.ofNat (i + 1) := am_succ
      have c2 : Int32.ofNat (n - 1) - Int32.ofNat i = Int32.ofNat (n - 1 - i) := (Int32.ofNat_sub (n - 1) i (by omega)).symm
      have q0 := aw_copy (s := i + 1) (d := i) (m := n - 1 - i) k1 (Or.inl rfl) k1 (by omega) (by omega) (by omega) (by omega) (by omega) (List.all_eq_true.mpr fun x hx => by
        rw [aw_fitset h0]
        exact hf x (List.drop_subset _ _ (List.take_subset _ _ hx)))
      rw [show i + (n - 1 - i) = n - 1 by omega] at q0
      have k2 : (am_set (am_set h a (0, [.int (m + 1), .ref d, .int (Int32.ofNat n)])) d (53, vs.take i ++ (vs.drop (i + 1)).take (n - 1 - i) ++ vs.drop (n - 1))).1 a = some (0, [.int (m + 1), .ref d, .int (Int32.ofNat n)]) := by rw [aw_setn had, k0]
      have p2 : am_putf (am_set (am_set h a (0, [.int (m + 1), .ref d, .int (Int32.ofNat n)])) d (53, vs.take i ++ (vs.drop (i + 1)).take (n - 1 - i) ++ vs.drop (n - 1))) a 0 2 0 (.int (Int32.ofNat (n - 1))) = some (am_set (am_set h a (0, [.int (m + 1), .ref d, .int (Int32.ofNat (n - 1))])) d (53, vs.take i ++ (vs.drop (i + 1)).take (n - 1 - i) ++ vs.drop (n - 1))) := by
        refine (aw_putf k2 (Nat.le_of_ble_eq_true rfl) rfl).trans ?_
        rw [aw_setc (fun e => had e.symm), aw_set2]
        rfl
      have k3 : (am_set (am_set h a (0, [.int (m + 1), .ref d, .int (Int32.ofNat (n - 1))])) d (53, vs.take i ++ (vs.drop (i + 1)).take (n - 1 - i) ++ vs.drop (n - 1))).1 d = some (53, _) := aw_seta
      have q1 := aw_asq (k := n - 1) (v := .null) k3 rfl (by
        rw [List.length_append, List.length_append, List.length_take, List.length_take, List.length_drop, List.length_drop]
        omega) (by omega)
      rw [aw_set2] at q1
      simp only [am_e257_0, am_e257_5, am_e257_10, am_e257_14, am_e257_34, am_e257_22, am_e257_41, am_e257_43, am_bk, am_pu1, am_pu0, Option.bind_some, eq_self, am_nli, am_nlr, am_nln, am_nlu, if_true, if_false, not_true_eq_false, not_false_eq_true, am_10, am_01, g0, p1, g3, e4, e5, c, c1, c2, q0, p2, q1]
      rfl
  simp only [am_e256_0, am_e256_5, am_e256_8, am_e256_13, am_e256_17, am_e256_24, am_e261_0, am_e261_6, am_e264_0, am_e264_4, am_e264_16, am_bk, am_pu1, am_pu0, Option.bind_some, eq_self, am_nli, am_nlr, am_nln, am_nlu, if_true, if_false, not_true_eq_false, not_false_eq_true, am_10, am_01, g1, g2, s0, e1, e2, e3, main]
