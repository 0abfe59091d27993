/-! OFFERS PUT AND DROPPED -/
def aw_k1 (K : aw_K) (u j : Nat) : aw_K := fun b => if b = u then (5, j) else if K b = (5, j) then (0, 0) else K b
def aw_k0 (K : aw_K) (q : Nat × Nat) : aw_K := fun b => if K b = q then (0, 0) else K b
def aw_a4 (A : aw_A) (j u : Nat) : aw_A := fun f => if f = 4 then am_upd (A 4) j u else A f
theorem aw_asq54 {h : am_H} {d k : Nat} {vs : List Value} {v : Value} (h0 : h.1 d = some (54, vs)) (hf : am_fitq h 54 v = true) (hk : k < vs.length) (h9 : k ≤ 50000) : am_asq h d (Int32.ofNat k) v = some (am_set h d (54, vs.set k v)) := by
  unfold am_asq
  rw [h0, Option.bind_some]
  dsimp only
  rw [if_pos ⟨Or.inr rfl, hf⟩]
  unfold am_ix
  rw [if_neg (am_I.nat (show k < k + 1 by omega) (by omega) : am_I (Int32.ofNat k) (k + 1)).1, Option.bind_some, am_tcn (by omega), if_pos hk]
theorem aw_mapset {n k : Nat} {g : Nat → Value} {v : Value} : ((List.range n).map g).set k v = (List.range n).map fun j => if j = k then v else g j := am_map_set (F := fun x : Value => x)
theorem am_def7 : (am_def 7).length = 7 := rfl
theorem aw_l7 {vs : List Value} (h : vs.length = 7) : ∃ a b c d e f g, vs = [a, b, c, d, e, f, g] := by
  match vs, h with
  | [a, b, c, d, e, f, g], _ => exact ⟨a, b, c, d, e, f, g, rfl⟩
theorem mc60 {h : am_H} {u : Nat} {k f t n w : Int32} {vs : List Value} (h0 : h.1 u = some (7, vs)) (hl : vs.length = 7) : am_exec 60 0 [.ref u, .int k, .int f, .int t, .int n, .int w] [] h = some (.inl none, am_set h u (7, [.int k, .int f, .int t, .int w, .int n, .int 0, .int (-1)])) := by
  obtain ⟨a, b, c, d, e, x, g, rfl⟩ := aw_l7 hl
  have q : ∀ {h' : am_H} {x y z w v s m : Value} {j : Nat} {dd : Nat} {V : Value}, h'.1 u = some (7, [x, y, z, w, v, s, m]) → j < 7 → am_kv V = dd → am_putf h' u 7 j dd V = some (am_set h' u (7, [x, y, z, w, v, s, m].set j V)) := fun e1 e2 e3 => aw_putf e1 e2 e3
  have e1 := q (j := 5) (dd := 0) (V := .int 0) h0 (by decide) rfl
  have e2 := q (h' := am_set h u (7, [a, b, c, d, e, .int 0, g])) (j := 6) (dd := 0) (V := .int (-1)) aw_seta (by decide) rfl
  have e3 := q (h' := am_set h u (7, [a, b, c, d, e, .int 0, .int (-1)])) (j := 0) (dd := 0) (V := .int k) aw_seta (by decide) rfl
  have e4 := q (h' := am_set h u (7, [.int k, b, c, d, e, .int 0, .int (-1)])) (j := 1) (dd := 0) (V := .int f) aw_seta (by decide) rfl
  have e5 := q (h' := am_set h u (7, [.int k, .int f, c, d, e, .int 0, .int (-1)])) (j := 2) (dd := 0) (V := .int t) aw_seta (by decide) rfl
  have e6 := q (h' := am_set h u (7, [.int k, .int f, .int t, d, e, .int 0, .int (-1)])) (j := 4) (dd := 0) (V := .int n) aw_seta (by decide) rfl
  have e7 := q (h' := am_set h u (7, [.int k, .int f, .int t, d, .int n, .int 0, .int (-1)])) (j := 3) (dd := 0) (V := .int w) aw_seta (by decide) rfl
  rw [aw_set2] at e2 e3 e4 e5 e6 e7
  simp only [List.set] at e1 e2 e3 e4 e5 e6 e7
  simp only [am_e60_0, am_e60_9, am_e60_14, am_e60_19, am_e60_24, am_e60_29, am_e60_35, am_e60_41, am_bk, am_pu1, am_pu0, Option.bind_some, eq_self, am_nli, am_nlr, am_nln, am_nlu, if_true, if_false, not_true_eq_false, not_false_eq_true, am_10, am_01, e1, e2, e3, e4, e5, e6, e7]
section
variable {K : aw_K} {A : aw_A} {G Q : am_G} {M : aw_M} {r : am_H} {n F T : Nat}
theorem aw_c20 : (aw_H K A G Q M r).1 20 = some (54, aw_os A G) := aw_fix rfl
theorem aw_len20 : am_len (aw_H K A G Q M r) 20 = some 16 := by
  rw [aw_len (vs := aw_os A G) aw_c20 ⟨by decide, by decide⟩]
  unfold aw_os
  rw [List.length_map, List.length_range]
  rfl
theorem aw_osl : (aw_os A G).length = 16 := by
  unfold aw_os
  rw [List.length_map, List.length_range]
theorem aw_ft' {f t : Int32} (hf : aw_P f) (ht : aw_P t) : 4 * f + t = Int32.ofNat (4 * f.toNatClampNeg + t.toNatClampNeg) ∧ 4 * f.toNatClampNeg + t.toNatClampNeg < 16 ∧ (0 ≤ 4 * f + t ∧ 4 * f + t ≤ 16 - 1) := by
  rcases aw_P4 hf with rfl | rfl | rfl | rfl <;> rcases aw_P4 ht with rfl | rfl | rfl | rfl <;> exact ⟨by decide, by decide, by decide⟩
theorem mc31 {f t : Int32} (hf : aw_P f) (ht : aw_P t) : am_exec 31 0 [.ref 18, .int f, .int t, am_U] [] (aw_H K A G Q M r) = some (.inl (some (if G 42 (4 * f.toNatClampNeg + t.toNatClampNeg) = 0 then .null else .ref (A 4 (4 * f.toNatClampNeg + t.toNatClampNeg)))), aw_H K A G Q M r) := by
  obtain ⟨e1, e2⟩ := aw_ft hf ht
  obtain ⟨-, -, e3⟩ := aw_ft' hf ht
  by_cases h : G 42 (4 * f.toNatClampNeg + t.toNatClampNeg) = 0 <;> simp only [am_e31_0, am_e31_12, am_e31_13, am_e31_18, am_e31_30, am_e31_21, am_e31_25, am_e31_27, am_e31_27ns0, aw_gU0, aw_pU0, aw_gU1, aw_gU2, aw_pU2, aw_gU3, aw_pU3, aw_gU4, aw_pU4, aw_gU5, aw_pU5, aw_gU6, aw_pU6, aw_gU7, aw_pU7, aw_gC1, aw_gC2, aw_pC2, aw_gC3, aw_pC3, aw_gC4, aw_pC4, aw_gC5, aw_pC5, aw_gC6, aw_pC6, aw_gC7, aw_pC7, aw_gC9, aw_pC9, aw_gC0, aw_gC8, aw_gC10, aw_pC10, aw_gC11, aw_pC11, aw_gC12, aw_pC12, aw_gC13, aw_pC13, aw_gC14, aw_pC14, aw_gC15, aw_pC15, aw_gC16, aw_pC16, aw_gT0, aw_gT1, aw_gT2, aw_gT3, aw_gT4, aw_pT4, aw_gT5, aw_pT5, aw_gT6, aw_pT6, aw_gO0, aw_gO1, aw_gO2, aw_gO3, aw_gO4, aw_gO5, aw_gO6, aw_gP1, aw_pP1, aw_gP2, aw_pP2, aw_gP3, aw_pP3, aw_gP4, aw_pP4, aw_gP5, aw_pP5, aw_gP6, aw_pP6, aw_gP0, aw_gP7, aw_isU, aw_isC, aw_isT, aw_isO, aw_isP, aw_isF12, aw_gF12_0, aw_gF12_1, aw_gF12_2, aw_gF12_3, aw_gF12_4, aw_isF13, aw_gF13_0, aw_gF13_1, aw_gF13_2, aw_gF13_3, aw_gF13_4, aw_gF13_5, aw_gF13_6, aw_gF13_7, aw_isF14, aw_gF14_0, aw_gF14_1, aw_gF14_2, aw_isF18, aw_gF18_0, aw_gF18_1, aw_isF19, aw_gF19_0, aw_gF19_1, aw_gF19_2, aw_isF21, aw_gF21_0, aw_gF21_1, aw_gF21_2, aw_isF22, aw_gF22_0, aw_gF22_1, aw_gF22_2, aw_isF23, aw_gF23_0, aw_gF23_1, aw_gF23_2, aw_isF34, aw_gF34_0, aw_gF34_1, aw_gF34_2, aw_gF34_3, aw_gF34_4, aw_gF34_5, aw_isF38, aw_gF38_0, aw_isF39, aw_gF39_0, aw_pF12_4, aw_pF13_6, aw_pF13_7, aw_pF34_4, aw_pF34_5, am_bk, am_pu1, am_pu0, Option.bind_some, eq_self, am_nli, am_nlr, am_nln, am_nlu, if_true, if_false, not_true_eq_false, not_false_eq_true, am_10, am_01, aw_len20, mc145, e3, aw_lO e1, e2, h, and_self]
theorem aw_dy_42 {q : Nat × Nat} {j : Nat} {v : Int32} (h : ¬ q = (5, j)) : aw_dy A (am_up G 42 j v) Q M q = aw_dy A G Q M q := by
  by_cases h5 : q.1 = 5
  · rw [aw_dy5 h5, aw_dy5 h5]
    have h2 : ¬ q.2 = j := fun e => h (aw_eta h5 e)
    unfold aw_of
    simp only [am_up_eq, am_upd_ne h2, am_up_ne, Nat.reduceEqDiff, not_false_eq_true]
  · unfold aw_dy aw_un aw_cc aw_wo aw_tr aw_pl aw_le
    simp only [if_neg h5, am_up_ne, Nat.reduceEqDiff, not_false_eq_true]
    rfl
theorem mc33 (hW : aw_W K A G n F T) {f t : Int32} (hf : aw_P f) (ht : aw_P t) {j : Nat} (hj : 4 * f.toNatClampNeg + t.toNatClampNeg = j) (h0 : ¬ G 42 j = 0) : am_exec 33 0 [.ref 18, .int f, .int t] [] (aw_H K A G Q M r) = some (.inl none, aw_H (aw_k0 K (5, j)) A (am_up G 42 j 0) Q M (am_set r (A 4 j) (7, aw_of G j))) := by
  obtain ⟨e1, e2, e3⟩ := aw_ft' hf ht
  rw [hj] at e1 e2
  have hV := hW.V
  have hK := hW.o e2 h0
  have hnf := hV.1 (A 4 j) (by rw [hK]; exact Nat.le_of_ble_eq_true rfl)
  have q0 := aw_asq54 (k := j) (v := .null) (aw_c20 (K := K) (A := A) (G := G) (Q := Q) (M := M) (r := r)) rfl (by rw [aw_osl]; exact e2) (by omega)
  rw [← e1] at q0
  have fin : am_set (aw_H K A G Q M r) 20 (54, (aw_os A G).set j Value.null) = aw_H (aw_k0 K (5, j)) A (am_up G 42 j 0) Q M (am_set r (A 4 j) (7, aw_of G j)) := by
    refine Prod.ext (funext fun b => ?_) rfl
    show (if b = 20 then some (54, (aw_os A G).set j Value.null) else (aw_H K A G Q M r).1 b) = (aw_H (aw_k0 K (5, j)) A (am_up G 42 j 0) Q M (am_set r (A 4 j) (7, aw_of G j))).1 b
    by_cases e : b = 20
    · subst e
      rw [if_pos rfl, aw_fix (a := 20) rfl]
      unfold aw_os
      rw [aw_mapset]
      refine congrArg (fun z => some (54, z)) (List.map_congr_left fun i hi => ?_)
      by_cases e9 : i = j
      · subst e9
        rw [if_pos rfl, am_up_eq, am_upd_eq, if_pos rfl]
      · rw [if_neg e9, am_up_eq, am_upd_ne e9]
    · rw [if_neg e]
      show (aw_fx A G Q M b).or ((aw_dy A G Q M (K b)).or (r.1 b)) = (aw_fx A (am_up G 42 j 0) Q M b).or ((aw_dy A (am_up G 42 j 0) Q M (aw_k0 K (5, j) b)).or ((am_set r (A 4 j) (7, aw_of G j)).1 b))
      have f1 : aw_fx A (am_up G 42 j 0) Q M b = aw_fx A G Q M b := by
        unfold aw_fx
        simp only [if_neg e]
        rfl
      rw [f1]
      by_cases e5 : K b = (5, j)
      · have hb : b = A 4 j := hV.2.1 _ _ (by rw [hK]; exact Nat.le_of_ble_eq_true rfl) (e5.trans hK.symm)
        have k0 : aw_k0 K (5, j) b = (0, 0) := if_pos e5
        rw [k0, e5, hb, aw_seta]
        rfl
      · have k0 : aw_k0 K (5, j) b = K b := if_neg e5
        rw [k0, aw_dy_42 e5, aw_setn (fun z => e5 (by rw [z, hK]))]
  simp only [am_e33_0, am_e33_7, am_e32_0, am_e32_14, am_e32_15, am_e32_20, am_e32_31, am_e32_23, am_e32_27, am_e32_27na3, aw_gU0, aw_pU0, aw_gU1, aw_gU2, aw_pU2, aw_gU3, aw_pU3, aw_gU4, aw_pU4, aw_gU5, aw_pU5, aw_gU6, aw_pU6, aw_gU7, aw_pU7, aw_gC1, aw_gC2, aw_pC2, aw_gC3, aw_pC3, aw_gC4, aw_pC4, aw_gC5, aw_pC5, aw_gC6, aw_pC6, aw_gC7, aw_pC7, aw_gC9, aw_pC9, aw_gC0, aw_gC8, aw_gC10, aw_pC10, aw_gC11, aw_pC11, aw_gC12, aw_pC12, aw_gC13, aw_pC13, aw_gC14, aw_pC14, aw_gC15, aw_pC15, aw_gC16, aw_pC16, aw_gT0, aw_gT1, aw_gT2, aw_gT3, aw_gT4, aw_pT4, aw_gT5, aw_pT5, aw_gT6, aw_pT6, aw_gO0, aw_gO1, aw_gO2, aw_gO3, aw_gO4, aw_gO5, aw_gO6, aw_gP1, aw_pP1, aw_gP2, aw_pP2, aw_gP3, aw_pP3, aw_gP4, aw_pP4, aw_gP5, aw_pP5, aw_gP6, aw_pP6, aw_gP0, aw_gP7, aw_isU, aw_isC, aw_isT, aw_isO, aw_isP, aw_isF12, aw_gF12_0, aw_gF12_1, aw_gF12_2, aw_gF12_3, aw_gF12_4, aw_isF13, aw_gF13_0, aw_gF13_1, aw_gF13_2, aw_gF13_3, aw_gF13_4, aw_gF13_5, aw_gF13_6, aw_gF13_7, aw_isF14, aw_gF14_0, aw_gF14_1, aw_gF14_2, aw_isF18, aw_gF18_0, aw_gF18_1, aw_isF19, aw_gF19_0, aw_gF19_1, aw_gF19_2, aw_isF21, aw_gF21_0, aw_gF21_1, aw_gF21_2, aw_isF22, aw_gF22_0, aw_gF22_1, aw_gF22_2, aw_isF23, aw_gF23_0, aw_gF23_1, aw_gF23_2, aw_isF34, aw_gF34_0, aw_gF34_1, aw_gF34_2, aw_gF34_3, aw_gF34_4, aw_gF34_5, aw_isF38, aw_gF38_0, aw_isF39, aw_gF39_0, aw_pF12_4, aw_pF13_6, aw_pF13_7, aw_pF34_4, aw_pF34_5, am_bk, am_pu1, am_pu0, Option.bind_some, eq_self, am_nli, am_nlr, am_nln, am_nlu, if_true, if_false, not_true_eq_false, not_false_eq_true, am_10, am_01, aw_len20, mc145, e3, q0, and_self]
  rw [fin]
theorem aw_W.k0 (hW : aw_W K A G n F T) {j : Nat} : aw_W (aw_k0 K (5, j)) A (am_up G 42 j 0) n F T := by
  obtain ⟨⟨v1, v2, v3, v4⟩, h24, h6, h45, ⟨u1, u2⟩, ⟨c1, c2⟩, ⟨t1, t2⟩, ⟨o1, o2⟩, ⟨b1, b2⟩, hl⟩ := hW
  have ne : ∀ {a q}, K a = q → ¬ q.1 = 5 → aw_k0 K (5, j) a = q := fun {a q} e h => by
    unfold aw_k0
    rw [if_neg (by rw [e]; exact fun z => h (by rw [z])), e]
  have back : ∀ {a}, 1 ≤ (aw_k0 K (5, j) a).1 → aw_k0 K (5, j) a = K a ∧ ¬ K a = (5, j) := fun {a} h => by
    unfold aw_k0 at h ⊢
    by_cases e : K a = (5, j)
    · rw [if_pos e] at h; exact absurd h (by decide)
    · rw [if_neg e]; exact ⟨rfl, e⟩
  refine ⟨⟨fun a h => v1 a (by have := back h; rw [this.1] at h; exact h), fun a b h e => ?_, ⟨ne v3.1 (by decide), ne v3.2.1 (by decide), ne v3.2.2.1 (by decide), ne v3.2.2.2 (by decide)⟩, ⟨ne v4.1 (by decide), ne v4.2.1 (by decide), ne v4.2.2.1 (by decide), ne v4.2.2.2 (by decide)⟩⟩, h24, h6, h45, ⟨fun k hk => ne (u1 k hk) (by show ¬ 1 = 5; decide), fun a h => ?_⟩, ⟨fun c hc => ⟨ne (c1 c hc).1 (by show ¬ 2 = 5; decide), ne (c1 c hc).2 (by show ¬ 3 = 5; decide)⟩, fun a h => ?_⟩, ⟨fun k hk => ne (t1 k hk) (by show ¬ 4 = 5; decide), fun a h => ?_⟩, ⟨fun i hi h0 => ?_, fun a h => ?_⟩, ⟨fun i hi => ?_, fun a h => ?_⟩, hl⟩
  · have h2 := back h
    have h3 := back (show 1 ≤ (aw_k0 K (5, j) b).1 by rw [e]; exact h)
    rw [h2.1] at h
    rw [h2.1, h3.1] at e
    exact v2 a b h e
  · have h2 := back (show 1 ≤ (aw_k0 K (5, j) a).1 by omega)
    rw [h2.1] at h ⊢; exact u2 a h
  · have h2 := back (show 1 ≤ (aw_k0 K (5, j) a).1 by omega)
    rw [h2.1] at h ⊢; exact c2 a h
  · have h2 := back (show 1 ≤ (aw_k0 K (5, j) a).1 by omega)
    rw [h2.1] at h ⊢; exact t2 a h
  · have hij : ¬ i = j := fun e => h0 (by rw [e, am_up_eq, am_upd_eq])
    rw [am_up_eq, am_upd_ne hij] at h0
    have := o1 i hi h0
    unfold aw_k0
    rw [if_neg (by rw [this]; exact fun z => hij (congrArg Prod.snd z)), this]
  · have h2 := back (show 1 ≤ (aw_k0 K (5, j) a).1 by omega)
    rw [h2.1] at h ⊢
    have h3 := o2 a h
    have h4 : ¬ (K a).2 = j := fun e => h2.2 (aw_eta h e)
    rw [am_up_eq, am_upd_ne h4]
    exact h3
  · obtain ⟨z1, z2, z3⟩ := b1 i hi
    refine ⟨z1, z2, ?_⟩
    rcases z3 with z3 | z3
    · exact Or.inl z3
    · exact Or.inr ⟨z3.1, ne z3.2 (by show ¬ 6 = 5; decide)⟩
  · have h2 := back (show 1 ≤ (aw_k0 K (5, j) a).1 by omega)
    rw [h2.1] at h ⊢; exact b2 a h
/-- an offer that is made -/
def am_of3 (G : am_G) (j : Nat) (k n w : Int32) : am_G := am_up (am_up (am_up G 42 j (k + 1)) 43 j n) 44 j w
theorem am_of3_42 {j : Nat} {k n w : Int32} : am_of3 G j k n w 42 = am_upd (G 42) j (k + 1) := by
  unfold am_of3
  rw [am_up_ne (by decide), am_up_ne (by decide), am_up_eq]
theorem am_of3_ne {j f : Nat} {k n w : Int32} (h : ¬ (42 ≤ f ∧ f ≤ 44)) : am_of3 G j k n w f = G f := by
  unfold am_of3
  rw [am_up_ne (by omega), am_up_ne (by omega), am_up_ne (by omega)]
theorem am_of3_f0 {j : Nat} {k n w : Int32} : am_of3 G j k n w 0 = G 0 := am_of3_ne (by decide)
theorem am_of3_f1 {j : Nat} {k n w : Int32} : am_of3 G j k n w 1 = G 1 := am_of3_ne (by decide)
theorem am_of3_f2 {j : Nat} {k n w : Int32} : am_of3 G j k n w 2 = G 2 := am_of3_ne (by decide)
theorem am_of3_f3 {j : Nat} {k n w : Int32} : am_of3 G j k n w 3 = G 3 := am_of3_ne (by decide)
theorem am_of3_f4 {j : Nat} {k n w : Int32} : am_of3 G j k n w 4 = G 4 := am_of3_ne (by decide)
theorem am_of3_f5 {j : Nat} {k n w : Int32} : am_of3 G j k n w 5 = G 5 := am_of3_ne (by decide)
theorem am_of3_f6 {j : Nat} {k n w : Int32} : am_of3 G j k n w 6 = G 6 := am_of3_ne (by decide)
theorem am_of3_f7 {j : Nat} {k n w : Int32} : am_of3 G j k n w 7 = G 7 := am_of3_ne (by decide)
theorem am_of3_f8 {j : Nat} {k n w : Int32} : am_of3 G j k n w 8 = G 8 := am_of3_ne (by decide)
theorem am_of3_f9 {j : Nat} {k n w : Int32} : am_of3 G j k n w 9 = G 9 := am_of3_ne (by decide)
theorem am_of3_f10 {j : Nat} {k n w : Int32} : am_of3 G j k n w 10 = G 10 := am_of3_ne (by decide)
theorem am_of3_f11 {j : Nat} {k n w : Int32} : am_of3 G j k n w 11 = G 11 := am_of3_ne (by decide)
theorem am_of3_f12 {j : Nat} {k n w : Int32} : am_of3 G j k n w 12 = G 12 := am_of3_ne (by decide)
theorem am_of3_f13 {j : Nat} {k n w : Int32} : am_of3 G j k n w 13 = G 13 := am_of3_ne (by decide)
theorem am_of3_f14 {j : Nat} {k n w : Int32} : am_of3 G j k n w 14 = G 14 := am_of3_ne (by decide)
theorem am_of3_f15 {j : Nat} {k n w : Int32} : am_of3 G j k n w 15 = G 15 := am_of3_ne (by decide)
theorem am_of3_f16 {j : Nat} {k n w : Int32} : am_of3 G j k n w 16 = G 16 := am_of3_ne (by decide)
theorem am_of3_f17 {j : Nat} {k n w : Int32} : am_of3 G j k n w 17 = G 17 := am_of3_ne (by decide)
theorem am_of3_f18 {j : Nat} {k n w : Int32} : am_of3 G j k n w 18 = G 18 := am_of3_ne (by decide)
theorem am_of3_f19 {j : Nat} {k n w : Int32} : am_of3 G j k n w 19 = G 19 := am_of3_ne (by decide)
theorem am_of3_f20 {j : Nat} {k n w : Int32} : am_of3 G j k n w 20 = G 20 := am_of3_ne (by decide)
theorem am_of3_f21 {j : Nat} {k n w : Int32} : am_of3 G j k n w 21 = G 21 := am_of3_ne (by decide)
theorem am_of3_f22 {j : Nat} {k n w : Int32} : am_of3 G j k n w 22 = G 22 := am_of3_ne (by decide)
theorem am_of3_f23 {j : Nat} {k n w : Int32} : am_of3 G j k n w 23 = G 23 := am_of3_ne (by decide)
theorem am_of3_f24 {j : Nat} {k n w : Int32} : am_of3 G j k n w 24 = G 24 := am_of3_ne (by decide)
theorem am_of3_f25 {j : Nat} {k n w : Int32} : am_of3 G j k n w 25 = G 25 := am_of3_ne (by decide)
theorem am_of3_f26 {j : Nat} {k n w : Int32} : am_of3 G j k n w 26 = G 26 := am_of3_ne (by decide)
theorem am_of3_f27 {j : Nat} {k n w : Int32} : am_of3 G j k n w 27 = G 27 := am_of3_ne (by decide)
theorem am_of3_f28 {j : Nat} {k n w : Int32} : am_of3 G j k n w 28 = G 28 := am_of3_ne (by decide)
theorem am_of3_f29 {j : Nat} {k n w : Int32} : am_of3 G j k n w 29 = G 29 := am_of3_ne (by decide)
theorem am_of3_f30 {j : Nat} {k n w : Int32} : am_of3 G j k n w 30 = G 30 := am_of3_ne (by decide)
theorem am_of3_f31 {j : Nat} {k n w : Int32} : am_of3 G j k n w 31 = G 31 := am_of3_ne (by decide)
theorem am_of3_f32 {j : Nat} {k n w : Int32} : am_of3 G j k n w 32 = G 32 := am_of3_ne (by decide)
theorem am_of3_f33 {j : Nat} {k n w : Int32} : am_of3 G j k n w 33 = G 33 := am_of3_ne (by decide)
theorem am_of3_f34 {j : Nat} {k n w : Int32} : am_of3 G j k n w 34 = G 34 := am_of3_ne (by decide)
theorem am_of3_f35 {j : Nat} {k n w : Int32} : am_of3 G j k n w 35 = G 35 := am_of3_ne (by decide)
theorem am_of3_f36 {j : Nat} {k n w : Int32} : am_of3 G j k n w 36 = G 36 := am_of3_ne (by decide)
theorem am_of3_f37 {j : Nat} {k n w : Int32} : am_of3 G j k n w 37 = G 37 := am_of3_ne (by decide)
theorem am_of3_f38 {j : Nat} {k n w : Int32} : am_of3 G j k n w 38 = G 38 := am_of3_ne (by decide)
theorem am_of3_f39 {j : Nat} {k n w : Int32} : am_of3 G j k n w 39 = G 39 := am_of3_ne (by decide)
theorem am_of3_f40 {j : Nat} {k n w : Int32} : am_of3 G j k n w 40 = G 40 := am_of3_ne (by decide)
theorem am_of3_f41 {j : Nat} {k n w : Int32} : am_of3 G j k n w 41 = G 41 := am_of3_ne (by decide)
theorem am_of3_f45 {j : Nat} {k n w : Int32} : am_of3 G j k n w 45 = G 45 := am_of3_ne (by decide)
theorem am_of3_f46 {j : Nat} {k n w : Int32} : am_of3 G j k n w 46 = G 46 := am_of3_ne (by decide)
theorem am_of3_f47 {j : Nat} {k n w : Int32} : am_of3 G j k n w 47 = G 47 := am_of3_ne (by decide)
theorem am_of3_f48 {j : Nat} {k n w : Int32} : am_of3 G j k n w 48 = G 48 := am_of3_ne (by decide)
theorem am_of3_f49 {j : Nat} {k n w : Int32} : am_of3 G j k n w 49 = G 49 := am_of3_ne (by decide)
theorem am_of3_f50 {j : Nat} {k n w : Int32} : am_of3 G j k n w 50 = G 50 := am_of3_ne (by decide)
theorem am_of3_f51 {j : Nat} {k n w : Int32} : am_of3 G j k n w 51 = G 51 := am_of3_ne (by decide)
theorem am_of3_f52 {j : Nat} {k n w : Int32} : am_of3 G j k n w 52 = G 52 := am_of3_ne (by decide)
theorem mc32 (hW : aw_W K A G n F T) (hN : aw_N K r) {f t : Int32} (hf : aw_P f) (ht : aw_P t) {j : Nat} (hj : 4 * f.toNatClampNeg + t.toNatClampNeg = j) {k nn w : Int32} (hk : ¬ k + 1 = 0) : ∃ r', am_exec 32 0 [.ref 18, .int f, .int t, .ref r.2.1, am_U] [] (aw_H K A G Q M (am_new r (7, [.int k, .int f, .int t, .int w, .int nn, .int 0, .int (-1)]) 7)) = some (.inl none, aw_H (aw_k1 K r.2.1 j) (aw_a4 A j r.2.1) (am_of3 G j k nn w) Q M r') ∧ aw_W (aw_k1 K r.2.1 j) (aw_a4 A j r.2.1) (am_of3 G j k nn w) n F T ∧ aw_R r r' 1 7 ∧ aw_N (aw_k1 K r.2.1 j) r' := by
  obtain ⟨e1, e2, e3⟩ := aw_ft' hf ht
  rw [hj] at e1 e2
  have hV := hW.V
  have h88 := hN.1
  have hnew0 : ∀ a, r.2.1 ≤ a → K a = (0, 0) := hN.2
  have huK := hnew0 r.2.1 (Nat.le_refl _)
  have huf : ¬ aw_fa r.2.1 := by unfold aw_fa; omega
  have cu : (aw_H K A G Q M (am_new r (7, [.int k, .int f, .int t, .int w, .int nn, .int 0, .int (-1)]) 7)).1 r.2.1 = some (7, [.int k, .int f, .int t, .int w, .int nn, .int 0, .int (-1)]) := by
    rw [aw_rest huf (by rw [huK])]
    exact aw_newa
  have q0 := aw_asq54 (k := j) (v := .ref r.2.1) (aw_c20 (K := K) (A := A) (G := G) (Q := Q) (M := M) (r := am_new r (7, [.int k, .int f, .int t, .int w, .int nn, .int 0, .int (-1)]) 7)) (by
    show am_fitq _ 54 (.ref r.2.1) = true
    unfold am_fitq
    dsimp only
    rw [cu]
    rfl) (by rw [aw_osl]; exact e2) (by omega)
  rw [← e1] at q0
  have kU : aw_k1 K r.2.1 j r.2.1 = (5, j) := if_pos rfl
  have kI : ∀ {b}, 1 ≤ (aw_k1 K r.2.1 j b).1 → b = r.2.1 ∨ (¬ b = r.2.1 ∧ ¬ K b = (5, j) ∧ aw_k1 K r.2.1 j b = K b ∧ 1 ≤ (K b).1) := fun {b} hb => by
    by_cases x1 : b = r.2.1
    · exact Or.inl x1
    have x3 : aw_k1 K r.2.1 j b = if K b = (5, j) then (0, 0) else K b := if_neg x1
    by_cases x4 : K b = (5, j)
    · rw [x3, if_pos x4] at hb; exact absurd hb (by decide)
    · rw [if_neg x4] at x3
      exact Or.inr ⟨x1, x4, x3, by rw [x3] at hb; exact hb⟩
  have kO : ∀ {b}, 1 ≤ (K b).1 → ¬ K b = (5, j) → aw_k1 K r.2.1 j b = K b := fun {b} hb h6 => by
    unfold aw_k1
    rw [if_neg (fun e => by rw [e, huK] at hb; exact absurd hb (by decide)), if_neg h6]
  refine ⟨am_set (aw_H K A G Q M (am_new r (7, [.int k, .int f, .int t, .int w, .int nn, .int 0, .int (-1)]) 7)) 20 (54, (aw_os A G).set j (.ref r.2.1)), ?_, ?_, ⟨fun x hx => ?_, Nat.le_succ _, Nat.le_refl _, Nat.le_refl _⟩, ⟨Nat.le_succ_of_le h88, fun a ha => ?_⟩⟩
  · simp only [am_e32_0, am_e32_14, am_e32_15, am_e32_20, am_e32_31, am_e32_23, am_e32_27, am_e32_27na3, aw_gU0, aw_pU0, aw_gU1, aw_gU2, aw_pU2, aw_gU3, aw_pU3, aw_gU4, aw_pU4, aw_gU5, aw_pU5, aw_gU6, aw_pU6, aw_gU7, aw_pU7, aw_gC1, aw_gC2, aw_pC2, aw_gC3, aw_pC3, aw_gC4, aw_pC4, aw_gC5, aw_pC5, aw_gC6, aw_pC6, aw_gC7, aw_pC7, aw_gC9, aw_pC9, aw_gC0, aw_gC8, aw_gC10, aw_pC10, aw_gC11, aw_pC11, aw_gC12, aw_pC12, aw_gC13, aw_pC13, aw_gC14, aw_pC14, aw_gC15, aw_pC15, aw_gC16, aw_pC16, aw_gT0, aw_gT1, aw_gT2, aw_gT3, aw_gT4, aw_pT4, aw_gT5, aw_pT5, aw_gT6, aw_pT6, aw_gO0, aw_gO1, aw_gO2, aw_gO3, aw_gO4, aw_gO5, aw_gO6, aw_gP1, aw_pP1, aw_gP2, aw_pP2, aw_gP3, aw_pP3, aw_gP4, aw_pP4, aw_gP5, aw_pP5, aw_gP6, aw_pP6, aw_gP0, aw_gP7, aw_isU, aw_isC, aw_isT, aw_isO, aw_isP, aw_isF12, aw_gF12_0, aw_gF12_1, aw_gF12_2, aw_gF12_3, aw_gF12_4, aw_isF13, aw_gF13_0, aw_gF13_1, aw_gF13_2, aw_gF13_3, aw_gF13_4, aw_gF13_5, aw_gF13_6, aw_gF13_7, aw_isF14, aw_gF14_0, aw_gF14_1, aw_gF14_2, aw_isF18, aw_gF18_0, aw_gF18_1, aw_isF19, aw_gF19_0, aw_gF19_1, aw_gF19_2, aw_isF21, aw_gF21_0, aw_gF21_1, aw_gF21_2, aw_isF22, aw_gF22_0, aw_gF22_1, aw_gF22_2, aw_isF23, aw_gF23_0, aw_gF23_1, aw_gF23_2, aw_isF34, aw_gF34_0, aw_gF34_1, aw_gF34_2, aw_gF34_3, aw_gF34_4, aw_gF34_5, aw_isF38, aw_gF38_0, aw_isF39, aw_gF39_0, aw_pF12_4, aw_pF13_6, aw_pF13_7, aw_pF34_4, aw_pF34_5, am_bk, am_pu1, am_pu0, Option.bind_some, eq_self, am_nli, am_nlr, am_nln, am_nlu, if_true, if_false, not_true_eq_false, not_false_eq_true, am_10, am_01, aw_len20, mc145, e3, q0, and_self]
    refine congrArg (fun z => some (Sum.inl none, z)) (aw_self (fun b c hb => ?_) (fun b c hb hd => ?_)).symm
    · have hfb := aw_fx_some hb
      by_cases e : b = 20
      · subst e
        rw [aw_seta, ← hb, aw_fx]
        simp only [if_neg (show ¬ 20 = 12 by decide), if_neg (show ¬ 20 = 13 by decide), if_neg (show ¬ 20 = 14 by decide), if_neg (show ¬ 20 = 15 by decide), if_neg (show ¬ 20 = 16 by decide), if_neg (show ¬ 20 = 17 by decide), if_neg (show ¬ 20 = 18 by decide), if_neg (show ¬ 20 = 19 by decide), if_true]
        unfold aw_os
        rw [aw_mapset]
        refine congrArg (fun z => some (54, z)) (List.map_congr_left fun i hi => ?_)
        rw [am_of3_42]
        by_cases e9 : i = j
        · subst e9
          rw [if_pos rfl, am_upd_eq, if_neg hk]
          exact congrArg Value.ref (show am_upd (A 4) i r.2.1 i = r.2.1 from am_upd_eq).symm
        · rw [if_neg e9, am_upd_ne e9]
          rw [show aw_a4 A j r.2.1 4 i = A 4 i from am_upd_ne e9]
      · have e9 : aw_fx (aw_a4 A j r.2.1) (am_of3 G j k nn w) Q M b = aw_fx A G Q M b := by
          unfold aw_fx
          simp only [if_neg e, am_of3_f0, am_of3_f1, am_of3_f2, am_of3_f3, am_of3_f4, am_of3_f5, am_of3_f6, am_of3_f7, am_of3_f8, am_of3_f9, am_of3_f10, am_of3_f11, am_of3_f12, am_of3_f13, am_of3_f14, am_of3_f15, am_of3_f16, am_of3_f17, am_of3_f18, am_of3_f19, am_of3_f20, am_of3_f21, am_of3_f22, am_of3_f23, am_of3_f24, am_of3_f25, am_of3_f26, am_of3_f27, am_of3_f28, am_of3_f29, am_of3_f30, am_of3_f31, am_of3_f32, am_of3_f33, am_of3_f34, am_of3_f35, am_of3_f36, am_of3_f37, am_of3_f38, am_of3_f39, am_of3_f40, am_of3_f41, am_of3_f45, am_of3_f46, am_of3_f47, am_of3_f48, am_of3_f49, am_of3_f50, am_of3_f51, am_of3_f52]
          rfl
        rw [e9] at hb
        rw [aw_setn e]
        exact aw_fix hb
    · have h1 : 1 ≤ (aw_k1 K r.2.1 j b).1 := by
        rcases Nat.lt_or_ge (aw_k1 K r.2.1 j b).1 1 with e | e
        · unfold aw_dy at hd
          rw [show (aw_k1 K r.2.1 j b).1 = 0 by omega] at hd
          cases hd
        · exact e
      have hb20 : ¬ b = 20 := fun e => by
        rw [e] at hb
        cases hb
      rw [aw_setn hb20]
      rcases kI h1 with rfl | ⟨x1, x2, x3, x4⟩
      · rw [kU, aw_dy5 rfl] at hd
        rw [cu, ← hd]
        refine congrArg (fun z => some (7, z)) ?_
        unfold aw_of
        rw [am_of3_42, am_upd_eq]
        have g1 : am_of3 G j k nn w 44 j = w := by unfold am_of3; rw [am_up_eq, am_upd_eq]
        have g2 : am_of3 G j k nn w 43 j = nn := by unfold am_of3; rw [am_up_ne (by decide), am_up_eq, am_upd_eq]
        have g3 : k + 1 - 1 = k := Int32.add_sub_cancel k 1
        have g4 : Int32.ofNat (j / 4) = f ∧ Int32.ofNat (j % 4) = t := by
          rw [← hj]
          rcases aw_P4 hf with rfl | rfl | rfl | rfl <;> rcases aw_P4 ht with rfl | rfl | rfl | rfl <;> exact ⟨by decide, by decide⟩
        rw [g1, g2, g3, g4.1, g4.2]
      · rw [x3] at hd
        have e9 : aw_dy (aw_a4 A j r.2.1) (am_of3 G j k nn w) Q M (K b) = aw_dy A G Q M (K b) := by
          by_cases h5 : (K b).1 = 5
          · have h2 : ¬ (K b).2 = j := fun e => x2 (aw_eta h5 e)
            rw [aw_dy5 h5, aw_dy5 h5]
            unfold aw_of am_of3
            simp only [am_up_eq, am_upd_ne h2, am_up_ne, Nat.reduceEqDiff, not_false_eq_true]
          · unfold aw_dy aw_un aw_cc aw_wo aw_tr aw_pl aw_le aw_ba aw_sz aw_n
            simp only [if_neg h5, am_of3_f0, am_of3_f1, am_of3_f2, am_of3_f3, am_of3_f4, am_of3_f5, am_of3_f6, am_of3_f7, am_of3_f8, am_of3_f9, am_of3_f10, am_of3_f11, am_of3_f12, am_of3_f13, am_of3_f14, am_of3_f15, am_of3_f16, am_of3_f17, am_of3_f18, am_of3_f19, am_of3_f20, am_of3_f21, am_of3_f22, am_of3_f23, am_of3_f24, am_of3_f25, am_of3_f26, am_of3_f27, am_of3_f28, am_of3_f29, am_of3_f30, am_of3_f31, am_of3_f32, am_of3_f33, am_of3_f34, am_of3_f35, am_of3_f36, am_of3_f37, am_of3_f38, am_of3_f39, am_of3_f40, am_of3_f41, am_of3_f45, am_of3_f46, am_of3_f47, am_of3_f48, am_of3_f49, am_of3_f50, am_of3_f51, am_of3_f52]
            rfl
        rw [e9] at hd
        exact aw_dyn hV x4 hd
  · obtain ⟨⟨v1, v2, v3, v4⟩, h24, h6, h45, ⟨u1, u2⟩, ⟨c1, c2⟩, ⟨t1, t2⟩, ⟨o1, o2⟩, ⟨b1, b2⟩, hl⟩ := hW
    have ne : ∀ {a q}, K a = q → 1 ≤ q.1 → ¬ q.1 = 5 → aw_k1 K r.2.1 j a = q := fun {a q} e h h5 => by rw [kO (by rw [e]; exact h) (by rw [e]; exact fun z => h5 (by rw [z])), e]
    refine ⟨⟨fun a h => ?_, fun a b h e => ?_, ⟨ne v3.1 (by decide) (by decide), ne v3.2.1 (by decide) (by decide), ne v3.2.2.1 (by decide) (by decide), ne v3.2.2.2 (by decide) (by decide)⟩, ⟨ne v4.1 (by decide) (by decide), ne v4.2.1 (by decide) (by decide), ne v4.2.2.1 (by decide) (by decide), ne v4.2.2.2 (by decide) (by decide)⟩⟩, by rw [am_of3_f24]; exact h24, by rw [am_of3_f6]; exact h6, by rw [am_of3_f45]; exact h45, ⟨fun i hi => ne (u1 i hi) (Nat.le_refl 1) (by show ¬ 1 = 5; decide), fun a h => ?_⟩, ⟨fun c hc => ⟨ne (c1 c hc).1 (by show 1 ≤ 2; decide) (by show ¬ 2 = 5; decide), ne (c1 c hc).2 (by show 1 ≤ 3; decide) (by show ¬ 3 = 5; decide)⟩, fun a h => ?_⟩, ⟨fun i hi => ne (t1 i hi) (by show 1 ≤ 4; decide) (by show ¬ 4 = 5; decide), fun a h => ?_⟩, ⟨fun i hi h0 => ?_, fun a h => ?_⟩, ⟨fun i hi => ?_, fun a h => ?_⟩, ?_⟩
    · rcases kI h with rfl | ⟨-, -, -, x4⟩
      · exact huf
      · exact v1 a x4
    · have hb : 1 ≤ (aw_k1 K r.2.1 j b).1 := by rw [e]; exact h
      rcases kI h with rfl | ⟨-, x2, x3, x4⟩ <;> rcases kI hb with rfl | ⟨-, z2, z3, z4⟩
      · rfl
      · rw [kU, z3] at e; exact absurd e z2
      · rw [kU, x3] at e; exact absurd e.symm x2
      · rw [x3, z3] at e; exact v2 a b x4 e
    · rcases kI (by omega : 1 ≤ (aw_k1 K r.2.1 j a).1) with rfl | ⟨-, -, x3, -⟩
      · rw [kU] at h; exact absurd h (by show ¬ 5 = 1; decide)
      · rw [x3] at h ⊢; exact u2 a h
    · rcases kI (by omega : 1 ≤ (aw_k1 K r.2.1 j a).1) with rfl | ⟨-, -, x3, -⟩
      · rw [kU] at h; exact absurd h (by show ¬ (5 = 2 ∨ 5 = 3); decide)
      · rw [x3] at h ⊢; exact c2 a h
    · rcases kI (by omega : 1 ≤ (aw_k1 K r.2.1 j a).1) with rfl | ⟨-, -, x3, -⟩
      · rw [kU] at h; exact absurd h (by show ¬ 5 = 4; decide)
      · rw [x3] at h ⊢; exact t2 a h
    · rw [am_of3_42] at h0
      by_cases e : i = j
      · subst e
        rw [show aw_a4 A i r.2.1 4 i = r.2.1 from am_upd_eq, kU]
      · rw [am_upd_ne e] at h0
        rw [show aw_a4 A j r.2.1 4 i = A 4 i from am_upd_ne e]
        have := o1 i hi h0
        rw [kO (by rw [this]; exact Nat.le_of_ble_eq_true rfl) (by rw [this]; exact fun z => e (congrArg Prod.snd z)), this]
    · rw [am_of3_42]
      rcases kI (by omega : 1 ≤ (aw_k1 K r.2.1 j a).1) with rfl | ⟨-, x2, x3, -⟩
      · rw [kU]
        refine ⟨e2, ?_⟩
        show ¬ am_upd (G 42) j (k + 1) j = 0
        rw [am_upd_eq]
        exact hk
      · rw [x3] at h ⊢
        rw [am_upd_ne (fun e => x2 (aw_eta h e))]
        exact o2 a h
    · obtain ⟨z1, z2, z3⟩ := b1 i hi
      refine ⟨?_, z2, ?_⟩
      · unfold aw_sz aw_n at z1 ⊢
        rw [am_of3_f45, am_of3_f24]
        exact z1
      · rcases z3 with z3 | z3
        · exact Or.inl z3
        · exact Or.inr ⟨z3.1, ne z3.2 (by show 1 ≤ 6; decide) (by show ¬ 6 = 5; decide)⟩
    · rcases kI (by omega : 1 ≤ (aw_k1 K r.2.1 j a).1) with rfl | ⟨-, -, x3, -⟩
      · rw [kU] at h; exact absurd h (by show ¬ 5 = 6; decide)
      · rw [x3] at h ⊢; exact b2 a h
    · unfold aw_lc at hl ⊢
      rw [am_of3_f7]
      exact hl
  · have hx3 : (K x).1 = 0 := by
      rcases Nat.lt_or_ge (K x).1 1 with z | z
      · omega
      · exact absurd (show aw_fa x by unfold aw_fa; omega) (hV.1 x z)
    have hx4 : aw_fx A G Q M x = none := by
      unfold aw_fx
      repeat rw [if_neg (by omega)]
    rw [aw_setn (by omega)]
    show (aw_fx A G Q M x).or ((aw_dy A G Q M (K x)).or ((am_new r (7, [.int k, .int f, .int t, .int w, .int nn, .int 0, .int (-1)]) 7).1 x)) = r.1 x
    rw [hx4]
    unfold aw_dy
    rw [hx3]
    exact aw_newn (by omega)
  · have ha : r.2.1 + 1 ≤ a := ha
    show aw_k1 K r.2.1 j a = (0, 0)
    unfold aw_k1
    rw [if_neg (by omega), hnew0 a (by omega)]
    exact if_neg (fun z => absurd (congrArg Prod.fst z) (show ¬ 0 = 5 by decide))
end
