/-! agree -/
section
variable {K : aw_K} {A : aw_A} {G Q : am_G} {M : aw_M} {L : Nat → Int64} {r : am_H} {n F T i : Nat}
theorem mc255_t (hW : aw_W K A G n F T) (hN : aw_N K r) (hS : aw_S r) (hT : T < 40) (h50 : G 50 T = 0) {o : Nat} (ho : K o = (0, 0)) (hof : ¬ aw_fa o) (hoN : o < r.2.1) {k f t nn w : Int32} (hro : r.1 o = some (7, aw_nt k f t nn w)) : ∃ K' A' r', am_exec 255 0 [.ref 19, .ref o] [] (aw_H K A G Q M r) = some (.inl (some (.int 1)), aw_H K' A' (am_ag G T k f t nn w) (am_up Q 3 0 (Q 3 0 + 1)) M r') ∧ aw_W K' A' (am_ag G T k f t nn w) n F (T + 1) ∧ aw_R r r' 1 300 ∧ aw_N K' r' := by
  have hV := hW.V
  have h88 := hN.1
  obtain ⟨y1, y2, y3⟩ := hW.b (i := 0) (by decide)
  rw [hW.szT] at y1
  have g0 : (aw_H K A G Q M r).1 19 = some (0, [.int (Q 3 0), .ref (A 5 0), .int (Int32.ofNat T)]) := by
    rw [aw_fix (a := 19) rfl, ← hW.hT]
  have gl : (aw_ba A G 0).length = A 6 0 := by rw [aw_ba_0, List.length_map, List.length_range]
  have gu : (aw_H K A G Q M r).1 o = some (7, aw_nt k f t nn w) := by
    rw [aw_rest hof (by rw [ho])]
    exact hro
  have gd : ∃ tt, (aw_H K A G Q M r).1 (A 5 0) = some (tt, aw_ba A G 0) ∧ (tt = 53 ∧ ¬ A 5 0 = 9 ∧ 1 ≤ (aw_ba A G 0).length ∨ tt = 63 ∧ A 5 0 = 9 ∧ aw_ba A G 0 = []) ∧ ¬ 19 = A 5 0 ∧ A 5 0 < r.2.1 := by
    rcases y3 with ⟨e1, e2⟩ | ⟨e1, e2⟩
    · have e3 : aw_ba A G 0 = [] := List.eq_nil_of_length_eq_zero (by rw [gl, e1])
      refine ⟨63, ?_, Or.inr ⟨rfl, e2, e3⟩, by omega, by omega⟩
      rw [e2, aw_low hV (by decide), hS.2.1, e3]
    · have h1 : 1 ≤ (K (A 5 0)).1 := by rw [e2]; exact Nat.le_of_ble_eq_true rfl
      have h2 := hV.1 _ h1
      unfold aw_fa at h2
      refine ⟨53, ?_, Or.inl ⟨rfl, by omega, by rw [gl]; omega⟩, by omega, hN.lt h1⟩
      rw [aw_dyn hV h1 (aw_dy6 (by rw [e2])), e2]
  obtain ⟨tt, gd1, gd2, gd3, gd4⟩ := gd
  have e22 : (aw_H K A G Q M r).2.1 = r.2.1 := rfl
  obtain ⟨h', x1, x2⟩ := mc255 (n := T) (v := o) g0 gd1 gd2 gd3 (by rw [gl]; exact y1) (by rw [gl]; exact y2) (by
      show am_fitq _ 53 (.ref o) = true
      unfold am_fitq
      dsimp only
      rw [gu]
      rfl) (by rw [e22]; omega) (by rw [e22]; omega) (by rw [e22]; omega) (fun x hx => by
      rw [aw_ba_0, aw_ne hW.hT hW.T9] at hx
      obtain ⟨j, hj, e⟩ := List.mem_map.mp hx
      by_cases hjn : j < T
      · rw [if_pos hjn] at e
        subst e
        have h1 := hW.t hjn
        have h2 : (aw_H K A G Q M r).1 (A 3 j) = some (7, _) := aw_dyn hV (by rw [h1]; exact Nat.le_of_ble_eq_true rfl) (aw_dy4 (by rw [h1]))
        refine ⟨?_, fun z hz => ?_⟩
        · show am_fitq _ 53 (.ref (A 3 j)) = true
          unfold am_fitq
          dsimp only
          rw [h2]
          rfl
        · cases hz
          have := hN.lt (a := A 3 j) (by rw [h1]; exact Nat.le_of_ble_eq_true rfl)
          show A 3 j < _
          rw [e22]
          omega
      · rw [if_neg hjn] at e
        subst e
        exact ⟨rfl, fun z hz => by cases hz⟩) (fun j hj hl => by
      rw [gl] at hl
      rw [aw_ba_0, aw_ne hW.hT hW.T9, aw_mapget hl, if_neg (by omega)])
  obtain ⟨K', A', r', z1, z2⟩ := aw_addt hW hN hT h50 ho hof hoN hro x2
  exact ⟨K', A', r', by rw [x1, z1], z2⟩
theorem am_kn_42 {X : am_G} {p j : Nat} {c v : Int32} : am_kn (am_up X 42 j v) p c = am_up (am_kn X p c) 42 j v := by
  unfold am_kn
  rw [am_up_ne (show ¬ 36 = 42 by decide), am_up_ne (show ¬ 37 = 42 by decide)]
  split
  · rw [am_upcomm (show ¬ 42 = 37 by decide), am_upcomm (show ¬ 42 = 36 by decide)]
  · rw [am_upcomm (show ¬ 42 = 37 by decide)]
theorem am_or1024 : ∀ x, x < 1024 → ∀ c, c < 10 → ∃ y, y < 1024 ∧ Int32.ofNat x ||| (1 <<< (Int32.ofNat c &&& 31)) = Int32.ofNat y := by
  have h : ∀ x, x < 1024 → ∀ c, c < 10 → (Int32.ofNat x ||| (1 <<< (Int32.ofNat c &&& 31))).toNatClampNeg < 1024 ∧ Int32.ofNat x ||| (1 <<< (Int32.ofNat c &&& 31)) = Int32.ofNat (Int32.ofNat x ||| (1 <<< (Int32.ofNat c &&& 31))).toNatClampNeg := by decide +kernel
  intro x hx c hc
  exact ⟨_, (h x hx c hc).1, (h x hx c hc).2⟩
theorem ai_p.kn {X : am_G} {p c : Nat} (h : ai_p X) (hp : p < 4) (hc : c < 10) : ai_p (am_kn X p (Int32.ofNat c)) := by
  intro d hd
  obtain ⟨x1, x2, x3⟩ := h d hd
  have e39 : am_kn X p (Int32.ofNat c) 39 = X 39 := am_kn_ne (by decide)
  have e37 : am_kn X p (Int32.ofNat c) 37 = am_upd (X 37) p (X 37 p ||| (1 <<< (Int32.ofNat c &&& 31))) := by
    unfold am_kn
    split
    · rw [am_up_ne (by decide), am_up_eq]
    · rw [am_up_eq]
  rw [e39, e37]
  refine ⟨?_, ?_, x3⟩
  · by_cases e : X 36 p = Int32.ofNat c
    · have e36 : am_kn X p (Int32.ofNat c) 36 = am_upd (X 36) p (-1) := by
        unfold am_kn
        rw [if_pos e, am_up_eq, am_up_ne (by decide)]
      rw [e36]
      by_cases ed : d = p
      · rw [ed, am_upd_eq]
        exact Or.inl rfl
      · rw [am_upd_ne ed]
        exact x1
    · have e36 : am_kn X p (Int32.ofNat c) 36 = X 36 := by
        unfold am_kn
        rw [if_neg e, am_up_ne (by decide)]
      rw [e36]
      exact x1
  · by_cases ed : d = p
    · rw [ed, am_upd_eq]
      rw [ed] at x2
      obtain ⟨m, m1, m2⟩ := x2.cases
      obtain ⟨y, y1, y2⟩ := am_or1024 m m1 c hc
      rw [m2, y2]
      exact am_Ik y1 (by decide)
    · rw [am_upd_ne ed]
      exact x2
theorem ai_o.drop {X : am_G} {j : Nat} (h : ai_o X) : ai_o (am_up X 42 j 0) := by
  intro d hd
  rw [am_up_eq, am_up_ne (show ¬ 43 = 42 by decide), am_up_ne (show ¬ 44 = 42 by decide)]
  by_cases e : d = j
  · rw [e, am_upd_eq]
    exact Or.inl rfl
  · rw [am_upd_ne e]
    exact h d hd
theorem am_k34 {k : Nat} : Int32.ofNat (k + 1) - 1 = Int32.ofNat k := am_pre
end
