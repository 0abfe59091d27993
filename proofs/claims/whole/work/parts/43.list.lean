/-! WHERE THINGS LIE: n units, F cities founded, T treaties; and the lists' reads -/
def aw_lc (A : aw_A) (G : am_G) (F : Nat) : Prop := (List.range (A 8 0)).map (A 7) = (List.range F).filter fun c => decide (G 7 c = 1)
def aw_W (K : aw_K) (A : aw_A) (G : am_G) (n F T : Nat) : Prop :=
  aw_V K ∧ (G 24 0 = Int32.ofNat n ∧ n ≤ 40) ∧ (G 6 0 = Int32.ofNat F ∧ F ≤ 12) ∧ (G 45 0 = Int32.ofNat T ∧ T ≤ 40)
  ∧ ((∀ k, k < n → K (A 0 k) = (1, k)) ∧ ∀ a, (K a).1 = 1 → (K a).2 < n)
  ∧ ((∀ c, c < F → K (A 1 c) = (2, c) ∧ K (A 2 c) = (3, c)) ∧ ∀ a, (K a).1 = 2 ∨ (K a).1 = 3 → (K a).2 < F)
  ∧ ((∀ k, k < T → K (A 3 k) = (4, k)) ∧ ∀ a, (K a).1 = 4 → (K a).2 < T)
  ∧ ((∀ j, j < 16 → ¬ G 42 j = 0 → K (A 4 j) = (5, j)) ∧ ∀ a, (K a).1 = 5 → (K a).2 < 16 ∧ ¬ G 42 (K a).2 = 0)
  ∧ ((∀ i, i < 3 → aw_sz A G i ≤ A 6 i ∧ A 6 i ≤ 100 ∧ (A 6 i = 0 ∧ A 5 i = 9 ∨ ¬ A 6 i = 0 ∧ K (A 5 i) = (6, i))) ∧ ∀ a, (K a).1 = 6 → (K a).2 < 3 ∧ ¬ A 6 (K a).2 = 0)
  ∧ aw_lc A G F
theorem aw_ne {G : am_G} {f n : Nat} (h : G f 0 = Int32.ofNat n) (hn : n ≤ 100000) : aw_n G f = n := by
  unfold aw_n
  rw [h, am_tcn hn]
section
variable {K : aw_K} {A : aw_A} {G Q : am_G} {M : aw_M} {r : am_H} {n F T : Nat}
theorem aw_W.V (h : aw_W K A G n F T) : aw_V K := h.1
theorem aw_W.hn (h : aw_W K A G n F T) : G 24 0 = Int32.ofNat n := h.2.1.1
theorem aw_W.n40 (h : aw_W K A G n F T) : n ≤ 40 := h.2.1.2
theorem aw_W.hF (h : aw_W K A G n F T) : G 6 0 = Int32.ofNat F := h.2.2.1.1
theorem aw_W.F12 (h : aw_W K A G n F T) : F ≤ 12 := h.2.2.1.2
theorem aw_W.hT (h : aw_W K A G n F T) : G 45 0 = Int32.ofNat T := h.2.2.2.1.1
theorem aw_W.T40 (h : aw_W K A G n F T) : T ≤ 40 := h.2.2.2.1.2
theorem aw_W.u (h : aw_W K A G n F T) {k : Nat} (hk : k < n) : K (A 0 k) = (1, k) := h.2.2.2.2.1.1 k hk
theorem aw_W.u' (h : aw_W K A G n F T) {a : Nat} (ha : (K a).1 = 1) : (K a).2 < n := h.2.2.2.2.1.2 a ha
theorem aw_W.c (h : aw_W K A G n F T) {c : Nat} (hc : c < F) : K (A 1 c) = (2, c) := (h.2.2.2.2.2.1.1 c hc).1
theorem aw_W.w (h : aw_W K A G n F T) {c : Nat} (hc : c < F) : K (A 2 c) = (3, c) := (h.2.2.2.2.2.1.1 c hc).2
theorem aw_W.c' (h : aw_W K A G n F T) {a : Nat} (ha : (K a).1 = 2 ∨ (K a).1 = 3) : (K a).2 < F := h.2.2.2.2.2.1.2 a ha
theorem aw_W.t (h : aw_W K A G n F T) {k : Nat} (hk : k < T) : K (A 3 k) = (4, k) := h.2.2.2.2.2.2.1.1 k hk
theorem aw_W.t' (h : aw_W K A G n F T) {a : Nat} (ha : (K a).1 = 4) : (K a).2 < T := h.2.2.2.2.2.2.1.2 a ha
theorem aw_W.o (h : aw_W K A G n F T) {j : Nat} (hj : j < 16) (h0 : ¬ G 42 j = 0) : K (A 4 j) = (5, j) := h.2.2.2.2.2.2.2.1.1 j hj h0
theorem aw_W.o' (h : aw_W K A G n F T) {a : Nat} (ha : (K a).1 = 5) : (K a).2 < 16 ∧ ¬ G 42 (K a).2 = 0 := h.2.2.2.2.2.2.2.1.2 a ha
theorem aw_W.b (h : aw_W K A G n F T) {i : Nat} (hi : i < 3) : aw_sz A G i ≤ A 6 i ∧ A 6 i ≤ 100 ∧ (A 6 i = 0 ∧ A 5 i = 9 ∨ ¬ A 6 i = 0 ∧ K (A 5 i) = (6, i)) := h.2.2.2.2.2.2.2.2.1.1 i hi
theorem aw_W.b' (h : aw_W K A G n F T) {a : Nat} (ha : (K a).1 = 6) : (K a).2 < 3 ∧ ¬ A 6 (K a).2 = 0 := h.2.2.2.2.2.2.2.2.1.2 a ha
theorem aw_W.l (h : aw_W K A G n F T) : aw_lc A G F := h.2.2.2.2.2.2.2.2.2
theorem aw_W.szT (h : aw_W K A G n F T) : aw_sz A G 0 = T := aw_ne h.hT (by have := h.T40; omega)
theorem aw_W.szC (_ : aw_W K A G n F T) : aw_sz A G 1 = A 8 0 := rfl
theorem aw_W.szU (h : aw_W K A G n F T) : aw_sz A G 2 = n := aw_ne h.hn (by have := h.n40; omega)
/-- the i-th of the living cities -/
theorem aw_W.li (h : aw_W K A G n F T) {i : Nat} (hi : i < A 8 0) : A 7 i < F ∧ G 7 (A 7 i) = 1 := by
  have h1 : A 7 i ∈ (List.range (A 8 0)).map (A 7) := List.mem_map.mpr ⟨i, List.mem_range.mpr hi, rfl⟩
  rw [show (List.range (A 8 0)).map (A 7) = _ from h.l] at h1
  have h2 := List.mem_filter.mp h1
  exact ⟨List.mem_range.mp h2.1, of_decide_eq_true h2.2⟩
theorem aw_W.lx (h : aw_W K A G n F T) {c : Nat} (hc : c < F) (h1 : G 7 c = 1) : ∃ i, i < A 8 0 ∧ A 7 i = c := by
  have h2 : c ∈ (List.range F).filter fun c => decide (G 7 c = 1) := List.mem_filter.mpr ⟨List.mem_range.mpr hc, decide_eq_true h1⟩
  rw [← show (List.range (A 8 0)).map (A 7) = _ from h.l] at h2
  obtain ⟨i, h3, h4⟩ := List.mem_map.mp h2
  exact ⟨i, List.mem_range.mp h3, h4⟩
theorem aw_W.m12 (h : aw_W K A G n F T) : A 8 0 ≤ 12 := by
  have h1 : ((List.range (A 8 0)).map (A 7)).length = ((List.range F).filter fun c => decide (G 7 c = 1)).length := congrArg List.length h.l
  rw [List.length_map, List.length_range] at h1
  have h2 := List.length_filter_le (fun c => decide (G 7 c = 1)) (List.range F)
  rw [List.length_range] at h2
  have := h.F12
  omega
theorem mc253_u (hW : aw_W K A G n F T) {k : Nat} (hk : k < n) : am_exec 253 0 [.ref 23, .int (Int32.ofNat k)] [] (aw_H K A G Q M r) = some (.inl (some (.ref (A 0 k))), aw_H K A G Q M r) := by
  obtain ⟨h1, h2, h3⟩ := hW.b (i := 2) (by decide)
  rw [hW.szU] at h1
  have h4 : K (A 5 2) = (6, 2) := by
    rcases h3 with h3 | h3
    · omega
    · exact h3.2
  refine mc253 (n := n) (d := A 5 2) aw_isF23 ?_ aw_gF23_1 (aw_lB hW.V h4 (by rw [hW.szU]; exact hk) (by omega) (by omega)) hk (by omega)
  rw [aw_gF23_2, hW.hn]
theorem mc253_c (hW : aw_W K A G n F T) {k : Nat} (hk : k < A 8 0) : am_exec 253 0 [.ref 22, .int (Int32.ofNat k)] [] (aw_H K A G Q M r) = some (.inl (some (.ref (A 1 (A 7 k)))), aw_H K A G Q M r) := by
  obtain ⟨h1, h2, h3⟩ := hW.b (i := 1) (by decide)
  rw [hW.szC] at h1
  have h4 : K (A 5 1) = (6, 1) := by
    rcases h3 with h3 | h3
    · omega
    · exact h3.2
  exact mc253 (n := A 8 0) (d := A 5 1) aw_isF22 aw_gF22_2 aw_gF22_1 (aw_lB hW.V h4 hk (by omega) (by omega)) hk (by omega)
theorem mc253_t (hW : aw_W K A G n F T) {k : Nat} (hk : k < T) : am_exec 253 0 [.ref 19, .int (Int32.ofNat k)] [] (aw_H K A G Q M r) = some (.inl (some (.ref (A 3 k))), aw_H K A G Q M r) := by
  obtain ⟨h1, h2, h3⟩ := hW.b (i := 0) (by decide)
  rw [hW.szT] at h1
  have h4 : K (A 5 0) = (6, 0) := by
    rcases h3 with h3 | h3
    · omega
    · exact h3.2
  refine mc253 (n := T) (d := A 5 0) aw_isF19 ?_ aw_gF19_1 (aw_lB hW.V h4 (by rw [hW.szT]; exact hk) (by omega) (by omega)) hk (by omega)
  rw [aw_gF19_2, hW.hT]
theorem mc253_p {p : Int32} (hp : aw_P p) : am_exec 253 0 [.ref 21, .int p] [] (aw_H K A G Q M r) = some (.inl (some (.ref (aw_pa p))), aw_H K A G Q M r) := by
  have h := aw_lP (K := K) (A := A) (G := G) (Q := Q) (M := M) (r := r) hp
  have hI := hp.I.2
  rw [← hp.no] at h ⊢
  have h4 : am_getf (aw_H K A G Q M r) 21 0 2 = some (.int (Int32.ofNat 4)) := aw_gF21_2
  exact mc253 aw_isF21 h4 aw_gF21_1 (by rw [h, hp.no]) hI (by decide)
theorem mc251_u : am_exec 251 0 [.ref 23] [] (aw_H K A G Q M r) = some (.inl (some (.int (G 24 0))), aw_H K A G Q M r) := mc251 aw_gF23_2
theorem mc251_c : am_exec 251 0 [.ref 22] [] (aw_H K A G Q M r) = some (.inl (some (.int (Int32.ofNat (A 8 0)))), aw_H K A G Q M r) := mc251 aw_gF22_2
theorem mc251_t : am_exec 251 0 [.ref 19] [] (aw_H K A G Q M r) = some (.inl (some (.int (G 45 0))), aw_H K A G Q M r) := mc251 aw_gF19_2
theorem mc251_p : am_exec 251 0 [.ref 21] [] (aw_H K A G Q M r) = some (.inl (some (.int 4)), aw_H K A G Q M r) := mc251 aw_gF21_2
/-- players' and units' references compared -/
theorem aw_acp {p q : Int32} (hV : aw_V K) (hp : aw_P p) (hq : aw_P q) : am_acmp (aw_H K A G Q M r) (.ref (aw_pa p)) (.ref (aw_pa q)) = some (decide (p = q)) := by
  have h1 := aw_kp hV hp
  have h2 := aw_kp hV hq
  have c1 : (aw_H K A G Q M r).1 (aw_pa p) = some (6, _) := aw_dyn hV (by rw [h1]; exact Nat.le_of_ble_eq_true rfl) (aw_dy7 (by rw [h1]))
  have c2 : (aw_H K A G Q M r).1 (aw_pa q) = some (6, _) := aw_dyn hV (by rw [h2]; exact Nat.le_of_ble_eq_true rfl) (aw_dy7 (by rw [h2]))
  show (if aw_pa p = aw_pa q then some true else _) = _
  by_cases e : p = q
  · subst e
    rw [if_pos rfl, decide_eq_true rfl]
  · have e2 : ¬ aw_pa p = aw_pa q := fun x => by
      rw [x, h2] at h1
      have h3 : q.toNatClampNeg = p.toNatClampNeg := congrArg Prod.snd h1
      rw [← hp.no, ← hq.no, h3] at e
      exact e rfl
    rw [if_neg e2, c1, Option.bind_some, c2, Option.bind_some, decide_eq_false e]
    rfl
theorem aw_acu (hW : aw_W K A G n F T) {j k : Nat} (hj : j < n) (hk : k < n) : am_acmp (aw_H K A G Q M r) (.ref (A 0 j)) (.ref (A 0 k)) = some (decide (j = k)) := by
  have h1 := hW.u hj
  have h2 := hW.u hk
  have c1 : (aw_H K A G Q M r).1 (A 0 j) = some (9, _) := aw_dyn hW.V (by rw [h1]; exact Nat.le_of_ble_eq_true rfl) (aw_dy1 (by rw [h1]))
  have c2 : (aw_H K A G Q M r).1 (A 0 k) = some (9, _) := aw_dyn hW.V (by rw [h2]; exact Nat.le_of_ble_eq_true rfl) (aw_dy1 (by rw [h2]))
  show (if A 0 j = A 0 k then some true else _) = _
  by_cases e : j = k
  · subst e
    rw [if_pos rfl, decide_eq_true rfl]
  · have e2 : ¬ A 0 j = A 0 k := fun x => by
      rw [x, h2] at h1
      exact e (congrArg Prod.snd h1).symm
    rw [if_neg e2, c1, Option.bind_some, c2, Option.bind_some, decide_eq_false e]
    rfl
theorem aw_acc (hW : aw_W K A G n F T) {j k : Nat} (hj : j < F) (hk : k < F) : am_acmp (aw_H K A G Q M r) (.ref (A 1 j)) (.ref (A 1 k)) = some (decide (j = k)) := by
  have h1 := hW.c hj
  have h2 := hW.c hk
  have c1 : (aw_H K A G Q M r).1 (A 1 j) = some (2, _) := aw_dyn hW.V (by rw [h1]; exact Nat.le_of_ble_eq_true rfl) (aw_dy2 (by rw [h1]))
  have c2 : (aw_H K A G Q M r).1 (A 1 k) = some (2, _) := aw_dyn hW.V (by rw [h2]; exact Nat.le_of_ble_eq_true rfl) (aw_dy2 (by rw [h2]))
  show (if A 1 j = A 1 k then some true else _) = _
  by_cases e : j = k
  · subst e
    rw [if_pos rfl, decide_eq_true rfl]
  · have e2 : ¬ A 1 j = A 1 k := fun x => by
      rw [x, h2] at h1
      exact e (congrArg Prod.snd h1).symm
    rw [if_neg e2, c1, Option.bind_some, c2, Option.bind_some, decide_eq_false e]
    rfl
end
