/-! THE CLASS'S endTurn, whole -/
section
variable {K : aw_K} {A : aw_A} {G Q : am_G} {M : aw_M} {r : am_H} {n F T : Nat}
theorem aw_W.inj (hW : aw_W K A G n F T) {i j : Nat} (hi : i < A 8 0) (hj : j < A 8 0) (hij : i < j) : ¬ A 7 i = A 7 j := by
  have hl : (List.range (A 8 0)).map (A 7) = as_li G F := by
    have := hW.l
    unfold aw_lc at this
    rw [this, List.range_eq_range']
    rfl
  have hd : ((List.range (A 8 0)).map (A 7)).Nodup := by rw [hl]; exact as_li_nd
  intro e
  have h1 := (List.nodup_iff_pairwise_ne.mp hd)
  rw [List.pairwise_map, List.pairwise_iff_getElem] at h1
  have := h1 i j (by rw [List.length_range]; exact hi) (by rw [List.length_range]; exact hj) hij
  rw [List.getElem_range, List.getElem_range] at this
  exact this e
theorem as_qc_all (hW : aw_W K A G n F T) {l : Int32} (hlast : ∀ c, c < F → ¬ l < Int32.ofNat c) {s0 : am_G × aw_M × Int64} : ∀ i, i ≤ A 8 0 → ∀ x, x < i → (am_it (fun i s => as_qc G n T l (A 7 i) s) s0 i).1 0 (A 7 x) = as_yf G ((am_it (fun i s => as_qc G n T l (A 7 i) s) s0 i).2.1 0 (A 7 x)) (A 7 x) ∧ (am_it (fun i s => as_qc G n T l (A 7 i) s) s0 i).1 1 (A 7 x) = as_yw G ((am_it (fun i s => as_qc G n T l (A 7 i) s) s0 i).2.1 0 (A 7 x)) (A 7 x) ∧ (am_it (fun i s => as_qc G n T l (A 7 i) s) s0 i).1 2 (A 7 x) = as_yt G ((am_it (fun i s => as_qc G n T l (A 7 i) s) s0 i).2.1 0 (A 7 x)) (A 7 x) := by
  intro i
  induction i with
  | zero => intro _ x hx; exact absurd hx (Nat.not_lt_zero x)
  | succ i ih =>
    intro hi x hx
    have ih := ih (by omega)
    rw [am_it]
    generalize am_it (fun i s => as_qc G n T l (A 7 i) s) s0 i = s at ih ⊢
    by_cases e : x = i
    · subst e
      exact as_qc_got (hlast _ (hW.li (by omega)).1)
    · have h1 := hW.inj (show x < A 8 0 by omega) (show i < A 8 0 by omega) (by omega)
      obtain ⟨a, b, c, d⟩ := as_qc_ne (G := G) (n := n) (T := T) (l := l) (s := s) h1
      rw [a, b, c, d]
      exact ih x (by omega)
end
