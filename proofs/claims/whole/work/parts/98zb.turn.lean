/-! the whole turn keeps what holds -/
section
variable {G X : am_G} {n F T i j : Nat}
theorem ac_J.cy' {s : am_G × Nat} {x : Nat} (h : ac_J s.1 s.2 F T i x) (hi : i ≤ 600) (hx : x ≤ 11) {c : Nat} (hc : c < F) (h7 : s.1 7 c = 1) (h10 : ∃ z, s.1 10 c = Int32.ofNat z ∧ 1 ≤ z ∧ z ≤ 1 + i) (h12 : ∃ w, s.1 12 c = Int32.ofNat w ∧ w ≤ 300 * i) {f w t : Int32} (hw : ∃ a, a ≤ 300 ∧ w = Int32.ofNat a) (ht : ∃ a, a ≤ 130 ∧ t = Int32.ofNat a) : ac_J (as_cy f w t c s).1 (as_cy f w t c s).2 F T i (x + 1) := by
  obtain ⟨Y, m⟩ := s
  exact ac_J.cy h hi hx hc h7 h10 h12 hw ht
theorem ac_J.cyl {f w t : Nat → Int32} (hi : i ≤ 600) (hw : ∀ c, ∃ a, a ≤ 300 ∧ w c = Int32.ofNat a) (ht : ∀ c, ∃ a, a ≤ 130 ∧ t c = Int32.ofNat a) (l : List Nat) : ∀ (s : am_G × Nat) (x : Nat), ac_J s.1 s.2 F T i x → x + l.length ≤ 12 → l.Nodup → (∀ c, c ∈ l → c < F ∧ s.1 7 c = 1 ∧ (∃ z, s.1 10 c = Int32.ofNat z ∧ 1 ≤ z ∧ z ≤ 1 + i) ∧ ∃ w, s.1 12 c = Int32.ofNat w ∧ w ≤ 300 * i) → ∃ y, ac_J (as_cyl f w t l s).1 (as_cyl f w t l s).2 F T i y := by
  induction l with
  | nil =>
    intro s x h _ _ _
    refine ⟨x, ?_⟩
    unfold as_cyl
    rw [List.foldl_nil]
    exact h
  | cons c l ih =>
    intro s x h hx hd hc
    obtain ⟨c1, c2, c3, c4⟩ := hc c List.mem_cons_self
    rw [List.length_cons] at hx
    have h1 := h.cy' (f := f c) hi (by omega) c1 c2 c3 c4 (hw c) (ht c)
    have h2 := ih (as_cy (f c) (w c) (t c) c s) (x + 1) h1 (by omega) (List.nodup_cons.mp hd).2 (fun d hdl => by
      have hne : ¬ d = c := fun q => (List.nodup_cons.mp hd).1 (by rw [← q]; exact hdl)
      obtain ⟨d1, d2, d3, d4⟩ := hc d (List.mem_cons_of_mem _ hdl)
      rw [as_cy_ne (by decide), as_cy_at hne (by decide), as_cy_at hne (by decide)]
      exact ⟨d1, d2, d3, d4⟩)
    unfold as_cyl at h2 ⊢
    rw [List.foldl_cons]
    exact h2
theorem as_pp_n {p : Nat} {s : am_G × Nat} (hn : s.2 ≤ 40) : (as_pp F p s).2 ≤ 40 := by
  unfold as_pp as_kp
  exact as_kw_ind (p := Int32.ofNat p) (P := fun _ n => n ≤ 40) (fun _ n _ h _ => by omega) 40 _ _ _ hn
theorem ai.pp' {s : am_G × Nat} (h : ai s.1 s.2 F T j) (hj : j ≤ 700) (hn : s.2 ≤ 40) {p : Nat} (hp : p < 4) : ai (as_pp F p s).1 (as_pp F p s).2 F T j := by
  obtain ⟨Y, m⟩ := s
  exact ai.pp h hj hn hp
theorem ai.ppl (hj : j ≤ 700) (l : List Nat) : ∀ (s : am_G × Nat), (∀ p, p ∈ l → p < 4) → s.2 ≤ 40 → ai s.1 s.2 F T j → ai (as_ppl F l s).1 (as_ppl F l s).2 F T j := by
  induction l with
  | nil =>
    intro s _ _ h
    unfold as_ppl
    rw [List.foldl_nil]
    exact h
  | cons p l ih =>
    intro s hl hn h
    have h2 := ih (as_pp F p s) (fun q hq => hl q (List.mem_cons_of_mem _ hq)) (as_pp_n hn) (h.pp' hj hn (hl p List.mem_cons_self))
    unfold as_ppl at h2 ⊢
    rw [List.foldl_cons]
    exact h2
theorem ai.te (h : ai G n F T i) (hi : i ≤ 600) (hn : G 24 0 = Int32.ofNat n) (hn2 : n ≤ 40) {f w t : Nat → Int32} (hw : ∀ c, ∃ a, a ≤ 300 ∧ w c = Int32.ofNat a) (ht : ∀ c, ∃ a, a ≤ 130 ∧ t c = Int32.ofNat a) : ai (as_te F T f w t (G, n)).1 (as_te F T f w t (G, n)).2 F T (i + 1) := by
  have hF12 := h.a.1
  have hlen := as_li_len (G := G) (F := F)
  have h0 : ac_J G n F T i 0 := ⟨h.up1, h.m, h.g⟩
  obtain ⟨y, h1⟩ := ac_J.cyl (f := f) (w := w) (t := t) hi hw ht (as_li G F) (G, n) 0 h0 (by omega) as_li_nd (fun c hc => by
    obtain ⟨c1, c2⟩ := as_li_mem.mp hc
    obtain ⟨z, z1, z2, z3⟩ := h.s c c1
    exact ⟨c1, c2, ⟨z, z1, z3 c2, z2⟩, h.k c c1⟩)
  have hn1 := (as_cyl_n (f := f) (w := w) (t := t) (as_li G F) (G, n) hn hn2).2
  have h2 := ai.ppl (j := i + 1) (by omega) (List.range' 0 4) (as_cyl f w t (as_li G F) (G, n)) (fun p hp => by
    have := List.mem_range'_1.mp hp
    omega) hn1 h1.1
  obtain ⟨s, hs⟩ : ∃ s, s = as_t2 F f w t (G, n) := ⟨_, rfl⟩
  have e : as_ppl F (List.range' 0 4) (as_cyl f w t (as_li G F) (G, n)) = s := by rw [hs]; rfl
  rw [e] at h2
  have h3 := (((h2.tbs (by omega) T (Nat.le_refl _)).lzs T (Nat.le_refl _)).bds 64 (Nat.le_refl _)).jbs s.2 (Nat.le_refl _)
  have h4 := ai.rs s.2 (am_it as_jb (am_it (as_bd F) (am_it as_lz (am_it as_tb s.1 T) T) 64) s.2, s.2) (Nat.le_refl _) h3
  unfold as_te as_t4
  rw [← hs]
  exact h4
end
