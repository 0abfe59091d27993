/-! CALLS, THROWS, RETURNS: THE WHOLE RUN -/
theorem am_op0_grow {r : am_Row} {pc : Nat} {ls st : List Value} {h : am_H} {t : Nat × List Value × List Value × am_H} (hop : am_op0 r pc ls st h = some t) : h.2.1 ≤ t.2.2.2.2.1 ∧ h.2.2 ≤ t.2.2.2.2.2 := by
  obtain ⟨ins, len, a, b, d, ks, ps⟩ := r
  have same : h.2.1 ≤ h.2.1 ∧ h.2.2 ≤ h.2.2 := ⟨Nat.le_refl _, Nat.le_refl _⟩
  cases ins
  case putfield =>
    simp only [am_op0] at hop
    split at hop
    · obtain ⟨h9, hv, e1⟩ := Option.map_eq_some_iff.mp hop
      cases e1
      unfold am_putf at hv
      obtain ⟨c9, -, hv⟩ := Option.bind_eq_some_iff.mp hv
      split at hv
      · cases hv; exact same
      · cases hv
    · cases hop
  case iastore =>
    simp only [am_op0] at hop
    split at hop
    · obtain ⟨h9, hv, e1⟩ := Option.map_eq_some_iff.mp hop
      cases e1
      obtain ⟨c9, -, -, -, -, rfl⟩ := am_ast_spec hv
      exact same
    · cases hop
  case lastore =>
    simp only [am_op0] at hop
    split at hop
    · obtain ⟨h9, hv, e1⟩ := Option.map_eq_some_iff.mp hop
      cases e1
      obtain ⟨c9, -, -, -, -, rfl⟩ := am_ast_spec hv
      exact same
    · cases hop
  case bastore =>
    simp only [am_op0] at hop
    split at hop
    · obtain ⟨h9, hv, e1⟩ := Option.map_eq_some_iff.mp hop
      cases e1
      obtain ⟨c9, -, -, -, -, rfl⟩ := am_ast_spec hv
      exact same
    · cases hop
  case aastore =>
    simp only [am_op0] at hop
    split at hop
    · obtain ⟨h9, hv, e1⟩ := Option.map_eq_some_iff.mp hop
      cases e1
      unfold am_asq at hv
      obtain ⟨c9, -, hv⟩ := Option.bind_eq_some_iff.mp hv
      split at hv
      · obtain ⟨j, -, hv⟩ := Option.bind_eq_some_iff.mp hv
        split at hv
        · cases hv; exact same
        · cases hv
      · cases hv
    · cases hop
  case newarray =>
    simp only [am_op0] at hop
    split at hop
    · obtain ⟨h9, hv, e1⟩ := Option.map_eq_some_iff.mp hop
      cases e1
      obtain ⟨-, -, rfl⟩ := am_newa_spec hv
      exact ⟨Nat.le_succ _, Nat.le_add_right _ _⟩
    · cases hop
  case anewarray =>
    simp only [am_op0] at hop
    split at hop
    · obtain ⟨h9, hv, e1⟩ := Option.map_eq_some_iff.mp hop
      cases e1
      obtain ⟨-, -, rfl⟩ := am_newa_spec hv
      exact ⟨Nat.le_succ _, Nat.le_add_right _ _⟩
    · cases hop
  case new =>
    simp only [am_op0] at hop
    split at hop
    · cases hop; exact ⟨Nat.le_succ _, Nat.le_add_right _ _⟩
    · cases hop
  case invokestatic =>
    simp only [am_op0] at hop
    split at hop
    · split at hop
      · cases hop; exact same
      · split at hop
        · split at hop
          · cases hop; exact same
          · split at hop
            · cases hop; exact same
            · split at hop
              · split at hop
                · obtain ⟨h9, hv, e1⟩ := Option.map_eq_some_iff.mp hop
                  cases e1
                  unfold am_copy at hv
                  obtain ⟨c0, -, hv⟩ := Option.bind_eq_some_iff.mp hv
                  obtain ⟨c1, -, hv⟩ := Option.bind_eq_some_iff.mp hv
                  obtain ⟨si, -, hv⟩ := Option.bind_eq_some_iff.mp hv
                  obtain ⟨di, -, hv⟩ := Option.bind_eq_some_iff.mp hv
                  obtain ⟨mi, -, hv⟩ := Option.bind_eq_some_iff.mp hv
                  split at hv
                  · cases hv; exact same
                  · cases hv
                · cases hop
              · cases hop
        · cases hop
    · cases hop
  case if_acmp =>
    simp only [am_op0] at hop
    split at hop
    · obtain ⟨z, -, e1⟩ := Option.map_eq_some_iff.mp hop
      subst e1
      split <;> exact same
    · cases hop
  all_goals first
    | (cases hop; done)
    | (cases hop; exact same)
    | (simp only [am_op0] at hop
       repeat' split at hop
       all_goals first
         | (cases hop; done)
         | (cases hop; exact same)
         | (obtain ⟨_, _, e9⟩ := Option.map_eq_some_iff.mp hop; cases e9; exact same))
theorem am_op_grow {r : am_Row} {pc : Nat} {ls st : List Value} {h : am_H} {t : Nat × List Value × List Value × am_H} (hop : am_op r pc ls st h = some t) : h.2.1 ≤ t.2.2.2.2.1 ∧ h.2.2 ≤ t.2.2.2.2.2 := by
  unfold am_op at hop
  obtain ⟨t0, h0, e0⟩ := Option.map_eq_some_iff.mp hop
  subst e0
  have g := am_op0_grow h0
  exact g
theorem am_run_grow : ∀ (n mu pc : Nat) (ls st : List Value) (h : am_H) (z : am_Res × am_H), am_run n mu pc ls st h = some z → h.2.1 ≤ z.2.2.1 ∧ h.2.2 ≤ z.2.2.2 := by
  intro n
  induction n with
  | zero => intro mu pc ls st h z hz; cases hz
  | succ n ih =>
    intro mu pc ls st h z hz
    rw [am_run] at hz
    obtain ⟨r, hp, hz⟩ := Option.bind_eq_some_iff.mp hz
    split at hz
    · cases hz; exact ⟨Nat.le_refl _, Nat.le_refl _⟩
    · split at hz
      · cases hz; exact ⟨Nat.le_succ _, Nat.le_add_right _ _⟩
      · split at hz
        · next q hq =>
          obtain ⟨y, hy, hz⟩ := Option.bind_eq_some_iff.mp hz
          have g1 := ih _ _ _ _ _ _ hy
          split at hz
          · have g2 := ih _ _ _ _ _ _ hz
            exact ⟨Nat.le_trans g1.1 g2.1, Nat.le_trans g1.2 g2.2⟩
          · split at hz
            · have g2 := ih _ _ _ _ _ _ hz
              exact ⟨Nat.le_trans (Nat.le_trans g1.1 (Nat.le_succ _)) g2.1, Nat.le_trans g1.2 g2.2⟩
            · cases hz; exact g1
        · obtain ⟨t, ht, hz⟩ := Option.bind_eq_some_iff.mp hz
          have g1 := am_op_grow ht
          have g2 := ih _ _ _ _ _ _ hz
          exact ⟨Nat.le_trans g1.1 g2.1, Nat.le_trans g1.2 g2.2⟩
/-- how a method ends -/
def am_Qc (D : va_G) (cA : Nat → ClassId) (base : Nat) (al0 : Nat → Nat) (n0 : Nat) (r1 : am_Res) (h1 : am_H) : Array Value → State → Outcome → State → Prop := fun _ st o t =>
  (∃ (v : Option Value) (al : Nat → Nat), r1 = .inl v ∧ o = .returned (v.map (am_cv al)) ∧ am_rel D cA base al t t.heap h1 ∧ (∀ w, v = some w → am_vk h1.2.1 w) ∧ ∀ k, k < n0 → al k = al0 k) ∧ va_F (fun q => base ≤ q) st t
def am_XC (D : va_G) (cA : Nat → ClassId) (base : Nat) (al0 : Nat → Nat) (n0 : Nat) (r1 : am_Res) (h1 : am_H) : String → State → State → Prop := fun E st t =>
  (∃ (x : Nat) (al : Nat → Nat), r1 = .inr x ∧ E = am_ExN x ∧ x < 3 ∧ am_rel D cA base al t t.heap h1 ∧ ∀ k, k < n0 → al k = al0 k) ∧ va_F (fun q => base ≤ q) st t
/-- what a method begins with -/
def am_Pc (D : va_G) (cA : Nat → ClassId) (base : Nat) (al0 : Nat → Nat) (as : List Value) (h : am_H) : Array Value → State → Prop := va_Pc (as.map (am_cv al0)) fun U => am_Phi D cA base al0 U U.heap ∧ base ≤ U.heap.size ∧ am_rel D cA base al0 U U.heap h
theorem am_Pc_blind {D : va_G} {cA : Nat → ClassId} {base : Nat} {al0 : Nat → Nat} {as : List Value} {h : am_H} : FrameBlind (am_Pc D cA base al0 as h) := fun a U g mk q =>
  ⟨q.1, am_Phi.moved (s := U) (U := U.calling g mk a) (State.WarmedH.refl U) q.2.1, q.2.2.1, am_rel.moved (s := U) (U := U.calling g mk a) (Vm.Alike.refl U.vm) q.2.2.2⟩
theorem am_args_len (al : Nat → Nat) : ∀ as : List Value, (lg_sl (as.map (am_cv al))).length = (am_args as).length ∨ ∃ v ∈ as, v.category = 2 ∧ am_nl v = true := by
  intro as
  left
  induction as with
  | nil => rfl
  | cons v t ih =>
    have e : lg_sl ((v :: t).map (am_cv al)) = (if (am_cv al v).category = 2 then [Slot.val (am_cv al v), .second] else [Slot.val (am_cv al v)]) ++ lg_sl (t.map (am_cv al)) := by simp [lg_sl]
    rw [e, List.length_append, ih, am_cv_cat]
    cases v <;> simp [am_args, am_nl, Value.category] <;> omega
theorem am_args_mem (al : Nat → Nat) : ∀ (as : List Value) (k i : Nat) (v : Value), (am_args as)[i]? = some v → v ≠ am_U → (k + i, am_cv al v) ∈ lv_args k (as.map (am_cv al))
  | [], _, i, v, h, _ => by simp [am_args] at h
  | w :: t, k, i, v, h, hv => by
    simp only [List.map_cons, lv_args]
    rw [am_cv_cat]
    by_cases hn : am_nl w = true
    · have hc : ¬ w.category = 2 := by rw [am_nl_cat hn]; decide
      rw [am_args, if_pos hn] at h
      cases i with
      | zero => cases h; exact List.mem_cons_self
      | succ i =>
        rw [List.getElem?_cons_succ] at h
        have h1 := am_args_mem al t (k + 1) i v h hv
        rw [if_neg hc]
        exact List.mem_cons_of_mem _ (by rw [show k + (i + 1) = k + 1 + i by omega]; exact h1)
    · have hc : w.category = 2 := by cases w <;> first | rfl | (exact absurd rfl hn)
      rw [am_args, if_neg hn] at h
      rw [if_pos hc]
      match i, h with
      | 0, h => cases h; exact List.mem_cons_self
      | 1, h => simp at h; exact absurd h.symm hv
      | i + 2, h =>
        rw [List.getElem?_cons_succ, List.getElem?_cons_succ] at h
        have h1 := am_args_mem al t (k + 2) i v h hv
        exact List.mem_cons_of_mem _ (by rw [show k + (i + 2) = k + 2 + i by omega]; exact h1)
theorem am_args_vk {n : Nat} : ∀ (as : List Value), am_vks n as → am_vks n (am_args as)
  | [], _ => trivial
  | v :: t, h => by
    rw [am_args]
    split
    · exact ⟨h.1, am_args_vk t h.2⟩
    · exact ⟨h.1, trivial, am_args_vk t h.2⟩
theorem am_ent_vk {n k : Nat} {as : List Value} (h : am_vks k as) : am_vks k (am_ent n as) := am_vks_iff.mpr fun v hv => by
  rcases List.mem_append.mp hv with g | g
  · exact am_vks_iff.mp (am_args_vk as h) v g
  · rw [List.eq_of_mem_replicate g]; trivial
theorem am_ent_loc {al : Nat → Nat} {n : Nat} {as : List Value} (hlen : (am_args as).length ≤ n) : am_loc al ((lg_sl (as.map (am_cv al)) ++ List.replicate (n - (lg_sl (as.map (am_cv al))).length) Slot.unset).toArray) n (am_ent n as) := by
  have e : (lg_sl (as.map (am_cv al))).length = (am_args as).length := by
    rcases am_args_len al as with e | ⟨v, -, h1, h2⟩
    · exact e
    · rw [am_nl_cat h2] at h1; cases h1
  have h := lv_entry (as.map (am_cv al)) (n := n) (by rw [e]; exact hlen)
  refine ⟨h.1, h.2.1, by unfold am_ent; rw [List.length_append, List.length_replicate]; omega, fun i v hi hv => ?_⟩
  unfold am_ent at hi
  by_cases hl : i < (am_args as).length
  · rw [List.getElem?_append_left hl] at hi
    have h1 := am_args_mem al as 0 i v hi hv
    rw [Nat.zero_add] at h1
    exact h.2.2 _ h1
  · rw [List.getElem?_append_right (by omega), List.getElem?_replicate] at hi
    split at hi
    · cases hi; exact absurd rfl hv
    · cases hi
theorem am_hh_ck : am_M.all (fun q => q.2.2.2.2.2.2.all fun x => decide (q.1.cls = "EmpireTurnsLaw") && decide (x.2.2.2 = 13 ∨ x.2.2.2 = 15 ∨ x.2.2.2 = 28)) = true := by decide +kernel
theorem am_hh_of {mu : Nat} {x : Nat × Nat × Nat × Nat} (hx : x ∈ am_hh mu) : am_own mu = "EmpireTurnsLaw" ∧ (x.2.2.2 = 13 ∨ x.2.2.2 = 15 ∨ x.2.2.2 = 28) := by
  unfold am_hh at hx
  unfold am_own am_y
  cases hq : am_M[mu]? with
  | none => rw [hq] at hx; cases hx
  | some q =>
    rw [hq] at hx
    have h1 := List.all_eq_true.mp (List.all_eq_true.mp am_hh_ck q (List.mem_of_getElem? hq)) x hx
    simpa using h1
theorem am_ct_lt {k : Nat} (h : k = 13 ∨ k = 15 ∨ k = 28) : am_ct k < 3 := by rcases h with rfl | rfl | rfl <;> decide
theorem am_w_cl0 : (.classLink "EmpireTurnsLaw" 13 (am_ExN 0) : Cond) ∈ lw_tbl := List.mem_of_getElem? (i := 850) (by decide +kernel)
theorem am_w_ce0 : (.castable (am_ExN 0) (am_ExN 0) : Cond) ∈ lw_tbl := List.mem_of_getElem? (i := 865) (by decide +kernel)
theorem am_w_in0 : (.initialized (am_ExN 0) : Cond) ∈ lw_tbl := List.mem_of_getElem? (i := 117) (by decide +kernel)
theorem am_w_cl1 : (.classLink "EmpireTurnsLaw" 15 (am_ExN 1) : Cond) ∈ lw_tbl := List.mem_of_getElem? (i := 851) (by decide +kernel)
theorem am_w_ce1 : (.castable (am_ExN 1) (am_ExN 1) : Cond) ∈ lw_tbl := List.mem_of_getElem? (i := 938) (by decide +kernel)
theorem am_w_in1 : (.initialized (am_ExN 1) : Cond) ∈ lw_tbl := List.mem_of_getElem? (i := 120) (by decide +kernel)
theorem am_w_cl2 : (.classLink "EmpireTurnsLaw" 28 (am_ExN 2) : Cond) ∈ lw_tbl := List.mem_of_getElem? (i := 987) (by decide +kernel)
theorem am_w_ce2 : (.castable (am_ExN 2) (am_ExN 2) : Cond) ∈ lw_tbl := List.mem_of_getElem? (i := 1001) (by decide +kernel)
theorem am_w_in2 : (.initialized (am_ExN 2) : Cond) ∈ lw_tbl := List.mem_of_getElem? (i := 123) (by decide +kernel)
