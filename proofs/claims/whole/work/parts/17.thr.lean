/-! THROWS: the words of 'throw new E(text)' -/
noncomputable def am_atsA (X : String) : List Cond := Bundle.throwableAtoms ++ Bundle.throwableSAtoms ++ Bundle.chainSAtoms X am_exs
noncomputable def am_atsF (X : String) : List Cond := (am_atsA X ++ (Bundle.ownAtoms "EmpireTurns" 0 X am_exs).drop ((am_atsA X).length + 1)).filter vx_no
theorem am_ats_sub {ic : Nat} {X : String} {w : Cond} (h : w ∈ vx_atS "EmpireTurns" ic X am_exs) : w = Cond.methodLink "EmpireTurns" ic (Bundle.initS X) ∨ w ∈ am_atsF X := by
  unfold vx_atS at h
  obtain ⟨h1, h2⟩ := List.mem_filter.mp h
  unfold Bundle.ownAtoms at h1
  rcases List.mem_append.mp h1 with h3 | h3
  · exact Or.inr (List.mem_filter.mpr ⟨List.mem_append_left _ h3, h2⟩)
  · rcases List.mem_cons.mp h3 with h4 | h4
    · exact Or.inl h4
    · refine Or.inr (List.mem_filter.mpr ⟨List.mem_append_right _ ?_, h2⟩)
      unfold Bundle.ownAtoms
      show w ∈ List.drop _ (am_atsA X ++ _)
      rw [List.drop_append, List.drop_eq_nil_of_le (Nat.le_succ _), List.nil_append, Nat.add_sub_cancel_left]
      exact h4
noncomputable def am_atsOk (w : Cond) : Bool := (goodWord w || am_nw w) && vx_ot w && w.onTables && decide (w ∈ lw_tbl)
theorem am_ats0 : (am_atsF (am_ExN 0)).all am_atsOk = true := by decide +kernel
theorem am_ats1 : (am_atsF (am_ExN 1)).all am_atsOk = true := by decide +kernel
theorem am_ats2 : (am_atsF (am_ExN 2)).all am_atsOk = true := by decide +kernel
theorem am_ats {x : Nat} (hx : x < 3) {w : Cond} (hw : w ∈ am_atsF (am_ExN x)) : (goodWord w = true ∨ am_nw w = true) ∧ vx_ot w = true ∧ w.onTables = true ∧ w ∈ lw_tbl := by
  have h : am_atsOk w = true := by
    match x, hx with
    | 0, _ => exact List.all_eq_true.mp am_ats0 w hw
    | 1, _ => exact List.all_eq_true.mp am_ats1 w hw
    | 2, _ => exact List.all_eq_true.mp am_ats2 w hw
  unfold am_atsOk at h
  simp only [Bool.and_eq_true, Bool.or_eq_true, decide_eq_true_eq] at h
  exact ⟨h.1.1.1, h.1.1.2, h.1.2, h.2⟩
theorem am_exn_fit {x : Nat} (hx : x < 3) : Bundle.fit (am_ExN x) = true := by
  match x, hx with
  | 0, _ => decide +kernel
  | 1, _ => decide +kernel
  | 2, _ => decide +kernel
theorem am_exs_fit : ∀ n ∈ am_exs, Bundle.fit n = true := by decide +kernel
theorem am_w_in {x : Nat} (hx : x < 3) : (.initialized (am_ExN x) : Cond) ∈ lw_tbl := by
  match x, hx with
  | 0, _ => exact am_w_in0
  | 1, _ => exact am_w_in1
  | 2, _ => exact am_w_in2
theorem am_w_ce {x : Nat} (hx : x < 3) : (.castable (am_ExN x) (am_ExN x) : Cond) ∈ lw_tbl := by
  match x, hx with
  | 0, _ => exact am_w_ce0
  | 1, _ => exact am_w_ce1
  | 2, _ => exact am_w_ce2
theorem am_w_cl {k : Nat} (hk : k = 13 ∨ k = 15 ∨ k = 28) : (.classLink "EmpireTurnsLaw" k (am_ExN (am_ct k)) : Cond) ∈ lw_tbl := by
  rcases hk with rfl | rfl | rfl
  · exact am_w_cl0
  · exact am_w_cl1
  · exact am_w_cl2
section AMT
variable {D : va_G} {cA : Nat → ClassId} {base : Nat} {al0 : Nat → Nat} {n0 s0 mu : Nat} {p : Program} {l : Launch} {e : Env} {R : Room} {s : State} {m : MethodId} {args : Array Value} {below : List Frame} {meth : Method} {c : Code} {pc : Nat} {ls st : List Value} {h : am_H} {mc ms : Nat}
theorem am_thr_sound (OK : am_OK) {r : am_Row} {x : Nat} (C : am_ctx D cA base al0 l mu p R s m args meth c) (hN : h.2.1 + 1 ≤ n0 + R.cells) (hS : h.2.2 + 6 ≤ s0 + R.slots) (hmc : h.2.1 + 1 ≤ n0 + mc) (hms : h.2.2 + 6 ≤ s0 + ms) (hp : am_prog mu pc = some r) (hth : am_thr r st = some x) (hmu : mu ≠ 291) :
    am_J D cA base al0 n0 s0 mu p l e R s m args below meth c (vx_MQ below (am_Qc D cA base al0 n0 (.inr x) (h.1, h.2.1 + 1, h.2.2 + 6)) (am_XC D cA base al0 n0 (.inr x) (h.1, h.2.1 + 1, h.2.2 + 6)) args s mc ms (fun q => base ≤ q)) pc ls st h := by
  have hck := OK.1 mu pc r hp
  obtain ⟨ins, len, a, b, d, ks, ps⟩ := r
  unfold am_thr at hth
  cases ins
  case new i =>
    dsimp only at hth
    split at hth
    · next hd =>
      have hax : a = x := Option.some.inj hth
      subst hax
      obtain ⟨hd9, hst4⟩ := hd
      unfold am_chk at hck
      simp only [Bool.and_eq_true, decide_eq_true_eq] at hck
      obtain ⟨⟨hdec, hlen⟩, hck⟩ := hck
      have hlen : len = 3 := hlen
      subst hlen
      rw [if_neg (by omega)] at hck
      unfold am_cht at hck
      simp only [Bool.and_eq_true, decide_eq_true_eq] at hck
      obtain ⟨⟨⟨⟨⟨⟨⟨hx3, hfr⟩, hlo⟩, hown⟩, hhh⟩, hcl⟩, hd3⟩, hck⟩ := hck
      intro al H locs cells slots lsM Z
      have r1 := Z.2.2.2.2.2.2.1
      have r2 := Z.2.2.2.2.2.2.2
      have h8 := am_cat8 (al := al) hst4
      have hR1 := C.2.2.2.2.2.2.2.2.1
      have hR2 := C.2.2.2.2.2.2.2.2.2.1
      have htab : ∀ pc' : Nat, ∀ x ∈ c.exceptionTable.toList, covers x pc' = false := by
        rw [C.2.2.2.2.2.2.2.2.2.2.1 hmu, hhh]
        intro _ x hx
        cases hx
      have hot : ∀ w ∈ Cond.classLink (am_own mu) i (am_ExN a) :: Cond.initialized (am_ExN a) :: ([] : List Cond), vx_ot w = true := by
        intro w hw
        rcases List.mem_cons.mp hw with e9 | hw
        · rw [e9]; rfl
        · rcases List.mem_cons.mp hw with e9 | hw
          · rw [e9]; rfl
          · cases hw
      have hxx : ∀ t : State, s.vm.Alike t.vm → H.size ≤ t.heap.size → (∀ q : Nat, q < H.size → t.heap[q]? = H[q]?) → am_XC D cA base al0 n0 (.inr a) (h.1, h.2.1 + 1, h.2.2 + 6) (am_ExN a) s t := by
        intro t hal hsz hkp
        refine ⟨⟨a, al, rfl, rfl, hx3, am_rel.moved hal ⟨fun j cj hj => ?_, Z.1.2⟩, Z.2.2.2.2.2.1⟩, ⟨Nat.le_trans Z.2.2.2.2.1.1 hsz, fun q g1 g2 => (hkp q (Nat.lt_of_lt_of_le g1 Z.2.2.2.2.1.1)).trans (Z.2.2.2.2.1.2.1 q g1 g2)⟩⟩
        obtain ⟨y1, y2, y3, y4, y5⟩ := Z.1.1 j cj hj
        exact ⟨Nat.lt_succ_of_lt y1, fun z => Nat.lt_of_lt_of_le (y2 z) hsz, y3.kept fun z => hkp _ (y2 z), y4, fun v hv => am_vk_mono (Nat.le_succ _) (y5 v hv)⟩
      have key : ∀ ic : Nat, (.methodLink (am_own mu) ic ⟨am_ExN a, "<init>", "(Ljava/lang/String;)V"⟩ : Cond) ∈ lw_tbl → (∀ w ∈ vx_atS (am_own mu) ic (am_ExN a) am_exs, w.before args s = true) ∧ ∀ w ∈ Cond.classLink (am_own mu) i (am_ExN a) :: Cond.initialized (am_ExN a) :: vx_atS (am_own mu) ic (am_ExN a) am_exs, vx_ot w = true := by
        intro ic hic
        rw [hown] at hic ⊢
        have h0 : ∀ w ∈ vx_atS "EmpireTurns" ic (am_ExN a) am_exs, w.before args s = true ∧ vx_ot w = true := by
          intro w hw
          rcases am_ats_sub hw with e9 | hw
          · rw [e9]
            exact ⟨C.w2 hic rfl, rfl⟩
          · obtain ⟨g1, g2, g3, g4⟩ := am_ats hx3 hw
            refine ⟨?_, g2⟩
            rcases g1 with g | g
            · exact C.w2 g4 g
            · exact va_Nw.use g3 (C.Phi.2.2.1 w g4 g)
        refine ⟨fun w hw => (h0 w hw).1, fun w hw => ?_⟩
        rcases List.mem_cons.mp hw with e9 | hw
        · rw [e9]; rfl
        · rcases List.mem_cons.mp hw with e9 | hw
          · rw [e9]; rfl
          · exact (h0 w hw).2
      have hstr : ∀ ic : Nat, am_strs.any (fun z => decide (z.1 = am_own mu ∧ z.2.1 = b)) = true → ∃ tx sa, vk_R (am_own mu) b tx sa s := by
        intro ic hs9
        obtain ⟨z, hz, e9⟩ := List.any_eq_true.mp hs9
        have e8 := of_decide_eq_true e9
        obtain ⟨sa, hsa⟩ := C.Phi.2.2.2.2.2.2.1 z hz
        rw [e8.1, e8.2] at hsa
        exact ⟨_, sa, hsa⟩
      split at hck
      · next ic =>
        simp only [Bool.and_eq_true, decide_eq_true_eq] at hck
        obtain ⟨⟨⟨⟨d4, d6⟩, d9⟩, hic⟩, hs9⟩ := hck
        obtain ⟨tx, sa, hsa⟩ := hstr ic hs9
        obtain ⟨k1, k2⟩ := key ic hic
        exact vx_throwS (A := fun q => base ≤ q) (names := am_exs) C.1 C.2.1 C.2.2.2.2.2.2.2.2.2.2.2.1 C.own (am_exn_fit hx3) am_exs_fit (C.w hcl rfl) (C.w2 (am_w_in hx3) rfl) hsa k1 k2 C.Phi.2.2.2.2.2.1.1 C.Phi.2.2.2.2.2.1.2 Z.2.2.2.2.1 (by rw [C.2.2.1]; exact Z.2.1.1) hdec hd3 d4 d6 d9 (htab _)
          (by show 2 + 3 < _; omega) (by show _ + (13 * (2 + 1) + 43) ≤ _; omega) (by omega) (by omega) C.2.2.2.2.2.2.1 hxx Z.2.2.2.2.1.2.2 (by omega) (by omega)
      · next ic =>
        simp only [Bool.and_eq_true, decide_eq_true_eq] at hck
        obtain ⟨⟨⟨⟨d4, d6⟩, d9⟩, hic⟩, hs9⟩ := hck
        obtain ⟨tx, sa, hsa⟩ := hstr ic hs9
        obtain ⟨k1, k2⟩ := key ic hic
        exact vx_throwSW (A := fun q => base ≤ q) (names := am_exs) C.1 C.2.1 C.2.2.2.2.2.2.2.2.2.2.2.1 C.own (am_exn_fit hx3) am_exs_fit (C.w hcl rfl) (C.w2 (am_w_in hx3) rfl) hsa k1 k2 C.Phi.2.2.2.2.2.1.1 C.Phi.2.2.2.2.2.1.2 Z.2.2.2.2.1 (by rw [C.2.2.1]; exact Z.2.1.1) hdec hd3 d4 d6 d9 (htab _)
          (by show 2 + 3 < _; omega) (by show _ + (13 * (2 + 1) + 43) ≤ _; omega) (by omega) (by omega) C.2.2.2.2.2.2.1 hxx Z.2.2.2.2.1.2.2 (by omega) (by omega)
      · cases hck
    · cases hth
  all_goals cases hth
theorem am_ret_sound (OK : am_OK) {r : am_Row} {v : Option Value} (C : am_ctx D cA base al0 l mu p R s m args meth c) (hmc : h.2.1 ≤ n0 + mc) (hms : h.2.2 ≤ s0 + ms) (hp : am_prog mu pc = some r) (hr : am_ret r st = some v) :
    am_J D cA base al0 n0 s0 mu p l e R s m args below meth c (vx_MQ below (am_Qc D cA base al0 n0 (.inl v) h) (am_XC D cA base al0 n0 (.inl v) h) args s mc ms (fun q => base ≤ q)) pc ls st h := by
  have hck := OK.1 mu pc r hp
  obtain ⟨ins, len, a, b, d, ks, ps⟩ := r
  unfold am_chk at hck
  simp only [Bool.and_eq_true, decide_eq_true_eq] at hck
  obtain ⟨⟨hdec, hlen⟩, hck⟩ := hck
  intro al H locs cells slots lsM Z
  have r1 := Z.2.2.2.2.2.2.1
  have r2 := Z.2.2.2.2.2.2.2
  have hq : ∀ (w : Option Value), v = w → (∀ w0, w = some w0 → am_vk h.2.1 w0) → ∀ t : State, t.heap = H → s.WarmedH t.vm → am_Qc D cA base al0 n0 (.inl v) h args s (.returned (w.map (am_cv al))) t := by
    intro w hw hvk t ht hW
    subst hw
    exact ⟨⟨v, al, rfl, rfl, by rw [ht]; exact Z.1.moved hW.alike, hvk, Z.2.2.2.2.2.1⟩, Z.2.2.2.2.1.F ht⟩
  refine W.widen (k := mc) (n := ms) (by omega) (by omega) (vx_ret ?_)
  unfold am_ret at hr
  cases ins
  case ireturn =>
    have hlen : len = 1 := hlen
    subst hlen
    have hck := of_decide_eq_true hck
    dsimp only at hr
    split at hr
    · next x9 =>
      split at hr
      · cases hr
      · next hnar =>
        cases hr
        have h9 := hq (some (.int x9)) rfl (fun w0 hw0 => by cases hw0; trivial)
        rcases hck with ⟨g1, g2⟩ | ⟨g1, g2⟩
        · exact W.iret C.1 C.2.1 (by rw [C.2.2.2.2.2.1]; exact g1) h9 Z.2.2.2.2.1.2.2 hdec C.2.2.2.2.2.2.1
        · refine W.zret C.1 C.2.1 (by rw [C.2.2.2.2.2.1]; exact g1) ?_ h9 Z.2.2.2.2.1.2.2 hdec C.2.2.2.2.2.2.1
          have hx : x9 = 0 ∨ x9 = 1 := Classical.byContradiction fun z => hnar ⟨g2, z⟩
          rcases hx with rfl | rfl <;> rfl
    · cases hr
  case lreturn =>
    have hlen : len = 1 := hlen
    subst hlen
    have hck := of_decide_eq_true hck
    dsimp only at hr
    split at hr
    · next x9 =>
      cases hr
      exact W.lret C.1 C.2.1 (by rw [C.2.2.2.2.2.1]; exact hck) (hq (some (.long x9)) rfl (fun w0 hw0 => by cases hw0; trivial)) Z.2.2.2.2.1.2.2 hdec C.2.2.2.2.2.2.1
    · cases hr
  case areturn =>
    have hlen : len = 1 := hlen
    subst hlen
    have hrt : ∃ rt, am_rt mu = some rt ∧ ((∃ n, rt = .object n) ∨ ∃ t, rt = .array t) := by
      dsimp only at hck
      split at hck
      · next n9 e9 => exact ⟨_, e9, Or.inl ⟨n9, rfl⟩⟩
      · next n9 e9 => exact ⟨_, e9, Or.inr ⟨n9, rfl⟩⟩
      · cases hck
    obtain ⟨rt, g1, g2⟩ := hrt
    dsimp only at hr
    split at hr
    · next x9 =>
      cases hr
      exact W.aret (v := .ref (al x9)) C.1 C.2.1 (by rw [C.2.2.2.2.2.1]; exact g1) g2 (Or.inr ⟨_, rfl⟩) (hq (some (.ref x9)) rfl (fun w0 hw0 => by cases hw0; exact Z.2.2.2.1.1)) Z.2.2.2.2.1.2.2 hdec C.2.2.2.2.2.2.1
    · cases hr
      exact W.aret (v := .null) C.1 C.2.1 (by rw [C.2.2.2.2.2.1]; exact g1) g2 (Or.inl rfl) (hq (some .null) rfl (fun w0 hw0 => by cases hw0; trivial)) Z.2.2.2.2.1.2.2 hdec C.2.2.2.2.2.2.1
    · cases hr
  case return_ =>
    have hlen : len = 1 := hlen
    subst hlen
    have hck := of_decide_eq_true hck
    dsimp only at hr
    split at hr
    · cases hr
      exact W.vret C.1 C.2.1 (by rw [C.2.2.2.2.2.1]; exact hck) (hq none rfl (fun w0 hw0 => by cases hw0)) Z.2.2.2.2.1.2.2 hdec C.2.2.2.2.2.2.1
    · cases hr
  all_goals cases hr
end AMT
