/-! THE WHOLE RUN -/
section AMX
variable {D : va_G} {cA : Nat → ClassId} {base : Nat} {al0 : Nat → Nat} {n0 s0 mu : Nat} {p : Program} {l : Launch} {e : Env} {R : Room} {s : State} {m : MethodId} {args : Array Value} {below : List Frame} {meth : Method} {c : Code} {pc : Nat} {ls st : List Value} {h : am_H} {mc ms : Nat}
theorem am_covers {x : Nat × Nat × Nat × Nat} {pc : Nat} : covers (⟨x.1, x.2.1, x.2.2.1, x.2.2.2⟩ : ExceptionTableEntry) pc = true ↔ x.1 ≤ pc ∧ pc < x.2.1 := by
  show (decide (x.1 ≤ pc) && decide (pc < x.2.1)) = true ↔ _
  rw [Bool.and_eq_true, decide_eq_true_eq, decide_eq_true_eq]
theorem am_hh_law : am_hh 291 = [] := rfl
/-- rows that don't take the exception -/
theorem am_pass (C : am_ctx D cA base al0 l mu p R s m args meth c) {E : Nat} (hE : E < 3) {x : Nat × Nat × Nat × Nat} (hx : x ∈ am_hh mu) (hn : ¬ (x.1 ≤ pc ∧ pc < x.2.1 ∧ am_ct x.2.2.2 = E)) : covers (⟨x.1, x.2.1, x.2.2.1, x.2.2.2⟩ : ExceptionTableEntry) pc = false ∨ (x.2.2.2 ≠ 0 ∧ ∃ nm : String, (Cond.classLink (am_own mu) x.2.2.2 nm).before args s = true ∧ va_Nc (am_ExN E) nm s) := by
  obtain ⟨ho, hk⟩ := am_hh_of hx
  by_cases hc : x.1 ≤ pc ∧ pc < x.2.1
  · refine Or.inr ⟨by omega, am_ExN (am_ct x.2.2.2), ?_, ?_⟩
    · rw [ho]
      exact C.w2 (am_w_cl hk) rfl
    · exact C.Phi.2.2.2.2.2.2.2.2 E _ hE (am_ct_lt hk) (fun z => hn ⟨hc.1, hc.2, z.symm⟩)
  · refine Or.inl ?_
    cases hb : covers (⟨x.1, x.2.1, x.2.2.1, x.2.2.2⟩ : ExceptionTableEntry) pc with
    | false => rfl
    | true => exact absurd (am_covers.mp hb) hc
/-- an exception that comes out of a call: caught here, or not -/
theorem am_caught (C : am_ctx D cA base al0 l mu p R s m args meth c) {x : Nat} (hx3 : x < 3) {h1 h2 : am_H} {r2 : am_Res} {al1 : Nat → Nat} {H1 : Heap} {locs1 : List Loc} {cells1 slots1 : Nat} {lsM : Array Slot} {ra : List Value} {q : Addr} {ce : Cell}
    (Z : am_pt D cA base al0 n0 s0 mu s ls ra h1 al1 H1 locs1 cells1 slots1 lsM) (hq : H1[q]? = some ce) (hcv : ce.vm = .none) (hcl : s.vm.findClass (am_ExN x) = some ce.cls) (hn1 : h1.2.1 ≤ n0 + mc) (hn2 : h1.2.2 ≤ s0 + ms)
    (hmu : mu = 291 → ∃ v, r2 = .inl v) (hno : am_hnd mu pc x = none → (Sum.inr x : am_Res) = r2 ∧ h1 = h2)
    (hyes : ∀ t, am_hnd mu pc x = some t → am_J D cA base al0 n0 s0 mu p l e R s m args below meth c (vx_MQ below (am_Qc D cA base al0 n0 r2 h2) (am_XC D cA base al0 n0 r2 h2) args s mc ms (fun q => base ≤ q)) t ls [.ref h1.2.1] (am_new h1 (70, []) 0)) :
    vx_W p l e R s m args below meth c H1 locs1 cells1 slots1 (vx_MQ below (am_Qc D cA base al0 n0 r2 h2) (am_XC D cA base al0 n0 r2 h2) args s mc ms (fun q => base ≤ q)) (F0 m pc lsM (ra.map (am_cv al1))) q := by
  have z1 := Z.2.2.2.2.2.2.1
  have z2 := Z.2.2.2.2.2.2.2
  have htab0 := C.2.2.2.2.2.2.2.2.2.2.1
  cases hh : am_hnd mu pc x with
  | none =>
    obtain ⟨e1, e2⟩ := hno hh
    have hm9 : mu ≠ 291 := fun z => by
      obtain ⟨v, hv⟩ := hmu z
      rw [← e1] at hv
      cases hv
    have htab := htab0 hm9
    subst e1
    subst e2
    have hall : ∀ y ∈ am_hh mu, ¬ (y.1 ≤ pc ∧ pc < y.2.1 ∧ am_ct y.2.2.2 = x) := by
      intro y hy hc
      unfold am_hnd at hh
      have h9 := List.find?_eq_none.mp (Option.map_eq_none_iff.mp hh) y hy
      exact h9 (decide_eq_true hc)
    refine vx_outP (own := am_own mu) (E := am_ExN x) C.own C.2.2.2.2.2.2.1 ?_ hq hcv hcl ?_ Z.2.2.2.2.1.2.2 (by omega) (by omega)
    · intro z hz
      rw [htab] at hz
      obtain ⟨y, hy, rfl⟩ := List.mem_map.mp hz
      exact am_pass C hx3 hy (hall y hy)
    · intro t ht hal
      exact ⟨⟨x, al1, rfl, rfl, hx3, by rw [ht]; exact Z.1.moved hal, Z.2.2.2.2.2.1⟩, Z.2.2.2.2.1.F ht⟩
  | some tg =>
    have hJ := hyes tg hh
    unfold am_hnd at hh
    obtain ⟨y, hy, e1⟩ := Option.map_eq_some_iff.mp hh
    obtain ⟨hyt, pre, suf, hsplit, hpre⟩ := List.find?_eq_some_iff_append.mp hy
    have hyt := of_decide_eq_true hyt
    have hym : y ∈ am_hh mu := by rw [hsplit]; exact List.mem_append_right _ List.mem_cons_self
    have hm9 : mu ≠ 291 := fun z => by
      rw [z, am_hh_law] at hym
      cases hym
    have htab := htab0 hm9
    obtain ⟨ho, hk⟩ := am_hh_of hym
    refine vx_catch (own := am_own mu) (name := am_ExN x) (E := am_ExN x) C.own (tableOf pre) ⟨y.1, y.2.1, y.2.2.1, y.2.2.2⟩ (tableOf suf) (by rw [htab, hsplit]; unfold tableOf; rw [List.map_append, List.map_cons]) ?_ (am_covers.mpr ⟨hyt.1, hyt.2.1⟩) (by show y.2.2.2 ≠ 0; omega) ?_ (va_Nw.use rfl (C.Phi.2.2.1 _ (am_w_ce hx3) rfl)) hq hcv hcl ?_
    · intro z hz
      obtain ⟨w, hw, rfl⟩ := List.mem_map.mp hz
      refine am_pass C hx3 (by rw [hsplit]; exact List.mem_append_left _ hw) fun hc => ?_
      have h9 := hpre w hw
      rw [decide_eq_true hc] at h9
      cases h9
    · have h9 := C.w2 (am_w_cl hk) rfl
      rw [hyt.2.2, ← ho] at h9
      exact h9
    · subst e1
      have hgo := hJ (am_ext al1 h1.2.1 q) H1 locs1 cells1 slots1 lsM ⟨Z.1.new (70, []) 0 q (Or.inl (Nat.le_refl _)) ⟨fun z => absurd (show 70 < 50 from z) (by decide), fun _ z => absurd (show 70 < 70 from z) (by decide), fun _ z => absurd (show 70 < 60 from z) (by decide)⟩ (fun v hv => by cases hv) (Nat.le_refl _) (fun _ _ => rfl),
        Z.2.1.to (m := h1.2.1) (fun k hk9 => am_ext_lt hk9) (am_vks_iff.mp Z.2.2.1), am_vks_mono (Nat.le_succ _) Z.2.2.1, ⟨Nat.lt_succ_self _, trivial⟩, Z.2.2.2.2.1, fun k hk9 => by rw [am_ext_lt (by omega)]; exact Z.2.2.2.2.2.1 k hk9, by show cells1 + n0 ≤ h1.2.1 + 1; omega, z2⟩
      have e9 : ([.ref h1.2.1] : List Value).map (am_cv (am_ext al1 h1.2.1 q)) = [.ref q] := by
        show [Value.ref (am_ext al1 h1.2.1 q h1.2.1)] = _
        rw [am_ext_self]
      rw [e9] at hgo
      exact hgo
theorem am_take_rev {st as : List Value} {b : Nat} {v : Value} (h : (st.take b).reverse = v :: as) : st = as.reverse ++ v :: st.drop b := by
  have h1 : st.take b = as.reverse ++ [v] := by
    rw [← List.reverse_reverse (st.take b), h, List.reverse_cons]
  conv => lhs; rw [← List.take_append_drop b st, h1]
  rw [List.append_assoc]
  rfl
/-- the call itself -/
theorem am_callR (OK : am_OK) (htr : l.stackTraces = false) {n : Nat} (IH : am_simP D cA base l n) (C : am_ctx D cA base al0 l mu p R s m args meth c) (h12 : 12 ≤ n0) {r : am_Row} (hp : am_prog mu pc = some r) {q : Nat × List Value × List Value} (hc : am_call r st h = some q) {r1 : am_Res} {h1 : am_H} (hrun : am_run n q.1 0 (am_ent (am_nL q.1) q.2.1) [] h = some (r1, h1)) (hN : h1.2.1 ≤ n0 + R.cells) (hS : h1.2.2 ≤ s0 + R.slots)
    {al : Nat → Nat} {H : Heap} {locs : List Loc} {cells slots : Nat} {lsM : Array Slot} (Z : am_pt D cA base al0 n0 s0 mu s ls st h al H locs cells slots lsM) :
    r.2.1 = 3 ∧ am_vks h.2.1 q.2.2 ∧ ∃ av, vx_Run p l e R s m args below meth c H locs cells slots (h1.2.1 - h.2.1) (h1.2.2 - h.2.2) (F0 m pc lsM (st.map (am_cv al))) (q.2.2.map (am_cv al)) (am_Qc D cA base al h.2.1 r1 h1 av) (am_XC D cA base al h.2.1 r1 h1) (fun q => base ≤ q) := by
  have hgrow := am_run_grow _ _ _ _ _ _ _ hrun
  dsimp only at hgrow
  have z1 := Z.2.2.2.2.2.2.1
  have z2 := Z.2.2.2.2.2.2.2
  have hPre : ∀ as : List Value, ∀ U : State, U.heap = H → s.WarmedH U.vm → am_Pc D cA base al as h (as.map (am_cv al)).toArray U := by
    intro as U hU hW
    refine ⟨rfl, ?_, ?_, ?_⟩
    · rw [hU]
      exact ((C.Phi.kept Z.2.2.2.2.1.2.1).moved hW).to (fun k hk => Z.2.2.2.2.2.1 k (by omega))
    · rw [hU]
      exact Nat.le_trans C.2.2.2.2.2.2.2.2.2.2.2.2.1 Z.2.2.2.2.1.1
    · rw [hU]
      exact Z.1.moved hW.alike
  have hvst := am_vks_iff.mp Z.2.2.2.1
  have hck := OK.1 mu pc r hp
  obtain ⟨ins, len, a, b, d, ks, ps⟩ := r
  unfold am_chk at hck
  simp only [Bool.and_eq_true, decide_eq_true_eq] at hck
  obtain ⟨⟨hdec, hlen⟩, hck⟩ := hck
  have hfr := C.2.2.2.2.2.2.2.2.1
  have hlo := C.2.2.2.2.2.2.2.2.2.1
  have fx : CallFix p m c (am_bc mu) (am_nL mu) s args am_BIG (am_own mu) := ⟨C.1, C.2.1, C.2.2.1, C.own, C.2.2.2.2.1⟩
  have room : cells + (h1.2.1 - h.2.1) ≤ R.cells ∧ slots + (h1.2.2 - h.2.2) ≤ R.slots := ⟨by omega, by omega⟩
  have hsz : lsM.size = am_nL mu := Z.2.1.1
  unfold am_call at hc
  cases ins
  case invokestatic i =>
    have hlen : len = 3 := hlen
    subst hlen
    dsimp only at hc hck
    split at hc
    · next hcd =>
      obtain ⟨hd4, hb1, hb2, hal⟩ := hcd
      cases hc
      rw [if_pos hd4] at hck
      simp only [Bool.and_eq_true] at hck
      obtain ⟨⟨⟨hlink, hstt⟩, hcc⟩, hhd⟩ := hck
      unfold am_chc at hcc
      simp only [Bool.and_eq_true, decide_eq_true_eq] at hcc
      obtain ⟨⟨⟨hf1, hl1⟩, hdesc⟩, hnu⟩ := hcc
      have hm := am_mok_nu OK hnu
      have hvk : am_vks h.2.1 (st.take b).reverse := am_vks_iff.mpr fun v hv => hvst v (List.mem_of_mem_take (List.mem_reverse.mp hv))
      have M := am_met (al := al) OK htr IH hnu hrun hal hvk (by omega)
      have hr9 : am_vks h.2.1 (st.drop b) := am_vks_iff.mpr fun v hv => hvst v (List.mem_of_mem_drop hv)
      have hW8 : ((st.drop b).map (am_cv al)).length ≤ 4 := by rw [List.length_map, List.length_drop]; omega
      have h8 : (((st.drop b).map (am_cv al)).map fun v => v.category).sum ≤ 8 := am_cat8 (n := 4) (by rw [List.length_drop]; omega)
      have hstk : st.map (am_cv al) = ((st.take b).reverse.map (am_cv al)).reverse ++ (st.drop b).map (am_cv al) := by
        rw [← List.map_reverse, List.reverse_reverse, ← List.map_append, List.take_append_drop]
      have hn9 : ((st.take b).reverse.map (am_cv al)).length = b := by rw [List.length_map, List.length_reverse, List.length_take]; omega
      have hR : (am_rm a h h1).frames + 1 ≤ R.frames ∧ 8 + (am_nL a + 11) + (am_rm a h h1).locals ≤ R.locals := ⟨by show am_fr a + 1 ≤ _; omega, by show 8 + (am_nL a + 11) + am_lo a ≤ _; omega⟩
      refine ⟨rfl, hr9, ((st.take b).reverse.map (am_cv al)).toArray, ?_⟩
      by_cases hd2 : d = 2
      · rw [if_pos hd2] at hhd
        rw [if_neg (by omega)] at hlink
        have hhh : am_hh a ≠ [] := of_decide_eq_true hhd
        have hws : am_ws a = Cond.codeWith (am_y a) (am_bc a) (am_nL a) (am_rt a) (am_hh a) :: am_BIG := by unfold am_ws; rw [if_neg hhh]
        have hcw : Cond.codeWith (am_y a) (am_bc a) (am_nL a) (am_rt a) (am_hh a) ∈ am_ws a := by rw [hws]; exact List.mem_cons_self
        refine vx_runSX (hh := am_hh a) fx M ⟨⟨rfl, rfl, hR.1, hR.2, pay_in C.2.2.2.2.1 (am_goodIn OK hnu), hcw⟩, C.2.2.2.2.1 _ (am_goodIn OK hnu _ hcw).1, C.w2 hm.2.2.2 rfl, hm.2.1, fun sig hsig => ?_, C.w hlink rfl, C.w hstt rfl⟩ ⟨am_Pc_blind, hPre _⟩ rfl hn9 hsz hstk (lv_room h8) hdec room
        rw [hsig] at hdesc
        exact (Option.some.inj hdesc).symm
      · rw [if_neg hd2] at hhd
        simp only [Bool.and_eq_true, decide_eq_true_eq] at hhd
        have hws : am_ws a = Cond.code (am_y a) (am_bc a) (am_nL a) (am_rt a) :: am_BIG := by unfold am_ws; rw [if_pos hhd.2]
        by_cases hd1 : d = 1
        · rw [if_pos hd1] at hlink
          exact vx_runSN fx M ⟨va_cnB b C.2.2.2.2.1 (am_goodIn OK hnu) hws rfl rfl (C.Phi.2.2.1 _ (am_hasw_mem hlink) rfl) (C.w2 hm.2.2.2 rfl) ⟨hm.2.1.1, hm.2.1.2, hdesc⟩ hR, C.w hstt rfl, trivial⟩ ⟨am_Pc_blind, hPre _⟩ rfl hn9 hsz hstk (lv_room h8) hdec room
        · rw [if_neg hd1] at hlink
          exact vx_runS fx M ⟨callB_of b C.2.2.2.2.1 (am_goodIn OK hnu) hws rfl rfl (C.w2 hm.2.2.2 rfl) (C.w hlink rfl) ⟨hm.2.1.1, hm.2.1.2, hdesc⟩ hR, C.w hstt rfl⟩ ⟨am_Pc_blind, hPre _⟩ rfl hn9 hsz hstk (lv_room h8) hdec room
    · cases hc
  case invokespecial i =>
    have hlen : len = 3 := hlen
    subst hlen
    dsimp only at hc hck
    split at hc
    · next hcd =>
      obtain ⟨hd45, hb1, hb2, hal⟩ := hcd
      split at hc
      · next k9 as has =>
        cases hc
        rw [if_neg (by omega)] at hck
        simp only [Bool.and_eq_true, decide_eq_true_eq] at hck
        obtain ⟨⟨⟨⟨⟨⟨hlink, hinst⟩, hcc⟩, hb⟩, hini⟩, hrt⟩, hhh⟩ := hck
        unfold am_chc at hcc
        simp only [Bool.and_eq_true, decide_eq_true_eq] at hcc
        obtain ⟨⟨⟨hf1, hl1⟩, hdesc⟩, hnu⟩ := hcc
        have hm := am_mok_nu OK hnu
        rw [has] at hal
        have hvk : am_vks h.2.1 (.ref k9 :: as) := am_vks_iff.mpr fun v hv => hvst v (List.mem_of_mem_take (List.mem_reverse.mp (by rw [has]; exact hv)))
        have M := am_met (al := al) OK htr IH hnu hrun hal hvk (by omega)
        have hr9 : am_vks h.2.1 (st.drop b) := am_vks_iff.mpr fun v hv => hvst v (List.mem_of_mem_drop hv)
        have h8 : (((st.drop b).map (am_cv al)).map fun v => v.category).sum ≤ 8 := am_cat8 (n := 4) (by rw [List.length_drop]; omega)
        have hstk : st.map (am_cv al) = (as.map (am_cv al)).reverse ++ .ref (al k9) :: (st.drop b).map (am_cv al) := by
          conv => lhs; rw [am_take_rev has]
          rw [List.map_append, List.map_reverse]
          rfl
        have hn9 : (as.map (am_cv al)).length = b - 1 := by
          have h9 := congrArg List.length has
          rw [List.length_reverse, List.length_take, List.length_cons] at h9
          rw [List.length_map]
          omega
        have hR : (am_rm a h h1).frames + 1 ≤ R.frames ∧ 8 + (am_nL a + 11) + (am_rm a h h1).locals ≤ R.locals := ⟨by show am_fr a + 1 ≤ _; omega, by show 8 + (am_nL a + 11) + am_lo a ≤ _; omega⟩
        have hws : am_ws a = Cond.code (am_y a) (am_bc a) (am_nL a) none :: am_BIG := by unfold am_ws; rw [if_pos hhh, hrt]
        refine ⟨rfl, hr9, (Value.ref (al k9) :: as.map (am_cv al)).toArray, ?_⟩
        rcases hd45 with hd | hd
        · rw [if_neg (by omega)] at hlink
          simp only [Bool.and_eq_true, decide_eq_true_eq] at hlink
          exact vx_runI fx M ⟨callB_of (b - 1) C.2.2.2.2.1 (am_goodIn OK hnu) hws rfl rfl (C.w2 hm.2.2.2 rfl) (C.w hlink.2 rfl) ⟨hm.2.1.1, hm.2.1.2, hdesc⟩ hR, hini, C.w hinst rfl⟩ ⟨am_Pc_blind, hPre (.ref k9 :: as)⟩ rfl hn9 hsz hstk (lv_room h8) hdec room
        · rw [if_pos hd] at hlink
          exact vx_runIN fx M ⟨va_cnB (b - 1) C.2.2.2.2.1 (am_goodIn OK hnu) hws rfl rfl (C.Phi.2.2.1 _ (am_hasw_mem hlink) rfl) (C.w2 hm.2.2.2 rfl) ⟨hm.2.1.1, hm.2.1.2, hdesc⟩ hR, hini, C.w hinst rfl⟩ ⟨am_Pc_blind, hPre (.ref k9 :: as)⟩ rfl hn9 hsz hstk (lv_room h8) hdec room
      · cases hc
    · cases hc
  case invokevirtual i =>
    have hlen : len = 3 := hlen
    subst hlen
    dsimp only at hc hck
    split at hc
    · next hcd =>
      obtain ⟨hd45, hb1, hb2, hal⟩ := hcd
      split at hc
      · next k9 as has =>
        split at hc
        · next hisa =>
          cases hc
          rw [if_neg (by omega)] at hck
          cases hvz : vwCl[(d - 1000) / 2]? with
          | none => rw [hvz] at hck; cases hck
          | some z =>
            rw [hvz] at hck
            simp only [Bool.and_eq_true, decide_eq_true_eq] at hck
            obtain ⟨⟨⟨⟨⟨⟨⟨-, -⟩, hlink⟩, hinst⟩, hsel⟩, hcc⟩, hb⟩, hhh⟩ := hck
            unfold am_chc at hcc
            simp only [Bool.and_eq_true, decide_eq_true_eq] at hcc
            obtain ⟨⟨⟨hf1, hl1⟩, hdesc⟩, hnu⟩ := hcc
            have hm := am_mok_nu OK hnu
            rw [has] at hal
            have hvk : am_vks h.2.1 (.ref k9 :: as) := am_vks_iff.mpr fun v hv => hvst v (List.mem_of_mem_take (List.mem_reverse.mp (by rw [has]; exact hv)))
            have M := am_met (al := al) OK htr IH hnu hrun hal hvk (by omega)
            have hr9 : am_vks h.2.1 (st.drop b) := am_vks_iff.mpr fun v hv => hvst v (List.mem_of_mem_drop hv)
            have h8 : (((st.drop b).map (am_cv al)).map fun v => v.category).sum ≤ 8 := am_cat8 (n := 4) (by rw [List.length_drop]; omega)
            have hstk : st.map (am_cv al) = (as.map (am_cv al)).reverse ++ .ref (al k9) :: (st.drop b).map (am_cv al) := by
              conv => lhs; rw [am_take_rev has]
              rw [List.map_append, List.map_reverse]
              rfl
            have hn9 : (as.map (am_cv al)).length = b - 1 := by
              have h9 := congrArg List.length has
              rw [List.length_reverse, List.length_take, List.length_cons] at h9
              rw [List.length_map]
              omega
            have hR : (am_rm a h h1).frames + 1 ≤ R.frames ∧ 8 + (am_nL a + 11) + (am_rm a h h1).locals ≤ R.locals := ⟨by show am_fr a + 1 ≤ _; omega, by show 8 + (am_nL a + 11) + am_lo a ≤ _; omega⟩
            have hws : am_ws a = Cond.code (am_y a) (am_bc a) (am_nL a) (am_rt a) :: am_BIG := by unfold am_ws; rw [if_pos hhh]
            refine ⟨rfl, hr9, (Value.ref (al k9) :: as.map (am_cv al)).toArray, ?_⟩
            unfold am_isa at hisa
            cases hk9 : h.1 k9 with
            | none => rw [hk9] at hisa; cases hisa
            | some c9 =>
              rw [hk9] at hisa
              have ht : c9.1 = (d - 1000) / 2 := of_decide_eq_true hisa
              obtain ⟨z2, g1, g2, hP⟩ := am_objP Z.1 hk9 ht (by have := am_vwCl_lt hvz; omega)
              exact vx_runV (C := z.1) fx M ⟨callB_of (b - 1) C.2.2.2.2.1 (am_goodIn OK hnu) hws rfl rfl (C.w2 hm.2.2.2 rfl) (C.w hlink rfl) ⟨hm.2.1.1, hm.2.1.2, hdesc⟩ hR, C.w hinst rfl, C.w hsel rfl⟩ ⟨am_Pc_blind, va_recv (q0 := 0) C.Phi.K hP hvz rfl, hPre (.ref k9 :: as)⟩ rfl hn9 hsz hstk (lv_room h8) hdec room
        · cases hc
      · cases hc
    · cases hc
  all_goals cases hc
end AMX
theorem am_sim (OK : am_OK) (D : va_G) (cA : Nat → ClassId) (base : Nat) (l : Launch) (htr : l.stackTraces = false) : ∀ n, am_simP D cA base l n := by
  intro n
  induction n with
  | zero => intro mu pc ls st h r1 h1 hrun; cases hrun
  | succ n IH =>
    intro mu pc ls st h r1 h1 hrun al0 n0 s0 p e R s m args below meth c mc ms C h12 hN hS hmc hms hmu
    rw [am_run] at hrun
    obtain ⟨r, hp, hrun⟩ := Option.bind_eq_some_iff.mp hrun
    cases hret : am_ret r st with
    | some v =>
      rw [hret] at hrun
      cases hrun
      exact am_ret_sound OK C hmc hms hp hret
    | none =>
      rw [hret] at hrun
      dsimp only at hrun
      cases hthr : am_thr r st with
      | some x =>
        rw [hthr] at hrun
        cases hrun
        refine am_thr_sound OK C hN hS hmc hms hp hthr fun z => ?_
        obtain ⟨v, hv⟩ := hmu z
        cases hv
      | none =>
        rw [hthr] at hrun
        dsimp only at hrun
        cases hcall : am_call r st h with
        | none =>
          rw [hcall] at hrun
          dsimp only at hrun
          obtain ⟨t, ht, hrun⟩ := Option.bind_eq_some_iff.mp hrun
          have hg := am_run_grow _ _ _ _ _ _ _ hrun
          exact am_op_sound OK C h12 hN hS hp hcall ht hg.1 hg.2 (IH _ _ _ _ _ _ _ hrun al0 n0 s0 p e R s m args below meth c mc ms C h12 hN hS hmc hms hmu)
        | some q =>
          rw [hcall] at hrun
          dsimp only at hrun
          obtain ⟨y, hy, hrun⟩ := Option.bind_eq_some_iff.mp hrun
          obtain ⟨y1, y2⟩ := y
          have hg := am_run_grow _ _ _ _ _ _ _ hy
          dsimp only at hg
          have hle : y2.2.1 ≤ h1.2.1 ∧ y2.2.2 ≤ h1.2.2 := by
            cases y1 with
            | inl v =>
              have g := am_run_grow _ _ _ _ _ _ _ hrun
              exact g
            | inr x =>
              dsimp only at hrun
              cases hh : am_hnd mu pc x with
              | none => rw [hh] at hrun; cases hrun; exact ⟨Nat.le_refl _, Nat.le_refl _⟩
              | some t =>
                rw [hh] at hrun
                have g := am_run_grow _ _ _ _ _ _ _ hrun
                exact ⟨Nat.le_trans (Nat.le_succ _) g.1, g.2⟩
          intro al H locs cells slots lsM Z
          obtain ⟨hl3, hra, av, hR⟩ := am_callR OK htr IH C h12 hp hcall hy (Nat.le_trans hle.1 hN) (Nat.le_trans hle.2 hS) Z
          refine am_after Z hra hg.1 hg.2 hR (fun v hv => ?_) (fun x hx hx3 al1 H1 locs1 cells1 slots1 q9 ce Z1 g1 g2 g3 => ?_)
          · subst hv
            dsimp only at hrun
            rw [hl3] at hrun
            exact (IH _ _ _ _ _ _ _ hrun al0 n0 s0 p e R s m args below meth c mc ms C h12 hN hS hmc hms hmu).kill
          · subst hx
            dsimp only at hrun
            refine am_caught C hx3 Z1 g1 g2 g3 (by omega) (by omega) hmu (fun hh => ?_) (fun t hh => ?_)
            · rw [hh] at hrun
              cases hrun
              exact ⟨rfl, rfl⟩
            · rw [hh] at hrun
              exact IH _ _ _ _ _ _ _ hrun al0 n0 s0 p e R s m args below meth c mc ms C h12 hN hS hmc hms hmu
