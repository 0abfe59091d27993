/-! STEPS THAT READ AND WRITE CELLS (printed by wip/gen/gen_op2.py) -/
noncomputable def am_ups : List (List Nat) := [[195, 191, 193], [158, 160, 162], [1098, 1100, 1102, 1104, 1106, 1108, 1110, 1112, 1114, 1116, 1118, 1120, 1122, 1124, 1126, 1128, 1130], [400], [204, 206], [379, 381, 383, 385, 387, 389], [246, 248, 250, 252, 254, 256, 258, 260], [1230, 1232, 1234, 1236, 1238, 1240, 1242], [410], [697, 699, 701, 703, 705, 707, 709, 711], [350, 352, 354, 356, 358, 360, 362, 364], [418, 420, 422, 424, 426], [1573, 1575, 1577, 1579, 1581, 1583, 1585, 1587, 1589, 1591, 1593, 1595, 1597, 1599, 1601, 1603, 1605, 1607, 1609, 1611, 1613, 1615, 1617, 1619, 1621, 1623, 1625, 1627, 1629, 1631, 1633, 1635, 1637, 1639, 1641, 1643, 1645, 1647, 1649, 1651, 1653, 1655, 1657, 1659, 1661, 1663, 1665, 1667, 1669, 1671, 1673, 1675, 1677]]
theorem am_ups_ck : (vwCl.zip am_ups).all (fun q => decide (q.2.length = q.1.2.2) && ((u_ws q.1.1 q.1.2.1 q.1.2.2).zip q.2).all fun w => decide (lw_tbl[w.2]? = some w.1) && goodWord w.1) = true := by decide +kernel
theorem am_vwCl_lt {t : Nat} {z : vw_C} (h : vwCl[t]? = some z) : t < 13 := (List.getElem?_eq_some_iff.mp h).1
theorem am_ucls {t : Nat} {z : vw_C} (h : vwCl[t]? = some z) : ∀ w ∈ u_ws z.1 z.2.1 z.2.2, w ∈ am_BIG := by
  have hl : t < am_ups.length := am_vwCl_lt h
  have h1 := List.all_eq_true.mp am_ups_ck (z, am_ups[t]) (List.mem_of_getElem? (i := t) (List.getElem?_zip_eq_some.mpr ⟨h, List.getElem?_eq_getElem hl⟩))
  simp only [Bool.and_eq_true, decide_eq_true_eq] at h1
  intro w hw
  obtain ⟨i, hi⟩ := List.getElem?_of_mem hw
  have hi2 : i < am_ups[t].length := by
    have h3 := (List.getElem?_eq_some_iff.mp hi).1
    rw [h1.1]
    simpa [u_ws] using h3
  have h2 := List.all_eq_true.mp h1.2 (w, am_ups[t][i]) (List.mem_of_getElem? (i := i) (List.getElem?_zip_eq_some.mpr ⟨hi, List.getElem?_eq_getElem hi2⟩))
  simp only [Bool.and_eq_true, decide_eq_true_eq] at h2
  exact List.mem_filter.mpr ⟨List.mem_of_getElem? h2.1, h2.2⟩
theorem am_tcls_ck : (vwCl.zipIdx).all (fun q => (List.range q.1.2.2).all (fun k => decide (parseFieldDescriptor (q.1.2.1 k).2.2.1 = some (am_fty q.2 k)) && (List.range q.1.2.2).all fun j => decide (j = k) || decide ((q.1.2.1 j).2.1 ≠ (q.1.2.1 k).2.1)) && decide (am_def q.2 = (List.range q.1.2.2).map fun k => defaultValue (am_fty q.2 k))) = true := by decide +kernel
theorem am_tcls {t : Nat} {z : vw_C} (h : vwCl[t]? = some z) : (∀ k, k < z.2.2 → parseFieldDescriptor (z.2.1 k).2.2.1 = some (am_fty t k)) ∧ (∀ a, a < z.2.2 → ∀ b, b < z.2.2 → a ≠ b → (z.2.1 a).2.1 ≠ (z.2.1 b).2.1) ∧ am_def t = (List.range z.2.2).map fun k => defaultValue (am_fty t k) := by
  have h1 := List.all_eq_true.mp am_tcls_ck (z, t) (List.mem_of_getElem? (i := t) (by rw [List.getElem?_zipIdx, h]; simp))
  simp only [Bool.and_eq_true, decide_eq_true_eq, List.all_eq_true, List.mem_range, Bool.or_eq_true] at h1
  refine ⟨fun k hk => (h1.1 k hk).1, fun a ha b hb hne => ?_, h1.2⟩
  rcases (h1.1 b hb).2 a ha with e | e
  · exact absurd e hne
  · exact e
theorem am_ob0 : (.castable RJx4a65c "java/lang/Object" : Cond) ∈ lw_tbl := List.mem_of_getElem? (i := 2047) (by decide +kernel)
theorem am_ob1 : (.castable RX0 "java/lang/Object" : Cond) ∈ lw_tbl := List.mem_of_getElem? (i := 2045) (by decide +kernel)
theorem am_ob2 : (.castable RX1 "java/lang/Object" : Cond) ∈ lw_tbl := List.mem_of_getElem? (i := 2057) (by decide +kernel)
theorem am_ob3 : (.castable RX2 "java/lang/Object" : Cond) ∈ lw_tbl := List.mem_of_getElem? (i := 2050) (by decide +kernel)
theorem am_ob4 : (.castable RX3 "java/lang/Object" : Cond) ∈ lw_tbl := List.mem_of_getElem? (i := 2046) (by decide +kernel)
theorem am_ob5 : (.castable RX4 "java/lang/Object" : Cond) ∈ lw_tbl := List.mem_of_getElem? (i := 2049) (by decide +kernel)
theorem am_ob6 : (.castable RX5 "java/lang/Object" : Cond) ∈ lw_tbl := List.mem_of_getElem? (i := 2048) (by decide +kernel)
theorem am_ob7 : (.castable RX6 "java/lang/Object" : Cond) ∈ lw_tbl := List.mem_of_getElem? (i := 2042) (by decide +kernel)
theorem am_ob8 : (.castable RX7 "java/lang/Object" : Cond) ∈ lw_tbl := List.mem_of_getElem? (i := 2051) (by decide +kernel)
theorem am_ob9 : (.castable RX8 "java/lang/Object" : Cond) ∈ lw_tbl := List.mem_of_getElem? (i := 2055) (by decide +kernel)
theorem am_ob10 : (.castable RX9 "java/lang/Object" : Cond) ∈ lw_tbl := List.mem_of_getElem? (i := 2044) (by decide +kernel)
theorem am_ob11 : (.castable RX10 "java/lang/Object" : Cond) ∈ lw_tbl := List.mem_of_getElem? (i := 2043) (by decide +kernel)
theorem am_ob12 : (.castable RX11 "java/lang/Object" : Cond) ∈ lw_tbl := List.mem_of_getElem? (i := 2052) (by decide +kernel)
theorem am_obj {t : Nat} {z : vw_C} (h : vwCl[t]? = some z) : (.castable z.1 "java/lang/Object" : Cond) ∈ lw_tbl := by
  have hl := am_vwCl_lt h
  match t, hl, h with
  | 0, _, h => cases h; exact am_ob0
  | 1, _, h => cases h; exact am_ob1
  | 2, _, h => cases h; exact am_ob2
  | 3, _, h => cases h; exact am_ob3
  | 4, _, h => cases h; exact am_ob4
  | 5, _, h => cases h; exact am_ob5
  | 6, _, h => cases h; exact am_ob6
  | 7, _, h => cases h; exact am_ob7
  | 8, _, h => cases h; exact am_ob8
  | 9, _, h => cases h; exact am_ob9
  | 10, _, h => cases h; exact am_ob10
  | 11, _, h => cases h; exact am_ob11
  | 12, _, h => cases h; exact am_ob12
  | t + 13, hl, _ => omega
theorem am_fit {ty : FieldType} {d : Nat} {v : Value} (al : Nat → Nat) (h1 : am_kty ty d = true) (h2 : am_kv v = d) : narrow ty (am_cv al v) = am_cv al v ∧ fits ty (am_cv al v) = true := by
  subst h2
  cases ty <;> simp only [am_kty, decide_eq_true_eq] at h1 <;> first | (cases h1; done) | (cases v <;> simp only [am_kv] at h1 <;> first | (omega) | exact ⟨rfl, rfl⟩)
theorem am_ix_some {i : Int32} {j : Nat} (h : am_ix i = some j) : ¬ i < 0 ∧ j = i.toNatClampNeg := by
  unfold am_ix at h
  split at h
  · cases h
  · next hn => cases h; exact ⟨hn, rfl⟩
theorem am_slot {cell : Cell} {vs : List Value} {al : Nat → Nat} {j : Nat} {v : Value} (h : am_sl cell (vs.map (am_cv al))) (hv : vs[j]? = some v) : cell.slots[j]? = some (am_cv al v) := h.1 j _ (by rw [List.getElem?_map, hv]; rfl)
theorem am_slots {cell : Cell} {vs : List Value} {al : Nat → Nat} (h : am_sl cell (vs.map (am_cv al))) : vs.length ≤ cell.slots.size := by
  have h1 := h.2.1
  rw [List.length_map] at h1
  exact h1
theorem am_setSlot {cell : Cell} {vs : List Value} {al : Nat → Nat} (h : cell.slots.toList = vs.map (am_cv al)) (j : Nat) (v : Value) : (cell.setSlot j (am_cv al v)).slots.toList = (vs.set j v).map (am_cv al) := by
  unfold Cell.setSlot
  rw [Array.toList_setIfInBounds, h, List.map_set]
theorem am_set_ok {n j : Nat} {vs : List Value} {v : Value} (h : ∀ w ∈ vs, am_vk n w) (hv : am_vk n v) : ∀ w ∈ vs.set j v, am_vk n w := fun w hw => (List.mem_or_eq_of_mem_set hw).elim (h w) (fun e => by rw [e]; exact hv)
section AMC
variable {D : va_G} {cA : Nat → ClassId} {base : Nat} {al0 : Nat → Nat} {n0 s0 mu : Nat} {p : Program} {l : Launch} {e : Env} {R : Room} {s : State} {m : MethodId} {args : Array Value} {below : List Frame} {meth : Method} {c : Code} {Q : State → Prop} {pc : Nat} {ls st : List Value} {h : am_H}
variable {len a b d : Nat} {ks ps : List Nat} {t : Nat × List Value × List Value × am_H}
theorem am_ctx.Phi (C : am_ctx D cA base al0 l mu p R s m args meth c) : am_Phi D cA base al0 s s.heap := C.2.2.2.2.2.2.2.2.2.2.2.2.2
theorem am_ctx.w (C : am_ctx D cA base al0 l mu p R s m args meth c) {ps : List Nat} {w : Cond} (h : am_hasw ps w = true) (hg : goodWord w = true) : w.before args s = true := C.2.2.2.2.1 w (am_big h hg)
theorem am_ctx.w2 (C : am_ctx D cA base al0 l mu p R s m args meth c) {w : Cond} (h : w ∈ lw_tbl) (hg : goodWord w = true) : w.before args s = true := C.2.2.2.2.1 w (List.mem_filter.mpr ⟨h, hg⟩)
theorem am_ctx.own (C : am_ctx D cA base al0 l mu p R s m args meth c) : s.vm.findClass (am_own mu) = some m.cls := C.2.2.2.1
theorem am_objP {al : Nat → Nat} {H : Heap} {k t : Nat} {cc : am_C} (hr : am_rel D cA base al s H h) (hk : h.1 k = some cc) (ht : cc.1 = t) (h50 : t < 50) : ∃ z, vwCl[t]? = some z ∧ cc.2.length = z.2.2 ∧ va_P D vwCl [(al k, .inr (t, cc.2.map (am_cv al)))] H := by
  obtain ⟨h1, z, h2, h3⟩ := (hr.1 k cc hk).2.2.1.1 (by omega)
  rw [ht] at h1 h2
  exact ⟨z, h2, h3, fun j x hx => by cases j with
    | zero => cases hx; exact h1
    | succ j => simp at hx⟩
theorem am_s_getfield {i : Nat} (C : am_ctx D cA base al0 l mu p R s m args meth c) (hdec : decode (am_bc mu) pc = .ok (.getfield i, len)) (hlen : len = 3) (hck : am_chf mu i a b ps = true) (hop : am_op0 (.getfield i, len, a, b, d, ks, ps) pc ls st h = some t) (k : am_J D cA base al0 n0 s0 mu p l e R s m args below meth c Q t.1 t.2.1 t.2.2.1 t.2.2.2) : am_J D cA base al0 n0 s0 mu p l e R s m args below meth c Q pc ls st h := by
  subst hlen
  simp only [am_op0] at hop
  split at hop
  · next k9 s9 =>
    obtain ⟨v, hv, e1⟩ := Option.map_eq_some_iff.mp hop
    cases e1
    intro al H locs cells slots lsM Z
    unfold am_getf at hv
    obtain ⟨c9, hc9, hv⟩ := Option.bind_eq_some_iff.mp hv
    split at hv
    · next ht =>
      unfold am_chf at hck
      cases hq : vwCl[a]? with
      | none => rw [hq] at hck; cases hck
      | some z =>
        rw [hq] at hck
        simp only [Bool.and_eq_true, decide_eq_true_eq, Bool.or_eq_true] at hck
        obtain ⟨hbN, hlink⟩ := hck
        obtain ⟨z2, g1, g2, hP⟩ := am_objP Z.1 hc9 ht (by have := am_vwCl_lt hq; omega)
        have hK := C.Phi.K
        have hgo := k al H locs cells slots lsM ⟨Z.1, Z.2.1, Z.2.2.1, ⟨(Z.1.1 k9 c9 hc9).2.2.2.2 v (List.mem_of_getElem? hv), Z.2.2.2.1.2⟩, Z.2.2.2.2⟩
        have hvv : (c9.2.map (am_cv al))[b]? = some (am_cv al v) := by rw [List.getElem?_map, hv]; rfl
        rcases hlink with hl | ⟨hl, hsm⟩
        · exact va_get (D := D) (ci := a) (v := am_cv al v) (C := z.1) (T := z.2.1) (N := z.2.2) (own := am_own mu) (ref := (z.2.1 b).1) (Ts := am_BIG) C.1 C.2.1 C.2.2.2.2.1 (am_ucls hq) C.own hK hP 0 rfl hq b hbN (C.w hl rfl) (fun _ q => q) hvv hdec hgo
        · exact va_get (D := D) (ci := a) (v := am_cv al v) (C := z.1) (T := z.2.1) (N := z.2.2) (own := am_own mu) (ref := z.1) (Ts := am_BIG) C.1 C.2.1 C.2.2.2.2.1 (am_ucls hq) C.own hK hP 0 rfl hq b hbN (C.w hl rfl) (fun x q => u_same (C.w hsm rfl) x q) hvv hdec hgo
    · cases hv
  · cases hop
theorem am_s_putfield {i : Nat} (C : am_ctx D cA base al0 l mu p R s m args meth c) (hdec : decode (am_bc mu) pc = .ok (.putfield i, len)) (hlen : len = 3) (hck : am_chf mu i a b ps = true ∧ am_chp mu a b d = true) (hop : am_op0 (.putfield i, len, a, b, d, ks, ps) pc ls st h = some t) (k : am_J D cA base al0 n0 s0 mu p l e R s m args below meth c Q t.1 t.2.1 t.2.2.1 t.2.2.2) : am_J D cA base al0 n0 s0 mu p l e R s m args below meth c Q pc ls st h := by
  subst hlen
  simp only [am_op0] at hop
  split at hop
  · next v9 k9 s9 =>
    obtain ⟨h9, hv, e1⟩ := Option.map_eq_some_iff.mp hop
    cases e1
    intro al H locs cells slots lsM Z
    unfold am_putf at hv
    obtain ⟨c9, hc9, hv⟩ := Option.bind_eq_some_iff.mp hv
    split at hv
    · next ht =>
      cases hv
      obtain ⟨ht, hbl, hkv⟩ := ht
      obtain ⟨hck, hck2⟩ := hck
      unfold am_chf at hck
      unfold am_chp at hck2
      cases hq : vwCl[a]? with
      | none => rw [hq] at hck; cases hck
      | some z =>
        rw [hq] at hck hck2
        simp only [Bool.and_eq_true, decide_eq_true_eq, Bool.or_eq_true, Bool.not_eq_true'] at hck hck2
        obtain ⟨hbN, hlink⟩ := hck
        obtain ⟨hkt, hfin⟩ := hck2
        obtain ⟨z2, g1, g2, hP⟩ := am_objP Z.1 hc9 ht (by have := am_vwCl_lt hq; omega)
        cases hq.symm.trans g1
        have hK := C.Phi.K
        obtain ⟨hn, hfit⟩ := am_fit al hkt hkv
        have hts := C.2.2.2.2.1
        have hin := am_ucls hq
        obtain ⟨hty, hnm, -⟩ := am_tcls hq
        have hap := va_apart (own := am_own mu) hts hin (am_fty a) hty hnm hK hq
        have hl2 : b < (c9.2.map (am_cv al)).length := by rw [List.length_map]; exact hbl
        obtain ⟨r, h1, cell, q1, q2, q3, q4⟩ := hP 0 _ rfl
        have hr : r = z := Option.some.inj (h1.symm.trans hq)
        subst hr
        obtain ⟨hS, hfc, kC, hkC, hkind⟩ := hK.1 a _ hq
        obtain ⟨cf, kf, fi, f, hi, hsl⟩ := hS b hbN
        have hst := (u_facts hfc hkC (u_lays hts hin hbN) hi).1
        have hgo : ∀ H' : Heap, H'[al k9]? = some (cell.setSlot (D.2 a b) (am_cv al v9)) → H'.size = H.size → (∀ q, q ≠ al k9 → H'[q]? = H[q]?) → W p l e R s m args below meth c H' (locs ++ [⟨al k9, D.2 a b⟩]) cells slots Q (F0 m (pc + 3) lsM (s9.map (am_cv al))) := by
          intro H' e1 e2 e3
          refine k al H' _ cells slots lsM ⟨Z.1.set hc9 ht.symm (by have := am_vwCl_lt hq; omega) ⟨fun _ => ⟨⟨r, hq, ?_⟩, r, hq, by rw [List.length_set]; exact g2⟩, fun z => absurd z (by have := am_vwCl_lt hq; omega), fun z => absurd z (by have := am_vwCl_lt hq; omega)⟩ (am_set_ok (Z.1.1 k9 c9 hc9).2.2.2.2 Z.2.2.2.1.1) e2 e3, Z.2.1, Z.2.2.1, Z.2.2.2.1.2.2, Z.2.2.2.2.1.put e2 e3 ((Z.1.1 k9 c9 hc9).2.2.2.1 (by have := am_vwCl_lt hq; omega)), Z.2.2.2.2.2⟩
          show t_OB (al k9) (D.1 a) r.2.2 (D.2 a) H' (vp_V ((c9.2.set b v9).map (am_cv al)))
          rw [List.map_set]
          exact t_OB.to (V := updV (vp_V (c9.2.map (am_cv al))) b (am_cv al v9)) ⟨_, e1, q2, q3, t_set q4 hap hbN (am_cv al v9)⟩ (fun j _ => vp_updV_set hl2 (am_cv al v9) j)
        have hlk : ∃ ref, (Cond.fieldLink (am_own mu) i ref (r.2.1 b).2.1 (r.2.1 b).2.2.1).before args s = true ∧ ∀ x, s.fieldFound? (r.2.1 b).1 (r.2.1 b).2.1 (r.2.1 b).2.2.1 = some x → s.fieldFound? ref (r.2.1 b).2.1 (r.2.1 b).2.2.1 = some x := by
          rcases hlink with hl | ⟨hl, hsm⟩
          · exact ⟨_, C.w hl rfl, fun _ q => q⟩
          · exact ⟨_, C.w hl rfl, fun x q => u_same (C.w hsm rfl) x q⟩
        obtain ⟨ref, hlink, hsame⟩ := hlk
        have hlay := hts _ (hin _ (u_in_lay hbN))
        unfold u_lay at hlay
        rcases hfin with hfin | ⟨hin2, hdecl⟩
        · rw [if_neg (by rw [hfin]; decide)] at hlay
          have h6 := u_store hfc hkC hkind hlay hi (hty b hbN) hn hfit
          refine W.putK C.1 C.2.1 (f := f) ⟨C.own, hlink, ⟨_, _, _, hsame _ hi⟩, hst⟩ (by rw [q2]; exact h6) q1 q3 (by rw [hsl]; exact k2_hasslot (q4 b hbN)) rfl rfl hdec fun H' e1 e2 e3 => ?_
          rw [hsl] at e1 ⊢
          exact hgo H' e1 e2 e3
        · by_cases hf : (r.2.1 b).2.2.2 = true
          · rw [if_pos hf] at hlay
            have hcf : m.cls = cf := by
              obtain ⟨_, _, c', _, _, _, -, -, hf', -, -, -, hown2, -⟩ := Cond.laysFinal_spec hlay
              have e1 : c' = cf := by have := hi.symm.trans hf'; simp at this; exact this.1.symm
              rw [hdecl] at hown2
              rw [← e1]; exact Option.some.inj (C.own.symm.trans hown2)
            have h6 := u_fits hfc hkC hkind (Or.inr hlay) hi (hty b hbN) hn hfit
            refine W.putFinK C.1 C.2.1 C.own hlink (hsame _ hi) hst hcf (C.2.2.2.2.2.2.2.1 hin2) (by rw [q2]; exact h6) q1 q3 (by rw [hsl]; exact k2_hasslot (q4 b hbN)) rfl rfl hdec fun H' e1 e2 e3 => ?_
            rw [hsl] at e1 ⊢
            exact hgo H' e1 e2 e3
          · rw [if_neg hf] at hlay
            have h6 := u_store hfc hkC hkind hlay hi (hty b hbN) hn hfit
            refine W.putK C.1 C.2.1 (f := f) ⟨C.own, hlink, ⟨_, _, _, hsame _ hi⟩, hst⟩ (by rw [q2]; exact h6) q1 q3 (by rw [hsl]; exact k2_hasslot (q4 b hbN)) rfl rfl hdec fun H' e1 e2 e3 => ?_
            rw [hsl] at e1 ⊢
            exact hgo H' e1 e2 e3
    · cases hv
  · cases hop
theorem am_s_getstatic {i : Nat} (C : am_ctx D cA base al0 l mu p R s m args meth c) (hdec : decode (am_bc mu) pc = .ok (.getstatic i, len)) (hlen : len = 3) (hck : (match am_stat[a]? with
      | some z => if d = 1 then am_hasw ps (.fieldLinkNest (am_own mu) i z.1 z.2.1 z.2.2 "EmpireTurns") else am_hasw ps (.fieldLink (am_own mu) i z.1 z.2.1 z.2.2)
      | none => false) = true) (hn0 : 12 ≤ n0) (hop : am_op0 (.getstatic i, len, a, b, d, ks, ps) pc ls st h = some t) (k : am_J D cA base al0 n0 s0 mu p l e R s m args below meth c Q t.1 t.2.1 t.2.2.1 t.2.2.2) : am_J D cA base al0 n0 s0 mu p l e R s m args below meth c Q pc ls st h := by
  subst hlen
  simp only [am_op0] at hop
  cases hop
  intro al H locs cells slots lsM Z
  cases hq : am_stat[a]? with
  | none => rw [hq] at hck; cases hck
  | some z =>
    rw [hq] at hck
    have ha : a < 10 := (List.getElem?_eq_some_iff.mp hq).1
    have hZ := C.Phi.2.2.2.2.1 a z hq
    have hgo := k al H locs cells slots lsM ⟨Z.1, Z.2.1, Z.2.2.1, ⟨by show a < h.2.1; have := Z.2.2.2.2.2.2.1; omega, Z.2.2.2.1⟩, Z.2.2.2.2⟩
    have e0 : al a = al0 a := Z.2.2.2.2.2.1 a (by omega)
    rw [← e0] at hZ
    simp only at hck
    split at hck
    · exact va_getsN (A := fun q => base ≤ q) C.1 C.2.1 hZ Z.2.2.2.2.1 C.own (va_Nw.use rfl (C.Phi.2.2.1 _ (am_hasw_mem hck) rfl)) (fun _ q => q) hdec hgo
    · exact va_gets (A := fun q => base ≤ q) C.1 C.2.1 hZ Z.2.2.2.2.1 C.own (C.w hck rfl) (fun _ q => q) hdec hgo
theorem am_arrP {al : Nat → Nat} {H : Heap} {k : Nat} {cc : am_C} (hr : am_rel D cA base al s H h) (hk : h.1 k = some cc) (h1 : 50 ≤ cc.1) (h2 : cc.1 < 70) : ∃ cell : Cell, H[al k]? = some cell ∧ s.isArrayOf cell (am_ty cc.1) ∧ cell.vm ≠ .unknown ∧ am_sl cell (cc.2.map (am_cv al)) := (hr.1 k cc hk).2.2.1.2.1 h1 h2
theorem am_ald_spec {k : Nat} {ts : List Nat} {d : Nat} {i : Int32} {v : Value} (hv : am_ald h k ts d i = some v) : ∃ cc, h.1 k = some cc ∧ cc.1 ∈ ts ∧ ¬ i < 0 ∧ cc.2[i.toNatClampNeg]? = some v ∧ am_kv v = d := by
  unfold am_ald at hv
  obtain ⟨c9, hc9, hv⟩ := Option.bind_eq_some_iff.mp hv
  split at hv
  · next ht =>
    obtain ⟨j, hj, hv⟩ := Option.bind_eq_some_iff.mp hv
    obtain ⟨w, hw, hv⟩ := Option.bind_eq_some_iff.mp hv
    split at hv
    · next hk9 =>
      cases hv
      obtain ⟨g1, rfl⟩ := am_ix_some hj
      exact ⟨c9, hc9, ht, g1, hw, hk9⟩
    · cases hv
  · cases hv
theorem am_inb {i : Int32} {cell : Cell} {vs : List Value} {al : Nat → Nat} {v : Value} (h0 : ¬ i < 0) (hs : am_sl cell (vs.map (am_cv al))) (hv : vs[i.toNatClampNeg]? = some v) : ¬ (i < 0 ∨ cell.slots.size ≤ i.toNatClampNeg) := by
  rintro (q | q)
  · exact h0 q
  · have := (List.getElem?_eq_some_iff.mp hv).1
    have := am_slots hs
    omega
theorem am_s_iaload (C : am_ctx D cA base al0 l mu p R s m args meth c) (hdec : decode (am_bc mu) pc = .ok (.iaload, len)) (hlen : len = 1) (hop : am_op0 (.iaload, len, a, b, d, ks, ps) pc ls st h = some t) (k : am_J D cA base al0 n0 s0 mu p l e R s m args below meth c Q t.1 t.2.1 t.2.2.1 t.2.2.2) : am_J D cA base al0 n0 s0 mu p l e R s m args below meth c Q pc ls st h := by
  subst hlen
  simp only [am_op0] at hop
  split at hop
  · next i9 k9 s9 =>
    obtain ⟨v, hv, e1⟩ := Option.map_eq_some_iff.mp hop
    cases e1
    intro al H locs cells slots lsM Z
    obtain ⟨c9, hc9, ht, h0, hw, hkv⟩ := am_ald_spec hv
    simp only [List.mem_cons, List.not_mem_nil, or_false] at ht
    have hty : am_ty c9.1 = .int := by unfold am_ty; rcases ht with e | e <;> rw [e] <;> rfl
    obtain ⟨cell, g1, g2, g3, g4⟩ := am_arrP Z.1 hc9 (by omega) (by omega)
    rw [hty] at g2
    exact W.iald (v := am_cv al v) C.1 C.2.1 g1 g2 g3 (am_inb h0 g4 hw) (am_slot g4 hw) rfl rfl hdec (k al H locs cells slots lsM ⟨Z.1, Z.2.1, Z.2.2.1, ⟨(Z.1.1 k9 c9 hc9).2.2.2.2 v (List.mem_of_getElem? hw), Z.2.2.2.1.2.2⟩, Z.2.2.2.2⟩)
  · cases hop
theorem am_s_laload (C : am_ctx D cA base al0 l mu p R s m args meth c) (hdec : decode (am_bc mu) pc = .ok (.laload, len)) (hlen : len = 1) (hop : am_op0 (.laload, len, a, b, d, ks, ps) pc ls st h = some t) (k : am_J D cA base al0 n0 s0 mu p l e R s m args below meth c Q t.1 t.2.1 t.2.2.1 t.2.2.2) : am_J D cA base al0 n0 s0 mu p l e R s m args below meth c Q pc ls st h := by
  subst hlen
  simp only [am_op0] at hop
  split at hop
  · next i9 k9 s9 =>
    obtain ⟨v, hv, e1⟩ := Option.map_eq_some_iff.mp hop
    cases e1
    intro al H locs cells slots lsM Z
    obtain ⟨c9, hc9, ht, h0, hw, hkv⟩ := am_ald_spec hv
    simp only [List.mem_cons, List.not_mem_nil, or_false] at ht
    have hty : am_ty c9.1 = .long := by unfold am_ty; rw [ht]; rfl
    obtain ⟨cell, g1, g2, g3, g4⟩ := am_arrP Z.1 hc9 (by omega) (by omega)
    rw [hty] at g2
    exact W.lald (v := am_cv al v) C.1 C.2.1 g1 g2 g3 (am_inb h0 g4 hw) (am_slot g4 hw) rfl rfl hdec (k al H locs cells slots lsM ⟨Z.1, Z.2.1, Z.2.2.1, ⟨(Z.1.1 k9 c9 hc9).2.2.2.2 v (List.mem_of_getElem? hw), Z.2.2.2.1.2.2⟩, Z.2.2.2.2⟩)
  · cases hop
theorem am_s_baload (C : am_ctx D cA base al0 l mu p R s m args meth c) (hdec : decode (am_bc mu) pc = .ok (.baload, len)) (hlen : len = 1) (hop : am_op0 (.baload, len, a, b, d, ks, ps) pc ls st h = some t) (k : am_J D cA base al0 n0 s0 mu p l e R s m args below meth c Q t.1 t.2.1 t.2.2.1 t.2.2.2) : am_J D cA base al0 n0 s0 mu p l e R s m args below meth c Q pc ls st h := by
  subst hlen
  simp only [am_op0] at hop
  split at hop
  · next i9 k9 s9 =>
    obtain ⟨v, hv, e1⟩ := Option.map_eq_some_iff.mp hop
    cases e1
    intro al H locs cells slots lsM Z
    obtain ⟨c9, hc9, ht, h0, hw, hkv⟩ := am_ald_spec hv
    simp only [List.mem_cons, List.not_mem_nil, or_false] at ht
    have hty : am_ty c9.1 = .boolean := by unfold am_ty; rw [ht]; rfl
    obtain ⟨cell, g1, g2, g3, g4⟩ := am_arrP Z.1 hc9 (by omega) (by omega)
    rw [hty] at g2
    exact W.zald (v := am_cv al v) C.1 C.2.1 g1 g2 g3 (am_inb h0 g4 hw) (am_slot g4 hw) rfl rfl hdec (k al H locs cells slots lsM ⟨Z.1, Z.2.1, Z.2.2.1, ⟨(Z.1.1 k9 c9 hc9).2.2.2.2 v (List.mem_of_getElem? hw), Z.2.2.2.1.2.2⟩, Z.2.2.2.2⟩)
  · cases hop
theorem am_s_aaload (C : am_ctx D cA base al0 l mu p R s m args meth c) (hdec : decode (am_bc mu) pc = .ok (.aaload, len)) (hlen : len = 1) (hop : am_op0 (.aaload, len, a, b, d, ks, ps) pc ls st h = some t) (k : am_J D cA base al0 n0 s0 mu p l e R s m args below meth c Q t.1 t.2.1 t.2.2.1 t.2.2.2) : am_J D cA base al0 n0 s0 mu p l e R s m args below meth c Q pc ls st h := by
  subst hlen
  simp only [am_op0] at hop
  split at hop
  · next i9 k9 s9 =>
    obtain ⟨v, hv, e1⟩ := Option.map_eq_some_iff.mp hop
    cases e1
    intro al H locs cells slots lsM Z
    obtain ⟨c9, hc9, ht, h0, hw, hkv⟩ := am_ald_spec hv
    simp only [List.mem_cons, List.not_mem_nil, or_false] at ht
    have hty : (am_ty c9.1).isReference = true := by unfold am_ty; rcases ht with e | e | e <;> rw [e] <;> rfl
    obtain ⟨cell, g1, g2, g3, g4⟩ := am_arrP Z.1 hc9 (by omega) (by omega)
    exact W.aald (v := am_cv al v) C.1 C.2.1 g1 g2 hty g3 (am_inb h0 g4 hw) (am_slot g4 hw) rfl rfl hdec (k al H locs cells slots lsM ⟨Z.1, Z.2.1, Z.2.2.1, ⟨(Z.1.1 k9 c9 hc9).2.2.2.2 v (List.mem_of_getElem? hw), Z.2.2.2.1.2.2⟩, Z.2.2.2.2⟩)
  · cases hop
theorem am_arrSet {al : Nat → Nat} {H H1 : Heap} {k : Nat} {cc : am_C} {cell : Cell} {j : Nat} {v : Value} (hr : am_rel D cA base al s H h) (hk : h.1 k = some cc) (h1 : 50 ≤ cc.1) (h2 : cc.1 < 60) (hc : H[al k]? = some cell) (hv : am_vk h.2.1 v)
    (e1 : H1[al k]? = some (cell.setSlot j (am_cv al v))) (e2 : H1.size = H.size) (e3 : ∀ q, q ≠ al k → H1[q]? = H[q]?) : am_rel D cA base al s H1 (am_set h k (cc.1, cc.2.set j v)) := by
  obtain ⟨c0, g1, g2, g3, g4⟩ := am_arrP hr hk h1 (by omega)
  cases hc.symm.trans g1
  obtain ⟨c0, g5, g6, g7, g8⟩ := (hr.1 k cc hk).2.2.1.2.2 h1 h2
  cases hc.symm.trans g5
  refine hr.set (c1 := (cc.1, cc.2.set j v)) hk rfl h2 ⟨fun z => absurd z (by show ¬ cc.1 < 50; omega), fun _ _ => ⟨_, e1, g2, g3, am_sl_of (am_setSlot g8 j v)⟩, fun _ _ => ⟨_, e1, g6, g7, am_setSlot g8 j v⟩⟩ (am_set_ok (hr.1 k cc hk).2.2.2.2 hv) e2 e3
theorem am_ast_spec {k t d : Nat} {i : Int32} {v : Value} {h9 : am_H} (hv : am_ast h k t d i v = some h9) : ∃ cc, h.1 k = some cc ∧ cc.1 = t ∧ ¬ i < 0 ∧ i.toNatClampNeg < cc.2.length ∧ h9 = am_set h k (cc.1, cc.2.set i.toNatClampNeg v) := by
  unfold am_ast at hv
  obtain ⟨c9, hc9, hv⟩ := Option.bind_eq_some_iff.mp hv
  split at hv
  · next ht =>
    obtain ⟨j, hj, hv⟩ := Option.bind_eq_some_iff.mp hv
    split at hv
    · next hlt =>
      cases hv
      obtain ⟨g1, rfl⟩ := am_ix_some hj
      exact ⟨c9, hc9, ht.1, g1, hlt, by rw [ht.1]⟩
    · cases hv
  · cases hv
theorem am_s_iastore (C : am_ctx D cA base al0 l mu p R s m args meth c) (hdec : decode (am_bc mu) pc = .ok (.iastore, len)) (hlen : len = 1) (hop : am_op0 (.iastore, len, a, b, d, ks, ps) pc ls st h = some t) (k : am_J D cA base al0 n0 s0 mu p l e R s m args below meth c Q t.1 t.2.1 t.2.2.1 t.2.2.2) : am_J D cA base al0 n0 s0 mu p l e R s m args below meth c Q pc ls st h := by
  subst hlen
  simp only [am_op0] at hop
  split at hop
  · next x9 i9 k9 s9 =>
    obtain ⟨h9, hv, e1⟩ := Option.map_eq_some_iff.mp hop
    cases e1
    intro al H locs cells slots lsM Z
    obtain ⟨c9, hc9, ht, h0, hlt, rfl⟩ := am_ast_spec hv
    obtain ⟨cell, g1, g2, g3, g4⟩ := am_arrP Z.1 hc9 (by omega) (by omega)
    have hty : am_ty c9.1 = .int := by unfold am_ty; rw [ht]; rfl
    rw [hty] at g2
    refine W.iast C.1 C.2.1 g1 g2 g3 (by have := am_slots g4; rintro (q | q); exact h0 q; omega) rfl rfl hdec fun H' e1 e2 e3 => ?_
    exact k al H' _ cells slots lsM ⟨am_arrSet (v := .int x9) Z.1 hc9 (by omega) (by omega) g1 trivial e1 e2 e3, Z.2.1, Z.2.2.1, Z.2.2.2.1.2.2.2, Z.2.2.2.2.1.put e2 e3 ((Z.1.1 k9 c9 hc9).2.2.2.1 (by omega)), Z.2.2.2.2.2⟩
  · cases hop
theorem am_s_lastore (C : am_ctx D cA base al0 l mu p R s m args meth c) (hdec : decode (am_bc mu) pc = .ok (.lastore, len)) (hlen : len = 1) (hop : am_op0 (.lastore, len, a, b, d, ks, ps) pc ls st h = some t) (k : am_J D cA base al0 n0 s0 mu p l e R s m args below meth c Q t.1 t.2.1 t.2.2.1 t.2.2.2) : am_J D cA base al0 n0 s0 mu p l e R s m args below meth c Q pc ls st h := by
  subst hlen
  simp only [am_op0] at hop
  split at hop
  · next x9 i9 k9 s9 =>
    obtain ⟨h9, hv, e1⟩ := Option.map_eq_some_iff.mp hop
    cases e1
    intro al H locs cells slots lsM Z
    obtain ⟨c9, hc9, ht, h0, hlt, rfl⟩ := am_ast_spec hv
    obtain ⟨cell, g1, g2, g3, g4⟩ := am_arrP Z.1 hc9 (by omega) (by omega)
    have hty : am_ty c9.1 = .long := by unfold am_ty; rw [ht]; rfl
    rw [hty] at g2
    refine W.last C.1 C.2.1 g1 g2 g3 (by have := am_slots g4; rintro (q | q); exact h0 q; omega) rfl rfl hdec fun H' e1 e2 e3 => ?_
    exact k al H' _ cells slots lsM ⟨am_arrSet (v := .long x9) Z.1 hc9 (by omega) (by omega) g1 trivial e1 e2 e3, Z.2.1, Z.2.2.1, Z.2.2.2.1.2.2.2, Z.2.2.2.2.1.put e2 e3 ((Z.1.1 k9 c9 hc9).2.2.2.1 (by omega)), Z.2.2.2.2.2⟩
  · cases hop
theorem am_s_bastore (C : am_ctx D cA base al0 l mu p R s m args meth c) (hdec : decode (am_bc mu) pc = .ok (.bastore, len)) (hlen : len = 1) (hop : am_op0 (.bastore, len, a, b, d, ks, ps) pc ls st h = some t) (k : am_J D cA base al0 n0 s0 mu p l e R s m args below meth c Q t.1 t.2.1 t.2.2.1 t.2.2.2) : am_J D cA base al0 n0 s0 mu p l e R s m args below meth c Q pc ls st h := by
  subst hlen
  simp only [am_op0] at hop
  split at hop
  · next x9 i9 k9 s9 =>
    obtain ⟨h9, hv, e1⟩ := Option.map_eq_some_iff.mp hop
    cases e1
    intro al H locs cells slots lsM Z
    obtain ⟨c9, hc9, ht, h0, hlt, rfl⟩ := am_ast_spec hv
    obtain ⟨cell, g1, g2, g3, g4⟩ := am_arrP Z.1 hc9 (by omega) (by omega)
    have hty : am_ty c9.1 = .boolean := by unfold am_ty; rw [ht]; rfl
    rw [hty] at g2
    refine W.zast C.1 C.2.1 g1 g2 g3 (by have := am_slots g4; rintro (q | q); exact h0 q; omega) rfl rfl hdec fun H' e1 e2 e3 => ?_
    exact k al H' _ cells slots lsM ⟨am_arrSet (v := .int (x9 &&& 1)) Z.1 hc9 (by omega) (by omega) g1 trivial e1 e2 e3, Z.2.1, Z.2.2.1, Z.2.2.2.1.2.2.2, Z.2.2.2.2.1.put e2 e3 ((Z.1.1 k9 c9 hc9).2.2.2.1 (by omega)), Z.2.2.2.2.2⟩
  · cases hop
theorem am_s_aastore (C : am_ctx D cA base al0 l mu p R s m args meth c) (hdec : decode (am_bc mu) pc = .ok (.aastore, len)) (hlen : len = 1) (hop : am_op0 (.aastore, len, a, b, d, ks, ps) pc ls st h = some t) (k : am_J D cA base al0 n0 s0 mu p l e R s m args below meth c Q t.1 t.2.1 t.2.2.1 t.2.2.2) : am_J D cA base al0 n0 s0 mu p l e R s m args below meth c Q pc ls st h := by
  subst hlen
  simp only [am_op0] at hop
  split at hop
  · next v9 i9 k9 s9 =>
    obtain ⟨h9, hv, e1⟩ := Option.map_eq_some_iff.mp hop
    cases e1
    intro al H locs cells slots lsM Z
    unfold am_asq at hv
    obtain ⟨c9, hc9, hv⟩ := Option.bind_eq_some_iff.mp hv
    split at hv
    · next ht =>
      obtain ⟨htt, hfq⟩ := ht
      obtain ⟨j, hj, hv⟩ := Option.bind_eq_some_iff.mp hv
      split at hv
      · next hlt =>
        cases hv
        obtain ⟨h0, rfl⟩ := am_ix_some hj
        have ht1 : 50 ≤ c9.1 := by omega
        have ht2 : c9.1 < 60 := by omega
        obtain ⟨cell, g1, g2, g3, g4⟩ := am_arrP Z.1 hc9 ht1 (by omega)
        obtain ⟨c0, g5, g6, g7, g8⟩ := (Z.1.1 k9 c9 hc9).2.2.1.2.2 ht1 ht2
        cases g1.symm.trans g5
        have hin : ¬ (i9 < 0 ∨ cell.slots.size ≤ i9.toNatClampNeg) := by
          have := am_slots g4
          rintro (q | q)
          · exact h0 q
          · omega
        have hgo : ∀ H' : Heap, H'[al k9]? = some (cell.setSlot i9.toNatClampNeg (am_cv al v9)) → H'.size = H.size → (∀ q, q ≠ al k9 → H'[q]? = H[q]?) → W p l e R s m args below meth c H' (locs ++ [⟨al k9, i9.toNatClampNeg⟩]) cells slots Q (F0 m (pc + 1) lsM (s9.map (am_cv al))) := fun H' e1 e2 e3 =>
          k al H' _ cells slots lsM ⟨am_arrSet (v := v9) Z.1 hc9 ht1 ht2 g1 Z.2.2.2.1.1 e1 e2 e3, Z.2.1, Z.2.2.1, Z.2.2.2.1.2.2.2, Z.2.2.2.2.1.put e2 e3 ((Z.1.1 k9 c9 hc9).2.2.2.1 ht2), Z.2.2.2.2.2⟩
        obtain ⟨hAr, hRA⟩ := C.Phi.2.1 c9.1 ht1 (by omega)
        have hty : ∃ C9, am_ty c9.1 = .object C9 ∧ (c9.1 = 53 → C9 = "java/lang/Object") ∧ (c9.1 = 54 → C9 = "EmpireTurns$Treaty") := by
          rcases htt with e | e
          · exact ⟨"java/lang/Object", by unfold am_ty; rw [e]; rfl, fun _ => rfl, fun q => by omega⟩
          · exact ⟨"EmpireTurns$Treaty", by unfold am_ty; rw [e]; rfl, fun q => by omega, fun _ => rfl⟩
        obtain ⟨C9, hty, hC3, hC4⟩ := hty
        rw [hty] at hRA g2
        cases v9 with
        | null => exact va_WaastN (C := C9) C.1 C.2.1 g1 g2 g3 hin rfl rfl hdec hgo
        | ref r9 =>
          unfold am_fitq at hfq
          dsimp only at hfq
          cases hr9 : h.1 r9 with
          | none => rw [hr9] at hfq; cases hfq
          | some c8 =>
            rw [hr9] at hfq
            simp only [Bool.or_eq_true, Bool.and_eq_true, decide_eq_true_eq] at hfq
            obtain ⟨z, f1, f2, fP⟩ := am_objP Z.1 hr9 rfl (by omega)
            obtain ⟨r', hr', cellV, y1, y2, y3, -⟩ := fP 0 _ rfl
            have hcls := (C.Phi.1 c8.1 z f1).2
            obtain ⟨kA, comp, k1, k2, k3, -⟩ := hRA
            obtain ⟨kC, hkC, hkd⟩ := hcls.2
            obtain ⟨kE, hkE, -⟩ := Vm.findClass_spec k3
            have hasg : s.vm.assignable (D.1 c8.1) comp = true := by
              rcases hfq with q | q
              · have hw := va_Nw.use (A := args) rfl (C.Phi.2.2.1 _ (am_obj f1) rfl)
                obtain ⟨c3, c4, hc3, hc4, hag⟩ := Cond.castable_spec hw
                rw [hC3 q.1] at k3
                cases hc4.symm.trans k3
                cases hc3.symm.trans hcls.1
                exact hag
              · have h7 : vwCl[c8.1]? = some z := f1
                rw [q.2] at h7
                cases h7
                rw [hC4 q.1] at k3
                have e9 : D.1 c8.1 = comp := Option.some.inj (hcls.1.symm.trans k3)
                rw [← e9]
                exact va_asg _ _
            refine W.aast C.1 C.2.1 g1 (fun q hq => by rw [g7] at hq; cases hq) g3 (by rw [g6]; exact k1) k2 rfl hkE ⟨h0, Nat.lt_of_lt_of_le hlt (am_slots g4)⟩ y1 (fun q hq => by rw [y3] at hq; cases hq) (by rw [y2]; exact hkC) (by rw [y2]; exact hasg) rfl rfl hdec hgo
        | _ => cases hfq
      · cases hv
    · cases hv
  · cases hop
theorem am_s_arraylength (C : am_ctx D cA base al0 l mu p R s m args meth c) (hdec : decode (am_bc mu) pc = .ok (.arraylength, len)) (hlen : len = 1) (hop : am_op0 (.arraylength, len, a, b, d, ks, ps) pc ls st h = some t) (k : am_J D cA base al0 n0 s0 mu p l e R s m args below meth c Q t.1 t.2.1 t.2.2.1 t.2.2.2) : am_J D cA base al0 n0 s0 mu p l e R s m args below meth c Q pc ls st h := by
  subst hlen
  simp only [am_op0] at hop
  split at hop
  · next k9 s9 =>
    obtain ⟨n9, hv, e1⟩ := Option.map_eq_some_iff.mp hop
    cases e1
    intro al H locs cells slots lsM Z
    unfold am_len at hv
    obtain ⟨c9, hc9, hv⟩ := Option.bind_eq_some_iff.mp hv
    split at hv
    · next ht =>
      cases hv
      obtain ⟨cell, g1, g2, g3, g4⟩ := am_arrP Z.1 hc9 ht.1 ht.2
      exact W.alen C.1 C.2.1 g1 g2 (by rw [g4.2.2, List.length_map]) rfl rfl hdec (k al H locs cells slots lsM ⟨Z.1, Z.2.1, Z.2.2.1, ⟨trivial, Z.2.2.2.1.2⟩, Z.2.2.2.2⟩)
    · cases hv
  · cases hop
theorem am_s_if_acmp {cc9 : ACond} {off : Int} (C : am_ctx D cA base al0 l mu p R s m args meth c) (hdec : decode (am_bc mu) pc = .ok (.if_acmp cc9 off, len)) (hlen : len = 3) (hck : (pc : Int) + off = (a : Int)) (hop : am_op0 (.if_acmp cc9 off, len, a, b, d, ks, ps) pc ls st h = some t) (k : am_J D cA base al0 n0 s0 mu p l e R s m args below meth c Q t.1 t.2.1 t.2.2.1 t.2.2.2) : am_J D cA base al0 n0 s0 mu p l e R s m args below meth c Q pc ls st h := by
  subst hlen
  simp only [am_op0] at hop
  split at hop
  · next w9 v9 s9 =>
    obtain ⟨z9, hv, e1⟩ := Option.map_eq_some_iff.mp hop
    intro al H locs cells slots lsM Z
    have key : ∃ rx ry : Option Nat, am_cv al v9 = va_rf rx ∧ am_cv al w9 = va_rf ry ∧ (z9 = true ↔ rx = ry) := by
      unfold am_acmp at hv
      split at hv
      · cases hv; exact ⟨none, none, rfl, rfl, by simp⟩
      · next j9 => cases hv; exact ⟨none, some (al j9), rfl, rfl, by simp⟩
      · next j9 => cases hv; exact ⟨some (al j9), none, rfl, rfl, by simp⟩
      · next i9 j9 =>
        split at hv
        · next e => cases hv; subst e; exact ⟨some (al i9), some (al i9), rfl, rfl, by simp⟩
        · next hne =>
          obtain ⟨c1, hc1, hv⟩ := Option.bind_eq_some_iff.mp hv
          obtain ⟨c2, hc2, hv⟩ := Option.bind_eq_some_iff.mp hv
          split at hv
          · next ht =>
            cases hv
            refine ⟨some (al i9), some (al j9), rfl, rfl, ?_⟩
            have hna : ¬ al i9 = al j9 := by
              intro q
              rcases ht with g | g
              · exact hne (Z.1.2 i9 j9 c1 c2 hc1 hc2 g.1 g.2 q)
              · exact hne (Z.1.2 j9 i9 c2 c1 hc2 hc1 g.1 g.2 q.symm).symm
            simpa using hna
          · cases hv
      · cases hv
    obtain ⟨rx, ry, ex, ey, hz⟩ := key
    show W p l e R s m args below meth c H locs cells slots Q (F0 m pc lsM (am_cv al w9 :: am_cv al v9 :: s9.map (am_cv al)))
    rw [ex, ey]
    cases cc9 with
    | eq =>
      refine lv_acmp_eq C.1 C.2.1 hdec hck (fun q => ?_) (fun q => ?_)
      · rw [if_pos (Or.inl ⟨hz.mpr q, rfl⟩)] at e1
        cases e1
        exact k al H locs cells slots lsM ⟨Z.1, Z.2.1, Z.2.2.1, Z.2.2.2.1.2.2, Z.2.2.2.2⟩
      · rw [if_neg (by rintro (⟨g, -⟩ | ⟨-, g⟩); exact q (hz.mp g); cases g)] at e1
        cases e1
        exact k al H locs cells slots lsM ⟨Z.1, Z.2.1, Z.2.2.1, Z.2.2.2.1.2.2, Z.2.2.2.2⟩
    | ne =>
      refine lv_acmp_ne C.1 C.2.1 hdec hck (fun q => ?_) (fun q => ?_)
      · rw [if_pos (Or.inr ⟨by cases z9 with | true => exact absurd (hz.mp rfl) q | false => rfl, rfl⟩)] at e1
        cases e1
        exact k al H locs cells slots lsM ⟨Z.1, Z.2.1, Z.2.2.1, Z.2.2.2.1.2.2, Z.2.2.2.2⟩
      · rw [if_neg (by rintro (⟨-, g⟩ | ⟨g, -⟩); cases g; rw [hz.mpr q] at g; cases g)] at e1
        cases e1
        exact k al H locs cells slots lsM ⟨Z.1, Z.2.1, Z.2.2.1, Z.2.2.2.1.2.2, Z.2.2.2.2⟩
  · cases hop
end AMC
