/-! the reference's constructor: a heap as a list of cells behind the first forty numbers -/
def al_j (b : am_H) (l : List am_C) (s : Nat) : am_H := (fun k => if k < 40 then b.1 k else l[k - 40]?, 40 + l.length, s)
section
variable {b : am_H} {l : List am_C} {s a t f d : Nat} {v : Value}
theorem al_j1 (h : ¬ a < 40) : (al_j b l s).1 a = l[a - 40]? := if_neg h
theorem al_j0 (h : a < 40) : (al_j b l s).1 a = b.1 a := if_pos h
theorem al_jn : (al_j b l s).2.1 = 40 + l.length := rfl
theorem al_jw {c : am_C} {N : Nat} : am_new (al_j b l s) c N = al_j b (l ++ [c]) (s + N) := by
  refine Prod.ext (funext fun k => ?_) (Prod.ext ?_ rfl)
  · show (if k = 40 + l.length then some c else if k < 40 then b.1 k else l[k - 40]?) = if k < 40 then b.1 k else (l ++ [c])[k - 40]?
    by_cases e : k = 40 + l.length
    · rw [if_pos e, if_neg (by omega), e, Nat.add_sub_cancel_left, List.getElem?_append_right (Nat.le_refl _), Nat.sub_self]
      rfl
    · rw [if_neg e]
      by_cases e2 : k < 40
      · rw [if_pos e2, if_pos e2]
      · rw [if_neg e2, if_neg e2]
        rcases Nat.lt_or_ge (k - 40) l.length with q | q
        · rw [List.getElem?_append_left q]
        · rw [List.getElem?_eq_none q, List.getElem?_eq_none]
          rw [List.length_append]
          show l.length + 1 ≤ k - 40
          omega
  · show 40 + l.length + 1 = 40 + (l ++ [c]).length
    rw [List.length_append]
    rfl
theorem al_js {c : am_C} (h : ¬ a < 40) (h2 : a - 40 < l.length) : am_set (al_j b l s) a c = al_j b (l.set (a - 40) c) s := by
  refine Prod.ext (funext fun k => ?_) (Prod.ext ?_ rfl)
  · show (if k = a then some c else if k < 40 then b.1 k else l[k - 40]?) = if k < 40 then b.1 k else (l.set (a - 40) c)[k - 40]?
    by_cases e : k = a
    · rw [if_pos e, e, if_neg h, List.getElem?_set_self h2]
    · rw [if_neg e]
      by_cases e2 : k < 40
      · rw [if_pos e2, if_pos e2]
      · rw [if_neg e2, if_neg e2, List.getElem?_set_ne (by omega)]
  · show 40 + l.length = 40 + (l.set (a - 40) c).length
    rw [List.length_set]
theorem al_jg (h : ¬ a < 40) : am_getf (al_j b l s) a t f = (l[a - 40]?).bind fun c => if c.1 = t then c.2[f]? else none := by
  unfold am_getf
  rw [al_j1 h]
theorem al_jp (h : ¬ a < 40) : am_putf (al_j b l s) a t f d v = (l[a - 40]?).bind fun c => if c.1 = t ∧ f < c.2.length ∧ am_kv v = d then some (al_j b (l.set (a - 40) (t, c.2.set f v)) s) else none := by
  unfold am_putf
  rw [al_j1 h]
  rcases e : l[a - 40]? with _ | c
  · rfl
  · rw [Option.bind_some, Option.bind_some]
    have h2 : a - 40 < l.length := by
      rcases Nat.lt_or_ge (a - 40) l.length with q | q
      · exact q
      · rw [List.getElem?_eq_none q] at e
        cases e
    rw [al_js h h2]
theorem al_jna {n : Int32} : am_newa (al_j b l s) t n = (am_ix n).bind fun N => if N ≤ 100000 then some (al_j b (l ++ [(t, List.replicate N (am_dv t))]) (s + N)) else none := by
  unfold am_newa
  simp only [al_jw]
end
def al_z : am_G := fun _ _ => 0
section
variable {b : am_H} {s : Nat}
theorem al_rc0 {t f n : Nat} (ht : t = 50 ∨ t = 51 ∨ t = 52) : (t, List.replicate n (am_dv t)) = am_rc al_z (fun _ => 0) (t, f, n) := by
  unfold am_rc
  dsimp only
  by_cases h : t = 51
  · rw [if_pos h, h]
    exact congrArg (Prod.mk 51) (al_rowl (n := n) (x := 0) (g := fun _ => 0) fun _ _ => rfl)
  · rw [if_neg h]
    have : am_dv t = .int 0 := by
      unfold am_dv
      rw [if_neg h, if_neg (by omega)]
    rw [this]
    exact congrArg (Prod.mk t) (al_row (n := n) (x := 0) (g := al_z f) fun _ _ => rfl)
theorem al_nr {l : List am_C} {t f n : Nat} {x : Int32} (hx : am_ix x = some n) (hn : n ≤ 100000) (ht : t = 50 ∨ t = 51 ∨ t = 52) : am_newa (al_j b l s) t x = some (al_j b (l ++ [am_rc al_z (fun _ => 0) (t, f, n)]) (s + n)) := by
  rw [al_jna, hx, Option.bind_some, if_pos hn, al_rc0 (f := f) ht]
theorem al_p0 {vs : List Value} {l : List am_C} {f v : Nat} (h : f < vs.length) : am_putf (al_j b ((12, vs) :: l) s) 40 12 f 2 (.ref v) = some (al_j b ((12, vs.set f (.ref v)) :: l) s) := by
  rw [al_jp (by decide)]
  show (if 12 = 12 ∧ f < vs.length ∧ am_kv (.ref v) = 2 then some (al_j b ((12, vs.set f (.ref v)) :: l) s) else none) = _
  rw [if_pos ⟨rfl, h, rfl⟩]
theorem al_rd151 {vs : List Value} {cs : List am_C} {p1 p2 p3 t f n : Nat} {x : Int32} {a1 : Value} (h1 : ∀ h, am_exec 151 p1 [.ref 40, a1] [] h = (am_newa h t x).bind fun h1 => am_exec 151 p2 [.ref 40, a1] [.ref h.2.1, .ref 40] h1) (h2 : ∀ h v, am_exec 151 p2 [.ref 40, a1] [.ref v, .ref 40] h = (am_putf h 40 12 f 2 (.ref v)).bind fun h1 => am_exec 151 p3 [.ref 40, a1] [] h1) (hx : am_ix x = some n) (hn : n ≤ 100000) (ht : t = 50 ∨ t = 51 ∨ t = 52) (hf : f < 53) (hl : vs.length = 53) : am_exec 151 p1 [.ref 40, a1] [] (al_j b ((12, vs) :: cs) s) = am_exec 151 p3 [.ref 40, a1] [] (al_j b ((12, vs.set f (.ref (40 + (cs.length + 1)))) :: (cs ++ [am_rc al_z (fun _ => 0) (t, f, n)])) (s + n)) ∧ (vs.set f (.ref (40 + (cs.length + 1)))).length = 53 := by
  refine ⟨?_, by rw [List.length_set]; exact hl⟩
  rw [h1, al_nr (f := f) hx hn ht, Option.bind_some, h2]
  show (am_putf (al_j b ((12, vs) :: (cs ++ [am_rc al_z (fun _ => 0) (t, f, n)])) (s + n)) 40 12 f 2 (.ref (40 + (cs.length + 1)))).bind _ = _
  rw [al_p0 (by omega), Option.bind_some]
theorem al_d12 : am_def 12 = [.int 0, .int 0, .null, .null, .null, .null, .int 0, .null, .null, .null, .null, .null, .null, .null, .null, .null, .null, .null, .null, .int 0, .null, .null, .null, .null, .int 0, .int 0, .null, .null, .null, .null, .null, .null, .null, .null, .null, .null, .null, .null, .null, .null, .null, .null, .null, .null, .null, .int 0, .null, .null, .null, .null, .null, .null, .null] := rfl
theorem mi151 : ∃ s2, s2 ≤ s + 66000 ∧ am_exec 151 0 [.ref 40, am_U] [] (al_j b [(12, [.int 0, .int 0, .null, .null, .null, .null, .int 0, .null, .null, .null, .null, .null, .null, .null, .null, .null, .null, .null, .null, .int 0, .null, .null, .null, .null, .int 0, .int 0, .null, .null, .null, .null, .null, .null, .null, .null, .null, .null, .null, .null, .null, .null, .null, .null, .null, .null, .null, .int 0, .null, .null, .null, .null, .null, .null, .null])] s) = am_exec 151 366 [.ref 40, am_U] [] (al_j b ((12, am_mo al_z) :: am_ci.map (am_rc al_z fun _ => 0)) s2) := by
  obtain ⟨e0, l0⟩ := al_rd151 (b := b) (s := s) (a1 := am_U) (vs := [.int 0, .int 0, .null, .null, .null, .null, .int 0, .null, .null, .null, .null, .null, .null, .null, .null, .null, .null, .null, .null, .int 0, .null, .null, .null, .null, .int 0, .int 0, .null, .null, .null, .null, .null, .null, .null, .null, .null, .null, .null, .null, .null, .null, .null, .null, .null, .null, .null, .int 0, .null, .null, .null, .null, .null, .null, .null]) (cs := []) (f := 2) (n := 64) (fun h => am_e151_0) (fun h v => am_e151_9) rfl (by decide) (by decide) (by decide) rfl
  obtain ⟨e1, l1⟩ := al_rd151 (b := b) (a1 := am_U) (f := 3) (n := 64) (fun h => am_e151_12) (fun h v => am_e151_17) rfl (by decide) (by decide) (by decide) l0
  obtain ⟨e2, l2⟩ := al_rd151 (b := b) (a1 := am_U) (f := 4) (n := 64) (fun h => am_e151_20) (fun h v => am_e151_25) rfl (by decide) (by decide) (by decide) l1
  obtain ⟨e3, l3⟩ := al_rd151 (b := b) (a1 := am_U) (f := 5) (n := 64) (fun h => am_e151_28) (fun h v => am_e151_33) rfl (by decide) (by decide) (by decide) l2
  obtain ⟨e4, l4⟩ := al_rd151 (b := b) (a1 := am_U) (f := 7) (n := 12) (fun h => am_e151_36) (fun h v => am_e151_41) rfl (by decide) (by decide) (by decide) l3
  obtain ⟨e5, l5⟩ := al_rd151 (b := b) (a1 := am_U) (f := 8) (n := 12) (fun h => am_e151_44) (fun h v => am_e151_49) rfl (by decide) (by decide) (by decide) l4
  obtain ⟨e6, l6⟩ := al_rd151 (b := b) (a1 := am_U) (f := 9) (n := 12) (fun h => am_e151_52) (fun h v => am_e151_57) rfl (by decide) (by decide) (by decide) l5
  obtain ⟨e7, l7⟩ := al_rd151 (b := b) (a1 := am_U) (f := 10) (n := 12) (fun h => am_e151_60) (fun h v => am_e151_65) rfl (by decide) (by decide) (by decide) l6
  obtain ⟨e8, l8⟩ := al_rd151 (b := b) (a1 := am_U) (f := 11) (n := 12) (fun h => am_e151_68) (fun h v => am_e151_73) rfl (by decide) (by decide) (by decide) l7
  obtain ⟨e9, l9⟩ := al_rd151 (b := b) (a1 := am_U) (f := 12) (n := 12) (fun h => am_e151_76) (fun h v => am_e151_81) rfl (by decide) (by decide) (by decide) l8
  obtain ⟨e10, l10⟩ := al_rd151 (b := b) (a1 := am_U) (f := 13) (n := 12) (fun h => am_e151_84) (fun h v => am_e151_89) rfl (by decide) (by decide) (by decide) l9
  obtain ⟨e11, l11⟩ := al_rd151 (b := b) (a1 := am_U) (f := 14) (n := 12) (fun h => am_e151_92) (fun h v => am_e151_97) rfl (by decide) (by decide) (by decide) l10
  obtain ⟨e12, l12⟩ := al_rd151 (b := b) (a1 := am_U) (f := 15) (n := 36) (fun h => am_e151_100) (fun h v => am_e151_105) rfl (by decide) (by decide) (by decide) l11
  obtain ⟨e13, l13⟩ := al_rd151 (b := b) (a1 := am_U) (f := 16) (n := 72) (fun h => am_e151_108) (fun h v => am_e151_113) rfl (by decide) (by decide) (by decide) l12
  obtain ⟨e14, l14⟩ := al_rd151 (b := b) (a1 := am_U) (f := 17) (n := 12) (fun h => am_e151_116) (fun h v => am_e151_121) rfl (by decide) (by decide) (by decide) l13
  obtain ⟨e15, l15⟩ := al_rd151 (b := b) (a1 := am_U) (f := 18) (n := 12) (fun h => am_e151_124) (fun h v => am_e151_129) rfl (by decide) (by decide) (by decide) l14
  obtain ⟨e16, l16⟩ := al_rd151 (b := b) (a1 := am_U) (f := 20) (n := 24) (fun h => am_e151_132) (fun h v => am_e151_137) rfl (by decide) (by decide) (by decide) l15
  obtain ⟨e17, l17⟩ := al_rd151 (b := b) (a1 := am_U) (f := 21) (n := 24) (fun h => am_e151_140) (fun h v => am_e151_145) rfl (by decide) (by decide) (by decide) l16
  obtain ⟨e18, l18⟩ := al_rd151 (b := b) (a1 := am_U) (f := 22) (n := 24) (fun h => am_e151_148) (fun h v => am_e151_153) rfl (by decide) (by decide) (by decide) l17
  obtain ⟨e19, l19⟩ := al_rd151 (b := b) (a1 := am_U) (f := 23) (n := 62500) (fun h => am_e151_156) (fun h v => am_e151_161) rfl (by decide) (by decide) (by decide) l18
  obtain ⟨e20, l20⟩ := al_rd151 (b := b) (a1 := am_U) (f := 26) (n := 41) (fun h => am_e151_164) (fun h v => am_e151_169) rfl (by decide) (by decide) (by decide) l19
  obtain ⟨e21, l21⟩ := al_rd151 (b := b) (a1 := am_U) (f := 27) (n := 41) (fun h => am_e151_172) (fun h v => am_e151_177) rfl (by decide) (by decide) (by decide) l20
  obtain ⟨e22, l22⟩ := al_rd151 (b := b) (a1 := am_U) (f := 28) (n := 41) (fun h => am_e151_180) (fun h v => am_e151_185) rfl (by decide) (by decide) (by decide) l21
  obtain ⟨e23, l23⟩ := al_rd151 (b := b) (a1 := am_U) (f := 29) (n := 41) (fun h => am_e151_188) (fun h v => am_e151_193) rfl (by decide) (by decide) (by decide) l22
  obtain ⟨e24, l24⟩ := al_rd151 (b := b) (a1 := am_U) (f := 30) (n := 41) (fun h => am_e151_196) (fun h v => am_e151_201) rfl (by decide) (by decide) (by decide) l23
  obtain ⟨e25, l25⟩ := al_rd151 (b := b) (a1 := am_U) (f := 31) (n := 41) (fun h => am_e151_204) (fun h v => am_e151_209) rfl (by decide) (by decide) (by decide) l24
  obtain ⟨e26, l26⟩ := al_rd151 (b := b) (a1 := am_U) (f := 32) (n := 41) (fun h => am_e151_212) (fun h v => am_e151_217) rfl (by decide) (by decide) (by decide) l25
  obtain ⟨e27, l27⟩ := al_rd151 (b := b) (a1 := am_U) (f := 33) (n := 41) (fun h => am_e151_220) (fun h v => am_e151_225) rfl (by decide) (by decide) (by decide) l26
  obtain ⟨e28, l28⟩ := al_rd151 (b := b) (a1 := am_U) (f := 34) (n := 4) (fun h => am_e151_228) (fun h v => am_e151_232) rfl (by decide) (by decide) (by decide) l27
  obtain ⟨e29, l29⟩ := al_rd151 (b := b) (a1 := am_U) (f := 35) (n := 4) (fun h => am_e151_235) (fun h v => am_e151_239) rfl (by decide) (by decide) (by decide) l28
  obtain ⟨e30, l30⟩ := al_rd151 (b := b) (a1 := am_U) (f := 36) (n := 4) (fun h => am_e151_242) (fun h v => am_e151_246) rfl (by decide) (by decide) (by decide) l29
  obtain ⟨e31, l31⟩ := al_rd151 (b := b) (a1 := am_U) (f := 37) (n := 4) (fun h => am_e151_249) (fun h v => am_e151_253) rfl (by decide) (by decide) (by decide) l30
  obtain ⟨e32, l32⟩ := al_rd151 (b := b) (a1 := am_U) (f := 38) (n := 4) (fun h => am_e151_256) (fun h v => am_e151_260) rfl (by decide) (by decide) (by decide) l31
  obtain ⟨e33, l33⟩ := al_rd151 (b := b) (a1 := am_U) (f := 39) (n := 4) (fun h => am_e151_263) (fun h v => am_e151_267) rfl (by decide) (by decide) (by decide) l32
  obtain ⟨e34, l34⟩ := al_rd151 (b := b) (a1 := am_U) (f := 40) (n := 32) (fun h => am_e151_270) (fun h v => am_e151_275) rfl (by decide) (by decide) (by decide) l33
  obtain ⟨e35, l35⟩ := al_rd151 (b := b) (a1 := am_U) (f := 41) (n := 10) (fun h => am_e151_278) (fun h v => am_e151_283) rfl (by decide) (by decide) (by decide) l34
  obtain ⟨e36, l36⟩ := al_rd151 (b := b) (a1 := am_U) (f := 42) (n := 16) (fun h => am_e151_286) (fun h v => am_e151_291) rfl (by decide) (by decide) (by decide) l35
  obtain ⟨e37, l37⟩ := al_rd151 (b := b) (a1 := am_U) (f := 43) (n := 16) (fun h => am_e151_294) (fun h v => am_e151_299) rfl (by decide) (by decide) (by decide) l36
  obtain ⟨e38, l38⟩ := al_rd151 (b := b) (a1 := am_U) (f := 44) (n := 16) (fun h => am_e151_302) (fun h v => am_e151_307) rfl (by decide) (by decide) (by decide) l37
  obtain ⟨e39, l39⟩ := al_rd151 (b := b) (a1 := am_U) (f := 46) (n := 40) (fun h => am_e151_310) (fun h v => am_e151_315) rfl (by decide) (by decide) (by decide) l38
  obtain ⟨e40, l40⟩ := al_rd151 (b := b) (a1 := am_U) (f := 47) (n := 40) (fun h => am_e151_318) (fun h v => am_e151_323) rfl (by decide) (by decide) (by decide) l39
  obtain ⟨e41, l41⟩ := al_rd151 (b := b) (a1 := am_U) (f := 48) (n := 40) (fun h => am_e151_326) (fun h v => am_e151_331) rfl (by decide) (by decide) (by decide) l40
  obtain ⟨e42, l42⟩ := al_rd151 (b := b) (a1 := am_U) (f := 49) (n := 40) (fun h => am_e151_334) (fun h v => am_e151_339) rfl (by decide) (by decide) (by decide) l41
  obtain ⟨e43, l43⟩ := al_rd151 (b := b) (a1 := am_U) (f := 50) (n := 40) (fun h => am_e151_342) (fun h v => am_e151_347) rfl (by decide) (by decide) (by decide) l42
  obtain ⟨e44, l44⟩ := al_rd151 (b := b) (a1 := am_U) (f := 51) (n := 40) (fun h => am_e151_350) (fun h v => am_e151_355) rfl (by decide) (by decide) (by decide) l43
  obtain ⟨e45, l45⟩ := al_rd151 (b := b) (a1 := am_U) (f := 52) (n := 40) (fun h => am_e151_358) (fun h v => am_e151_363) rfl (by decide) (by decide) (by decide) l44
  refine ⟨_, ?_, e0.trans (e1.trans (e2.trans (e3.trans (e4.trans (e5.trans (e6.trans (e7.trans (e8.trans (e9.trans (e10.trans (e11.trans (e12.trans (e13.trans (e14.trans (e15.trans (e16.trans (e17.trans (e18.trans (e19.trans (e20.trans (e21.trans (e22.trans (e23.trans (e24.trans (e25.trans (e26.trans (e27.trans (e28.trans (e29.trans (e30.trans (e31.trans (e32.trans (e33.trans (e34.trans (e35.trans (e36.trans (e37.trans (e38.trans (e39.trans (e40.trans (e41.trans (e42.trans (e43.trans (e44.trans (e45)))))))))))))))))))))))))))))))))))))))))))))⟩
  omega
theorem al_jo : al_j b ((12, am_mo al_z) :: am_ci.map (am_rc al_z fun _ => 0)) s = am_ov al_z (fun _ => 0) (fun k => if k < 40 then b.1 k else none, 87, s) := by
  refine Prod.ext (funext fun k => ?_) rfl
  show (if k < 40 then b.1 k else ((12, am_mo al_z) :: am_ci.map (am_rc al_z fun _ => 0))[k - 40]?) = if k = 40 then some (12, am_mo al_z) else if 40 < k ∧ k ≤ 86 then (am_ci[k - 41]?).map (am_rc al_z fun _ => 0) else if k < 40 then b.1 k else none
  by_cases h : k < 40
  · rw [if_pos h, if_neg (by omega), if_neg (by omega), if_pos h]
  · rw [if_neg h]
    by_cases h2 : k = 40
    · rw [if_pos h2, h2]
      rfl
    · rw [if_neg h2]
      obtain ⟨j, rfl⟩ : ∃ j, k = 41 + j := ⟨k - 41, by omega⟩
      rw [show 41 + j - 40 = j + 1 by omega, List.getElem?_cons_succ, List.getElem?_map, show 41 + j - 41 = j by omega, if_neg h]
      by_cases h3 : 40 < 41 + j ∧ 41 + j ≤ 86
      · rw [if_pos h3]
      · rw [if_neg h3, List.getElem?_eq_none (show 46 ≤ j by omega)]
        rfl
end
