/-! what each wrapper does with its call -/
def al_f0 : Option Value → Option Int64
  | some (.int x) => some x.toInt64
  | _ => none
def al_f1 : Option Value → Option Int64
  | some (.long x) => some x
  | _ => none
def al_f3 : Option Value → Option Int64
  | some (.int x) => some (if x = 0 then 0 else 1)
  | _ => none
def al_f2 : Option Value → Option Int64 := fun _ => none
theorem al_st {h : am_H} {y z : Int64} (e : h.1 87 = some (51, [.long y])) : am_ast h 87 51 1 0 (.long z) = some (am_set h 87 (51, [.long z])) := by
  unfold am_ast
  rw [e]
  rfl
theorem al_bk {mu pc E t : Nat} {ls : List Value} {h : am_H} {f : Option Value → am_H → Option (am_Res × am_H)} (hh : am_hnd mu pc E = some t) : am_back mu pc ls (some (.inr E, h)) f = am_exec mu t ls [.ref h.2.1] (am_new h (70, []) 0) := by
  unfold am_back
  rw [Option.bind_some]
  dsimp only
  rw [hh]
theorem al_k0 {v : Option Value} (h : ac_kd 0 v) : ∃ x : Int32, v = some (.int x) := h
theorem al_k1 {v : Option Value} (h : ac_kd 1 v) : ∃ x : Int64, v = some (.long x) := h
theorem al_k2 {v : Option Value} (h : ac_kd 2 v) : v = none := h
theorem wr_lay {a1 a2 : Int32} : al_wr 265 [.ref 12, .int a1, .int a2, .ref 87, am_U] 110 [.ref 12, .int a1, .int a2, am_U] [0, 1] 0 al_f0 := by
  intro h h' h12
  constructor
  · intro v y e hk hy
    obtain ⟨x, rfl⟩ := al_k0 hk
    show am_exec 265 0 _ [] h = some (.inl (some (.int 0)), am_set h' 87 (51, [.long x.toInt64]))
    simp only [am_e265_0, am_e265_13, am_e265_17, am_e265_8, am_e265_10, am_bk, am_pu1, am_pu0, Option.bind_some, eq_self, am_nli, am_nlr, am_nln, am_nlu, if_true, if_false, not_true_eq_false, not_false_eq_true, am_10, am_01, h12, e, al_st hy]
  · intro j E hj e
    match j, hj with
    | 0, hj =>
      have hj := Option.some.inj hj
      subst hj
      rw [am_e265_0 h12, e]
      exact (al_bk (t := 13) rfl).trans (am_e265_13 rfl)
    | 1, hj =>
      have hj := Option.some.inj hj
      subst hj
      rw [am_e265_0 h12, e]
      exact (al_bk (t := 17) rfl).trans (am_e265_17 rfl)
theorem wr_need {a1 a2 : Int32} : al_wr 266 [.ref 12, .int a1, .int a2, .ref 87, am_U] 111 [.ref 12, .int a1, .int a2, am_U, am_U] [0, 1] 0 al_f0 := by
  intro h h' h12
  constructor
  · intro v y e hk hy
    obtain ⟨x, rfl⟩ := al_k0 hk
    show am_exec 266 0 _ [] h = some (.inl (some (.int 0)), am_set h' 87 (51, [.long x.toInt64]))
    simp only [am_e266_0, am_e266_13, am_e266_17, am_e266_8, am_e266_10, am_bk, am_pu1, am_pu0, Option.bind_some, eq_self, am_nli, am_nlr, am_nln, am_nlu, if_true, if_false, not_true_eq_false, not_false_eq_true, am_10, am_01, h12, e, al_st hy]
  · intro j E hj e
    match j, hj with
    | 0, hj =>
      have hj := Option.some.inj hj
      subst hj
      rw [am_e266_0 h12, e]
      exact (al_bk (t := 13) rfl).trans (am_e266_13 rfl)
    | 1, hj =>
      have hj := Option.some.inj hj
      subst hj
      rw [am_e266_0 h12, e]
      exact (al_bk (t := 17) rfl).trans (am_e266_17 rfl)
theorem wr_place {a1 a2 a3 : Int32} : al_wr 267 [.ref 12, .int a1, .int a2, .int a3, .ref 87, am_U] 112 [.ref 12, .int a1, .int a2, .int a3, am_U] [0, 1] 0 al_f0 := by
  intro h h' h12
  constructor
  · intro v y e hk hy
    obtain ⟨x, rfl⟩ := al_k0 hk
    show am_exec 267 0 _ [] h = some (.inl (some (.int 0)), am_set h' 87 (51, [.long x.toInt64]))
    simp only [am_e267_0, am_e267_15, am_e267_19, am_e267_10, am_e267_12, am_bk, am_pu1, am_pu0, Option.bind_some, eq_self, am_nli, am_nlr, am_nln, am_nlu, if_true, if_false, not_true_eq_false, not_false_eq_true, am_10, am_01, h12, e, al_st hy]
  · intro j E hj e
    match j, hj with
    | 0, hj =>
      have hj := Option.some.inj hj
      subst hj
      rw [am_e267_0 h12, e]
      exact (al_bk (t := 15) rfl).trans (am_e267_15 rfl)
    | 1, hj =>
      have hj := Option.some.inj hj
      subst hj
      rw [am_e267_0 h12, e]
      exact (al_bk (t := 19) rfl).trans (am_e267_19 rfl)
theorem wr_found {a1 : Int32} : al_wr 268 [.ref 12, .int a1, .ref 87, am_U] 113 [.ref 12, .int a1, am_U, am_U] [2, 1] 0 al_f0 := by
  intro h h' h12
  constructor
  · intro v y e hk hy
    obtain ⟨x, rfl⟩ := al_k0 hk
    show am_exec 268 0 _ [] h = some (.inl (some (.int 0)), am_set h' 87 (51, [.long x.toInt64]))
    simp only [am_e268_0, am_e268_12, am_e268_15, am_e268_7, am_e268_9, am_bk, am_pu1, am_pu0, Option.bind_some, eq_self, am_nli, am_nlr, am_nln, am_nlu, if_true, if_false, not_true_eq_false, not_false_eq_true, am_10, am_01, h12, e, al_st hy]
  · intro j E hj e
    match j, hj with
    | 0, hj =>
      have hj := Option.some.inj hj
      subst hj
      rw [am_e268_0 h12, e]
      exact (al_bk (t := 12) rfl).trans (am_e268_12 rfl)
    | 1, hj =>
      have hj := Option.some.inj hj
      subst hj
      rw [am_e268_0 h12, e]
      exact (al_bk (t := 15) rfl).trans (am_e268_15 rfl)
theorem wr_order {a1 a2 a3 a4 : Int32} : al_wr 269 [.ref 12, .int a1, .int a2, .int a3, .int a4, am_U] 114 [.ref 12, .int a1, .int a2, .int a3, .int a4, am_U] [2, 0] 2 al_f2 := by
  intro h h' h12
  constructor
  · intro v y e hk hy
    have hk := al_k2 hk
    subst hk
    show am_exec 269 0 _ [] h = some (.inl (some (.int 0)), h')
    simp only [am_e269_0, am_e269_12, am_e269_16, am_e269_9, am_bk, am_pu1, am_pu0, Option.bind_some, eq_self, am_nli, am_nlr, am_nln, am_nlu, if_true, if_false, not_true_eq_false, not_false_eq_true, am_10, am_01, h12, e]
  · intro j E hj e
    match j, hj with
    | 0, hj =>
      have hj := Option.some.inj hj
      subst hj
      rw [am_e269_0 h12, e]
      exact (al_bk (t := 12) rfl).trans (am_e269_12 rfl)
    | 1, hj =>
      have hj := Option.some.inj hj
      subst hj
      rw [am_e269_0 h12, e]
      exact (al_bk (t := 16) rfl).trans (am_e269_16 rfl)
theorem wr_queue {a1 a2 : Int32} : al_wr 270 [.ref 12, .int a1, .int a2, .ref 87, am_U] 115 [.ref 12, .int a1, .int a2, am_U] [2, 0, 1] 0 al_f0 := by
  intro h h' h12
  constructor
  · intro v y e hk hy
    obtain ⟨x, rfl⟩ := al_k0 hk
    show am_exec 270 0 _ [] h = some (.inl (some (.int 0)), am_set h' 87 (51, [.long x.toInt64]))
    simp only [am_e270_0, am_e270_13, am_e270_17, am_e270_21, am_e270_8, am_e270_10, am_bk, am_pu1, am_pu0, Option.bind_some, eq_self, am_nli, am_nlr, am_nln, am_nlu, if_true, if_false, not_true_eq_false, not_false_eq_true, am_10, am_01, h12, e, al_st hy]
  · intro j E hj e
    match j, hj with
    | 0, hj =>
      have hj := Option.some.inj hj
      subst hj
      rw [am_e270_0 h12, e]
      exact (al_bk (t := 13) rfl).trans (am_e270_13 rfl)
    | 1, hj =>
      have hj := Option.some.inj hj
      subst hj
      rw [am_e270_0 h12, e]
      exact (al_bk (t := 17) rfl).trans (am_e270_17 rfl)
    | 2, hj =>
      have hj := Option.some.inj hj
      subst hj
      rw [am_e270_0 h12, e]
      exact (al_bk (t := 21) rfl).trans (am_e270_21 rfl)
theorem wr_unqueue {a1 a2 : Int32} : al_wr 271 [.ref 12, .int a1, .int a2, .ref 87, am_U] 116 [.ref 12, .int a1, .int a2, am_U] [2, 0] 0 al_f0 := by
  intro h h' h12
  constructor
  · intro v y e hk hy
    obtain ⟨x, rfl⟩ := al_k0 hk
    show am_exec 271 0 _ [] h = some (.inl (some (.int 0)), am_set h' 87 (51, [.long x.toInt64]))
    simp only [am_e271_0, am_e271_13, am_e271_17, am_e271_8, am_e271_10, am_bk, am_pu1, am_pu0, Option.bind_some, eq_self, am_nli, am_nlr, am_nln, am_nlu, if_true, if_false, not_true_eq_false, not_false_eq_true, am_10, am_01, h12, e, al_st hy]
  · intro j E hj e
    match j, hj with
    | 0, hj =>
      have hj := Option.some.inj hj
      subst hj
      rw [am_e271_0 h12, e]
      exact (al_bk (t := 13) rfl).trans (am_e271_13 rfl)
    | 1, hj =>
      have hj := Option.some.inj hj
      subst hj
      rw [am_e271_0 h12, e]
      exact (al_bk (t := 17) rfl).trans (am_e271_17 rfl)
theorem wr_hurry {a1 : Int32} : al_wr 272 [.ref 12, .int a1, .ref 87, am_U] 117 [.ref 12, .int a1, am_U, am_U, am_U] [2, 1] 0 al_f0 := by
  intro h h' h12
  constructor
  · intro v y e hk hy
    obtain ⟨x, rfl⟩ := al_k0 hk
    show am_exec 272 0 _ [] h = some (.inl (some (.int 0)), am_set h' 87 (51, [.long x.toInt64]))
    simp only [am_e272_0, am_e272_12, am_e272_15, am_e272_7, am_e272_9, am_bk, am_pu1, am_pu0, Option.bind_some, eq_self, am_nli, am_nlr, am_nln, am_nlu, if_true, if_false, not_true_eq_false, not_false_eq_true, am_10, am_01, h12, e, al_st hy]
  · intro j E hj e
    match j, hj with
    | 0, hj =>
      have hj := Option.some.inj hj
      subst hj
      rw [am_e272_0 h12, e]
      exact (al_bk (t := 12) rfl).trans (am_e272_12 rfl)
    | 1, hj =>
      have hj := Option.some.inj hj
      subst hj
      rw [am_e272_0 h12, e]
      exact (al_bk (t := 15) rfl).trans (am_e272_15 rfl)
theorem wr_learn {a1 a2 : Int32} : al_wr 273 [.ref 12, .int a1, .int a2, am_U] 118 [.ref 12, .int a1, .int a2, am_U] [0, 1] 2 al_f2 := by
  intro h h' h12
  constructor
  · intro v y e hk hy
    have hk := al_k2 hk
    subst hk
    show am_exec 273 0 _ [] h = some (.inl (some (.int 0)), h')
    simp only [am_e273_0, am_e273_9, am_e273_12, am_e273_6, am_bk, am_pu1, am_pu0, Option.bind_some, eq_self, am_nli, am_nlr, am_nln, am_nlu, if_true, if_false, not_true_eq_false, not_false_eq_true, am_10, am_01, h12, e]
  · intro j E hj e
    match j, hj with
    | 0, hj =>
      have hj := Option.some.inj hj
      subst hj
      rw [am_e273_0 h12, e]
      exact (al_bk (t := 9) rfl).trans (am_e273_9 rfl)
    | 1, hj =>
      have hj := Option.some.inj hj
      subst hj
      rw [am_e273_0 h12, e]
      exact (al_bk (t := 12) rfl).trans (am_e273_12 rfl)
theorem wr_setParts {a1 a2 : Int32} : al_wr 274 [.ref 12, .int a1, .int a2, .ref 87, am_U] 119 [.ref 12, .int a1, .int a2, am_U, am_U] [0] 0 al_f0 := by
  intro h h' h12
  constructor
  · intro v y e hk hy
    obtain ⟨x, rfl⟩ := al_k0 hk
    show am_exec 274 0 _ [] h = some (.inl (some (.int 0)), am_set h' 87 (51, [.long x.toInt64]))
    simp only [am_e274_0, am_e274_13, am_e274_8, am_e274_10, am_bk, am_pu1, am_pu0, Option.bind_some, eq_self, am_nli, am_nlr, am_nln, am_nlu, if_true, if_false, not_true_eq_false, not_false_eq_true, am_10, am_01, h12, e, al_st hy]
  · intro j E hj e
    match j, hj with
    | 0, hj =>
      have hj := Option.some.inj hj
      subst hj
      rw [am_e274_0 h12, e]
      exact (al_bk (t := 13) rfl).trans (am_e274_13 rfl)
theorem wr_offer {a1 a2 a3 a4 a5 : Int32} : al_wr 275 [.ref 12, .int a1, .int a2, .int a3, .int a4, .int a5, am_U] 120 [.ref 12, .int a1, .int a2, .int a3, .int a4, .int a5] [0] 2 al_f2 := by
  intro h h' h12
  constructor
  · intro v y e hk hy
    have hk := al_k2 hk
    subst hk
    show am_exec 275 0 _ [] h = some (.inl (some (.int 0)), h')
    simp only [am_e275_0, am_e275_14, am_e275_11, am_bk, am_pu1, am_pu0, Option.bind_some, eq_self, am_nli, am_nlr, am_nln, am_nlu, if_true, if_false, not_true_eq_false, not_false_eq_true, am_10, am_01, h12, e]
  · intro j E hj e
    match j, hj with
    | 0, hj =>
      have hj := Option.some.inj hj
      subst hj
      rw [am_e275_0 h12, e]
      exact (al_bk (t := 14) rfl).trans (am_e275_14 rfl)
theorem wr_agree {a1 a2 : Int32} : al_wr 276 [.ref 12, .int a1, .int a2, .ref 87, am_U] 121 [.ref 12, .int a1, .int a2, am_U, am_U, am_U] [0, 2, 1] 0 al_f0 := by
  intro h h' h12
  constructor
  · intro v y e hk hy
    obtain ⟨x, rfl⟩ := al_k0 hk
    show am_exec 276 0 _ [] h = some (.inl (some (.int 0)), am_set h' 87 (51, [.long x.toInt64]))
    simp only [am_e276_0, am_e276_13, am_e276_17, am_e276_21, am_e276_8, am_e276_10, am_bk, am_pu1, am_pu0, Option.bind_some, eq_self, am_nli, am_nlr, am_nln, am_nlu, if_true, if_false, not_true_eq_false, not_false_eq_true, am_10, am_01, h12, e, al_st hy]
  · intro j E hj e
    match j, hj with
    | 0, hj =>
      have hj := Option.some.inj hj
      subst hj
      rw [am_e276_0 h12, e]
      exact (al_bk (t := 13) rfl).trans (am_e276_13 rfl)
    | 1, hj =>
      have hj := Option.some.inj hj
      subst hj
      rw [am_e276_0 h12, e]
      exact (al_bk (t := 17) rfl).trans (am_e276_17 rfl)
    | 2, hj =>
      have hj := Option.some.inj hj
      subst hj
      rw [am_e276_0 h12, e]
      exact (al_bk (t := 21) rfl).trans (am_e276_21 rfl)
theorem wr_cancel {a1 a2 : Int32} : al_wr 277 [.ref 12, .int a1, .int a2, .ref 87, am_U] 122 [.ref 12, .int a1, .int a2, am_U, am_U] [0, 2, 1] 0 al_f0 := by
  intro h h' h12
  constructor
  · intro v y e hk hy
    obtain ⟨x, rfl⟩ := al_k0 hk
    show am_exec 277 0 _ [] h = some (.inl (some (.int 0)), am_set h' 87 (51, [.long x.toInt64]))
    simp only [am_e277_0, am_e277_13, am_e277_17, am_e277_21, am_e277_8, am_e277_10, am_bk, am_pu1, am_pu0, Option.bind_some, eq_self, am_nli, am_nlr, am_nln, am_nlu, if_true, if_false, not_true_eq_false, not_false_eq_true, am_10, am_01, h12, e, al_st hy]
  · intro j E hj e
    match j, hj with
    | 0, hj =>
      have hj := Option.some.inj hj
      subst hj
      rw [am_e277_0 h12, e]
      exact (al_bk (t := 13) rfl).trans (am_e277_13 rfl)
    | 1, hj =>
      have hj := Option.some.inj hj
      subst hj
      rw [am_e277_0 h12, e]
      exact (al_bk (t := 17) rfl).trans (am_e277_17 rfl)
    | 2, hj =>
      have hj := Option.some.inj hj
      subst hj
      rw [am_e277_0 h12, e]
      exact (al_bk (t := 21) rfl).trans (am_e277_21 rfl)
theorem wr_treaty {a1 a2 : Int32} : al_wr 278 [.ref 12, .int a1, .int a2, .ref 87, am_U] 123 [.ref 12, .int a1, .int a2, am_U] [2, 0] 0 al_f0 := by
  intro h h' h12
  constructor
  · intro v y e hk hy
    obtain ⟨x, rfl⟩ := al_k0 hk
    show am_exec 278 0 _ [] h = some (.inl (some (.int 0)), am_set h' 87 (51, [.long x.toInt64]))
    simp only [am_e278_0, am_e278_13, am_e278_17, am_e278_8, am_e278_10, am_bk, am_pu1, am_pu0, Option.bind_some, eq_self, am_nli, am_nlr, am_nln, am_nlu, if_true, if_false, not_true_eq_false, not_false_eq_true, am_10, am_01, h12, e, al_st hy]
  · intro j E hj e
    match j, hj with
    | 0, hj =>
      have hj := Option.some.inj hj
      subst hj
      rw [am_e278_0 h12, e]
      exact (al_bk (t := 13) rfl).trans (am_e278_13 rfl)
    | 1, hj =>
      have hj := Option.some.inj hj
      subst hj
      rw [am_e278_0 h12, e]
      exact (al_bk (t := 17) rfl).trans (am_e278_17 rfl)
theorem wr_atWar {a1 a2 : Int32} : al_wr 279 [.ref 12, .int a1, .int a2, .ref 87, am_U] 124 [.ref 12, .int a1, .int a2] [0] 0 al_f3 := by
  intro h h' h12
  constructor
  · intro v y e hk hy
    obtain ⟨x, rfl⟩ := al_k0 hk
    show am_exec 279 0 _ [] h = some (.inl (some (.int 0)), am_set h' 87 (51, [.long (if x = 0 then 0 else 1)]))
    by_cases q : x = 0
    · simp only [am_e279_0, am_e279_20, am_e279_8, am_e279_15, am_e279_11, am_e279_17, am_bk, am_pu1, am_pu0, Option.bind_some, eq_self, am_nli, am_nlr, am_nln, am_nlu, if_true, if_false, not_true_eq_false, not_false_eq_true, am_10, am_01, h12, e, q, al_st hy]
    · simp only [am_e279_0, am_e279_20, am_e279_8, am_e279_15, am_e279_11, am_e279_17, am_bk, am_pu1, am_pu0, Option.bind_some, eq_self, am_nli, am_nlr, am_nln, am_nlu, if_true, if_false, not_true_eq_false, not_false_eq_true, am_10, am_01, h12, e, q, al_st hy]
  · intro j E hj e
    match j, hj with
    | 0, hj =>
      have hj := Option.some.inj hj
      subst hj
      rw [am_e279_0 h12, e]
      exact (al_bk (t := 20) rfl).trans (am_e279_20 rfl)
theorem wr_step {a1 a2 a3 : Int32} : al_wr 280 [.ref 12, .int a1, .int a2, .int a3, .ref 87, am_U] 125 [.ref 12, .int a1, .int a2, .int a3, am_U, am_U, am_U] [2, 0, 1] 0 al_f3 := by
  intro h h' h12
  constructor
  · intro v y e hk hy
    obtain ⟨x, rfl⟩ := al_k0 hk
    show am_exec 280 0 _ [] h = some (.inl (some (.int 0)), am_set h' 87 (51, [.long (if x = 0 then 0 else 1)]))
    by_cases q : x = 0
    · simp only [am_e280_0, am_e280_22, am_e280_26, am_e280_30, am_e280_10, am_e280_17, am_e280_13, am_e280_19, am_bk, am_pu1, am_pu0, Option.bind_some, eq_self, am_nli, am_nlr, am_nln, am_nlu, if_true, if_false, not_true_eq_false, not_false_eq_true, am_10, am_01, h12, e, q, al_st hy]
    · simp only [am_e280_0, am_e280_22, am_e280_26, am_e280_30, am_e280_10, am_e280_17, am_e280_13, am_e280_19, am_bk, am_pu1, am_pu0, Option.bind_some, eq_self, am_nli, am_nlr, am_nln, am_nlu, if_true, if_false, not_true_eq_false, not_false_eq_true, am_10, am_01, h12, e, q, al_st hy]
  · intro j E hj e
    match j, hj with
    | 0, hj =>
      have hj := Option.some.inj hj
      subst hj
      rw [am_e280_0 h12, e]
      exact (al_bk (t := 22) rfl).trans (am_e280_22 rfl)
    | 1, hj =>
      have hj := Option.some.inj hj
      subst hj
      rw [am_e280_0 h12, e]
      exact (al_bk (t := 26) rfl).trans (am_e280_26 rfl)
    | 2, hj =>
      have hj := Option.some.inj hj
      subst hj
      rw [am_e280_0 h12, e]
      exact (al_bk (t := 30) rfl).trans (am_e280_30 rfl)
theorem wr_work {a1 a2 : Int32} : al_wr 281 [.ref 12, .int a1, .int a2, am_U] 126 [.ref 12, .int a1, .int a2, am_U] [2, 0, 1] 2 al_f2 := by
  intro h h' h12
  constructor
  · intro v y e hk hy
    have hk := al_k2 hk
    subst hk
    show am_exec 281 0 _ [] h = some (.inl (some (.int 0)), h')
    simp only [am_e281_0, am_e281_9, am_e281_12, am_e281_15, am_e281_6, am_bk, am_pu1, am_pu0, Option.bind_some, eq_self, am_nli, am_nlr, am_nln, am_nlu, if_true, if_false, not_true_eq_false, not_false_eq_true, am_10, am_01, h12, e]
  · intro j E hj e
    match j, hj with
    | 0, hj =>
      have hj := Option.some.inj hj
      subst hj
      rw [am_e281_0 h12, e]
      exact (al_bk (t := 9) rfl).trans (am_e281_9 rfl)
    | 1, hj =>
      have hj := Option.some.inj hj
      subst hj
      rw [am_e281_0 h12, e]
      exact (al_bk (t := 12) rfl).trans (am_e281_12 rfl)
    | 2, hj =>
      have hj := Option.some.inj hj
      subst hj
      rw [am_e281_0 h12, e]
      exact (al_bk (t := 15) rfl).trans (am_e281_15 rfl)
theorem wr_unit {a1 a2 : Int32} : al_wr 282 [.ref 12, .int a1, .int a2, .ref 87, am_U] 127 [.ref 12, .int a1, .int a2, am_U] [2, 0] 0 al_f0 := by
  intro h h' h12
  constructor
  · intro v y e hk hy
    obtain ⟨x, rfl⟩ := al_k0 hk
    show am_exec 282 0 _ [] h = some (.inl (some (.int 0)), am_set h' 87 (51, [.long x.toInt64]))
    simp only [am_e282_0, am_e282_13, am_e282_17, am_e282_8, am_e282_10, am_bk, am_pu1, am_pu0, Option.bind_some, eq_self, am_nli, am_nlr, am_nln, am_nlu, if_true, if_false, not_true_eq_false, not_false_eq_true, am_10, am_01, h12, e, al_st hy]
  · intro j E hj e
    match j, hj with
    | 0, hj =>
      have hj := Option.some.inj hj
      subst hj
      rw [am_e282_0 h12, e]
      exact (al_bk (t := 13) rfl).trans (am_e282_13 rfl)
    | 1, hj =>
      have hj := Option.some.inj hj
      subst hj
      rw [am_e282_0 h12, e]
      exact (al_bk (t := 17) rfl).trans (am_e282_17 rfl)
theorem wr_unitsOn {a1 : Int32} : al_wr 283 [.ref 12, .int a1, .ref 87, am_U] 128 [.ref 12, .int a1] [0] 0 al_f0 := by
  intro h h' h12
  constructor
  · intro v y e hk hy
    obtain ⟨x, rfl⟩ := al_k0 hk
    show am_exec 283 0 _ [] h = some (.inl (some (.int 0)), am_set h' 87 (51, [.long x.toInt64]))
    simp only [am_e283_0, am_e283_12, am_e283_7, am_e283_9, am_bk, am_pu1, am_pu0, Option.bind_some, eq_self, am_nli, am_nlr, am_nln, am_nlu, if_true, if_false, not_true_eq_false, not_false_eq_true, am_10, am_01, h12, e, al_st hy]
  · intro j E hj e
    match j, hj with
    | 0, hj =>
      have hj := Option.some.inj hj
      subst hj
      rw [am_e283_0 h12, e]
      exact (al_bk (t := 12) rfl).trans (am_e283_12 rfl)
theorem wr_plan {a1 : Int32} : al_wr 284 [.ref 12, .int a1, .ref 87, am_U] 130 [.ref 12, .int a1, am_U] [2] 1 al_f1 := by
  intro h h' h12
  constructor
  · intro v y e hk hy
    obtain ⟨x, rfl⟩ := al_k1 hk
    show am_exec 284 0 _ [] h = some (.inl (some (.int 0)), am_set h' 87 (51, [.long x]))
    simp only [am_e284_0, am_e284_11, am_e284_7, am_e284_8, am_bk, am_pu1, am_pu0, Option.bind_some, eq_self, am_nli, am_nlr, am_nln, am_nlu, if_true, if_false, not_true_eq_false, not_false_eq_true, am_10, am_01, h12, e, al_st hy]
  · intro j E hj e
    match j, hj with
    | 0, hj =>
      have hj := Option.some.inj hj
      subst hj
      rw [am_e284_0 h12, e]
      exact (al_bk (t := 11) rfl).trans (am_e284_11 rfl)
theorem wr_planByAll {a1 : Int32} : al_wr 285 [.ref 12, .int a1, .ref 87, am_U] 131 [.ref 12, .int a1, am_U] [2, 1] 1 al_f1 := by
  intro h h' h12
  constructor
  · intro v y e hk hy
    obtain ⟨x, rfl⟩ := al_k1 hk
    show am_exec 285 0 _ [] h = some (.inl (some (.int 0)), am_set h' 87 (51, [.long x]))
    simp only [am_e285_0, am_e285_11, am_e285_14, am_e285_7, am_e285_8, am_bk, am_pu1, am_pu0, Option.bind_some, eq_self, am_nli, am_nlr, am_nln, am_nlu, if_true, if_false, not_true_eq_false, not_false_eq_true, am_10, am_01, h12, e, al_st hy]
  · intro j E hj e
    match j, hj with
    | 0, hj =>
      have hj := Option.some.inj hj
      subst hj
      rw [am_e285_0 h12, e]
      exact (al_bk (t := 11) rfl).trans (am_e285_11 rfl)
    | 1, hj =>
      have hj := Option.some.inj hj
      subst hj
      rw [am_e285_0 h12, e]
      exact (al_bk (t := 14) rfl).trans (am_e285_14 rfl)
theorem wr_city {a1 a2 : Int32} : al_wr 286 [.ref 12, .int a1, .int a2, .ref 87, am_U] 132 [.ref 12, .int a1, .int a2, am_U] [2, 0] 0 al_f0 := by
  intro h h' h12
  constructor
  · intro v y e hk hy
    obtain ⟨x, rfl⟩ := al_k0 hk
    show am_exec 286 0 _ [] h = some (.inl (some (.int 0)), am_set h' 87 (51, [.long x.toInt64]))
    simp only [am_e286_0, am_e286_13, am_e286_17, am_e286_8, am_e286_10, am_bk, am_pu1, am_pu0, Option.bind_some, eq_self, am_nli, am_nlr, am_nln, am_nlu, if_true, if_false, not_true_eq_false, not_false_eq_true, am_10, am_01, h12, e, al_st hy]
  · intro j E hj e
    match j, hj with
    | 0, hj =>
      have hj := Option.some.inj hj
      subst hj
      rw [am_e286_0 h12, e]
      exact (al_bk (t := 13) rfl).trans (am_e286_13 rfl)
    | 1, hj =>
      have hj := Option.some.inj hj
      subst hj
      rw [am_e286_0 h12, e]
      exact (al_bk (t := 17) rfl).trans (am_e286_17 rfl)
theorem wr_tile {a1 a2 : Int32} : al_wr 287 [.ref 12, .int a1, .int a2, .ref 87, am_U] 133 [.ref 12, .int a1, .int a2] [0] 0 al_f0 := by
  intro h h' h12
  constructor
  · intro v y e hk hy
    obtain ⟨x, rfl⟩ := al_k0 hk
    show am_exec 287 0 _ [] h = some (.inl (some (.int 0)), am_set h' 87 (51, [.long x.toInt64]))
    simp only [am_e287_0, am_e287_13, am_e287_8, am_e287_10, am_bk, am_pu1, am_pu0, Option.bind_some, eq_self, am_nli, am_nlr, am_nln, am_nlu, if_true, if_false, not_true_eq_false, not_false_eq_true, am_10, am_01, h12, e, al_st hy]
  · intro j E hj e
    match j, hj with
    | 0, hj =>
      have hj := Option.some.inj hj
      subst hj
      rw [am_e287_0 h12, e]
      exact (al_bk (t := 13) rfl).trans (am_e287_13 rfl)
theorem wr_pull {a1 a2 : Int32} : al_wr 288 [.ref 12, .int a1, .int a2, .ref 87, am_U] 134 [.ref 12, .int a1, .int a2, am_U] [0] 0 al_f0 := by
  intro h h' h12
  constructor
  · intro v y e hk hy
    obtain ⟨x, rfl⟩ := al_k0 hk
    show am_exec 288 0 _ [] h = some (.inl (some (.int 0)), am_set h' 87 (51, [.long x.toInt64]))
    simp only [am_e288_0, am_e288_13, am_e288_8, am_e288_10, am_bk, am_pu1, am_pu0, Option.bind_some, eq_self, am_nli, am_nlr, am_nln, am_nlu, if_true, if_false, not_true_eq_false, not_false_eq_true, am_10, am_01, h12, e, al_st hy]
  · intro j E hj e
    match j, hj with
    | 0, hj =>
      have hj := Option.some.inj hj
      subst hj
      rw [am_e288_0 h12, e]
      exact (al_bk (t := 13) rfl).trans (am_e288_13 rfl)
theorem wr_player {a1 a2 : Int32} : al_wr 289 [.ref 12, .int a1, .int a2, .ref 87, am_U] 135 [.ref 12, .int a1, .int a2, am_U] [0] 0 al_f0 := by
  intro h h' h12
  constructor
  · intro v y e hk hy
    obtain ⟨x, rfl⟩ := al_k0 hk
    show am_exec 289 0 _ [] h = some (.inl (some (.int 0)), am_set h' 87 (51, [.long x.toInt64]))
    simp only [am_e289_0, am_e289_13, am_e289_8, am_e289_10, am_bk, am_pu1, am_pu0, Option.bind_some, eq_self, am_nli, am_nlr, am_nln, am_nlu, if_true, if_false, not_true_eq_false, not_false_eq_true, am_10, am_01, h12, e, al_st hy]
  · intro j E hj e
    match j, hj with
    | 0, hj =>
      have hj := Option.some.inj hj
      subst hj
      rw [am_e289_0 h12, e]
      exact (al_bk (t := 13) rfl).trans (am_e289_13 rfl)
theorem wr_ledger {a1 a2 : Int32} : al_wr 290 [.ref 12, .int a1, .int a2, .ref 87, am_U] 136 [.ref 12, .int a1, .int a2, am_U] [0] 0 al_f0 := by
  intro h h' h12
  constructor
  · intro v y e hk hy
    obtain ⟨x, rfl⟩ := al_k0 hk
    show am_exec 290 0 _ [] h = some (.inl (some (.int 0)), am_set h' 87 (51, [.long x.toInt64]))
    simp only [am_e290_0, am_e290_13, am_e290_8, am_e290_10, am_bk, am_pu1, am_pu0, Option.bind_some, eq_self, am_nli, am_nlr, am_nln, am_nlu, if_true, if_false, not_true_eq_false, not_false_eq_true, am_10, am_01, h12, e, al_st hy]
  · intro j E hj e
    match j, hj with
    | 0, hj =>
      have hj := Option.some.inj hj
      subst hj
      rw [am_e290_0 h12, e]
      exact (al_bk (t := 13) rfl).trans (am_e290_13 rfl)
