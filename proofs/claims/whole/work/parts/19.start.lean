/-! THE START: what the Statement gives at the law's entry is the small machine's first heap (printed by wip/gen/gen_start.py) -/
noncomputable def am_gv : List Cond := flatC (Jvm.Cond.and given_1 narrow_1)
theorem am_g {n : Nat} {w : Cond} {args : Array Value} {s : State} (hs : ∀ c ∈ am_gv, c.before args s = true) (h : am_gv[n]? = some w) : w.before args s = true := hs w (List.mem_of_getElem? h)
/-- what the rows of the class hold -/
def am_sv : Nat → List Int
  | 0 => [2, 2, 1, 1, 0, 3]
  | 1 => [0, 1, 2, 2, 1, 0]
  | 2 => [2, 0, 0, 1, 1, 1]
  | 3 => [10, 10, 15, 13, 10, 10]
  | 4 => [2, 2, 2, 4, 2]
  | 5 => [0, 0, 2, 4, 6]
  | 6 => [1, 1, 4, 2, 1]
  | 7 => [20, 15, 12, 18, 24, 14, 16, 20, 24, 24]
  | 8 => [(-1), (-1), (-1), 1, 3, (-1), 0, 2, 4, 5]
  | _ => []
def am_iv (l : List Int) : List Value := l.map fun x => .int (Int32.ofInt x)
theorem am_sa0 {args : Array Value} {s : State} {A : Nat → Prop} (hs : ∀ c ∈ am_gv, c.before args s = true) (hA : ∀ a : Nat, a < s.heap.size → ¬ A a) : ∃ t : Nat, (Term.static "EmpireTurns" "LAND_FOOD" "[I").eval args s none [] s = some (.ref t) ∧ va_T .int t 6 (fun j => (am_iv (am_sv 0)).getD j .null) A s s.heap := by
  refine va_Tof (by decide) (am_g (n := 9) hs (by decide +kernel)) (va_eqt (z := Int32.ofNat 6) (am_g (n := 10) hs (by decide +kernel))) (fun j hj => ?_) hA
  match j, hj with
  | 0, _ => exact va_eqt (z := Int32.ofInt 2) (am_g (n := 11) hs (by decide +kernel))
  | 1, _ => exact va_eqt (z := Int32.ofInt 2) (am_g (n := 12) hs (by decide +kernel))
  | 2, _ => exact va_eqt (z := Int32.ofInt 1) (am_g (n := 13) hs (by decide +kernel))
  | 3, _ => exact va_eqt (z := Int32.ofInt 1) (am_g (n := 14) hs (by decide +kernel))
  | 4, _ => exact va_eqt (z := Int32.ofInt 0) (am_g (n := 15) hs (by decide +kernel))
  | 5, _ => exact va_eqt (z := Int32.ofInt 3) (am_g (n := 16) hs (by decide +kernel))
  | j + 6, hj => omega
theorem am_sa1 {args : Array Value} {s : State} {A : Nat → Prop} (hs : ∀ c ∈ am_gv, c.before args s = true) (hA : ∀ a : Nat, a < s.heap.size → ¬ A a) : ∃ t : Nat, (Term.static "EmpireTurns" "LAND_WORK" "[I").eval args s none [] s = some (.ref t) ∧ va_T .int t 6 (fun j => (am_iv (am_sv 1)).getD j .null) A s s.heap := by
  refine va_Tof (by decide) (am_g (n := 18) hs (by decide +kernel)) (va_eqt (z := Int32.ofNat 6) (am_g (n := 19) hs (by decide +kernel))) (fun j hj => ?_) hA
  match j, hj with
  | 0, _ => exact va_eqt (z := Int32.ofInt 0) (am_g (n := 20) hs (by decide +kernel))
  | 1, _ => exact va_eqt (z := Int32.ofInt 1) (am_g (n := 21) hs (by decide +kernel))
  | 2, _ => exact va_eqt (z := Int32.ofInt 2) (am_g (n := 22) hs (by decide +kernel))
  | 3, _ => exact va_eqt (z := Int32.ofInt 2) (am_g (n := 23) hs (by decide +kernel))
  | 4, _ => exact va_eqt (z := Int32.ofInt 1) (am_g (n := 24) hs (by decide +kernel))
  | 5, _ => exact va_eqt (z := Int32.ofInt 0) (am_g (n := 25) hs (by decide +kernel))
  | j + 6, hj => omega
theorem am_sa2 {args : Array Value} {s : State} {A : Nat → Prop} (hs : ∀ c ∈ am_gv, c.before args s = true) (hA : ∀ a : Nat, a < s.heap.size → ¬ A a) : ∃ t : Nat, (Term.static "EmpireTurns" "LAND_TRADE" "[I").eval args s none [] s = some (.ref t) ∧ va_T .int t 6 (fun j => (am_iv (am_sv 2)).getD j .null) A s s.heap := by
  refine va_Tof (by decide) (am_g (n := 27) hs (by decide +kernel)) (va_eqt (z := Int32.ofNat 6) (am_g (n := 28) hs (by decide +kernel))) (fun j hj => ?_) hA
  match j, hj with
  | 0, _ => exact va_eqt (z := Int32.ofInt 2) (am_g (n := 29) hs (by decide +kernel))
  | 1, _ => exact va_eqt (z := Int32.ofInt 0) (am_g (n := 30) hs (by decide +kernel))
  | 2, _ => exact va_eqt (z := Int32.ofInt 0) (am_g (n := 31) hs (by decide +kernel))
  | 3, _ => exact va_eqt (z := Int32.ofInt 1) (am_g (n := 32) hs (by decide +kernel))
  | 4, _ => exact va_eqt (z := Int32.ofInt 1) (am_g (n := 33) hs (by decide +kernel))
  | 5, _ => exact va_eqt (z := Int32.ofInt 1) (am_g (n := 34) hs (by decide +kernel))
  | j + 6, hj => omega
theorem am_sa3 {args : Array Value} {s : State} {A : Nat → Prop} (hs : ∀ c ∈ am_gv, c.before args s = true) (hA : ∀ a : Nat, a < s.heap.size → ¬ A a) : ∃ t : Nat, (Term.static "EmpireTurns" "LAND_SHELTER" "[I").eval args s none [] s = some (.ref t) ∧ va_T .int t 6 (fun j => (am_iv (am_sv 3)).getD j .null) A s s.heap := by
  refine va_Tof (by decide) (am_g (n := 88) hs (by decide +kernel)) (va_eqt (z := Int32.ofNat 6) (am_g (n := 89) hs (by decide +kernel))) (fun j hj => ?_) hA
  match j, hj with
  | 0, _ => exact va_eqt (z := Int32.ofInt 10) (am_g (n := 90) hs (by decide +kernel))
  | 1, _ => exact va_eqt (z := Int32.ofInt 10) (am_g (n := 91) hs (by decide +kernel))
  | 2, _ => exact va_eqt (z := Int32.ofInt 15) (am_g (n := 92) hs (by decide +kernel))
  | 3, _ => exact va_eqt (z := Int32.ofInt 13) (am_g (n := 93) hs (by decide +kernel))
  | 4, _ => exact va_eqt (z := Int32.ofInt 10) (am_g (n := 94) hs (by decide +kernel))
  | 5, _ => exact va_eqt (z := Int32.ofInt 10) (am_g (n := 95) hs (by decide +kernel))
  | j + 6, hj => omega
theorem am_sa4 {args : Array Value} {s : State} {A : Nat → Prop} (hs : ∀ c ∈ am_gv, c.before args s = true) (hA : ∀ a : Nat, a < s.heap.size → ¬ A a) : ∃ t : Nat, (Term.static "EmpireTurns" "UNIT_MOVES" "[I").eval args s none [] s = some (.ref t) ∧ va_T .int t 5 (fun j => (am_iv (am_sv 4)).getD j .null) A s s.heap := by
  refine va_Tof (by decide) (am_g (n := 62) hs (by decide +kernel)) (va_eqt (z := Int32.ofNat 5) (am_g (n := 63) hs (by decide +kernel))) (fun j hj => ?_) hA
  match j, hj with
  | 0, _ => exact va_eqt (z := Int32.ofInt 2) (am_g (n := 64) hs (by decide +kernel))
  | 1, _ => exact va_eqt (z := Int32.ofInt 2) (am_g (n := 65) hs (by decide +kernel))
  | 2, _ => exact va_eqt (z := Int32.ofInt 2) (am_g (n := 66) hs (by decide +kernel))
  | 3, _ => exact va_eqt (z := Int32.ofInt 4) (am_g (n := 67) hs (by decide +kernel))
  | 4, _ => exact va_eqt (z := Int32.ofInt 2) (am_g (n := 68) hs (by decide +kernel))
  | j + 5, hj => omega
theorem am_sa5 {args : Array Value} {s : State} {A : Nat → Prop} (hs : ∀ c ∈ am_gv, c.before args s = true) (hA : ∀ a : Nat, a < s.heap.size → ¬ A a) : ∃ t : Nat, (Term.static "EmpireTurns" "UNIT_ATTACK" "[I").eval args s none [] s = some (.ref t) ∧ va_T .int t 5 (fun j => (am_iv (am_sv 5)).getD j .null) A s s.heap := by
  refine va_Tof (by decide) (am_g (n := 80) hs (by decide +kernel)) (va_eqt (z := Int32.ofNat 5) (am_g (n := 81) hs (by decide +kernel))) (fun j hj => ?_) hA
  match j, hj with
  | 0, _ => exact va_eqt (z := Int32.ofInt 0) (am_g (n := 82) hs (by decide +kernel))
  | 1, _ => exact va_eqt (z := Int32.ofInt 0) (am_g (n := 83) hs (by decide +kernel))
  | 2, _ => exact va_eqt (z := Int32.ofInt 2) (am_g (n := 84) hs (by decide +kernel))
  | 3, _ => exact va_eqt (z := Int32.ofInt 4) (am_g (n := 85) hs (by decide +kernel))
  | 4, _ => exact va_eqt (z := Int32.ofInt 6) (am_g (n := 86) hs (by decide +kernel))
  | j + 5, hj => omega
theorem am_sa6 {args : Array Value} {s : State} {A : Nat → Prop} (hs : ∀ c ∈ am_gv, c.before args s = true) (hA : ∀ a : Nat, a < s.heap.size → ¬ A a) : ∃ t : Nat, (Term.static "EmpireTurns" "UNIT_DEFENCE" "[I").eval args s none [] s = some (.ref t) ∧ va_T .int t 5 (fun j => (am_iv (am_sv 6)).getD j .null) A s s.heap := by
  refine va_Tof (by decide) (am_g (n := 72) hs (by decide +kernel)) (va_eqt (z := Int32.ofNat 5) (am_g (n := 73) hs (by decide +kernel))) (fun j hj => ?_) hA
  match j, hj with
  | 0, _ => exact va_eqt (z := Int32.ofInt 1) (am_g (n := 74) hs (by decide +kernel))
  | 1, _ => exact va_eqt (z := Int32.ofInt 1) (am_g (n := 75) hs (by decide +kernel))
  | 2, _ => exact va_eqt (z := Int32.ofInt 4) (am_g (n := 76) hs (by decide +kernel))
  | 3, _ => exact va_eqt (z := Int32.ofInt 2) (am_g (n := 77) hs (by decide +kernel))
  | 4, _ => exact va_eqt (z := Int32.ofInt 1) (am_g (n := 78) hs (by decide +kernel))
  | j + 5, hj => omega
theorem am_sa7 {args : Array Value} {s : State} {A : Nat → Prop} (hs : ∀ c ∈ am_gv, c.before args s = true) (hA : ∀ a : Nat, a < s.heap.size → ¬ A a) : ∃ t : Nat, (Term.static "EmpireTurns" "WORK_COST" "[I").eval args s none [] s = some (.ref t) ∧ va_T .int t 10 (fun j => (am_iv (am_sv 7)).getD j .null) A s s.heap := by
  refine va_Tof (by decide) (am_g (n := 36) hs (by decide +kernel)) (va_eqt (z := Int32.ofNat 10) (am_g (n := 37) hs (by decide +kernel))) (fun j hj => ?_) hA
  match j, hj with
  | 0, _ => exact va_eqt (z := Int32.ofInt 20) (am_g (n := 38) hs (by decide +kernel))
  | 1, _ => exact va_eqt (z := Int32.ofInt 15) (am_g (n := 39) hs (by decide +kernel))
  | 2, _ => exact va_eqt (z := Int32.ofInt 12) (am_g (n := 40) hs (by decide +kernel))
  | 3, _ => exact va_eqt (z := Int32.ofInt 18) (am_g (n := 41) hs (by decide +kernel))
  | 4, _ => exact va_eqt (z := Int32.ofInt 24) (am_g (n := 42) hs (by decide +kernel))
  | 5, _ => exact va_eqt (z := Int32.ofInt 14) (am_g (n := 43) hs (by decide +kernel))
  | 6, _ => exact va_eqt (z := Int32.ofInt 16) (am_g (n := 44) hs (by decide +kernel))
  | 7, _ => exact va_eqt (z := Int32.ofInt 20) (am_g (n := 45) hs (by decide +kernel))
  | 8, _ => exact va_eqt (z := Int32.ofInt 24) (am_g (n := 46) hs (by decide +kernel))
  | 9, _ => exact va_eqt (z := Int32.ofInt 24) (am_g (n := 47) hs (by decide +kernel))
  | j + 10, hj => omega
theorem am_sa8 {args : Array Value} {s : State} {A : Nat → Prop} (hs : ∀ c ∈ am_gv, c.before args s = true) (hA : ∀ a : Nat, a < s.heap.size → ¬ A a) : ∃ t : Nat, (Term.static "EmpireTurns" "WORK_CRAFT" "[I").eval args s none [] s = some (.ref t) ∧ va_T .int t 10 (fun j => (am_iv (am_sv 8)).getD j .null) A s s.heap := by
  refine va_Tof (by decide) (am_g (n := 49) hs (by decide +kernel)) (va_eqt (z := Int32.ofNat 10) (am_g (n := 50) hs (by decide +kernel))) (fun j hj => ?_) hA
  match j, hj with
  | 0, _ => exact va_eqt (z := Int32.ofInt (-1)) (am_g (n := 51) hs (by decide +kernel))
  | 1, _ => exact va_eqt (z := Int32.ofInt (-1)) (am_g (n := 52) hs (by decide +kernel))
  | 2, _ => exact va_eqt (z := Int32.ofInt (-1)) (am_g (n := 53) hs (by decide +kernel))
  | 3, _ => exact va_eqt (z := Int32.ofInt 1) (am_g (n := 54) hs (by decide +kernel))
  | 4, _ => exact va_eqt (z := Int32.ofInt 3) (am_g (n := 55) hs (by decide +kernel))
  | 5, _ => exact va_eqt (z := Int32.ofInt (-1)) (am_g (n := 56) hs (by decide +kernel))
  | 6, _ => exact va_eqt (z := Int32.ofInt 0) (am_g (n := 57) hs (by decide +kernel))
  | 7, _ => exact va_eqt (z := Int32.ofInt 2) (am_g (n := 58) hs (by decide +kernel))
  | 8, _ => exact va_eqt (z := Int32.ofInt 4) (am_g (n := 59) hs (by decide +kernel))
  | 9, _ => exact va_eqt (z := Int32.ofInt 5) (am_g (n := 60) hs (by decide +kernel))
  | j + 10, hj => omega
theorem am_sa9 {args : Array Value} {s : State} {A : Nat → Prop} (hs : ∀ c ∈ am_gv, c.before args s = true) (hA : ∀ a : Nat, a < s.heap.size → ¬ A a) : ∃ t : Nat, (Term.static "java/util/ArrayList" "DEFAULTCAPACITY_EMPTY_ELEMENTDATA" "[Ljava/lang/Object;").eval args s none [] s = some (.ref t) ∧ va_T (.object "java/lang/Object") t 0 (fun _ => .null) A s s.heap :=
  va_Tof (by decide) (am_g (n := 5) hs (by decide +kernel)) (va_eqt (z := Int32.ofNat 0) (am_g (n := 7) hs (by decide +kernel))) (fun j hj => absurd hj (Nat.not_lt_zero j)) hA
theorem am_smi {args : Array Value} {s : State} (hs : ∀ c ∈ am_gv, c.before args s = true) : ∃ mi, va_Mi "[Ljava/lang/Object;" mi s := va_Mi.of (am_g (n := 158) hs (by decide +kernel))
theorem am_szq_steD {args : Array Value} {s : State} {A : Nat → Prop} (hts : ∀ w ∈ lw_tbl, w.before args s = true) (hs : ∀ c ∈ am_gv, c.before args s = true) (hA : ∀ a : Nat, a < s.heap.size → ¬ A a) : vx_Zq Bundle.tN "UNASSIGNED_STACK" Bundle.steD A s s.heap := vx_Zqof (hts _ (List.mem_of_getElem? (i := 890) (by decide +kernel))) (hts _ (List.mem_of_getElem? (i := 114) (by decide +kernel))) (am_g (n := 69) hs (by decide +kernel)) hA
theorem am_szq_listD {args : Array Value} {s : State} {A : Nat → Prop} (hts : ∀ w ∈ lw_tbl, w.before args s = true) (hs : ∀ c ∈ am_gv, c.before args s = true) (hA : ∀ a : Nat, a < s.heap.size → ¬ A a) : vx_Zq Bundle.tN "SUPPRESSED_SENTINEL" Bundle.listD A s s.heap := vx_Zqof (hts _ (List.mem_of_getElem? (i := 892) (by decide +kernel))) (hts _ (List.mem_of_getElem? (i := 114) (by decide +kernel))) (am_g (n := 70) hs (by decide +kernel)) hA
theorem am_sz0 {args : Array Value} {s : State} {A : Nat → Prop} {t : Nat} (hts : ∀ w ∈ lw_tbl, w.before args s = true) (hv : (Term.static "EmpireTurns" "LAND_FOOD" "[I").eval args s none [] s = some (.ref t)) (hA : ∀ a : Nat, a < s.heap.size → ¬ A a) : va_Z "EmpireTurns" "LAND_FOOD" "[I" (.ref t) A s s.heap := va_Zref (hts _ (List.mem_of_getElem? (i := 525) (by decide +kernel))) (hts _ (List.mem_of_getElem? (i := 98) (by decide +kernel))) hv hA
theorem am_sz1 {args : Array Value} {s : State} {A : Nat → Prop} {t : Nat} (hts : ∀ w ∈ lw_tbl, w.before args s = true) (hv : (Term.static "EmpireTurns" "LAND_WORK" "[I").eval args s none [] s = some (.ref t)) (hA : ∀ a : Nat, a < s.heap.size → ¬ A a) : va_Z "EmpireTurns" "LAND_WORK" "[I" (.ref t) A s s.heap := va_Zref (hts _ (List.mem_of_getElem? (i := 553) (by decide +kernel))) (hts _ (List.mem_of_getElem? (i := 98) (by decide +kernel))) hv hA
theorem am_sz2 {args : Array Value} {s : State} {A : Nat → Prop} {t : Nat} (hts : ∀ w ∈ lw_tbl, w.before args s = true) (hv : (Term.static "EmpireTurns" "LAND_TRADE" "[I").eval args s none [] s = some (.ref t)) (hA : ∀ a : Nat, a < s.heap.size → ¬ A a) : va_Z "EmpireTurns" "LAND_TRADE" "[I" (.ref t) A s s.heap := va_Zref (hts _ (List.mem_of_getElem? (i := 559) (by decide +kernel))) (hts _ (List.mem_of_getElem? (i := 98) (by decide +kernel))) hv hA
theorem am_sz3 {args : Array Value} {s : State} {A : Nat → Prop} {t : Nat} (hts : ∀ w ∈ lw_tbl, w.before args s = true) (hv : (Term.static "EmpireTurns" "LAND_SHELTER" "[I").eval args s none [] s = some (.ref t)) (hA : ∀ a : Nat, a < s.heap.size → ¬ A a) : va_Z "EmpireTurns" "LAND_SHELTER" "[I" (.ref t) A s s.heap := va_Zref (hts _ (List.mem_of_getElem? (i := 1350) (by decide +kernel))) (hts _ (List.mem_of_getElem? (i := 98) (by decide +kernel))) hv hA
theorem am_sz4 {args : Array Value} {s : State} {A : Nat → Prop} {t : Nat} (hts : ∀ w ∈ lw_tbl, w.before args s = true) (hv : (Term.static "EmpireTurns" "UNIT_MOVES" "[I").eval args s none [] s = some (.ref t)) (hA : ∀ a : Nat, a < s.heap.size → ¬ A a) : va_Z "EmpireTurns" "UNIT_MOVES" "[I" (.ref t) A s s.heap := va_Zref (hts _ (List.mem_of_getElem? (i := 666) (by decide +kernel))) (hts _ (List.mem_of_getElem? (i := 98) (by decide +kernel))) hv hA
theorem am_sz5 {args : Array Value} {s : State} {A : Nat → Prop} {t : Nat} (hts : ∀ w ∈ lw_tbl, w.before args s = true) (hv : (Term.static "EmpireTurns" "UNIT_ATTACK" "[I").eval args s none [] s = some (.ref t)) (hA : ∀ a : Nat, a < s.heap.size → ¬ A a) : va_Z "EmpireTurns" "UNIT_ATTACK" "[I" (.ref t) A s s.heap := va_Zref (hts _ (List.mem_of_getElem? (i := 1339) (by decide +kernel))) (hts _ (List.mem_of_getElem? (i := 98) (by decide +kernel))) hv hA
theorem am_sz6 {args : Array Value} {s : State} {A : Nat → Prop} {t : Nat} (hts : ∀ w ∈ lw_tbl, w.before args s = true) (hv : (Term.static "EmpireTurns" "UNIT_DEFENCE" "[I").eval args s none [] s = some (.ref t)) (hA : ∀ a : Nat, a < s.heap.size → ¬ A a) : va_Z "EmpireTurns" "UNIT_DEFENCE" "[I" (.ref t) A s s.heap := va_Zref (hts _ (List.mem_of_getElem? (i := 1333) (by decide +kernel))) (hts _ (List.mem_of_getElem? (i := 98) (by decide +kernel))) hv hA
theorem am_sz7 {args : Array Value} {s : State} {A : Nat → Prop} {t : Nat} (hts : ∀ w ∈ lw_tbl, w.before args s = true) (hv : (Term.static "EmpireTurns" "WORK_COST" "[I").eval args s none [] s = some (.ref t)) (hA : ∀ a : Nat, a < s.heap.size → ¬ A a) : va_Z "EmpireTurns" "WORK_COST" "[I" (.ref t) A s s.heap := va_Zref (hts _ (List.mem_of_getElem? (i := 630) (by decide +kernel))) (hts _ (List.mem_of_getElem? (i := 98) (by decide +kernel))) hv hA
theorem am_sz8 {args : Array Value} {s : State} {A : Nat → Prop} {t : Nat} (hts : ∀ w ∈ lw_tbl, w.before args s = true) (hv : (Term.static "EmpireTurns" "WORK_CRAFT" "[I").eval args s none [] s = some (.ref t)) (hA : ∀ a : Nat, a < s.heap.size → ¬ A a) : va_Z "EmpireTurns" "WORK_CRAFT" "[I" (.ref t) A s s.heap := va_Zref (hts _ (List.mem_of_getElem? (i := 637) (by decide +kernel))) (hts _ (List.mem_of_getElem? (i := 98) (by decide +kernel))) hv hA
theorem am_sz9 {args : Array Value} {s : State} {A : Nat → Prop} {t : Nat} (hts : ∀ w ∈ lw_tbl, w.before args s = true) (hv : (Term.static "java/util/ArrayList" "DEFAULTCAPACITY_EMPTY_ELEMENTDATA" "[Ljava/lang/Object;").eval args s none [] s = some (.ref t)) (hA : ∀ a : Nat, a < s.heap.size → ¬ A a) : va_Z "java/util/ArrayList" "DEFAULTCAPACITY_EMPTY_ELEMENTDATA" "[Ljava/lang/Object;" (.ref t) A s s.heap := va_Zref (hts _ (List.mem_of_getElem? (i := 185) (by decide +kernel))) (hts _ (List.mem_of_getElem? (i := 105) (by decide +kernel))) hv hA
theorem am_it0 : (.instantiable RJx4a65c 3 : Cond) ∈ lw_tbl := List.mem_of_getElem? (i := 173) (by decide +kernel)
theorem am_it1 : (.instantiable RX0 3 : Cond) ∈ lw_tbl := List.mem_of_getElem? (i := 141) (by decide +kernel)
theorem am_it2 : (.instantiable RX1 17 : Cond) ∈ lw_tbl := List.mem_of_getElem? (i := 1028) (by decide +kernel)
theorem am_it3 : (.instantiable RX2 1 : Cond) ∈ lw_tbl := List.mem_of_getElem? (i := 394) (by decide +kernel)
theorem am_it4 : (.instantiable RX3 2 : Cond) ∈ lw_tbl := List.mem_of_getElem? (i := 167) (by decide +kernel)
theorem am_it5 : (.instantiable RX4 6 : Cond) ∈ lw_tbl := List.mem_of_getElem? (i := 368) (by decide +kernel)
theorem am_it6 : (.instantiable RX5 8 : Cond) ∈ lw_tbl := List.mem_of_getElem? (i := 212) (by decide +kernel)
theorem am_it7 : (.instantiable RX6 7 : Cond) ∈ lw_tbl := List.mem_of_getElem? (i := 1203) (by decide +kernel)
theorem am_it8 : (.instantiable RX7 1 : Cond) ∈ lw_tbl := List.mem_of_getElem? (i := 404) (by decide +kernel)
theorem am_it9 : (.instantiable RX8 8 : Cond) ∈ lw_tbl := List.mem_of_getElem? (i := 660) (by decide +kernel)
theorem am_it10 : (.instantiable RX9 8 : Cond) ∈ lw_tbl := List.mem_of_getElem? (i := 135) (by decide +kernel)
theorem am_it11 : (.instantiable RX10 5 : Cond) ∈ lw_tbl := List.mem_of_getElem? (i := 127) (by decide +kernel)
theorem am_it12 : (.instantiable RX11 53 : Cond) ∈ lw_tbl := List.mem_of_getElem? (i := 1514) (by decide +kernel)
theorem am_inst {t : Nat} {z : vw_C} (h : vwCl[t]? = some z) : (.instantiable z.1 z.2.2 : Cond) ∈ lw_tbl := by
  have hl := am_vwCl_lt h
  match t, hl, h with
  | 0, _, h => cases h; exact am_it0
  | 1, _, h => cases h; exact am_it1
  | 2, _, h => cases h; exact am_it2
  | 3, _, h => cases h; exact am_it3
  | 4, _, h => cases h; exact am_it4
  | 5, _, h => cases h; exact am_it5
  | 6, _, h => cases h; exact am_it6
  | 7, _, h => cases h; exact am_it7
  | 8, _, h => cases h; exact am_it8
  | 9, _, h => cases h; exact am_it9
  | 10, _, h => cases h; exact am_it10
  | 11, _, h => cases h; exact am_it11
  | 12, _, h => cases h; exact am_it12
  | t + 13, hl, _ => omega
theorem am_w_aoo : (.arrayOver (.object "java/lang/Object") : Cond) ∈ lw_tbl := List.mem_of_getElem? (i := 316) (by decide +kernel)
theorem am_w_aot : (.arrayOver (.object "EmpireTurns$Treaty") : Cond) ∈ lw_tbl := List.mem_of_getElem? (i := 199) (by decide +kernel)
theorem am_sstr {args : Array Value} {s : State} (hts : ∀ w ∈ lw_tbl, w.before args s = true) (hs : ∀ c ∈ am_gv, c.before args s = true) : ∀ z ∈ am_strs, ∃ a, vk_R z.1 z.2.1 z.2.2 a s := by
  have key : ∀ (own tx : String) (k : Nat), (Cond.stringRef own k tx).before args s = true → (Cond.exactly (.string own k) "java/lang/String").before args s = true → ∃ a, vk_R own k tx a s := by
    intro own tx k h1 h2
    obtain ⟨a, c, cA, kA, q1, -⟩ := Cond.exactly_spec (args := args) (first := s) (o := none) (s := s) (idx := []) (t := .string own k) (cls := "java/lang/String") h2
    exact ⟨a, vk_R.of h1 q1⟩
  unfold am_strs
  exact List.forall_mem_cons.mpr ⟨key _ _ _ (hts _ (List.mem_of_getElem? (i := 1261) (by decide +kernel))) (am_g (n := 281) hs (by decide +kernel)), List.forall_mem_cons.mpr ⟨key _ _ _ (hts _ (List.mem_of_getElem? (i := 1294) (by decide +kernel))) (am_g (n := 327) hs (by decide +kernel)), List.forall_mem_cons.mpr ⟨key _ _ _ (hts _ (List.mem_of_getElem? (i := 1432) (by decide +kernel))) (am_g (n := 359) hs (by decide +kernel)), List.forall_mem_cons.mpr ⟨key _ _ _ (hts _ (List.mem_of_getElem? (i := 1466) (by decide +kernel))) (am_g (n := 390) hs (by decide +kernel)), List.forall_mem_cons.mpr ⟨key _ _ _ (hts _ (List.mem_of_getElem? (i := 1478) (by decide +kernel))) (am_g (n := 423) hs (by decide +kernel)), List.forall_mem_cons.mpr ⟨key _ _ _ (hts _ (List.mem_of_getElem? (i := 1505) (by decide +kernel))) (am_g (n := 456) hs (by decide +kernel)), List.forall_mem_cons.mpr ⟨key _ _ _ (hts _ (List.mem_of_getElem? (i := 976) (by decide +kernel))) (am_g (n := 218) hs (by decide +kernel)), List.forall_mem_cons.mpr ⟨key _ _ _ (hts _ (List.mem_of_getElem? (i := 1146) (by decide +kernel))) (am_g (n := 261) hs (by decide +kernel)), List.forall_mem_cons.mpr ⟨key _ _ _ (hts _ (List.mem_of_getElem? (i := 1008) (by decide +kernel))) (am_g (n := 242) hs (by decide +kernel)), List.forall_mem_cons.mpr ⟨key _ _ _ (hts _ (List.mem_of_getElem? (i := 1285) (by decide +kernel))) (am_g (n := 303) hs (by decide +kernel)), List.forall_mem_cons.mpr ⟨key _ _ _ (hts _ (List.mem_of_getElem? (i := 904) (by decide +kernel))) (am_g (n := 159) hs (by decide +kernel)), List.forall_mem_cons.mpr ⟨key _ _ _ (hts _ (List.mem_of_getElem? (i := 945) (by decide +kernel))) (am_g (n := 190) hs (by decide +kernel)), fun _ hz => absurd hz List.not_mem_nil⟩⟩⟩⟩⟩⟩⟩⟩⟩⟩⟩⟩
theorem am_snc {args : Array Value} {s : State} (hs : ∀ c ∈ am_gv, c.before args s = true) : ∀ E F, E < 3 → F < 3 → E ≠ F → va_Nc (am_ExN E) (am_ExN F) s := by
  intro E F hE hF hne
  match E, F, hE, hF, hne with
  | 0, 0, _, _, h => exact absurd rfl h
  | 0, 1, _, _, _ => exact va_Nc.of (am_g (n := 121) hs (by decide +kernel))
  | 0, 2, _, _, _ => exact va_Nc.of (am_g (n := 136) hs (by decide +kernel))
  | 1, 0, _, _, _ => exact va_Nc.of (am_g (n := 106) hs (by decide +kernel))
  | 1, 1, _, _, h => exact absurd rfl h
  | 1, 2, _, _, _ => exact va_Nc.of (am_g (n := 137) hs (by decide +kernel))
  | 2, 0, _, _, _ => exact va_Nc.of (am_g (n := 108) hs (by decide +kernel))
  | 2, 1, _, _, _ => exact va_Nc.of (am_g (n := 123) hs (by decide +kernel))
  | 2, 2, _, _, h => exact absurd rfl h
/-- the small machine's first heap, with the script of L ints xs -/
def am_h0 (L : Nat) (xs : Nat → Int32) : am_H := (fun k => if k < 9 then some (60, am_iv (am_sv k)) else if k = 9 then some (63, []) else if k = 10 then some (70, []) else if k = 11 then some (60, (List.range L).map fun j => .int (xs j)) else none, 12, 0)
theorem am_iv_cv (al : Nat → Nat) (l : List Int) : (am_iv l).map (am_cv al) = am_iv l := by
  unfold am_iv
  rw [List.map_map]
  rfl
theorem am_sl_T {al : Nat → Nat} {A : Nat → Prop} {s : State} {ty : FieldType} {t N : Nat} {f : Nat → Value} {ws : List Value} (hT : va_T ty t N f A s s.heap) (hlen : ws.length = N) (hf : ∀ j w, ws[j]? = some w → f j = w) (hcv : ws.map (am_cv al) = ws) : ∃ cell : Cell, s.heap[t]? = some cell ∧ s.isArrayOf cell ty ∧ cell.vm ≠ .unknown ∧ am_sl cell (ws.map (am_cv al)) := by
  obtain ⟨cell, h1, h2, h3, h4, h5, h6, -⟩ := hT
  rw [hcv]
  refine ⟨cell, h1, h2, h3, fun j w hw => ?_, by rw [hlen]; exact h4, by rw [hlen]; exact h5⟩
  rw [h6 j (by rw [← hlen]; exact (List.getElem?_eq_some_iff.mp hw).1), hf j w hw]
theorem am_start (OK : am_OK) (hrun : ∀ (L : Nat) (xs : Nat → Int32), L ≤ 3072 → ∃ h1 : am_H, am_exec 291 0 (am_ent (am_nL 291) [.ref 11]) [] (am_h0 L xs) = some (.inl (some (.int 1)), h1) ∧ h1.2.1 ≤ 601036 ∧ h1.2.2 ≤ 7293034)
    {p : Program} {e : Env} {s : State} {m : MethodId} {below : List Frame} {meth : Method} {c : Code} (l : Launch) (hflags : l.flags = flags0) {b L : Nat} {xs : Nat → Int32} (hL : L ≤ 3072) (C0 : lw_At p s m meth c b L xs) : W p l e room_1 s m #[Value.ref b] below meth c s.heap [] 0 0 (lw_Z below #[Value.ref b] s) (entryFrame m ([Value.ref b] : List Value).toArray 8) := by
  obtain ⟨hx, hb, hr, hml, hown, hts, hX, hbl, hlocks, hgv⟩ := C0
  have hs : ∀ q ∈ am_gv, q.before #[Value.ref b] s = true := flat_of_before _ hgv
  have hA : ∀ a : Nat, a < s.heap.size → ¬ (fun q : Nat => s.heap.size ≤ q) a := fun a h => Nat.not_le.mpr h
  obtain ⟨t0, ev0, T0⟩ := am_sa0 (A := fun q => s.heap.size ≤ q) hs hA
  obtain ⟨t1, ev1, T1⟩ := am_sa1 (A := fun q => s.heap.size ≤ q) hs hA
  obtain ⟨t2, ev2, T2⟩ := am_sa2 (A := fun q => s.heap.size ≤ q) hs hA
  obtain ⟨t3, ev3, T3⟩ := am_sa3 (A := fun q => s.heap.size ≤ q) hs hA
  obtain ⟨t4, ev4, T4⟩ := am_sa4 (A := fun q => s.heap.size ≤ q) hs hA
  obtain ⟨t5, ev5, T5⟩ := am_sa5 (A := fun q => s.heap.size ≤ q) hs hA
  obtain ⟨t6, ev6, T6⟩ := am_sa6 (A := fun q => s.heap.size ≤ q) hs hA
  obtain ⟨t7, ev7, T7⟩ := am_sa7 (A := fun q => s.heap.size ≤ q) hs hA
  obtain ⟨t8, ev8, T8⟩ := am_sa8 (A := fun q => s.heap.size ≤ q) hs hA
  obtain ⟨t9, ev9, T9⟩ := am_sa9 (A := fun q => s.heap.size ≤ q) hs hA
  obtain ⟨mi, hmi⟩ := am_smi hs
  have htsB : ∀ w ∈ am_BIG, w.before #[Value.ref b] s = true := fun w hw => hts w (List.mem_filter.mp hw).1
  have hD : ∀ k : Nat, ∃ q : ClassId × (Nat → Nat), ∀ z, vwCl[k]? = some z → u_Kn s z.1 z.2.1 z.2.2 q.1 q.2 := by
    intro k
    cases hz : vwCl[k]? with
    | none => exact ⟨(0, fun _ => 0), fun z hz2 => by cases hz2⟩
    | some z =>
      obtain ⟨cC, iS, h⟩ := u_known htsB (am_ucls hz) (hts _ (am_inst hz))
      exact ⟨(cC, iS), fun z2 hz2 => by cases hz2; exact h⟩
  obtain ⟨dD, hdD⟩ := Classical.axiomOfChoice hD
  have hC : ∀ t : Nat, ∃ q : ClassId, 50 ≤ t → t < 55 → ArrOfT s q (am_ty t) ∧ va_RA s q (am_ty t) := by
    intro t
    have prim : ∀ ty : FieldType, (Cond.arrayClass ty).before #[Value.ref b] s = true → (∀ q, s.vm.findClass ("[" ++ ty.toString) = some q → va_RA s q ty) → ∃ q : ClassId, ArrOfT s q ty ∧ va_RA s q ty := by
      intro ty h1 h2
      obtain ⟨q, k, comp, g1, g2, g3⟩ := Cond.arrayClass_spec (args := #[Value.ref b]) (first := s) (o := none) (s := s) (idx := []) h1
      exact ⟨q, fun n z => ⟨fun k h => (by cases h), k, g2, comp, g3⟩, h2 q g1⟩
    have objs : ∀ C9 : String, (Cond.arrayOver (.object C9)).before #[Value.ref b] s = true → ∃ q : ClassId, ArrOfT s q (.object C9) ∧ va_RA s q (.object C9) := by
      intro C9 h1
      obtain ⟨comp, q, k, g1, g2, g3, g4, g5⟩ := Cond.arrayOver_spec (args := #[Value.ref b]) (first := s) (o := none) (s := s) (idx := []) h1
      exact ⟨q, fun n z => ⟨fun k h => (by cases h), k, g3, comp, g4⟩, k, comp, g3, g4, g1, g5⟩
    by_cases h0 : 50 ≤ t ∧ t < 55
    · have : t = 50 ∨ t = 51 ∨ t = 52 ∨ t = 53 ∨ t = 54 := by omega
      rcases this with rfl | rfl | rfl | rfl | rfl
      · obtain ⟨q, h⟩ := prim .int (hts _ am_w_ac50) (fun _ h => h)
        exact ⟨q, fun _ _ => h⟩
      · obtain ⟨q, h⟩ := prim .long (hts _ am_w_ac51) (fun _ h => h)
        exact ⟨q, fun _ _ => h⟩
      · obtain ⟨q, h⟩ := prim .boolean (hts _ am_w_ac52) (fun _ h => h)
        exact ⟨q, fun _ _ => h⟩
      · obtain ⟨q, h⟩ := objs "java/lang/Object" (hts _ am_w_aoo)
        exact ⟨q, fun _ _ => h⟩
      · obtain ⟨q, h⟩ := objs "EmpireTurns$Treaty" (hts _ am_w_aot)
        exact ⟨q, fun _ _ => h⟩
    · exact ⟨0, fun h1 h2 => absurd ⟨h1, h2⟩ h0⟩
  obtain ⟨cA, hcA⟩ := Classical.axiomOfChoice hC
  obtain ⟨al, hal⟩ : ∃ al : Nat → Nat, al = fun k => [t0, t1, t2, t3, t4, t5, t6, t7, t8, t9, mi, b].getD k 0 := ⟨_, rfl⟩
  have hPhi : am_Phi (fun k => (dD k).1, fun k => (dD k).2) cA s.heap.size al s s.heap := by
    refine ⟨fun k q hq => hdD k q hq, hcA, fun w hw hn => ?_, ⟨va_AO.of (hts _ am_w_aoo), va_AO.of (hts _ am_w_aot)⟩, fun k z hz => ?_, ⟨am_szq_steD hts hs hA, am_szq_listD hts hs hA⟩, am_sstr hts hs, by rw [hal]; exact hmi, am_snc hs⟩
    · have h1 := hts w hw
      cases w <;> first | exact va_Nw.of rfl h1 | (simp [am_nw] at hn)
    · have hk : k < 10 := (List.getElem?_eq_some_iff.mp hz).1
      rw [hal]
      match k, hk, hz with
      | 0, _, hz => cases hz; exact am_sz0 hts ev0 hA
      | 1, _, hz => cases hz; exact am_sz1 hts ev1 hA
      | 2, _, hz => cases hz; exact am_sz2 hts ev2 hA
      | 3, _, hz => cases hz; exact am_sz3 hts ev3 hA
      | 4, _, hz => cases hz; exact am_sz4 hts ev4 hA
      | 5, _, hz => cases hz; exact am_sz5 hts ev5 hA
      | 6, _, hz => cases hz; exact am_sz6 hts ev6 hA
      | 7, _, hz => cases hz; exact am_sz7 hts ev7 hA
      | 8, _, hz => cases hz; exact am_sz8 hts ev8 hA
      | 9, _, hz => cases hz; exact am_sz9 hts ev9 hA
      | k + 10, hk, _ => omega
  have hlt : ∀ {ty : FieldType} {t n : Nat} {f : Nat → Value}, va_T ty t n f (fun q => s.heap.size ≤ q) s s.heap → t < s.heap.size := fun h => by
    obtain ⟨cell, h1, -⟩ := h
    exact (Array.getElem?_eq_some_iff.mp h1).1
  have hrel : am_rel (fun k => (dD k).1, fun k => (dD k).2) cA s.heap.size al s s.heap (am_h0 L xs) := by
    refine ⟨fun k cc hk => ?_, fun i j ci cj hi hj h1 h2 h3 => ?_⟩
    · have stat : ∀ k : Nat, k < 9 → ∀ t n, al k = t → va_T .int t n (fun j => (am_iv (am_sv k)).getD j .null) (fun q => s.heap.size ≤ q) s s.heap → (am_iv (am_sv k)).length = n → (am_h0 L xs).1 k = some cc → k < (am_h0 L xs).2.1 ∧ (cc.1 < 70 → al k < s.heap.size) ∧ am_cell (fun k => (dD k).1, fun k => (dD k).2) cA al s s.heap (al k) cc ∧ (cc.1 < 60 → s.heap.size ≤ al k) ∧ ∀ v ∈ cc.2, am_vk (am_h0 L xs).2.1 v := by
        intro k hk9 t n hat hT hlen hk
        have e1 : (am_h0 L xs).1 k = some (60, am_iv (am_sv k)) := if_pos hk9
        rw [e1] at hk
        cases hk
        rw [hat]
        refine ⟨by show k < 12; omega, fun _ => hlt hT, ⟨fun z => absurd (show 60 < 50 from z) (by decide), fun _ _ => am_sl_T hT hlen (fun j w hw => ?_) (am_iv_cv al _), fun _ z => absurd (show 60 < 60 from z) (by decide)⟩, fun z => absurd (show 60 < 60 from z) (by decide), fun v hv => ?_⟩
        · rw [List.getD_eq_getElem?_getD, hw]
          rfl
        · obtain ⟨x, -, rfl⟩ := List.mem_map.mp hv
          trivial
      have hk12 : k < 12 := by
        rcases Nat.lt_or_ge k 12 with q | q
        · exact q
        · have e1 : (am_h0 L xs).1 k = none := by
            show (if k < 9 then _ else if k = 9 then _ else if k = 10 then _ else if k = 11 then _ else none) = none
            rw [if_neg (by omega), if_neg (by omega), if_neg (by omega), if_neg (by omega)]
          rw [e1] at hk
          cases hk
      match k, hk12, hk with
      | 0, _, hk => exact stat 0 (by decide) t0 6 (by rw [hal]; rfl) T0 rfl hk
      | 1, _, hk => exact stat 1 (by decide) t1 6 (by rw [hal]; rfl) T1 rfl hk
      | 2, _, hk => exact stat 2 (by decide) t2 6 (by rw [hal]; rfl) T2 rfl hk
      | 3, _, hk => exact stat 3 (by decide) t3 6 (by rw [hal]; rfl) T3 rfl hk
      | 4, _, hk => exact stat 4 (by decide) t4 5 (by rw [hal]; rfl) T4 rfl hk
      | 5, _, hk => exact stat 5 (by decide) t5 5 (by rw [hal]; rfl) T5 rfl hk
      | 6, _, hk => exact stat 6 (by decide) t6 5 (by rw [hal]; rfl) T6 rfl hk
      | 7, _, hk => exact stat 7 (by decide) t7 10 (by rw [hal]; rfl) T7 rfl hk
      | 8, _, hk => exact stat 8 (by decide) t8 10 (by rw [hal]; rfl) T8 rfl hk
      | 9, _, hk =>
        have e0 : al 9 = t9 := by rw [hal]; rfl
        cases (show some (63, []) = some cc from hk)
        rw [e0]
        exact ⟨by show 9 < 12; decide, fun _ => hlt T9, ⟨fun z => absurd (show 63 < 50 from z) (by decide), fun _ _ => am_sl_T (ws := []) T9 rfl (fun j w hw => by simp at hw) rfl, fun _ z => absurd (show 63 < 60 from z) (by decide)⟩, fun z => absurd (show 63 < 60 from z) (by decide), fun v hv => by cases hv⟩
      | 10, _, hk =>
        cases (show some (70, []) = some cc from hk)
        exact ⟨by show 10 < 12; decide, fun z => absurd (show 70 < 70 from z) (by decide), ⟨fun z => absurd (show 70 < 50 from z) (by decide), fun _ z => absurd (show 70 < 70 from z) (by decide), fun _ z => absurd (show 70 < 60 from z) (by decide)⟩, fun z => absurd (show 70 < 60 from z) (by decide), fun v hv => by cases hv⟩
      | 11, _, hk =>
        have e0 : al 11 = b := by rw [hal]; rfl
        cases (show some (60, (List.range L).map fun j => Value.int (xs j)) = some cc from hk)
        obtain ⟨scr, h1, h2, h3, h4, h5⟩ := hX
        have hcv : ((List.range L).map fun j => Value.int (xs j)).map (am_cv al) = (List.range L).map fun j => Value.int (xs j) := by rw [List.map_map]; rfl
        rw [e0]
        refine ⟨by show 11 < 12; decide, fun _ => hbl, ⟨fun z => absurd (show 60 < 50 from z) (by decide), fun _ _ => ⟨scr, h1, h2, h3, ?_⟩, fun _ z => absurd (show 60 < 60 from z) (by decide)⟩, fun z => absurd (show 60 < 60 from z) (by decide), fun v hv => ?_⟩
        · show am_sl scr (((List.range L).map fun j => Value.int (xs j)).map (am_cv al))
          rw [hcv]
          refine ⟨fun j w hw => ?_, by rw [List.length_map, List.length_range]; exact Nat.le_of_eq h4.symm, by rw [List.length_map, List.length_range, h4]⟩
          rw [List.getElem?_map] at hw
          obtain ⟨j', hj', e1⟩ := Option.map_eq_some_iff.mp hw
          have g1 : j < L := by
            have := (List.getElem?_eq_some_iff.mp hj').1
            rw [List.length_range] at this
            exact this
          rw [List.getElem?_range g1] at hj'
          cases hj'
          rw [← e1]
          exact h5 _ g1
        · obtain ⟨x, -, rfl⟩ := List.mem_map.mp hv
          trivial
      | k + 12, hk12, _ => omega
    · exfalso
      have e1 : ∀ k c9, (am_h0 L xs).1 k = some c9 → 60 ≤ c9.1 := by
        intro k c9 hk
        have hk : (if k < 9 then some (60, am_iv (am_sv k)) else if k = 9 then some (63, []) else if k = 10 then some (70, []) else if k = 11 then some (60, (List.range L).map fun j => Value.int (xs j)) else none) = some c9 := hk
        split at hk
        · cases hk; exact Nat.le_refl _
        · split at hk
          · cases hk; show 60 ≤ 63; decide
          · split at hk
            · cases hk; show 60 ≤ 70; decide
            · split at hk
              · cases hk; exact Nat.le_refl _
              · cases hk
      have := e1 i ci hi
      omega
  obtain ⟨h1, hex, hb1, hb2⟩ := hrun L xs hL
  obtain ⟨n, hn⟩ := am_exec_iff.mp hex
  have hst : l.stackTraces = false := by
    unfold Launch.stackTraces
    rw [hflags]
    decide
  have C : am_ctx (fun k => (dD k).1, fun k => (dD k).2) cA s.heap.size al l 291 p room_1 s m #[Value.ref b] meth c :=
    ⟨hx, hb, hml, hown, htsB, hr, hlocks, fun h9 => absurd h9 (by decide +kernel), by decide +kernel, by decide +kernel, fun h9 => absurd rfl h9, hst, Nat.le_refl _, hPhi⟩
  have hJ := am_sim OK _ cA s.heap.size l hst n 291 0 _ [] (am_h0 L xs) (.inl (some (.int 1))) h1 hn al 12 0 p e room_1 s m #[Value.ref b] below meth c 601024 7293034 C (Nat.le_refl _) hb1 (by rw [Nat.zero_add]; exact hb2) hb1 (by rw [Nat.zero_add]; exact hb2) (fun _ => ⟨_, rfl⟩)
  have h11 : [Value.ref 11].map (am_cv al) = [Value.ref b] := by
    show [Value.ref (al 11)] = _
    rw [hal]
    rfl
  have hloc : am_loc al ((lg_sl [Value.ref b] ++ List.replicate (8 - (lg_sl [Value.ref b]).length) Slot.unset).toArray) (am_nL 291) (am_ent (am_nL 291) [.ref 11]) := by
    have h9 := am_ent_loc (al := al) (n := am_nL 291) (as := [.ref 11]) (by decide +kernel)
    rw [h11] at h9
    exact h9
  have hW := hJ al s.heap [] 0 0 _ ⟨hrel, hloc, am_ent_vk (k := 12) ⟨by show 11 < 12; decide, trivial⟩, trivial, va_S.rf, fun _ _ => rfl, Nat.le_refl _, Nat.le_refl _⟩
  rw [lg_entry_eq]
  intro T hT X
  obtain ⟨t, st9, o, hrn, hend, hq⟩ := hW T hT X
  refine ⟨t, st9, o, hrn, hend, ?_⟩
  rcases hq with ⟨⟨⟨v, al1, hr1, ho, -⟩, -⟩, L9, hF, hL9⟩ | ⟨q, -, E, ce, L9, ⟨⟨x, al1, hr1, -⟩, -⟩, -⟩
  · cases hr1
    refine ⟨ho, hF.1, hF.2.1, ?_⟩
    obtain ⟨g1, g2, g3, g4, g5, g6⟩ := hF.2.2
    refine ⟨g1, g2, g3, g4, g5, fun a c9 hc9 => ?_⟩
    obtain ⟨c8, y1, y2, y3, y4⟩ := g6 a c9 hc9
    refine ⟨c8, y1, y2, y3, fun i _ => y4 i fun hm => ?_⟩
    have h7 : s.heap.size ≤ a := hL9 _ hm
    have h8 : a < s.heap.size := (Array.getElem?_eq_some_iff.mp hc9).1
    exact absurd h8 (Nat.not_lt.mpr h7)
  · cases hr1
