theorem zz_1 : am_prog 5 3 = some (.aload_n 0, 1, 0, 0, 0, [], []) := rfl
theorem zz_2 : am_prog 5 3 = some (.aload_n 0, 1, 0, 0, 0, [], []) := by decide +kernel
theorem zz_3 (a b : Value) (st : List Value) (h : am_H) (x : Nat) : am_exec 5 3 [.ref x, b] st h = am_exec 5 4 [.ref x, b] (.ref x :: st) h := am_exec_op zz_1 rfl rfl rfl
