/-! THE CLASS'S PLANNER: both ways give the reference's plans -/
section
variable {K : aw_K} {A : aw_A} {G : am_G} {M : aw_M} {r : am_H} {n F T : Nat}
theorem mc50 (hW : aw_W K A G n F T) (hSr : aw_S r) (hl : ∀ t, t < 64 → am_I (G 2 t) 6) {c : Nat} (hc : c < F) (ht : am_I (G 9 c) 64) (hw : aw_we G c) {z : Nat} (hz : G 10 c = Int32.ofNat z) (hz3 : z ≤ 3) {S : Nat} (hS : S ≤ 24) {Q : am_G} (hQ : Q 4 0 = Int32.ofNat S) (hO : ∀ i, i < S → am_I (Q 5 i) 64) : ∃ Q' b, am_exec 50 0 [.ref 34, .ref (A 1 c), am_U, am_U, am_U, am_U, am_U, am_U, am_U, am_U, am_U, am_U] [] (aw_H K A G Q M r) = some (.inl (some (.long (ap_o (Q 5) 0 b))), aw_H K A G Q' M r) ∧ (∀ f, ¬ f = 6 → Q' f = Q f) ∧ ap_ok (fun i => (as_fo G (Q 5 i).toNatClampNeg).toNatClampNeg) (fun i => (as_wo G c (Q 5 i).toNatClampNeg).toNatClampNeg) (as_nd G c z) (ap_cb (min z S) (List.range' 0 S)) (some b) := by
  have hV := hW.V
  have hK := hW.c hc
  obtain ⟨y, y1, y2⟩ := as_fd2 (l := G 2 (G 9 c).toNatClampNeg) (m := G 3 (G 9 c).toNatClampNeg)
  have hnd : as_nd G c z = 2 * z - y := by
    unfold as_nd
    rw [y2, am_tcn (by omega)]
  obtain ⟨k, hk⟩ : ∃ k, k = min z S := ⟨_, rfl⟩
  have hk3 : k ≤ 3 := by omega
  rw [← hk]
  obtain ⟨l, e1, e2, e3⟩ := ap_h24 hS hk3 (show k ≤ S by omega)
  have em : am_mi (am_mi (Int32.ofNat z) (Int32.ofNat S)) 3 = Int32.ofNat k := by
    rw [am_min (by omega) (by omega), show (3 : Int32) = Int32.ofNat 3 from rfl, am_min (by omega) (by omega)]
    exact congrArg Int32.ofNat (by omega)
  have key := am_iter (fun i => am_exec 50 18 [.ref 34, .ref (A 1 c), .int (Int32.ofNat k), .int (Int32.ofNat i), am_U, am_U, am_U, am_U, am_U, am_U, am_U, am_U] [] (aw_H K A G (am_it (fun i X => am_up X 6 i (Int32.ofNat i)) Q i) M r)) k (fun i hi => by
    have c0 : ¬ Int32.ofNat k ≤ Int32.ofNat i := am_lit _ _ hi (by omega)
    have hI : am_I (Int32.ofNat i) 3 := am_Ik (by omega) (by decide)
    have hJ := am_tcn (show i ≤ 100000 by omega)
    show am_exec 50 18 _ _ _ = am_exec 50 18 [.ref 34, .ref (A 1 c), .int (Int32.ofNat k), .int (Int32.ofNat (i + 1)), am_U, am_U, am_U, am_U, am_U, am_U, am_U, am_U] [] (aw_H K A G (am_up (am_it (fun i X => am_up X 6 i (Int32.ofNat i)) Q i) 6 i (Int32.ofNat i)) M r)
    generalize am_it (fun i X => am_up X 6 i (Int32.ofNat i)) Q i = X
    have m148 := mc148_36 (K := K) (A := A) (G := G) (Q := X) (M := M) (r := r) (v := Int32.ofNat i) hI
    rw [hJ] at m148
    rw [am_e50_18, if_neg c0]
    simp only [am_e50_23, am_e50_27, am_e50_32, aw_gU0, aw_pU0, aw_gU1, aw_gU2, aw_pU2, aw_gU3, aw_pU3, aw_gU4, aw_pU4, aw_gU5, aw_pU5, aw_gU6, aw_pU6, aw_gU7, aw_pU7, aw_gC1, aw_gC2, aw_pC2, aw_gC3, aw_pC3, aw_gC4, aw_pC4, aw_gC5, aw_pC5, aw_gC6, aw_pC6, aw_gC7, aw_pC7, aw_gC9, aw_pC9, aw_gC0, aw_gC8, aw_gC10, aw_pC10, aw_gC11, aw_pC11, aw_gC12, aw_pC12, aw_gC13, aw_pC13, aw_gC14, aw_pC14, aw_gC15, aw_pC15, aw_gC16, aw_pC16, aw_gT0, aw_gT1, aw_gT2, aw_gT3, aw_gT4, aw_pT4, aw_gT5, aw_pT5, aw_gT6, aw_pT6, aw_gO0, aw_gO1, aw_gO2, aw_gO3, aw_gO4, aw_gO5, aw_gO6, aw_gP1, aw_pP1, aw_gP2, aw_pP2, aw_gP3, aw_pP3, aw_gP4, aw_pP4, aw_gP5, aw_pP5, aw_gP6, aw_pP6, aw_gP0, aw_gP7, aw_isU, aw_isC, aw_isT, aw_isO, aw_isP, aw_isF12, aw_gF12_0, aw_gF12_1, aw_gF12_2, aw_gF12_3, aw_gF12_4, aw_isF13, aw_gF13_0, aw_gF13_1, aw_gF13_2, aw_gF13_3, aw_gF13_4, aw_gF13_5, aw_gF13_6, aw_gF13_7, aw_isF14, aw_gF14_0, aw_gF14_1, aw_gF14_2, aw_isF18, aw_gF18_0, aw_gF18_1, aw_isF19, aw_gF19_0, aw_gF19_1, aw_gF19_2, aw_isF21, aw_gF21_0, aw_gF21_1, aw_gF21_2, aw_isF22, aw_gF22_0, aw_gF22_1, aw_gF22_2, aw_isF23, aw_gF23_0, aw_gF23_1, aw_gF23_2, aw_isF34, aw_gF34_0, aw_gF34_1, aw_gF34_2, aw_gF34_3, aw_gF34_4, aw_gF34_5, aw_isF38, aw_gF38_0, aw_isF39, aw_gF39_0, aw_pF12_4, aw_pF13_6, aw_pF13_7, aw_pF34_4, aw_pF34_5, am_bk, am_pu1, am_pu0, Option.bind_some, eq_self, am_nli, am_nlr, am_nln, am_nlu, if_true, if_false, not_true_eq_false, not_false_eq_true, am_10, am_01, m148, am_succ])
  have r6 : ∀ i, (∀ f, ¬ f = 6 → am_it (fun i X => am_up X 6 i (Int32.ofNat i)) Q i f = Q f) ∧ ∀ j, j < i → am_it (fun i X => am_up X 6 i (Int32.ofNat i)) Q i 6 j = Int32.ofNat j := by
    intro i
    induction i with
    | zero => exact ⟨fun _ _ => rfl, fun j hj => absurd hj (Nat.not_lt_zero j)⟩
    | succ i ih =>
      refine ⟨fun f hf => ?_, fun j hj => ?_⟩
      · rw [am_it, am_up_ne hf, ih.1 f hf]
      · rw [am_it, am_up_eq]
        by_cases e : j = i
        · rw [e, am_upd_eq]
        · rw [am_upd_ne e]
          exact ih.2 j (by omega)
  obtain ⟨q1, q2⟩ := r6 k
  have key : am_exec 50 18 [.ref 34, .ref (A 1 c), .int (Int32.ofNat k), .int 0, am_U, am_U, am_U, am_U, am_U, am_U, am_U, am_U] [] (aw_H K A G Q M r) = am_exec 50 18 [.ref 34, .ref (A 1 c), .int (Int32.ofNat k), .int (Int32.ofNat k), am_U, am_U, am_U, am_U, am_U, am_U, am_U, am_U] [] (aw_H K A G (am_it (fun i X => am_up X 6 i (Int32.ofNat i)) Q k) M r) := key
  generalize am_it (fun i X => am_up X 6 i (Int32.ofNat i)) Q k = X at key q1 q2
  have m43 := mc43 (A := A) (Q := X) (M := M) (r := r) hW hSr hc ht (hl _ ht.2)
  have mem : ∀ x, x ∈ List.range' 0 k :: l → x.Sublist (List.range' 0 S) ∧ x.length = k := fun x hx => by
    rw [← e1] at hx
    exact (ap_cb_mem _ _ x).mp hx
  have hlk : am_mx 0 (2 * G 10 c - am_mx (am_fd (G 2 (G 9 c).toNatClampNeg) (G 3 (G 9 c).toNatClampNeg)) 2) = Int32.ofNat (as_nd G c z) := by
    rw [hnd, y2, hz, show (2 : Int32) * Int32.ofNat z = Int32.ofNat (2 * z) by rw [show (2 : Int32) = Int32.ofNat 2 from rfl, ← Int32.ofNat_mul], am_mx_comm]
    exact am_mxn (by omega) y1
  obtain ⟨Q', x1, x2⟩ := mc50_59 (M := M) hW hSr hl hc hw hk3 hS (show k ≤ S by omega) (show as_nd G c z ≤ 100000 by omega) (O := Q 5) hO hlk l (List.range' 0 k) 0 none X e2 (by omega) mem (fun b hb => by cases hb) (by rw [q1 4 (by decide)]; exact hQ) (q1 5 (by decide)) (fun j hj => by rw [q2 j hj, ap_getR hj, Nat.zero_add])
  have hok := ap_g_ok (f := fun i => (as_fo G (Q 5 i).toNatClampNeg).toNatClampNeg) (w := fun i => (as_wo G c (Q 5 i).toNatClampNeg).toNatClampNeg) (g := as_nd G c z) (List.range' 0 k :: l) [] none rfl (by rw [List.nil_append, ← e1]; exact ap_cb_desc S 0 k (by omega))
  rw [List.nil_append, ← e1] at hok
  rw [← e1] at x1
  generalize (ap_cb k (List.range' 0 S)).foldl (ap_g (fun i => (as_fo G (Q 5 i).toNatClampNeg).toNatClampNeg) (fun i => (as_wo G c (Q 5 i).toNatClampNeg).toNatClampNeg) (as_nd G c z)) none = o at x1 hok
  cases o with
  | none =>
    have hok : ap_cb k (List.range' 0 S) = [] := hok
    rw [hok] at e1
    cases e1
  | some b =>
    refine ⟨Q', b, ?_, fun f hf => by rw [x2 f hf, q1 f hf], hok⟩
    have x1 : am_exec 50 59 [.ref 34, .ref (A 1 c), .int (Int32.ofNat k), .int (2 * G 10 c - am_mx (am_fd (G 2 (G 9 c).toNatClampNeg) (G 3 (G 9 c).toNatClampNeg)) 2), .int (-1), .int (-1), .long 0, am_U, .int 1, .int 0, am_U, am_U] [] (aw_H K A G X M r) = some (.inl (some (.long (ap_o (Q 5) 0 b))), aw_H K A G Q' M r) := x1
    have c0 : Int32.ofNat k ≤ Int32.ofNat k := Int32.le_refl _
    simp only [am_e50_0, am_e50_4, am_e50_8, aw_gU0, aw_pU0, aw_gU1, aw_gU2, aw_pU2, aw_gU3, aw_pU3, aw_gU4, aw_pU4, aw_gU5, aw_pU5, aw_gU6, aw_pU6, aw_gU7, aw_pU7, aw_gC1, aw_gC2, aw_pC2, aw_gC3, aw_pC3, aw_gC4, aw_pC4, aw_gC5, aw_pC5, aw_gC6, aw_pC6, aw_gC7, aw_pC7, aw_gC9, aw_pC9, aw_gC0, aw_gC8, aw_gC10, aw_pC10, aw_gC11, aw_pC11, aw_gC12, aw_pC12, aw_gC13, aw_pC13, aw_gC14, aw_pC14, aw_gC15, aw_pC15, aw_gC16, aw_pC16, aw_gT0, aw_gT1, aw_gT2, aw_gT3, aw_gT4, aw_pT4, aw_gT5, aw_pT5, aw_gT6, aw_pT6, aw_gO0, aw_gO1, aw_gO2, aw_gO3, aw_gO4, aw_gO5, aw_gO6, aw_gP1, aw_pP1, aw_gP2, aw_pP2, aw_gP3, aw_pP3, aw_gP4, aw_pP4, aw_gP5, aw_pP5, aw_gP6, aw_pP6, aw_gP0, aw_gP7, aw_isU, aw_isC, aw_isT, aw_isO, aw_isP, aw_isF12, aw_gF12_0, aw_gF12_1, aw_gF12_2, aw_gF12_3, aw_gF12_4, aw_isF13, aw_gF13_0, aw_gF13_1, aw_gF13_2, aw_gF13_3, aw_gF13_4, aw_gF13_5, aw_gF13_6, aw_gF13_7, aw_isF14, aw_gF14_0, aw_gF14_1, aw_gF14_2, aw_isF18, aw_gF18_0, aw_gF18_1, aw_isF19, aw_gF19_0, aw_gF19_1, aw_gF19_2, aw_isF21, aw_gF21_0, aw_gF21_1, aw_gF21_2, aw_isF22, aw_gF22_0, aw_gF22_1, aw_gF22_2, aw_isF23, aw_gF23_0, aw_gF23_1, aw_gF23_2, aw_isF34, aw_gF34_0, aw_gF34_1, aw_gF34_2, aw_gF34_3, aw_gF34_4, aw_gF34_5, aw_isF38, aw_gF38_0, aw_isF39, aw_gF39_0, aw_pF12_4, aw_pF13_6, aw_pF13_7, aw_pF34_4, aw_pF34_5, am_bk, am_pu1, am_pu0, Option.bind_some, eq_self, am_nli, am_nlr, am_nln, am_nlu, if_true, if_false, not_true_eq_false, not_false_eq_true, am_10, am_01, hV, hK, hz, hQ, em]
    refine key.trans ?_
    rw [am_e50_18, if_pos c0]
    simp only [am_e50_38, am_e50_43, aw_gU0, aw_pU0, aw_gU1, aw_gU2, aw_pU2, aw_gU3, aw_pU3, aw_gU4, aw_pU4, aw_gU5, aw_pU5, aw_gU6, aw_pU6, aw_gU7, aw_pU7, aw_gC1, aw_gC2, aw_pC2, aw_gC3, aw_pC3, aw_gC4, aw_pC4, aw_gC5, aw_pC5, aw_gC6, aw_pC6, aw_gC7, aw_pC7, aw_gC9, aw_pC9, aw_gC0, aw_gC8, aw_gC10, aw_pC10, aw_gC11, aw_pC11, aw_gC12, aw_pC12, aw_gC13, aw_pC13, aw_gC14, aw_pC14, aw_gC15, aw_pC15, aw_gC16, aw_pC16, aw_gT0, aw_gT1, aw_gT2, aw_gT3, aw_gT4, aw_pT4, aw_gT5, aw_pT5, aw_gT6, aw_pT6, aw_gO0, aw_gO1, aw_gO2, aw_gO3, aw_gO4, aw_gO5, aw_gO6, aw_gP1, aw_pP1, aw_gP2, aw_pP2, aw_gP3, aw_pP3, aw_gP4, aw_pP4, aw_gP5, aw_pP5, aw_gP6, aw_pP6, aw_gP0, aw_gP7, aw_isU, aw_isC, aw_isT, aw_isO, aw_isP, aw_isF12, aw_gF12_0, aw_gF12_1, aw_gF12_2, aw_gF12_3, aw_gF12_4, aw_isF13, aw_gF13_0, aw_gF13_1, aw_gF13_2, aw_gF13_3, aw_gF13_4, aw_gF13_5, aw_gF13_6, aw_gF13_7, aw_isF14, aw_gF14_0, aw_gF14_1, aw_gF14_2, aw_isF18, aw_gF18_0, aw_gF18_1, aw_isF19, aw_gF19_0, aw_gF19_1, aw_gF19_2, aw_isF21, aw_gF21_0, aw_gF21_1, aw_gF21_2, aw_isF22, aw_gF22_0, aw_gF22_1, aw_gF22_2, aw_isF23, aw_gF23_0, aw_gF23_1, aw_gF23_2, aw_isF34, aw_gF34_0, aw_gF34_1, aw_gF34_2, aw_gF34_3, aw_gF34_4, aw_gF34_5, aw_isF38, aw_gF38_0, aw_isF39, aw_gF39_0, aw_pF12_4, aw_pF13_6, aw_pF13_7, aw_pF34_4, aw_pF34_5, am_bk, am_pu1, am_pu0, Option.bind_some, eq_self, am_nli, am_nlr, am_nln, am_nlu, if_true, if_false, not_true_eq_false, not_false_eq_true, am_10, am_01, m43]
    exact x1
/-- a city plans: fl = 0 by the table, fl = 1 by all sets -/
theorem mc39_c (hW : aw_W K A G n F T) (hSr : aw_S r) (hCA : aw_CA G F) (hU : aw_IU G n) (hST : ∀ i, i < n → ∀ j, j < n → G 29 i = G 29 j → G 27 i = G 27 j) (hl : ∀ t, t < 64 → am_I (G 2 t) 6) {c : Nat} (hc : c < F) (h7 : G 7 c = 1) (hI : aw_IC G c) (hw : aw_we G c) {fl : Int32} (hfl : fl = 0 ∨ fl = 1 ∧ G 10 c ≤ 3) {tk p : Int64} (htk : ∀ t, t < 64 → tk.toBitVec.getLsbD t = ((as_orl (fun _ => True) (fun i => G 9 (A 7 i)) 0 (A 8 0)).toBitVec.getLsbD t || p.toBitVec.getLsbD t)) {l i : Int32} (hlc : ¬ l < Int32.ofNat c) {Y : am_G} {N : aw_M} : ∃ Y' N', am_exec 39 52 [.ref 34, .int l, .int fl, .long tk, am_U, .int i, .ref (A 1 c)] [] (aw_H K A G Y N r) = am_exec 39 110 [.ref 34, .int l, .int fl, .long (tk ||| ar_p G n T c p), am_U, .int i, .ref (A 1 c)] [] (aw_H K A G Y' N' r) ∧ (∀ j, ¬ j = c → Y' 0 j = Y 0 j ∧ Y' 1 j = Y 1 j ∧ Y' 2 j = Y 2 j ∧ N' 0 j = N 0 j) ∧ Y' 0 c = as_yf G (ar_p G n T c p) c ∧ Y' 1 c = as_yw G (ar_p G n T c p) c ∧ Y' 2 c = as_yt G (ar_p G n T c p) c ∧ N' 0 c = ar_p G n T c p := by
  have hV := hW.V
  have hK := hW.c hc
  obtain ⟨i1, i2, ⟨z, z1, z0, z3⟩, -⟩ := hI
  obtain ⟨q, hq⟩ : ∃ q, q = tk ||| as_fo' G n T (G 8 c) := ⟨_, rfl⟩
  have hcw : ∀ t, t < 64 → (as_op G c t q ↔ as_cw G n T c t p) := fun t ht => by
    rw [hq]
    exact as_op_cw hW hCA hU hST hc h7 ht (htk t ht)
  obtain ⟨o1, -, rows, -⟩ := as_oq_sp (Q := Y) hcw 64 (Nat.le_refl _)
  have hqs : as_qs G c q = as_ns G n T c p := am_cnt_cg hcw
  obtain ⟨S, hS0⟩ : ∃ S, S = as_ns G n T c p := ⟨_, rfl⟩
  have h24 : S ≤ 24 := by rw [hS0]; exact as_cw_24 i2
  have rows : ∀ x, x < S → ∃ u, u < 64 ∧ as_q1 G Y c q 5 x = Int32.ofNat u ∧ as_xs G n T c p 20 x = Int32.ofNat u ∧ as_xs G n T c p 21 x = as_fo G u ∧ as_xs G n T c p 22 x = as_wo G c u := fun x hx => by
    rw [hS0] at hx
    exact rows x hx
  have hOX : ∀ x, x < S → as_q1 G Y c q 5 x = as_xs G n T c p 20 x := fun x hx => by
    obtain ⟨u, -, u2, u3, -⟩ := rows x hx
    rw [u2, u3]
  have hapO : ap_O G (as_xs G n T c p) c S (as_q1 G Y c q 5) := fun x hx => by
    obtain ⟨u, u1, u2, u3, u4, u5⟩ := rows x hx
    exact ⟨u, u1, u2, u3, u4, u5⟩
  have hO : ∀ x, x < S → am_I (as_q1 G Y c q 5 x) 64 := fun x hx => by
    obtain ⟨u, u1, u2, -⟩ := rows x hx
    rw [u2]
    exact am_Ik u1 (by decide)
  have hz : (G 10 c).toNatClampNeg = z := by rw [z1, am_tcn (by omega)]
  have har : ar_p G n T c p = as_tl (as_q1 G Y c q 5) (Int64.ofNat (ap_N G c (as_q1 G Y c q 5) S (min S z) (as_nd G c z))) S := by
    unfold ar_p
    rw [← hS0, hz, ap_N_cg (O := as_xs G n T c p 20) (O' := as_q1 G Y c q 5) (fun x hx => (hOX x hx).symm)]
    exact (as_tl_cg S hOX).symm
  have hpo := (ap_po' hapO hw h24 (nd := as_nd G c z) (Nat.min_le_left S z)).1
  rcases hfl with rfl | ⟨rfl, hle3⟩
  · have hlc' := hlc
    have e0 : (as_qc G n T l c (Y, N, tk)).2.2 = tk ||| ar_p G n T c p := by
      unfold as_qc
      rw [if_neg hlc]
      dsimp only
      rw [← hq, hz]
      refine congrArg (tk ||| ·) ?_
      unfold as_qp
      rw [hqs, ← hS0, har]
      unfold as_qm as_qg as_sk
      rw [hqs, ← hS0, ap_mo hapO, ap_num hapO hw h24 (show min z S ≤ 24 by omega), Nat.min_comm z S, hapO.N hw, hapO.m, hpo]
      rfl
    have e1 : (as_qc G n T l c (Y, N, tk)).2.1 0 c = ar_p G n T c p := by
      have h2 : (as_qc G n T l c (Y, N, tk)).2.1 0 c = as_qp G Y c z q N := by
        unfold as_qc
        rw [if_neg hlc]
        dsimp only
        rw [aw_mu_eq, am_upd_eq, ← hq, hz]
      rw [h2]
      unfold as_qp
      rw [hqs, ← hS0, har]
      unfold as_qm as_qg as_sk
      rw [hqs, ← hS0, ap_mo hapO, ap_num hapO hw h24 (show min z S ≤ 24 by omega), Nat.min_comm z S, hapO.N hw, hapO.m, hpo]
      rfl
    refine ⟨(as_qc G n T l c (Y, N, tk)).1, (as_qc G n T l c (Y, N, tk)).2.1, ?_, fun j hj => as_qc_ne hj, ?_⟩
    · have m52 := mc39_52 (M := N) (r := r) (l := l) (i := i) (Q := Y) hW hSr hl (fun k hk => (hU k hk).1) hc i2 i1 z1 z3 (tk := tk) rfl (by rw [← as_fo', ← hq, hqs, ← hS0]; exact h24) (by rw [← as_fo', ← hq, hqs, ← hS0]; exact hO)
      rw [← e0]
      unfold as_qc
      rw [if_neg hlc]
      dsimp only
      rw [hz]
      exact m52
    · obtain ⟨g1, g2, g3⟩ := as_qc_got (G := G) (n := n) (T := T) (s := (Y, N, tk)) hlc
      rw [e1] at g1 g2 g3
      exact ⟨g1, g2, g3, e1⟩
  · have z33 : z ≤ 3 := by
      rw [z1, show (3 : Int32) = Int32.ofNat 3 from rfl, am_le_nat (by omega) (by decide)] at hle3
      exact hle3
    have m107 := mc107 (Q := Y) (M := N) (r := r) hW (fun k hk => (hU k hk).1) i1
    obtain ⟨m40, e40⟩ := mc40 (Q := Y) (M := N) (r := r) hW hc i1 (p := q) (by
      show as_qs G c q ≤ 24
      rw [hqs, ← hS0]
      exact h24)
    have m40 : am_exec 40 0 [.ref 34, .ref (A 1 c), .long q, am_U, am_U, am_U, am_U] [] (aw_H K A G Y N r) = some (.inl none, aw_H K A G (as_q1 G Y c q) N r) := m40
    have e40 : as_q1 G Y c q 4 0 = Int32.ofNat S := by
      rw [hS0, ← hqs]
      exact e40
    obtain ⟨Q', b, x1, x2, x3⟩ := mc50 (M := N) hW hSr hl hc i2 hw z1 z33 h24 e40 hO
    have all := ap_all (f := fun i => (as_fo G (as_q1 G Y c q 5 i).toNatClampNeg).toNatClampNeg) (w := fun i => (as_wo G c (as_q1 G Y c q 5 i).toNatClampNeg).toNatClampNeg) (fun x hx => by
      have h0 := List.mem_range'_1.mp hx
      have h5 := (hapO.f (i := x) (by omega))
      show (as_fo G (as_q1 G Y c q 5 x).toNatClampNeg).toNatClampNeg ≤ 4
      rw [h5.2.2, am_tcn (by omega)]
      omega) h24 (Nat.min_le_right z S) x3
    obtain ⟨b1, b2, b3⟩ := all
    rw [Nat.min_comm z S, hpo] at b3
    have b3 := Option.some.inj b3
    have epl : ap_o (as_q1 G Y c q 5) 0 b = ar_p G n T c p := by
      rw [har, b3]
      refine ap_o_tl h24 S 0 b (by omega) b1 ?_
      have l1 := ap_w_lt S 0 b (by omega) b1
      rw [ap_v_s]
      have e24 : (2 : Nat) ^ (24 - 0) = 16777216 := by decide
      rw [e24] at l1 ⊢
      rw [ap_Kv]
      omega
    rw [epl] at x1
    have m41 := mc41 (Q := Q') (M := aw_mu N 0 c (ar_p G n T c p)) (r := r) hW hSr hl hc i2
    have em : aw_mu N 0 c (ar_p G n T c p) 0 c = ar_p G n T c p := by rw [aw_mu_eq, am_upd_eq]
    rw [em] at m41
    have m41 : am_exec 41 0 [.ref 34, .ref (A 1 c), am_U, am_U] [] (aw_H K A G Q' (aw_mu N 0 c (ar_p G n T c p)) r) = some (.inl none, aw_H K A G (as_ga Q' c (as_yf G (ar_p G n T c p) c) (as_yw G (ar_p G n T c p) c) (as_yt G (ar_p G n T c p) c)) (aw_mu N 0 c (ar_p G n T c p)) r) := m41
    have rq : ∀ f, ¬ f = 4 ∧ ¬ f = 5 ∧ ¬ f = 6 → Q' f = Y f := fun f hf => by
      rw [x2 f hf.2.2, as_q1_ne ⟨hf.1, hf.2.1⟩]
    refine ⟨as_ga Q' c (as_yf G (ar_p G n T c p) c) (as_yw G (ar_p G n T c p) c) (as_yt G (ar_p G n T c p) c), aw_mu N 0 c (ar_p G n T c p), ?_, fun j hj => ?_, as_ga_r0, as_ga_r1, as_ga_r2, em⟩
    · have f1 : ¬ (1 : Int32) = 0 := by decide
      have hq' : tk ||| as_orl (fun k => am_war G (G 27 k) (G 8 c) T) (G 29) 0 n = q := hq.symm
      generalize ar_p G n T c p = pl at *
      generalize as_q1 G Y c q = Q1 at *
      simp only [am_e39_52, am_e39_60, am_e39_65, am_e39_68, am_e39_72, am_e39_78, am_e39_84, am_e39_96, am_e39_102, aw_gU0, aw_pU0, aw_gU1, aw_gU2, aw_pU2, aw_gU3, aw_pU3, aw_gU4, aw_pU4, aw_gU5, aw_pU5, aw_gU6, aw_pU6, aw_gU7, aw_pU7, aw_gC1, aw_gC2, aw_pC2, aw_gC3, aw_pC3, aw_gC4, aw_pC4, aw_gC5, aw_pC5, aw_gC6, aw_pC6, aw_gC7, aw_pC7, aw_gC9, aw_pC9, aw_gC0, aw_gC8, aw_gC10, aw_pC10, aw_gC11, aw_pC11, aw_gC12, aw_pC12, aw_gC13, aw_pC13, aw_gC14, aw_pC14, aw_gC15, aw_pC15, aw_gC16, aw_pC16, aw_gT0, aw_gT1, aw_gT2, aw_gT3, aw_gT4, aw_pT4, aw_gT5, aw_pT5, aw_gT6, aw_pT6, aw_gO0, aw_gO1, aw_gO2, aw_gO3, aw_gO4, aw_gO5, aw_gO6, aw_gP1, aw_pP1, aw_gP2, aw_pP2, aw_gP3, aw_pP3, aw_gP4, aw_pP4, aw_gP5, aw_pP5, aw_gP6, aw_pP6, aw_gP0, aw_gP7, aw_isU, aw_isC, aw_isT, aw_isO, aw_isP, aw_isF12, aw_gF12_0, aw_gF12_1, aw_gF12_2, aw_gF12_3, aw_gF12_4, aw_isF13, aw_gF13_0, aw_gF13_1, aw_gF13_2, aw_gF13_3, aw_gF13_4, aw_gF13_5, aw_gF13_6, aw_gF13_7, aw_isF14, aw_gF14_0, aw_gF14_1, aw_gF14_2, aw_isF18, aw_gF18_0, aw_gF18_1, aw_isF19, aw_gF19_0, aw_gF19_1, aw_gF19_2, aw_isF21, aw_gF21_0, aw_gF21_1, aw_gF21_2, aw_isF22, aw_gF22_0, aw_gF22_1, aw_gF22_2, aw_isF23, aw_gF23_0, aw_gF23_1, aw_gF23_2, aw_isF34, aw_gF34_0, aw_gF34_1, aw_gF34_2, aw_gF34_3, aw_gF34_4, aw_gF34_5, aw_isF38, aw_gF38_0, aw_isF39, aw_gF39_0, aw_pF12_4, aw_pF13_6, aw_pF13_7, aw_pF34_4, aw_pF34_5, am_bk, am_pu1, am_pu0, Option.bind_some, eq_self, am_nli, am_nlr, am_nln, am_nlu, if_true, if_false, not_true_eq_false, not_false_eq_true, am_10, am_01, hV, hK, m107, hq', m40, f1, x1, em, m41]
    · unfold as_ga
      refine ⟨?_, ?_, ?_, ?_⟩
      · rw [am_up_at hj, am_up_at hj, am_up_at hj, rq 0 (by decide)]
      · rw [am_up_at hj, am_up_at hj, am_up_at hj, rq 1 (by decide)]
      · rw [am_up_at hj, am_up_at hj, am_up_at hj, rq 2 (by decide)]
      · rw [aw_mu_eq, am_upd_ne hj]
end
