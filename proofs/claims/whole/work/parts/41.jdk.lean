/-! THE CLASS'S SMALLEST METHODS AND THE JDK'S LISTS -/
theorem am_iter {α : Type} (f : Nat → α) (n : Nat) (h : ∀ k, k < n → f k = f (k + 1)) : f 0 = f n := by
  induction n with
  | zero => rfl
  | succ n ih => exact (ih fun k hk => h k (by omega)).trans (h n (by omega))
theorem mc145 {h : am_H} {v a b : Int32} : am_exec 145 0 [.int v, .int a, .int b] [] h = some (.inl (some (am_bi (a ≤ v ∧ v ≤ b))), h) := by
  by_cases h1 : a ≤ v <;> by_cases h2 : v ≤ b <;> simp only [am_e145_0, am_e145_14, am_e145_5, am_e145_10, am_bi, am_nle, h1, h2, not_true_eq_false, not_false_eq_true, if_true, if_false, and_self, and_true, true_and, and_false, false_and]
theorem am_and1 (x : Int32) : x &&& 1 = 0 ∨ x &&& 1 = 1 := by
  have h : (x &&& 1).toBitVec = BitVec.setWidth 32 (BitVec.ofBool (x.toBitVec.getLsbD 0)) := BitVec.and_one_eq_setWidth_ofBool_getLsbD
  cases e : x.toBitVec.getLsbD 0
  · left
    rw [e] at h
    exact Int32.toBitVec_inj.mp h
  · right
    rw [e] at h
    exact Int32.toBitVec_inj.mp h
theorem am_and1' (x : Int32) : (x &&& 1 = 0) = ¬ (x &&& 1 = 1) := by
  rcases am_and1 x with h | h <;> rw [h] <;> exact propext (by decide)
theorem mc146 {h : am_H} {s k : Int32} : am_exec 146 0 [.int s, .int k] [] h = some (.inl (some (am_bi (am_hb s k))), h) := by
  rcases am_and1 (s >>> (k &&& 31)) with h1 | h1 <;> simp only [am_e146_0, am_e146_12, am_e146_8, am_hb, am_bi, h1, show ¬ (1 : Int32) = 0 by decide, show ¬ (0 : Int32) = 1 by decide, if_true, if_false]
theorem am_I.lt {i : Int32} {n : Nat} (h : am_I i n) (hn : n ≤ 100000) : i < Int32.ofNat n := by
  have h1 : i.toInt.toNat < n := h.2
  have h2 : ¬ i < 0 := h.1
  have h3 : (Int32.ofNat n).toInt = (n : Int) := Int32.toInt_ofNat_of_lt (by omega)
  have h4 : ¬ i.toInt < 0 := fun e => h2 (Int32.lt_iff_toInt_lt.mpr e)
  rw [Int32.lt_iff_toInt_lt, h3]
  omega
theorem am_I.nle {i : Int32} {n : Nat} (h : am_I i n) (hn : n ≤ 100000) : ¬ Int32.ofNat n ≤ i := Int32.not_le.mpr (h.lt hn)
theorem am_len_row {h : am_H} {a t n : Nat} {g : Nat → Int32} (h0 : h.1 a = some (t, am_row n g)) (ht : 50 ≤ t ∧ t < 70) : am_len h a = some (Int32.ofNat n) := by
  unfold am_len
  rw [h0, Option.bind_some, if_pos ht, am_row_len]
theorem mc147 {h : am_H} {a t n : Nat} {g : Nat → Int32} {i : Int32} (h0 : h.1 a = some (t, am_row n g)) (ht : t = 50 ∨ t = 60) (hn : n ≤ 100000) (hi : am_I i n) : am_exec 147 0 [.ref a, .int i] [] h = some (.inl (some (.int (g i.toNatClampNeg))), h) := by
  have ht1 : t ∈ [50, 60] := by rcases ht with rfl | rfl <;> decide
  have ht2 : 50 ≤ t ∧ t < 70 := by rcases ht with rfl | rfl <;> decide
  simp only [am_e147_0, am_e147_16, am_e147_4, am_e147_7, am_e147_10, am_e147_13, am_len_row h0 ht2, am_ald_row h0 ht1 hi, hi.1, hi.nle hn, Option.bind_some, if_false]
theorem mc148 {h : am_H} {a n : Nat} {g : Nat → Int32} {i v : Int32} (h0 : h.1 a = some (50, am_row n g)) (hn : n ≤ 100000) (hi : am_I i n) : am_exec 148 0 [.ref a, .int i, .int v] [] h = some (.inl none, am_set h a (50, am_row n (am_upd g i.toNatClampNeg v))) := by
  simp only [am_e148_0, am_e148_14, am_e148_4, am_e148_7, am_e148_10, am_len_row h0 (by decide), am_ast_row h0 hi, hi.1, hi.nle hn, Option.bind_some, if_false]
theorem mc149 {h : am_H} {a b : Int32} : am_exec 149 0 [.int a, .int b, am_U, am_U] [] h = some (.inl (some (.int (am_dist a b))), h) := by
  simp only [am_e149_0, am_dist]
theorem mc251 {h : am_H} {a : Nat} {n : Int32} (h1 : am_getf h a 0 2 = some (.int n)) : am_exec 251 0 [.ref a] [] h = some (.inl (some (.int n)), h) := by
  simp only [am_e251_0, am_e251_4, h1, Option.bind_some]
theorem mc253 {h : am_H} {a d k n : Nat} {v : Nat} (hs : am_isa h a 0 = true) (h1 : am_getf h a 0 2 = some (.int (Int32.ofNat n))) (h2 : am_getf h a 0 1 = some (.ref d)) (h3 : am_ald h d [53, 54, 63] 2 (Int32.ofNat k) = some (.ref v)) (hk : k < n) (hn : n ≤ 100000) : am_exec 253 0 [.ref a, .int (Int32.ofNat k)] [] h = some (.inl (some (.ref v)), h) := by
  have e1 : ¬ Int32.ofNat k < 0 := (am_I.nat hk hn).1
  have e2 : Int32.ofNat k < Int32.ofNat n := (am_lt_nat (by omega) hn).mpr hk
  simp only [am_e253_0, am_e253_5, am_e253_8, am_e253_14, am_e261_0, am_e261_6, am_e264_0, am_e264_4, am_e264_16, am_e252_0, am_e252_4, am_e252_6, hs, h1, h2, h3, Option.bind_some, am_bk, am_pu1, e1, e2, if_true, if_false]
/-! the class's static rows -/
def aw_S (r : am_H) : Prop := (∀ k, k < 9 → r.1 k = some (60, am_iv (am_sv k))) ∧ r.1 9 = some (63, []) ∧ r.1 10 = some (70, [])
def am_tb (k j : Nat) : Int32 := Int32.ofInt ((am_sv k).getD j 0)
theorem am_I.cases {i : Int32} {n : Nat} (h : am_I i n) : ∃ k, k < n ∧ i = Int32.ofNat k := by
  have h2 : ¬ i.toInt < 0 := fun e => h.1 (Int32.lt_iff_toInt_lt.mpr e)
  refine ⟨i.toNatClampNeg, h.2, Int32.toInt_inj.mp ?_⟩
  have h3 : i.toInt < 2 ^ 31 := Int32.toInt_lt i
  have h4 : i.toNatClampNeg = i.toInt.toNat := rfl
  rw [Int32.toInt_ofNat_of_lt (by omega)]
  omega
section
variable {K : aw_K} {A : aw_A} {G Q : am_G} {M : aw_M} {r : am_H}
theorem aw_low {a : Nat} (hV : aw_V K) (ha : a < 12) : (aw_H K A G Q M r).1 a = r.1 a := by
  have h0 : (K a).1 = 0 := by
    rcases Nat.lt_or_ge (K a).1 1 with h | h
    · omega
    · exact absurd (Or.inl (by omega)) (hV.1 a h)
  show (aw_fx A G Q M a).or ((aw_dy A G Q M (K a)).or (r.1 a)) = _
  have h1 : aw_fx A G Q M a = none := by
    unfold aw_fx
    repeat rw [if_neg (by omega)]
  rw [h1]
  unfold aw_dy
  rw [h0]
  rfl
theorem aw_st {k n : Nat} {i : Int32} (hV : aw_V K) (hS : aw_S r) (hk : k < 9) (hn : n ≤ 100) (he : am_iv (am_sv k) = am_row n (am_tb k)) (hi : am_I i n) : am_exec 147 0 [.ref k, .int i] [] (aw_H K A G Q M r) = some (.inl (some (.int (am_tb k i.toNatClampNeg))), aw_H K A G Q M r) := by
  refine mc147 (n := n) (t := 60) (g := am_tb k) ?_ (Or.inr rfl) (by omega) hi
  rw [aw_low hV (by omega), hS.1 k hk, he]
def as_tf (l : Int32) : Int32 := if l = 5 then 3 else if l = 0 ∨ l = 1 then 2 else if l = 4 then 0 else 1
def as_tw (l : Int32) : Int32 := if l = 2 ∨ l = 3 then 2 else if l = 1 ∨ l = 4 then 1 else 0
def as_sl (l : Int32) : Int32 := if l = 2 then 15 else if l = 3 then 13 else 10
theorem mc147_0 {i : Int32} (hV : aw_V K) (hS : aw_S r) (hi : am_I i 6) : am_exec 147 0 [.ref 0, .int i] [] (aw_H K A G Q M r) = some (.inl (some (.int (as_tf i))), aw_H K A G Q M r) := by
  rw [aw_st hV hS (by decide) (by decide) rfl hi]
  obtain ⟨k, hk, rfl⟩ := hi.cases
  match k, hk with
  | 0, _ | 1, _ | 2, _ | 3, _ | 4, _ | 5, _ => rfl
theorem mc147_1 {i : Int32} (hV : aw_V K) (hS : aw_S r) (hi : am_I i 6) : am_exec 147 0 [.ref 1, .int i] [] (aw_H K A G Q M r) = some (.inl (some (.int (as_tw i))), aw_H K A G Q M r) := by
  rw [aw_st hV hS (by decide) (by decide) rfl hi]
  obtain ⟨k, hk, rfl⟩ := hi.cases
  match k, hk with
  | 0, _ | 1, _ | 2, _ | 3, _ | 4, _ | 5, _ => rfl
theorem mc147_2 {i : Int32} (hV : aw_V K) (hS : aw_S r) (hi : am_I i 6) : am_exec 147 0 [.ref 2, .int i] [] (aw_H K A G Q M r) = some (.inl (some (.int (am_td i))), aw_H K A G Q M r) := by
  rw [aw_st hV hS (by decide) (by decide) rfl hi]
  obtain ⟨k, hk, rfl⟩ := hi.cases
  match k, hk with
  | 0, _ | 1, _ | 2, _ | 3, _ | 4, _ | 5, _ => rfl
theorem mc147_3 {i : Int32} (hV : aw_V K) (hS : aw_S r) (hi : am_I i 6) : am_exec 147 0 [.ref 3, .int i] [] (aw_H K A G Q M r) = some (.inl (some (.int (as_sl i))), aw_H K A G Q M r) := by
  rw [aw_st hV hS (by decide) (by decide) rfl hi]
  obtain ⟨k, hk, rfl⟩ := hi.cases
  match k, hk with
  | 0, _ | 1, _ | 2, _ | 3, _ | 4, _ | 5, _ => rfl
theorem mc147_4 {i : Int32} (hV : aw_V K) (hS : aw_S r) (hi : am_I i 5) : am_exec 147 0 [.ref 4, .int i] [] (aw_H K A G Q M r) = some (.inl (some (.int (am_mv i))), aw_H K A G Q M r) := by
  rw [aw_st hV hS (by decide) (by decide) rfl hi]
  obtain ⟨k, hk, rfl⟩ := hi.cases
  match k, hk with
  | 0, _ | 1, _ | 2, _ | 3, _ | 4, _ => rfl
theorem mc147_5 {i : Int32} (hV : aw_V K) (hS : aw_S r) (hi : am_I i 5) : am_exec 147 0 [.ref 5, .int i] [] (aw_H K A G Q M r) = some (.inl (some (.int (am_at i))), aw_H K A G Q M r) := by
  rw [aw_st hV hS (by decide) (by decide) rfl hi]
  obtain ⟨k, hk, rfl⟩ := hi.cases
  match k, hk with
  | 0, _ | 1, _ | 2, _ | 3, _ | 4, _ => rfl
theorem mc147_6 {i : Int32} (hV : aw_V K) (hS : aw_S r) (hi : am_I i 5) : am_exec 147 0 [.ref 6, .int i] [] (aw_H K A G Q M r) = some (.inl (some (.int (am_de i))), aw_H K A G Q M r) := by
  rw [aw_st hV hS (by decide) (by decide) rfl hi]
  obtain ⟨k, hk, rfl⟩ := hi.cases
  match k, hk with
  | 0, _ | 1, _ | 2, _ | 3, _ | 4, _ => rfl
theorem mc147_7 {i : Int32} (hV : aw_V K) (hS : aw_S r) (hi : am_I i 10) : am_exec 147 0 [.ref 7, .int i] [] (aw_H K A G Q M r) = some (.inl (some (.int (am_co i))), aw_H K A G Q M r) := by
  rw [aw_st hV hS (by decide) (by decide) rfl hi]
  obtain ⟨k, hk, rfl⟩ := hi.cases
  match k, hk with
  | 0, _ | 1, _ | 2, _ | 3, _ | 4, _ | 5, _ | 6, _ | 7, _ | 8, _ | 9, _ => rfl
theorem mc147_8 {i : Int32} (hV : aw_V K) (hS : aw_S r) (hi : am_I i 10) : am_exec 147 0 [.ref 8, .int i] [] (aw_H K A G Q M r) = some (.inl (some (.int (am_cr i))), aw_H K A G Q M r) := by
  rw [aw_st hV hS (by decide) (by decide) rfl hi]
  obtain ⟨k, hk, rfl⟩ := hi.cases
  match k, hk with
  | 0, _ | 1, _ | 2, _ | 3, _ | 4, _ | 5, _ | 6, _ | 7, _ | 8, _ | 9, _ => rfl
/-! at and put on the class's own rows -/
theorem mc147_15 {i : Int32} (hi : am_I i 64) : am_exec 147 0 [.ref 15, .int i] [] (aw_H K A G Q M r) = some (.inl (some (.int (G 2 i.toNatClampNeg))), aw_H K A G Q M r) := mc147 aw_rF15 (Or.inl rfl) (by decide) hi
theorem mc147_16 {i : Int32} (hi : am_I i 64) : am_exec 147 0 [.ref 16, .int i] [] (aw_H K A G Q M r) = some (.inl (some (.int (G 3 i.toNatClampNeg))), aw_H K A G Q M r) := mc147 aw_rF16 (Or.inl rfl) (by decide) hi
theorem mc147_17 {i : Int32} (hi : am_I i 64) : am_exec 147 0 [.ref 17, .int i] [] (aw_H K A G Q M r) = some (.inl (some (.int (G 4 i.toNatClampNeg))), aw_H K A G Q M r) := mc147 aw_rF17 (Or.inl rfl) (by decide) hi
theorem mc147_24 {i : Int32} (hi : am_I i 10) : am_exec 147 0 [.ref 24, .int i] [] (aw_H K A G Q M r) = some (.inl (some (.int (G 41 i.toNatClampNeg))), aw_H K A G Q M r) := mc147 aw_rF24 (Or.inl rfl) (by decide) hi
theorem mc147_35 {i : Int32} (hi : am_I i 24) : am_exec 147 0 [.ref 35, .int i] [] (aw_H K A G Q M r) = some (.inl (some (.int (Q 5 i.toNatClampNeg))), aw_H K A G Q M r) := mc147 aw_rF35 (Or.inl rfl) (by decide) hi
theorem mc147_36 {i : Int32} (hi : am_I i 3) : am_exec 147 0 [.ref 36, .int i] [] (aw_H K A G Q M r) = some (.inl (some (.int (Q 6 i.toNatClampNeg))), aw_H K A G Q M r) := mc147 aw_rF36 (Or.inl rfl) (by decide) hi
theorem mc147_c {a : Nat} {i : Int32} (hV : aw_V K) (hK : (K a).1 = 3) (hi : am_I i 6) : am_exec 147 0 [.ref a, .int i] [] (aw_H K A G Q M r) = some (.inl (some (.int (G 16 (6 * (K a).2 + i.toNatClampNeg)))), aw_H K A G Q M r) := mc147 (aw_rC hV hK) (Or.inl rfl) (by decide) hi
theorem mc147_l {p i : Int32} (hV : aw_V K) (hp : aw_P p) (hi : am_I i 8) : am_exec 147 0 [.ref (aw_la p.toNatClampNeg), .int i] [] (aw_H K A G Q M r) = some (.inl (some (.int (G 40 (8 * p.toNatClampNeg + i.toNatClampNeg)))), aw_H K A G Q M r) := by
  have hk := aw_kl hV hp
  have h := mc147 (aw_rL (A := A) (G := G) (Q := Q) (M := M) (r := r) hV (show (K (aw_la p.toNatClampNeg)).1 = 8 by rw [hk])) (Or.inl rfl) (by decide) hi
  rw [hk] at h
  exact h
theorem mc148_15 {i v : Int32} (hi : am_I i 64) : am_exec 148 0 [.ref 15, .int i, .int v] [] (aw_H K A G Q M r) = some (.inl none, aw_H K A (am_up G 2 i.toNatClampNeg v) Q M r) := by rw [mc148 aw_rF15 (by decide) hi, aw_wF15]
theorem mc148_16 {i v : Int32} (hi : am_I i 64) : am_exec 148 0 [.ref 16, .int i, .int v] [] (aw_H K A G Q M r) = some (.inl none, aw_H K A (am_up G 3 i.toNatClampNeg v) Q M r) := by rw [mc148 aw_rF16 (by decide) hi, aw_wF16]
theorem mc148_17 {i v : Int32} (hi : am_I i 64) : am_exec 148 0 [.ref 17, .int i, .int v] [] (aw_H K A G Q M r) = some (.inl none, aw_H K A (am_up G 4 i.toNatClampNeg v) Q M r) := by rw [mc148 aw_rF17 (by decide) hi, aw_wF17]
theorem mc148_24 {i v : Int32} (hi : am_I i 10) : am_exec 148 0 [.ref 24, .int i, .int v] [] (aw_H K A G Q M r) = some (.inl none, aw_H K A (am_up G 41 i.toNatClampNeg v) Q M r) := by rw [mc148 aw_rF24 (by decide) hi, aw_wF24]
theorem mc148_35 {i v : Int32} (hi : am_I i 24) : am_exec 148 0 [.ref 35, .int i, .int v] [] (aw_H K A G Q M r) = some (.inl none, aw_H K A G (am_up Q 5 i.toNatClampNeg v) M r) := by rw [mc148 aw_rF35 (by decide) hi, aw_wF35]
theorem mc148_36 {i v : Int32} (hi : am_I i 3) : am_exec 148 0 [.ref 36, .int i, .int v] [] (aw_H K A G Q M r) = some (.inl none, aw_H K A G (am_up Q 6 i.toNatClampNeg v) M r) := by rw [mc148 aw_rF36 (by decide) hi, aw_wF36]
theorem mc148_c {a : Nat} {i v : Int32} (hV : aw_V K) (hK : (K a).1 = 3) (hi : am_I i 6) : am_exec 148 0 [.ref a, .int i, .int v] [] (aw_H K A G Q M r) = some (.inl none, aw_H K A (am_up G 16 (6 * (K a).2 + i.toNatClampNeg) v) Q M r) := by rw [mc148 (aw_rC hV hK) (by decide) hi, aw_wC hV hK hi.2]
theorem mc148_l {p i v : Int32} (hV : aw_V K) (hp : aw_P p) (hi : am_I i 8) : am_exec 148 0 [.ref (aw_la p.toNatClampNeg), .int i, .int v] [] (aw_H K A G Q M r) = some (.inl none, aw_H K A (am_up G 40 (8 * p.toNatClampNeg + i.toNatClampNeg) v) Q M r) := by
  have hk := aw_kl hV hp
  have h8 : (K (aw_la p.toNatClampNeg)).1 = 8 := by rw [hk]
  rw [mc148 (aw_rL hV h8) (by decide) hi, aw_wL hV h8 hi.2, hk]
end
