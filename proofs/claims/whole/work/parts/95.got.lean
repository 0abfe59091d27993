/-! WHAT THE CITIES GET when they have planned -/
theorem am_itP {α : Type} {P : α → Prop} {s : Nat → α → α} (h : ∀ k x, P x → P (s k x)) {x : α} (h0 : P x) : ∀ n, P (am_it s x n)
  | 0 => h0
  | n + 1 => h n _ (am_itP h h0 n)
theorem as_dnP {α : Type} {P : α → Prop} {s : Nat → α → α} (h : ∀ k x, P x → P (s k x)) : ∀ (n : Nat) (x : α), P x → P (as_dn s n x)
  | 0, _, h0 => h0
  | n + 1, x, h0 => as_dnP h n (s n x) (h n x h0)
theorem aw_mu_0 {M : aw_M} {k : Nat} {v : Int64} : aw_mu M 1 k v 0 = M 0 := aw_mu_ne (by decide)
theorem as_b0_0 {N : Nat} {M : aw_M} : as_b0 N M 0 = M 0 := by
  unfold as_b0
  rw [aw_mu_0]
  exact am_itP (P := fun X : aw_M => X 0 = M 0) (fun k x h => aw_mu_0.trans h) rfl N
theorem as_a3_0 {w fd k : Nat} {v : Int64} {M : aw_M} : as_a3 w fd v k M 0 = M 0 := by
  unfold as_a3
  refine as_dnP (P := fun X : aw_M => X 0 = M 0) (fun j x h => ?_) k M rfl
  unfold as_a2
  refine am_itP (P := fun X : aw_M => X 0 = M 0) (fun i y h2 => ?_) h w
  unfold as_a1
  split
  · exact aw_mu_0.trans h2
  · exact h2
theorem as_qm_0 {G Q : am_G} {c z : Nat} {p : Int64} {M : aw_M} : as_qm G Q c z p M 0 = M 0 := by
  unfold as_qm as_b1
  exact am_itP (P := fun X : aw_M => X 0 = M 0) (fun i x h => as_a3_0.trans h) as_b0_0 _
theorem as_q1_ne {G Q : am_G} {c f : Nat} {p : Int64} (h : ¬ f = 4 ∧ ¬ f = 5) : as_q1 G Q c p f = Q f := by
  unfold as_q1
  rw [am_it_row (fun t X => by
    unfold as_oq
    split
    · rw [am_up_ne h.1, am_up_ne h.2]
    · rfl), am_up_ne h.1]
theorem as_qc_ne {G : am_G} {n T c j : Nat} {l : Int32} {s : am_G × aw_M × Int64} (h : ¬ j = c) : (as_qc G n T l c s).1 0 j = s.1 0 j ∧ (as_qc G n T l c s).1 1 j = s.1 1 j ∧ (as_qc G n T l c s).1 2 j = s.1 2 j ∧ (as_qc G n T l c s).2.1 0 j = s.2.1 0 j := by
  unfold as_qc
  split
  · exact ⟨rfl, rfl, rfl, rfl⟩
  · dsimp only
    unfold as_ga
    refine ⟨?_, ?_, ?_, ?_⟩
    · rw [am_up_at h, am_up_at h, am_up_at h, am_up_ne (by decide), as_q1_ne (by decide)]
    · rw [am_up_at h, am_up_at h, am_up_at h, am_up_ne (by decide), as_q1_ne (by decide)]
    · rw [am_up_at h, am_up_at h, am_up_at h, am_up_ne (by decide), as_q1_ne (by decide)]
    · rw [aw_mu_eq, am_upd_ne h, as_qm_0]
theorem as_qc_got {G : am_G} {n T c : Nat} {l : Int32} {s : am_G × aw_M × Int64} (h : ¬ l < Int32.ofNat c) : (as_qc G n T l c s).1 0 c = as_yf G ((as_qc G n T l c s).2.1 0 c) c ∧ (as_qc G n T l c s).1 1 c = as_yw G ((as_qc G n T l c s).2.1 0 c) c ∧ (as_qc G n T l c s).1 2 c = as_yt G ((as_qc G n T l c s).2.1 0 c) c := by
  unfold as_qc
  rw [if_neg h]
  dsimp only
  rw [aw_mu_eq, am_upd_eq]
  exact ⟨as_ga_r0, as_ga_r1, as_ga_r2⟩
