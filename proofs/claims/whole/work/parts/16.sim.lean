/-! THE SIMULATION -/
def am_simP (D : va_G) (cA : Nat → ClassId) (base : Nat) (l : Launch) (n : Nat) : Prop :=
  ∀ (mu pc : Nat) (ls st : List Value) (h : am_H) (r1 : am_Res) (h1 : am_H), am_run n mu pc ls st h = some (r1, h1) →
    ∀ (al0 : Nat → Nat) (n0 s0 : Nat) (p : Program) (e : Env) (R : Room) (s : State) (m : MethodId) (args : Array Value) (below : List Frame) (meth : Method) (c : Code) (mc ms : Nat),
      am_ctx D cA base al0 l mu p R s m args meth c → 12 ≤ n0 → h1.2.1 ≤ n0 + R.cells → h1.2.2 ≤ s0 + R.slots → h1.2.1 ≤ n0 + mc → h1.2.2 ≤ s0 + ms → (mu = 291 → ∃ v, r1 = .inl v) →
      am_J D cA base al0 n0 s0 mu p l e R s m args below meth c (vx_MQ below (am_Qc D cA base al0 n0 r1 h1) (am_XC D cA base al0 n0 r1 h1) args s mc ms (fun q => base ≤ q)) pc ls st h
noncomputable def am_ws (nu : Nat) : List Cond := (if am_hh nu = [] then Cond.code (am_y nu) (am_bc nu) (am_nL nu) (am_rt nu) else Cond.codeWith (am_y nu) (am_bc nu) (am_nL nu) (am_rt nu) (am_hh nu)) :: am_BIG
noncomputable def am_rm (nu : Nat) (h h1 : am_H) : Room := { frames := am_fr nu, cells := h1.2.1 - h.2.1, slots := h1.2.2 - h.2.2, locals := am_lo nu }
theorem am_mok_nu (OK : am_OK) {nu : Nat} (hnu : nu < 291) : plainName (am_y nu).cls = true ∧ ((am_y nu).cls ≠ "java/lang/invoke/MethodHandle" ∧ (am_y nu).cls ≠ "java/lang/invoke/VarHandle") ∧ (if am_hh nu = [] then Cond.code (am_y nu) (am_bc nu) (am_nL nu) (am_rt nu) else Cond.codeWith (am_y nu) (am_bc nu) (am_nL nu) (am_rt nu) (am_hh nu)) ∈ lw_tbl ∧ (Cond.initialized (am_y nu).cls) ∈ lw_tbl := by
  have hl : nu < am_M.length := Nat.lt_of_lt_of_le hnu (by decide +kernel)
  have hq := List.getElem?_eq_getElem hl
  have h := OK.2 nu _ hq hnu
  unfold am_mok at h
  unfold am_y am_hh am_bc am_nL am_rt
  rw [hq]
  exact ⟨h.1.1, h.1.2, h.2.1, h.2.2⟩
theorem am_goodIn (OK : am_OK) {nu : Nat} (hnu : nu < 291) : GoodIn am_BIG (am_ws nu) := by
  intro w hw
  rcases List.mem_cons.mp hw with e | hw
  · have h1 := (am_mok_nu OK hnu).2.2.1
    rw [← e] at h1
    have hg : goodWord w = true := by rw [e]; split <;> rfl
    exact ⟨List.mem_filter.mpr ⟨h1, hg⟩, good_of_word hg⟩
  · exact ⟨hw, good_of_word (List.mem_filter.mp hw).2⟩
section AMM
variable {D : va_G} {cA : Nat → ClassId} {base : Nat} {l : Launch} {al : Nat → Nat}
theorem am_met (OK : am_OK) (htr : l.stackTraces = false) {n nu : Nat} {as : List Value} {h h1 : am_H} {r1 : am_Res} (IH : am_simP D cA base l n) (hnu : nu < 291) (hrun : am_run n nu 0 (am_ent (am_nL nu) as) [] h = some (r1, h1)) (hlen : (am_args as).length ≤ am_nL nu) (hvk : am_vks h.2.1 as) (h12 : 12 ≤ h.2.1) :
    vx_Met l (am_y nu) (am_ws nu) (am_rm nu h h1) (am_Pc D cA base al as h) (am_Qc D cA base al h.2.1 r1 h1) (am_XC D cA base al h.2.1 r1 h1) (h1.2.1 - h.2.1) (h1.2.2 - h.2.2) (fun q => base ≤ q) := by
  have hgrow := am_run_grow _ _ _ _ _ _ _ hrun
  dsimp only at hgrow
  have body : ∀ (p : Program) (e : Env) (s : State) (m : MethodId) (args : Array Value) (below : List Frame) (meth : Method) (c : Code), p.tables.exec = Jvm.exec → c.code = am_bc nu → s.methodNamed? (am_y nu) = some m → s.vm.method? m = some meth → (headSpec (am_ws nu) (am_rm nu h h1)).pre.before args s = true → meth.sig.returnType = am_rt nu → meth.locks = false → c.maxLocals = am_nL nu → c.exceptionTable.toList = tableOf (am_hh nu) → am_Pc D cA base al as h args s →
      W p l e (headSpec (am_ws nu) (am_rm nu h h1)).room s m args below meth c s.heap [] 0 0 (vx_MQ below (am_Qc D cA base al h.2.1 r1 h1) (am_XC D cA base al h.2.1 r1 h1) args s (h1.2.1 - h.2.1) (h1.2.2 - h.2.2) (fun q => base ≤ q)) (entryFrame m args (am_nL nu)) := by
    intro p e s m args below meth c hx hb hnm hmth hpre hret hlocks hml htab hv
    obtain ⟨rfl, hPhi, hbase, hrel⟩ := hv
    have hts := atoms_spec (ws := am_ws nu) hpre
    have C : am_ctx D cA base al l nu p (headSpec (am_ws nu) (am_rm nu h h1)).room s m (as.map (am_cv al)).toArray meth c :=
      ⟨hx, hb, hml, findClass_of_methodNamed hnm, fun w hw => hts w (List.mem_cons_of_mem _ hw), hret, hlocks, (fun h9 => by rw [(name_of_methodNamed hnm hmth).1]; exact h9), Nat.le_refl _, Nat.le_refl _, (fun _ => htab), htr, hbase, hPhi⟩
    have hJ := IH nu 0 _ [] h r1 h1 hrun al h.2.1 h.2.2 p e _ s m _ below meth c (h1.2.1 - h.2.1) (h1.2.2 - h.2.2) C h12 (by show h1.2.1 ≤ h.2.1 + (h1.2.1 - h.2.1); omega) (by show h1.2.2 ≤ h.2.2 + (h1.2.2 - h.2.2); omega) (by omega) (by omega) (fun z => by omega)
    rw [lg_entry_eq]
    exact hJ al s.heap [] 0 0 _ ⟨hrel, am_ent_loc hlen, am_ent_vk hvk, trivial, va_S.rf, fun _ _ => rfl, by omega, by omega⟩
  by_cases hh : am_hh nu = []
  · refine vx_ofW (cc := am_bc nu) (maxL := am_nL nu) (ret := am_rt nu) (ws' := am_BIG) (am_mok_nu OK hnu).1 (by unfold am_ws; rw [if_pos hh]) ?_
    intro p e s m args below meth c s₁ B hml htab hv
    exact body p e s m args below meth c B.exec B.bytes B.named B.method B.pre B.returns B.notSynchronized hml (by
      rw [hh]
      show _ = []
      cases hx : c.exceptionTable.toList with
      | nil => rfl
      | cons x t => exact absurd (htab x (by rw [hx]; exact List.mem_cons_self)) (fun z => z)) hv
  · refine vx_ofWH (cc := am_bc nu) (maxL := am_nL nu) (ret := am_rt nu) (hh := am_hh nu) (ws' := am_BIG) (am_mok_nu OK hnu).1 (by unfold am_ws; rw [if_neg hh]) ?_
    intro p e s m args below meth c s₁ B hml hv
    have hw : (Cond.codeWith (am_y nu) (am_bc nu) (am_nL nu) (am_rt nu) (am_hh nu)).before args s = true := atoms_spec (ws := am_ws nu) B.pre _ (by unfold am_ws; rw [if_neg hh]; exact List.mem_cons_self)
    exact body p e s m args below meth c B.exec B.bytes B.named B.method B.pre B.returns B.notSynchronized hml (vx_table (x := am_y nu) B hw) hv
end AMM
section AMR
variable {D : va_G} {cA : Nat → ClassId} {base : Nat} {al0 : Nat → Nat} {n0 s0 mu : Nat} {p : Program} {l : Launch} {e : Env} {R : Room} {s : State} {m : MethodId} {args : Array Value} {below : List Frame} {meth : Method} {c : Code} {Q : State → Prop} {pc : Nat} {ls st : List Value} {h : am_H}
/-- behind a call -/
theorem am_after {al : Nat → Nat} {H : Heap} {locs : List Loc} {cells slots : Nat} {lsM : Array Slot} {ra : List Value} {h1 : am_H} {r1 : am_Res} {av : Array Value} (Z : am_pt D cA base al0 n0 s0 mu s ls st h al H locs cells slots lsM) (hra : am_vks h.2.1 ra) (hg1 : h.2.1 ≤ h1.2.1) (hg2 : h.2.2 ≤ h1.2.2)
    (hR : vx_Run p l e R s m args below meth c H locs cells slots (h1.2.1 - h.2.1) (h1.2.2 - h.2.2) (F0 m pc lsM (st.map (am_cv al))) (ra.map (am_cv al)) (am_Qc D cA base al h.2.1 r1 h1 av) (am_XC D cA base al h.2.1 r1 h1) (fun q => base ≤ q))
    (kr : ∀ v, r1 = .inl v → am_J D cA base al0 n0 s0 mu p l e R s m args below meth c Q (pc + 3) ls (v.toList ++ ra) h1)
    (kx : ∀ x, r1 = .inr x → x < 3 → ∀ (al1 : Nat → Nat) (H1 : Heap) (locs1 : List Loc) (cells1 slots1 : Nat) (q : Addr) (ce : Cell), am_pt D cA base al0 n0 s0 mu s ls ra h1 al1 H1 locs1 cells1 slots1 lsM → H1[q]? = some ce → ce.vm = .none → s.vm.findClass (am_ExN x) = some ce.cls → vx_W p l e R s m args below meth c H1 locs1 cells1 slots1 Q (F0 m pc lsM (ra.map (am_cv al1))) q) :
    W p l e R s m args below meth c H locs cells slots Q (F0 m pc lsM (st.map (am_cv al))) := by
  intro T hT X
  have r1' := Z.2.2.2.2.2.2.1
  have r2' := Z.2.2.2.2.2.2.2
  rcases hR T hT X with ⟨v, st₀, t, T', L, h0, X', hL, e1, e2, ⟨⟨v', al1, hr1, ho, hrel, hvk, hag⟩, hF⟩, st9⟩ | ⟨q, st₀, t, T', L, E, ce, h0, X', hL, e1, e2, ⟨⟨x, al1, hr1, hE, hx3, hrel, hag⟩, hF⟩, hce, hcv, hcl, st9⟩
  · have hv9 : v = v'.map (am_cv al1) := Outcome.returned.inj ho
    subst hv9
    obtain ⟨k1, k2, k3⟩ := vx_keep h0 e1 Z.2.2.2.2.1 (fun q _ g => g) (fun q g => g) hL hF
    have hal : t.vm.Alike s.vm := by rw [← e2]; exact X'.warmed.alike.symm
    rw [← e1] at hrel
    have era : ra.map (am_cv al1) = ra.map (am_cv al) := am_map_agree hag (am_vks_iff.mp hra)
    have hvs : am_vks h1.2.1 (v'.toList ++ ra) := am_vks_iff.mpr fun w hw => by
      rcases List.mem_append.mp hw with g | g
      · exact hvk w (by simpa using g)
      · exact am_vk_mono hg1 (am_vks_iff.mp hra w g)
    obtain ⟨t2, a1, b1⟩ := kr v' hr1 al1 T'.heap (locs ++ L) (cells + (h1.2.1 - h.2.1)) (slots + (h1.2.2 - h.2.2)) lsM ⟨hrel.moved hal, Z.2.1.to hag (am_vks_iff.mp Z.2.2.1), am_vks_mono hg1 Z.2.2.1, hvs, k3, fun k hk => (hag k (by omega)).trans (Z.2.2.2.2.2.1 k hk), by omega, by omega⟩ T' rfl X'
    refine ⟨t2, st9 t2 ?_, b1⟩
    have e9 : (v'.toList ++ ra).map (am_cv al1) = (v'.map (am_cv al1)).toList ++ ra.map (am_cv al) := by
      rw [List.map_append, era]
      cases v' <;> rfl
    rw [e9] at a1
    exact a1
  · obtain ⟨k1, k2, k3⟩ := vx_keep h0 e1 Z.2.2.2.2.1 (fun q _ g => g) (fun q g => g) hL hF
    have hal : t.vm.Alike s.vm := by rw [← e2]; exact X'.warmed.alike.symm
    rw [← e1] at hrel
    have era : ra.map (am_cv al1) = ra.map (am_cv al) := am_map_agree hag (am_vks_iff.mp hra)
    subst hE
    obtain ⟨t2, a1, b1⟩ := kx x hr1 hx3 al1 T'.heap (locs ++ L) (cells + (h1.2.1 - h.2.1)) (slots + (h1.2.2 - h.2.2)) q ce ⟨hrel.moved hal, Z.2.1.to hag (am_vks_iff.mp Z.2.2.1), am_vks_mono hg1 Z.2.2.1, am_vks_mono hg1 hra, k3, fun k hk => (hag k (by omega)).trans (Z.2.2.2.2.2.1 k hk), by omega, by omega⟩ (by rw [e1]; exact hce) hcv hcl T' rfl X'
    rw [era] at a1
    exact ⟨t2, st9.trans a1, b1⟩
end AMR
