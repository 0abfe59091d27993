/-! A RUN OF THE SMALL MACHINE IS A RUN OF THE MACHINE -/
section AMD
variable {D : va_G} {cA : Nat → ClassId} {base : Nat} {al0 : Nat → Nat} {n0 s0 mu N9 S9 : Nat} {p : Program} {l : Launch} {e : Env} {R : Room} {s : State} {m : MethodId} {args : Array Value} {below : List Frame} {meth : Method} {c : Code} {Q : State → Prop} {pc : Nat} {ls st : List Value} {h : am_H}
set_option maxHeartbeats 4000000 in
theorem am_op0_sound (OK : am_OK) {r : am_Row} {t : Nat × List Value × List Value × am_H} (C : am_ctx D cA base al0 l mu p R s m args meth c) (hn0 : 12 ≤ n0) (hN : N9 ≤ n0 + R.cells) (hS : S9 ≤ s0 + R.slots) (hp : am_prog mu pc = some r) (hcall : am_call r st h = none) (hop : am_op0 r pc ls st h = some t) (hn1 : t.2.2.2.2.1 ≤ N9) (hn2 : t.2.2.2.2.2 ≤ S9)
    (k : am_J D cA base al0 n0 s0 mu p l e R s m args below meth c Q t.1 t.2.1 t.2.2.1 t.2.2.2) : am_J D cA base al0 n0 s0 mu p l e R s m args below meth c Q pc ls st h := by
  have hck := OK.1 mu pc r hp
  obtain ⟨ins, len, a, b, d, ks, ps⟩ := r
  unfold am_chk at hck
  simp only [Bool.and_eq_true, decide_eq_true_eq] at hck
  obtain ⟨⟨hdec, hlen⟩, hck⟩ := hck
  cases ins
  case aconst_null => exact am_s_aconst_null C hdec hlen hop k
  case iconst => exact am_s_iconst C hdec hlen hop k
  case bipush => exact am_s_bipush C hdec hlen hop k
  case sipush => exact am_s_sipush C hdec hlen hop k
  case lconst => exact am_s_lconst C hdec hlen hop k
  case iload => exact am_s_iload C hdec hlen hop k
  case iload_n => exact am_s_iload_n C hdec hlen hop k
  case lload => exact am_s_lload C hdec hlen hop k
  case lload_n => exact am_s_lload_n C hdec hlen hop k
  case aload => exact am_s_aload C hdec hlen hop k
  case aload_n => exact am_s_aload_n C hdec hlen hop k
  case istore => exact am_s_istore C hdec hlen hop k
  case istore_n => exact am_s_istore_n C hdec hlen hop k
  case lstore => exact am_s_lstore C hdec hlen hop k
  case lstore_n => exact am_s_lstore_n C hdec hlen hop k
  case astore => exact am_s_astore C hdec hlen hop k
  case astore_n => exact am_s_astore_n C hdec hlen hop k
  case iinc => exact am_s_iinc C hdec hlen hop k
  case iadd => exact am_s_iadd C hdec hlen hop k
  case isub => exact am_s_isub C hdec hlen hop k
  case imul => exact am_s_imul C hdec hlen hop k
  case iand => exact am_s_iand C hdec hlen hop k
  case ior => exact am_s_ior C hdec hlen hop k
  case ixor => exact am_s_ixor C hdec hlen hop k
  case ishl => exact am_s_ishl C hdec hlen hop k
  case ishr => exact am_s_ishr C hdec hlen hop k
  case iushr => exact am_s_iushr C hdec hlen hop k
  case ladd => exact am_s_ladd C hdec hlen hop k
  case land => exact am_s_land C hdec hlen hop k
  case lor => exact am_s_lor C hdec hlen hop k
  case lshl => exact am_s_lshl C hdec hlen hop k
  case lshr => exact am_s_lshr C hdec hlen hop k
  case lcmp => exact am_s_lcmp C hdec hlen hop k
  case i2l => exact am_s_i2l C hdec hlen hop k
  case ineg => exact am_s_ineg C hdec hlen hop k
  case idiv => exact am_s_idiv C hdec hlen hop k
  case irem => exact am_s_irem C hdec hlen hop k
  case dup => exact am_s_dup C hdec hlen hop k
  case pop => exact am_s_pop C hdec hlen hop k
  case dup_x1 => exact am_s_dup_x1 C hdec hlen hop k
  case dup2 => exact am_s_dup2 C hdec hlen hop k
  case goto => exact am_s_goto C hdec hlen (of_decide_eq_true hck) hop k
  case ifCond => exact am_s_ifCond C hdec hlen (of_decide_eq_true hck) hop k
  case if_icmp => exact am_s_if_icmp C hdec hlen (of_decide_eq_true hck) hop k
  case if_acmp => exact am_s_if_acmp C hdec hlen (of_decide_eq_true hck) hop k
  case ifnull => exact am_s_ifnull C hdec hlen (of_decide_eq_true hck) hop k
  case ifnonnull => exact am_s_ifnonnull C hdec hlen (of_decide_eq_true hck) hop k
  case tableswitch dflt lo hi offs =>
    simp only [Bool.and_eq_true, decide_eq_true_eq] at hck
    refine am_s_tableswitch C hdec rfl ⟨hck.1, fun o i ho => ?_⟩ hop k
    exact of_decide_eq_true (Array.all_eq_true_iff_forall_mem.mp hck.2 o (Array.mem_of_getElem? ho))
  case getfield => exact am_s_getfield C hdec hlen hck hop k
  case putfield =>
    simp only [Bool.and_eq_true] at hck
    exact am_s_putfield C hdec hlen hck hop k
  case getstatic => exact am_s_getstatic C hdec hlen hck hn0 hop k
  case iaload => exact am_s_iaload C hdec hlen hop k
  case laload => exact am_s_laload C hdec hlen hop k
  case baload => exact am_s_baload C hdec hlen hop k
  case aaload => exact am_s_aaload C hdec hlen hop k
  case iastore => exact am_s_iastore C hdec hlen hop k
  case lastore => exact am_s_lastore C hdec hlen hop k
  case bastore => exact am_s_bastore C hdec hlen hop k
  case aastore => exact am_s_aastore C hdec hlen hop k
  case arraylength => exact am_s_arraylength C hdec hlen hop k
  case new => exact am_s_new C hdec hlen hck hN hS hn1 hn2 hop k
  case newarray => exact am_s_newarray C hdec hlen (of_decide_eq_true hck) hN hS hn1 hn2 hop k
  case anewarray =>
    simp only [Bool.or_eq_true, Bool.and_eq_true, decide_eq_true_eq] at hck
    exact am_s_anewarray C hdec hlen hck hN hS hn1 hn2 hop k
  case checkcast => exact am_s_checkcast C hdec hlen hck hop k
  case ldc => exact am_s_ldc C hdec hlen hck hn0 hop k
  case ldc_w => exact am_s_ldc_w C hdec hlen hck hop k
  case ldc2_w => exact am_s_ldc2_w C hdec hlen hck hop k
  case invokestatic =>
    refine am_s_invokestatic C hdec hlen hck hN hS hn1 hn2 (fun hd4 => ?_) hop k
    unfold am_op0 at hop
    dsimp only at hop
    split at hop
    · rw [if_neg (by omega)] at hop
      split at hop
      · rw [if_neg (by omega), if_neg (by omega)] at hop
        split at hop
        · rw [if_neg (by omega)] at hop; cases hop
        · cases hop
      · cases hop
    · cases hop
  case invokespecial => exact am_s_invokespecial C hdec hlen hck hop k
  case invokevirtual => exact am_s_invokevirtual C hdec hlen hck hn0 hop k
  all_goals cases hop
/-- a whole step -/
theorem am_op_sound (OK : am_OK) {r : am_Row} {t : Nat × List Value × List Value × am_H} (C : am_ctx D cA base al0 l mu p R s m args meth c) (hn0 : 12 ≤ n0) (hN : N9 ≤ n0 + R.cells) (hS : S9 ≤ s0 + R.slots) (hp : am_prog mu pc = some r) (hcall : am_call r st h = none) (hop : am_op r pc ls st h = some t) (hn1 : t.2.2.2.2.1 ≤ N9) (hn2 : t.2.2.2.2.2 ≤ S9)
    (k : am_J D cA base al0 n0 s0 mu p l e R s m args below meth c Q t.1 t.2.1 t.2.2.1 t.2.2.2) : am_J D cA base al0 n0 s0 mu p l e R s m args below meth c Q pc ls st h := by
  unfold am_op at hop
  obtain ⟨t0, h0, e0⟩ := Option.map_eq_some_iff.mp hop
  subst e0
  exact am_op0_sound OK C hn0 hN hS hp hcall h0 hn1 hn2 k.kill
end AMD
