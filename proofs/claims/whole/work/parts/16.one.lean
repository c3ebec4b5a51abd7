/-! ONE STEP OF THE SMALL MACHINE IS STEPS OF THE MACHINE -/
def mj_lnok (op : Instr) (ln : Nat) : Bool := match op with
  | .iaload => decide (ln = 1)
  | .laload => decide (ln = 1)
  | .baload => decide (ln = 1)
  | .aaload => decide (ln = 1)
  | .iastore => decide (ln = 1)
  | .lastore => decide (ln = 1)
  | .bastore => decide (ln = 1)
  | .aastore => decide (ln = 1)
  | .arraylength => decide (ln = 1)
  | .pop => decide (ln = 1)
  | .dup => decide (ln = 1)
  | .dup2 => decide (ln = 1)
  | .iadd => decide (ln = 1)
  | .isub => decide (ln = 1)
  | .imul => decide (ln = 1)
  | .idiv => decide (ln = 1)
  | .irem => decide (ln = 1)
  | .ineg => decide (ln = 1)
  | .ishl => decide (ln = 1)
  | .ishr => decide (ln = 1)
  | .iushr => decide (ln = 1)
  | .iand => decide (ln = 1)
  | .ior => decide (ln = 1)
  | .ixor => decide (ln = 1)
  | .ladd => decide (ln = 1)
  | .lsub => decide (ln = 1)
  | .lmul => decide (ln = 1)
  | .ldiv => decide (ln = 1)
  | .lrem => decide (ln = 1)
  | .lneg => decide (ln = 1)
  | .lshl => decide (ln = 1)
  | .lshr => decide (ln = 1)
  | .land => decide (ln = 1)
  | .lor => decide (ln = 1)
  | .i2l => decide (ln = 1)
  | .l2i => decide (ln = 1)
  | .i2c => decide (ln = 1)
  | .i2b => decide (ln = 1)
  | .lcmp => decide (ln = 1)
  | .aconst_null => decide (ln = 1)
  | .ireturn => decide (ln = 1)
  | .lreturn => decide (ln = 1)
  | .areturn => decide (ln = 1)
  | .return_ => decide (ln = 1)
  | .iconst _ => decide (ln = 1)
  | .lconst _ => decide (ln = 1)
  | .iload_n _ => decide (ln = 1)
  | .lload_n _ => decide (ln = 1)
  | .aload_n _ => decide (ln = 1)
  | .istore_n _ => decide (ln = 1)
  | .lstore_n _ => decide (ln = 1)
  | .astore_n _ => decide (ln = 1)
  | .bipush _ => decide (ln = 2)
  | .ldc _ => decide (ln = 2)
  | .iload _ => decide (ln = 2)
  | .lload _ => decide (ln = 2)
  | .aload _ => decide (ln = 2)
  | .istore _ => decide (ln = 2)
  | .lstore _ => decide (ln = 2)
  | .astore _ => decide (ln = 2)
  | .newarray _ => decide (ln = 2)
  | .sipush _ => decide (ln = 3)
  | .ldc_w _ => decide (ln = 3)
  | .ldc2_w _ => decide (ln = 3)
  | .iinc _ _ => decide (ln = 3)
  | .ifCond _ _ => decide (ln = 3)
  | .if_icmp _ _ => decide (ln = 3)
  | .ifnull _ => decide (ln = 3)
  | .ifnonnull _ => decide (ln = 3)
  | .goto _ => decide (ln = 3)
  | .getfield _ => decide (ln = 3)
  | .putfield _ => decide (ln = 3)
  | .getstatic _ => decide (ln = 3)
  | .new _ => decide (ln = 3)
  | .anewarray _ => decide (ln = 3)
  | .checkcast _ => decide (ln = 3)
  | .invokespecial _ => decide (ln = 3)
  | .invokestatic _ => decide (ln = 3)
  | .invokevirtual _ => decide (ln = 3)
  | _ => true
def mj_lnchk (k : Nat) : Bool := (List.range (mj_len k)).all (fun p => match mj_ins k p with
  | none => true
  | some q => mj_lnok q.1 q.2)
theorem mj_ln_ok0 : ∀ k, k < 336 → mj_lnchk k = true := by decide +kernel
theorem mj_len_lt {k p : Nat} {q : Instr × Nat} (hq : mj_ins k p = some q) : p < mj_len k := by
  cases hb : Nat.blt p (mj_len k) with
  | true => exact Nat.le_of_ble_eq_true hb
  | false =>
    unfold mj_ins at hq
    rw [hb] at hq
    cases hq
theorem mj_ln_ok {k p : Nat} {q : Instr × Nat} (hk : k < 336) (hq : mj_ins k p = some q) : mj_lnok q.1 q.2 = true := by
  have h := List.all_eq_true.mp (mj_ln_ok0 k hk) p (List.mem_range.mpr (mj_len_lt hq))
  rw [hq] at h
  exact h
/-- what a frame of the method k knows -/
def mj_F (G : mj_G) (k : Nat) (p : Program) (s : State) (m : MethodId) (args : Array Value) (meth : Method) (c : Code) : Prop := p.tables.exec = Jvm.exec ∧ c.code = mj_cd k ∧ c.maxLocals = (mj_mi k).2.1 ∧ s.vm.findClass (mj_cn (mj_mi k).1) = some m.cls ∧ (∀ w ∈ mj_tb, w.before args s = true) ∧ ((mj_mi k).2.2.2.2 = true → meth.name = "<init>") ∧ mj_E G s
section One
variable {p : Program} {l : Launch} {e : Env} {R : Room} {s : State} {m : MethodId} {args : Array Value} {below : List Frame} {meth : Method} {c : Code} {H : Heap} {locs : List Loc} {cells slots : Nat} {Q : State → Prop}
variable {G : mj_G} {ad : List Nat} {M : mj_M} {ls st : List mj_V} {lr : Array Slot} {pc k ln : Nat} {s' : mj_St} {X : mj_X} {op : Instr}
set_option maxHeartbeats 4000000 in
theorem mj_one (hk : k < 336) (F : mj_F G k p s m args meth c) (hXG : mj_XG X G) (hdg : decode (mj_cd k) pc = .ok (op, ln)) (hln : mj_lnok op ln = true) (hst : mj_step X k pc op ln ls st M = some s') (hH : mj_H G ad M H) (hS : va_S (mj_A G) s.heap H locs) (hL : mj_L G ad (mj_mi k).2.1 ls lr) (h1 : ∀ u ∈ ls, mj_ok M u) (h2 : ∀ u ∈ st, mj_ok M u) (hR3 : 1 ≤ R.frames) (hR4 : 60 ≤ R.locals) (hR1 : cells + (s'.2.2.2.1 - M.1) ≤ R.cells) (hR2 : slots + (s'.2.2.2.2.1 - M.2.1) ≤ R.slots) (kk : mj_kk p l e R s m args below meth c cells slots Q G ad M (mj_mi k).2.1 s') : W p l e R s m args below meth c H locs cells slots Q (F0 m pc lr (st.map (mj_cv G ad))) := by
  obtain ⟨hx, hb, hml, hown, hts, hin, hE⟩ := F
  have kp := kk.kp hH hS
  have hf := hE.2.2.2.2.2.2
  have hc0 := (mj_meth_ok k hk).2.1
  cases op
  case iconst z =>
    obtain rfl : ln = 1 := of_decide_eq_true hln
    exact mj_s_k (v := (0, (Int32.ofInt z).toInt)) hL h1 h2 (mj_in32_t _) (fun rest kq => lv_iconst hx hb hdg rfl (by rw [mj_cv0] at kq; exact kq)) hst kp
  case bipush z =>
    obtain rfl : ln = 2 := of_decide_eq_true hln
    exact mj_s_k (v := (0, (Int8.ofInt z).toInt32.toInt)) hL h1 h2 (mj_in32_t _) (fun rest kq => lv_bipush hx hb hdg rfl (by rw [mj_cv0] at kq; exact kq)) hst kp
  case sipush z =>
    obtain rfl : ln = 3 := of_decide_eq_true hln
    exact mj_s_k (v := (0, (Int16.ofInt z).toInt32.toInt)) hL h1 h2 (mj_in32_t _) (fun rest kq => lv_sipush hx hb hdg rfl (by rw [mj_cv0] at kq; exact kq)) hst kp
  case lconst z =>
    obtain rfl : ln = 1 := of_decide_eq_true hln
    exact mj_s_k (v := (1, (Int64.ofNat (z : Nat)).toInt)) hL h1 h2 (mj_in64_t _) (fun rest kq => lv_lconst hx hb hdg rfl (by rw [mj_cv1] at kq; exact kq)) hst kp
  case aconst_null =>
    obtain rfl : ln = 1 := of_decide_eq_true hln
    exact mj_s_k (v := (2, 0)) hL h1 h2 rfl (fun rest kq => lv_null hx hb hdg kq) hst kp
  case ldc i =>
    obtain rfl : ln = 2 := of_decide_eq_true hln
    exact mj_s_ldc (b := 2) hc0 hx hb hown hts hE hH hS hL h1 h2 hdg hst kk
  case ldc_w i =>
    obtain rfl : ln = 3 := of_decide_eq_true hln
    exact mj_s_ldc (b := 3) hc0 hx hb hown hts hE hH hS hL h1 h2 hdg hst kk
  case ldc2_w i =>
    obtain rfl : ln = 3 := of_decide_eq_true hln
    exact mj_s_ldc (b := 4) hc0 hx hb hown hts hE hH hS hL h1 h2 hdg hst kk
  case iload i =>
    obtain rfl : ln = 2 := of_decide_eq_true hln
    exact mj_s_ild hL h1 h2 (fun x rest q kq => lv_iload hx hb hdg q kq) hst kp
  case iload_n i =>
    obtain rfl : ln = 1 := of_decide_eq_true hln
    exact mj_s_ild hL h1 h2 (fun x rest q kq => lv_iload_n hx hb hdg rfl q kq) hst kp
  case lload i =>
    obtain rfl : ln = 2 := of_decide_eq_true hln
    exact mj_s_lld hL h1 h2 (fun x rest q kq => lv_lload hx hb hdg q kq) hst kp
  case lload_n i =>
    obtain rfl : ln = 1 := of_decide_eq_true hln
    exact mj_s_lld hL h1 h2 (fun x rest q kq => lv_lload_n hx hb hdg rfl q kq) hst kp
  case aload i =>
    obtain rfl : ln = 2 := of_decide_eq_true hln
    exact mj_s_ald hf hL h1 h2 (fun x rest q kq => lv_aload hx hb hdg q kq) (fun rest q kq => lv_aloadN hx hb hdg q kq) hst kp
  case aload_n i =>
    obtain rfl : ln = 1 := of_decide_eq_true hln
    exact mj_s_ald hf hL h1 h2 (fun x rest q kq => lv_aload_n hx hb hdg rfl q kq) (fun rest q kq => lv_aload_nN hx hb hdg rfl q kq) hst kp
  case istore i =>
    obtain rfl : ln = 2 := of_decide_eq_true hln
    exact mj_s_ist hf hL h1 h2 (fun x rest q kq => lv_istore hx hb hdg hL.has q rfl kq) hst kp
  case istore_n i =>
    obtain rfl : ln = 1 := of_decide_eq_true hln
    exact mj_s_ist hf hL h1 h2 (fun x rest q kq => lv_istore_n hx hb hdg rfl hL.has q rfl kq) hst kp
  case lstore i =>
    obtain rfl : ln = 2 := of_decide_eq_true hln
    exact mj_s_lst hf hL h1 h2 (fun x rest q kq => lv_lstore hx hb hdg hL.has q rfl kq) hst kp
  case lstore_n i =>
    obtain rfl : ln = 1 := of_decide_eq_true hln
    exact mj_s_lst hf hL h1 h2 (fun x rest q kq => lv_lstore_n hx hb hdg rfl hL.has q rfl kq) hst kp
  case astore i =>
    obtain rfl : ln = 2 := of_decide_eq_true hln
    exact mj_s_ast hf hL h1 h2 (fun x rest q kq => lv_astore hx hb hdg hL.has q rfl kq) (fun rest q kq => lv_astoreN hx hb hdg hL.has q rfl kq) hst kp
  case astore_n i =>
    obtain rfl : ln = 1 := of_decide_eq_true hln
    exact mj_s_ast hf hL h1 h2 (fun x rest q kq => lv_astore_n hx hb hdg rfl hL.has q rfl kq) (fun rest q kq => lv_astore_nN hx hb hdg rfl hL.has q rfl kq) hst kp
  case iinc i z =>
    obtain rfl : ln = 3 := of_decide_eq_true hln
    exact mj_s_inc hf hL h1 h2 (fun x kq rest q1 q2 kz => lv_iinc hx hb hdg hL.has q2 rfl q1 rfl kz) hst kp
  case iaload =>
    obtain rfl : ln = 1 := of_decide_eq_true hln
    exact mj_s_iald hXG hx hb hE hH hS hL h1 h2 hdg hst kk
  case laload =>
    obtain rfl : ln = 1 := of_decide_eq_true hln
    exact mj_s_lald hx hb hE hH hS hL h1 h2 hdg hst kk
  case baload =>
    obtain rfl : ln = 1 := of_decide_eq_true hln
    exact mj_s_bald hx hb hE hH hS hL h1 h2 hdg hst kk
  case aaload =>
    obtain rfl : ln = 1 := of_decide_eq_true hln
    exact mj_s_aald hx hb hE hH hS hL h1 h2 hdg hst kk
  case iastore =>
    obtain rfl : ln = 1 := of_decide_eq_true hln
    exact mj_s_iast hx hb hE hH hS hL h1 h2 hdg hst kk
  case lastore =>
    obtain rfl : ln = 1 := of_decide_eq_true hln
    exact mj_s_last hx hb hE hH hS hL h1 h2 hdg hst kk
  case bastore =>
    obtain rfl : ln = 1 := of_decide_eq_true hln
    exact mj_s_bast hx hb hE hH hS hL h1 h2 hdg hst kk
  case aastore =>
    obtain rfl : ln = 1 := of_decide_eq_true hln
    exact mj_s_aast hx hb hE hH hS hL h1 h2 hdg hst kk
  case arraylength =>
    obtain rfl : ln = 1 := of_decide_eq_true hln
    exact mj_s_alen hXG hx hb hE hH hS hL h1 h2 hdg hst kk
  case pop =>
    obtain rfl : ln = 1 := of_decide_eq_true hln
    exact mj_s_pop hf hL h1 h2 hx hb hdg hst kp
  case dup =>
    obtain rfl : ln = 1 := of_decide_eq_true hln
    exact mj_s_dup hf hL h1 h2 hx hb hdg hst kp
  case dup2 =>
    obtain rfl : ln = 1 := of_decide_eq_true hln
    exact mj_s_dup2 hf hL h1 h2 hx hb hdg hst kp
  case iadd =>
    obtain rfl : ln = 1 := of_decide_eq_true hln
    exact mj_s_i2 (g := fun x y => x + y) (fun _ _ => rfl) hL h1 h2 (fun x y rest kq => lv_iadd hx hb hdg kq) hst kp
  case isub =>
    obtain rfl : ln = 1 := of_decide_eq_true hln
    exact mj_s_i2 (g := fun x y => x - y) (fun _ _ => rfl) hL h1 h2 (fun x y rest kq => lv_isub hx hb hdg kq) hst kp
  case imul =>
    obtain rfl : ln = 1 := of_decide_eq_true hln
    exact mj_s_i2 (g := fun x y => x * y) (fun _ _ => rfl) hL h1 h2 (fun x y rest kq => lv_imul hx hb hdg kq) hst kp
  case ishl =>
    obtain rfl : ln = 1 := of_decide_eq_true hln
    exact mj_s_i2 (g := fun x y => x <<< (y &&& 31)) (fun _ _ => rfl) hL h1 h2 (fun x y rest kq => lv_ishl hx hb hdg kq) hst kp
  case ishr =>
    obtain rfl : ln = 1 := of_decide_eq_true hln
    exact mj_s_i2 (g := fun x y => x >>> (y &&& 31)) (fun _ _ => rfl) hL h1 h2 (fun x y rest kq => lv_ishr hx hb hdg kq) hst kp
  case iand =>
    obtain rfl : ln = 1 := of_decide_eq_true hln
    exact mj_s_i2 (g := fun x y => x &&& y) (fun _ _ => rfl) hL h1 h2 (fun x y rest kq => lv_iand hx hb hdg kq) hst kp
  case ior =>
    obtain rfl : ln = 1 := of_decide_eq_true hln
    exact mj_s_i2 (g := fun x y => x ||| y) (fun _ _ => rfl) hL h1 h2 (fun x y rest kq => lv_ior hx hb hdg kq) hst kp
  case ixor =>
    obtain rfl : ln = 1 := of_decide_eq_true hln
    exact mj_s_i2 (g := fun x y => x ^^^ y) (fun _ _ => rfl) hL h1 h2 (fun x y rest kq => lv_ixor hx hb hdg kq) hst kp
  case iushr =>
    obtain rfl : ln = 1 := of_decide_eq_true hln
    exact mj_s_i2 (g := fun x y => (x.toUInt32 >>> (y.toUInt32 &&& Int32.toUInt32 31)).toInt32) (fun _ _ => rfl) hL h1 h2 (fun x y rest kq => lv_iushr hx hb hdg rfl kq) hst kp
  case idiv =>
    obtain rfl : ln = 1 := of_decide_eq_true hln
    exact mj_s_i2d (g := fun x y => x / y) (fun _ _ => rfl) hL h1 h2 (fun x y rest hy kq => lv_idiv hx hb hdg hy kq) hst kp
  case irem =>
    obtain rfl : ln = 1 := of_decide_eq_true hln
    exact mj_s_i2d (g := fun x y => x - x / y * y) (fun _ _ => rfl) hL h1 h2 (fun x y rest hy kq => lv_irem hx hb hdg hy kq) hst kp
  case ineg =>
    obtain rfl : ln = 1 := of_decide_eq_true hln
    exact mj_s_i1 (g := fun x => -x) (fun _ => rfl) hL h1 h2 (fun x rest kq => lv_ineg hx hb hdg kq) hst kp
  case ladd =>
    obtain rfl : ln = 1 := of_decide_eq_true hln
    exact mj_s_l2 (g := fun x y => x + y) (fun _ _ => rfl) hL h1 h2 (fun x y rest kq => lv_ladd hx hb hdg kq) hst kp
  case lsub =>
    obtain rfl : ln = 1 := of_decide_eq_true hln
    exact mj_s_l2 (g := fun x y => x - y) (fun _ _ => rfl) hL h1 h2 (fun x y rest kq => lv_lsub hx hb hdg kq) hst kp
  case lmul =>
    obtain rfl : ln = 1 := of_decide_eq_true hln
    exact mj_s_l2 (g := fun x y => x * y) (fun _ _ => rfl) hL h1 h2 (fun x y rest kq => lv_lmul hx hb hdg kq) hst kp
  case land =>
    obtain rfl : ln = 1 := of_decide_eq_true hln
    exact mj_s_l2 (g := fun x y => x &&& y) (fun _ _ => rfl) hL h1 h2 (fun x y rest kq => lv_land hx hb hdg kq) hst kp
  case lor =>
    obtain rfl : ln = 1 := of_decide_eq_true hln
    exact mj_s_l2 (g := fun x y => x ||| y) (fun _ _ => rfl) hL h1 h2 (fun x y rest kq => lv_lor hx hb hdg kq) hst kp
  case ldiv =>
    obtain rfl : ln = 1 := of_decide_eq_true hln
    exact mj_s_l2d (g := fun x y => x / y) (fun _ _ => rfl) hL h1 h2 (fun x y rest hy kq => lv_ldiv hx hb hdg hy kq) hst kp
  case lrem =>
    obtain rfl : ln = 1 := of_decide_eq_true hln
    exact mj_s_l2d (g := fun x y => x - x / y * y) (fun _ _ => rfl) hL h1 h2 (fun x y rest hy kq => lv_lrem hx hb hdg hy kq) hst kp
  case lneg =>
    obtain rfl : ln = 1 := of_decide_eq_true hln
    exact mj_s_l1 (g := fun x => -x) (fun _ => rfl) hL h1 h2 (fun x rest kq => lv_lneg hx hb hdg kq) hst kp
  case lshl =>
    obtain rfl : ln = 1 := of_decide_eq_true hln
    exact mj_s_ls (g := fun x y => x <<< (y.toInt64 &&& 63)) (fun _ _ => rfl) hL h1 h2 (fun x y rest kq => lv_lshl hx hb hdg rfl kq) hst kp
  case lshr =>
    obtain rfl : ln = 1 := of_decide_eq_true hln
    exact mj_s_ls (g := fun x y => x >>> (y.toInt64 &&& 63)) (fun _ _ => rfl) hL h1 h2 (fun x y rest kq => lv_lshr hx hb hdg rfl kq) hst kp
  case i2l =>
    obtain rfl : ln = 1 := of_decide_eq_true hln
    exact mj_s_il (g := fun x => x.toInt64) (fun _ => rfl) hL h1 h2 (fun x rest kq => lv_i2l hx hb hdg rfl kq) hst kp
  case l2i =>
    obtain rfl : ln = 1 := of_decide_eq_true hln
    exact mj_s_li (g := fun x => x.toInt32) (fun _ => rfl) hL h1 h2 (fun x rest kq => lv_l2i hx hb hdg rfl kq) hst kp
  case i2c =>
    obtain rfl : ln = 1 := of_decide_eq_true hln
    exact mj_s_i1 (g := fun x => (x.toUInt32 % 65536).toInt32) (fun _ => rfl) hL h1 h2 (fun x rest kq => lv_i2c hx hb hdg rfl kq) hst kp
  case i2b =>
    obtain rfl : ln = 1 := of_decide_eq_true hln
    exact mj_s_i1 (g := fun x => x.toInt8.toInt32) (fun _ => rfl) hL h1 h2 (fun x rest kq => lv_i2b hx hb hdg rfl kq) hst kp
  case lcmp =>
    obtain rfl : ln = 1 := of_decide_eq_true hln
    exact mj_s_lci hL h1 h2 (fun x y rest kq => W.lcmp hx hb hdg kq) hst kp
  case ifCond cd z =>
    obtain rfl : ln = 3 := of_decide_eq_true hln
    exact mj_s_if hL h1 h2 hx hb hdg hst kp
  case if_icmp cd z =>
    obtain rfl : ln = 3 := of_decide_eq_true hln
    exact mj_s_ifc hL h1 h2 hx hb hdg hst kp
  case ifnull z =>
    obtain rfl : ln = 3 := of_decide_eq_true hln
    exact mj_s_ifn (b := true) hL h1 h2 hx hb hdg hst kp
  case ifnonnull z =>
    obtain rfl : ln = 3 := of_decide_eq_true hln
    exact mj_s_ifn (b := false) hL h1 h2 hx hb hdg hst kp
  case goto z =>
    obtain rfl : ln = 3 := of_decide_eq_true hln
    exact mj_s_goto hL h1 h2 hx hb hdg hst kp
  case tableswitch d lo hi offs =>
    exact mj_s_tsw hL h1 h2 hx hb hdg hst kp
  case lookupswitch d ps =>
    exact mj_s_lsw hL h1 h2 hx hb hdg hst kp
  case getfield i =>
    obtain rfl : ln = 3 := of_decide_eq_true hln
    exact mj_s_get hc0 hx hb hown hts hE hH hS hL h1 h2 hdg hst kk
  case putfield i =>
    obtain rfl : ln = 3 := of_decide_eq_true hln
    exact mj_s_put hc0 hx hb hown hts hin hE hH hS hL h1 h2 hdg hst kk
  case getstatic i =>
    obtain rfl : ln = 3 := of_decide_eq_true hln
    exact mj_s_gst hc0 hx hb hown hts hE hH hS hL h1 h2 hdg hst kk
  case new i =>
    obtain rfl : ln = 3 := of_decide_eq_true hln
    exact mj_s_new hc0 hx hb hown hts hE hH hS hL h1 h2 hdg hst hR1 hR2 kk
  case newarray a =>
    obtain rfl : ln = 2 := of_decide_eq_true hln
    exact mj_s_newa hx hb hts hE hH hS hL h1 h2 hdg hst hR1 hR2 kk
  case anewarray i =>
    obtain rfl : ln = 3 := of_decide_eq_true hln
    exact mj_s_newq hc0 hx hb hown hts hE hH hS hL h1 h2 hdg hst hR1 hR2 kk
  case checkcast i =>
    obtain rfl : ln = 3 := of_decide_eq_true hln
    exact mj_s_cast hx hb hown hts hE hH hS hL h1 h2 hdg hst kk
  case invokespecial i =>
    obtain rfl : ln = 3 := of_decide_eq_true hln
    simp only [mj_step] at hst
    split at hst
    · next hlk => exact mj_s_oin hc0 hx hb hml hown hts hE hH hS hR3 hR4 hL h1 h2 hdg hlk hst kk
    · cases hst
  case invokestatic i =>
    obtain rfl : ln = 3 := of_decide_eq_true hln
    simp only [mj_step] at hst
    split at hst
    · next hlk => exact mj_s_acp hc0 hx hb hml hown hts hE hH hS hR3 hR4 hL h1 h2 hdg hlk hst kk
    · cases hst
  case invokevirtual i =>
    obtain rfl : ln = 3 := of_decide_eq_true hln
    simp only [mj_step] at hst
    split at hst
    · next hlk => exact mj_s_cln hlk.1 hlk.2 hx hb hml hown hts hE hH hS hR3 hR4 hL h1 h2 hdg hst hR1 hR2 kk
    · cases hst
  all_goals cases hst
end One
