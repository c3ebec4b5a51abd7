/-! ONE INSTRUCTION, AS A RULE ON ENDS -/
section Ops
variable {X : mj_X} {d k pc : Nat} {ls st : List mj_V} {M : mj_M} {Q : Option mj_V → mj_M → Prop}
theorem wp_if {op : Instr} {ln : Nat} {P : Prop} {s' : mj_St} (h : mj_ins k pc = some (op, ln)) (hc : mj_call (mj_mi k).1 op = none) (hr : mj_ret (mj_mi k).2.2.2.1 op st = none) (h1 : P → mj_step X k pc op ln ls st M = some s') (h2 : ¬ P → mj_step X k pc op ln ls st M = none) : wp X d k pc ls st M Q ↔ P ∧ wp X d k s'.1 s'.2.1 s'.2.2.1 s'.2.2.2 Q := by
  by_cases hP : P
  · rw [wp_step h hc hr (h1 hP)]
    exact ⟨fun q => ⟨hP, q⟩, fun q => q.2⟩
  · exact ⟨fun q => absurd q (wp_stuck h hc hr (h2 hP)), fun q => absurd q.1 hP⟩
theorem wp_go {op : Instr} {ln pc' : Nat} {ls' st' : List mj_V} {M' : mj_M} (h : mj_ins k pc = some (op, ln)) (hc : mj_call (mj_mi k).1 op = none) (hr : mj_ret (mj_mi k).2.2.2.1 op st = none) (hs : mj_step X k pc op ln ls st M = some (pc', ls', st', M')) : wp X d k pc ls st M Q ↔ wp X d k pc' ls' st' M' Q := wp_step h hc hr hs
theorem wp_ifg {op : Instr} {ln pc' : Nat} {ls' st' : List mj_V} {M' : mj_M} {P : Prop} (h : mj_ins k pc = some (op, ln)) (hc : mj_call (mj_mi k).1 op = none) (hr : mj_ret (mj_mi k).2.2.2.1 op st = none) (h1 : P → mj_step X k pc op ln ls st M = some (pc', ls', st', M')) (h2 : ¬ P → mj_step X k pc op ln ls st M = none) : wp X d k pc ls st M Q ↔ P ∧ wp X d k pc' ls' st' M' Q := wp_if h hc hr h1 h2
theorem q_iconst {n v : Int} (h : mj_ins k pc = some (.iconst n, 1)) (hv : (Int32.ofInt n).toInt = v) : wp X d k pc ls st M Q ↔ wp X d k (pc + 1) ls ((0, v) :: st) M Q := by subst hv; exact wp_go h rfl rfl rfl
theorem q_bipush {n v : Int} (h : mj_ins k pc = some (.bipush n, 2)) (hv : (Int8.ofInt n).toInt32.toInt = v) : wp X d k pc ls st M Q ↔ wp X d k (pc + 2) ls ((0, v) :: st) M Q := by subst hv; exact wp_go h rfl rfl rfl
theorem q_sipush {n v : Int} (h : mj_ins k pc = some (.sipush n, 3)) (hv : (Int16.ofInt n).toInt32.toInt = v) : wp X d k pc ls st M Q ↔ wp X d k (pc + 3) ls ((0, v) :: st) M Q := by subst hv; exact wp_go h rfl rfl rfl
theorem q_lconst {n : Fin 2} {v : Int} (h : mj_ins k pc = some (.lconst n, 1)) (hv : (Int64.ofNat (n : Nat)).toInt = v) : wp X d k pc ls st M Q ↔ wp X d k (pc + 1) ls ((1, v) :: st) M Q := by subst hv; exact wp_go h rfl rfl rfl
theorem q_aconst_null (h : mj_ins k pc = some (.aconst_null, 1)) : wp X d k pc ls st M Q ↔ wp X d k (pc + 1) ls ((2, 0) :: st) M Q := wp_go h rfl rfl rfl
theorem q_ldc {i : Nat} {v : Int} (h : mj_ins k pc = some (.ldc i, 2)) (hc : mj_ck (mj_mi k).1 i = some (0, v)) : wp X d k pc ls st M Q ↔ wp X d k (pc + 2) ls ((0, v) :: st) M Q := wp_go h rfl rfl (by simp [mj_step, mj_ldc, hc])
theorem q_ldcS {i : Nat} {v : Int} (h : mj_ins k pc = some (.ldc i, 2)) (hc : mj_ck (mj_mi k).1 i = some (10, v)) : wp X d k pc ls st M Q ↔ wp X d k (pc + 2) ls ((10, v) :: st) M Q := wp_go h rfl rfl (by simp [mj_step, mj_ldc, hc])
theorem q_ldc_w {i : Nat} {v : Int} (h : mj_ins k pc = some (.ldc_w i, 3)) (hc : mj_ck (mj_mi k).1 i = some (0, v)) : wp X d k pc ls st M Q ↔ wp X d k (pc + 3) ls ((0, v) :: st) M Q := wp_go h rfl rfl (by simp [mj_step, mj_ldc, hc])
theorem q_ldc2_w {i : Nat} {v : Int} (h : mj_ins k pc = some (.ldc2_w i, 3)) (hc : mj_ck (mj_mi k).1 i = some (1, v)) : wp X d k pc ls st M Q ↔ wp X d k (pc + 3) ls ((1, v) :: st) M Q := wp_go h rfl rfl (by simp [mj_step, mj_ldc, hc])
theorem q_iload {i : Nat} {x : Int} (h : mj_ins k pc = some (.iload i, 2)) (hl : ls[i]? = some (0, x)) : wp X d k pc ls st M Q ↔ wp X d k (pc + 2) ls ((0, x) :: st) M Q := wp_go h rfl rfl (by simp only [mj_step, mj_ild, hl])
theorem q_iload_n {i : Fin 4} {x : Int} (h : mj_ins k pc = some (.iload_n i, 1)) (hl : ls[(i : Nat)]? = some (0, x)) : wp X d k pc ls st M Q ↔ wp X d k (pc + 1) ls ((0, x) :: st) M Q := wp_go h rfl rfl (by simp only [mj_step, mj_ild, hl])
theorem q_lload {i : Nat} {x : Int} (h : mj_ins k pc = some (.lload i, 2)) (hl : ls[i]? = some (1, x)) : wp X d k pc ls st M Q ↔ wp X d k (pc + 2) ls ((1, x) :: st) M Q := wp_go h rfl rfl (by simp only [mj_step, mj_lld, hl])
theorem q_lload_n {i : Fin 4} {x : Int} (h : mj_ins k pc = some (.lload_n i, 1)) (hl : ls[(i : Nat)]? = some (1, x)) : wp X d k pc ls st M Q ↔ wp X d k (pc + 1) ls ((1, x) :: st) M Q := wp_go h rfl rfl (by simp only [mj_step, mj_lld, hl])
theorem q_aload {i : Nat} {v : mj_V} (h : mj_ins k pc = some (.aload i, 2)) (hl : ls[i]? = some v) (hv : mj_isR v.1 = true) : wp X d k pc ls st M Q ↔ wp X d k (pc + 2) ls (v :: st) M Q := wp_go h rfl rfl (by simp only [mj_step, mj_ald, hl, hv, cond_true])
theorem q_aload_n {i : Fin 4} {v : mj_V} (h : mj_ins k pc = some (.aload_n i, 1)) (hl : ls[(i : Nat)]? = some v) (hv : mj_isR v.1 = true) : wp X d k pc ls st M Q ↔ wp X d k (pc + 1) ls (v :: st) M Q := wp_go h rfl rfl (by simp only [mj_step, mj_ald, hl, hv, cond_true])
theorem q_istore {i : Nat} {x : Int} {ls' : List mj_V} (h : mj_ins k pc = some (.istore i, 2)) (hi : i < ls.length) (hs : mj_set ls i (0, x) = ls') : wp X d k pc ls ((0, x) :: st) M Q ↔ wp X d k (pc + 2) ls' st M Q := wp_go h rfl rfl (by simp only [mj_step, mj_ist, if_pos hi, hs])
theorem q_istore_n {i : Fin 4} {x : Int} {ls' : List mj_V} (h : mj_ins k pc = some (.istore_n i, 1)) (hi : (i : Nat) < ls.length) (hs : mj_set ls i (0, x) = ls') : wp X d k pc ls ((0, x) :: st) M Q ↔ wp X d k (pc + 1) ls' st M Q := wp_go h rfl rfl (by simp only [mj_step, mj_ist, if_pos hi, hs])
theorem q_lstore {i : Nat} {x : Int} {ls' : List mj_V} (h : mj_ins k pc = some (.lstore i, 2)) (hi : i + 1 < ls.length) (hs : mj_set2 ls i (1, x) = ls') : wp X d k pc ls ((1, x) :: st) M Q ↔ wp X d k (pc + 2) ls' st M Q := wp_go h rfl rfl (by simp only [mj_step, mj_lst, if_pos hi, hs])
theorem q_lstore_n {i : Fin 4} {x : Int} {ls' : List mj_V} (h : mj_ins k pc = some (.lstore_n i, 1)) (hi : (i : Nat) + 1 < ls.length) (hs : mj_set2 ls i (1, x) = ls') : wp X d k pc ls ((1, x) :: st) M Q ↔ wp X d k (pc + 1) ls' st M Q := wp_go h rfl rfl (by simp only [mj_step, mj_lst, if_pos hi, hs])
theorem q_astore {i : Nat} {v : mj_V} {ls' : List mj_V} (h : mj_ins k pc = some (.astore i, 2)) (hv : mj_isR v.1 = true) (hi : i < ls.length) (hs : mj_set ls i v = ls') : wp X d k pc ls (v :: st) M Q ↔ wp X d k (pc + 2) ls' st M Q := wp_go h rfl rfl (by simp only [mj_step, mj_ast, hv, cond_true, if_pos hi, hs])
theorem q_astore_n {i : Fin 4} {v : mj_V} {ls' : List mj_V} (h : mj_ins k pc = some (.astore_n i, 1)) (hv : mj_isR v.1 = true) (hi : (i : Nat) < ls.length) (hs : mj_set ls i v = ls') : wp X d k pc ls (v :: st) M Q ↔ wp X d k (pc + 1) ls' st M Q := wp_go h rfl rfl (by simp only [mj_step, mj_ast, hv, cond_true, if_pos hi, hs])
theorem q_iinc {i : Nat} {n x : Int} {ls' : List mj_V} (h : mj_ins k pc = some (.iinc i n, 3)) (hl : ls[i]? = some (0, x)) (hs : mj_set ls i (0, ji_add x n) = ls') : wp X d k pc ls st M Q ↔ wp X d k (pc + 3) ls' st M Q := wp_go h rfl rfl (by simp only [mj_step, mj_inc, hl, if_pos (List.getElem?_eq_some_iff.mp hl).1, hs])
theorem q_pop {v : mj_V} (h : mj_ins k pc = some (.pop, 1)) (hv : ¬ (v.1 = 1 ∨ v.1 = 9)) : wp X d k pc ls (v :: st) M Q ↔ wp X d k (pc + 1) ls st M Q := wp_go h rfl rfl (by simp only [mj_step, mj_pop, if_neg hv])
theorem q_dup {v : mj_V} (h : mj_ins k pc = some (.dup, 1)) (hv : ¬ (v.1 = 1 ∨ v.1 = 9)) : wp X d k pc ls (v :: st) M Q ↔ wp X d k (pc + 1) ls (v :: v :: st) M Q := wp_go h rfl rfl (by simp only [mj_step, mj_dup, if_neg hv])
theorem q_dup2 {t1 t2 : Nat} {x y : Int} (h : mj_ins k pc = some (.dup2, 1)) (h1 : t1 ≠ 1) (hv : ¬ (t1 = 1 ∨ t1 = 9 ∨ t2 = 1 ∨ t2 = 9)) : wp X d k pc ls ((t1, x) :: (t2, y) :: st) M Q ↔ wp X d k (pc + 1) ls ((t1, x) :: (t2, y) :: (t1, x) :: (t2, y) :: st) M Q := wp_go h rfl rfl (by
  simp only [mj_step, mj_dup2]
  split
  · next e => cases e; exact absurd rfl h1
  · next hne heq => cases heq; rw [if_neg hv]
  · next hne heq => first | exact absurd rfl (heq _ _ _) | exact (heq _ _ _).elim | exact (heq _ _ _ rfl).elim)
theorem q_dup2l {x : Int} (h : mj_ins k pc = some (.dup2, 1)) : wp X d k pc ls ((1, x) :: st) M Q ↔ wp X d k (pc + 1) ls ((1, x) :: (1, x) :: st) M Q := wp_go h rfl rfl rfl
theorem q_iadd {x y : Int} (h : mj_ins k pc = some (.iadd, 1)) : wp X d k pc ls ((0, y) :: (0, x) :: st) M Q ↔ wp X d k (pc + 1) ls ((0, ji_add x y) :: st) M Q := wp_go h rfl rfl rfl
theorem q_isub {x y : Int} (h : mj_ins k pc = some (.isub, 1)) : wp X d k pc ls ((0, y) :: (0, x) :: st) M Q ↔ wp X d k (pc + 1) ls ((0, ji_sub x y) :: st) M Q := wp_go h rfl rfl rfl
theorem q_imul {x y : Int} (h : mj_ins k pc = some (.imul, 1)) : wp X d k pc ls ((0, y) :: (0, x) :: st) M Q ↔ wp X d k (pc + 1) ls ((0, ji_mul x y) :: st) M Q := wp_go h rfl rfl rfl
theorem q_ishl {x y : Int} (h : mj_ins k pc = some (.ishl, 1)) : wp X d k pc ls ((0, y) :: (0, x) :: st) M Q ↔ wp X d k (pc + 1) ls ((0, ji_shl x y) :: st) M Q := wp_go h rfl rfl rfl
theorem q_ishr {x y : Int} (h : mj_ins k pc = some (.ishr, 1)) : wp X d k pc ls ((0, y) :: (0, x) :: st) M Q ↔ wp X d k (pc + 1) ls ((0, ji_shr x y) :: st) M Q := wp_go h rfl rfl rfl
theorem q_iushr {x y : Int} (h : mj_ins k pc = some (.iushr, 1)) : wp X d k pc ls ((0, y) :: (0, x) :: st) M Q ↔ wp X d k (pc + 1) ls ((0, ji_ushr x y) :: st) M Q := wp_go h rfl rfl rfl
theorem q_iand {x y : Int} (h : mj_ins k pc = some (.iand, 1)) : wp X d k pc ls ((0, y) :: (0, x) :: st) M Q ↔ wp X d k (pc + 1) ls ((0, ji_and x y) :: st) M Q := wp_go h rfl rfl rfl
theorem q_ior {x y : Int} (h : mj_ins k pc = some (.ior, 1)) : wp X d k pc ls ((0, y) :: (0, x) :: st) M Q ↔ wp X d k (pc + 1) ls ((0, ji_or x y) :: st) M Q := wp_go h rfl rfl rfl
theorem q_ixor {x y : Int} (h : mj_ins k pc = some (.ixor, 1)) : wp X d k pc ls ((0, y) :: (0, x) :: st) M Q ↔ wp X d k (pc + 1) ls ((0, ji_xor x y) :: st) M Q := wp_go h rfl rfl rfl
theorem q_ineg {x : Int} (h : mj_ins k pc = some (.ineg, 1)) : wp X d k pc ls ((0, x) :: st) M Q ↔ wp X d k (pc + 1) ls ((0, ji_neg x) :: st) M Q := wp_go h rfl rfl rfl
theorem q_idiv {x y : Int} (h : mj_ins k pc = some (.idiv, 1)) : wp X d k pc ls ((0, y) :: (0, x) :: st) M Q ↔ y ≠ 0 ∧ wp X d k (pc + 1) ls ((0, ji_div x y) :: st) M Q := wp_ifg h rfl rfl (fun hy => by simp only [mj_step, mj_i2d, if_neg hy]) (fun hy => by simp only [mj_step, mj_i2d, if_pos (Decidable.not_not.mp hy)])
theorem q_irem {x y : Int} (h : mj_ins k pc = some (.irem, 1)) : wp X d k pc ls ((0, y) :: (0, x) :: st) M Q ↔ y ≠ 0 ∧ wp X d k (pc + 1) ls ((0, ji_rem x y) :: st) M Q := wp_ifg h rfl rfl (fun hy => by simp only [mj_step, mj_i2d, if_neg hy]) (fun hy => by simp only [mj_step, mj_i2d, if_pos (Decidable.not_not.mp hy)])
theorem q_ladd {x y : Int} (h : mj_ins k pc = some (.ladd, 1)) : wp X d k pc ls ((1, y) :: (1, x) :: st) M Q ↔ wp X d k (pc + 1) ls ((1, jl_add x y) :: st) M Q := wp_go h rfl rfl rfl
theorem q_lsub {x y : Int} (h : mj_ins k pc = some (.lsub, 1)) : wp X d k pc ls ((1, y) :: (1, x) :: st) M Q ↔ wp X d k (pc + 1) ls ((1, jl_sub x y) :: st) M Q := wp_go h rfl rfl rfl
theorem q_lmul {x y : Int} (h : mj_ins k pc = some (.lmul, 1)) : wp X d k pc ls ((1, y) :: (1, x) :: st) M Q ↔ wp X d k (pc + 1) ls ((1, jl_mul x y) :: st) M Q := wp_go h rfl rfl rfl
theorem q_land {x y : Int} (h : mj_ins k pc = some (.land, 1)) : wp X d k pc ls ((1, y) :: (1, x) :: st) M Q ↔ wp X d k (pc + 1) ls ((1, jl_and x y) :: st) M Q := wp_go h rfl rfl rfl
theorem q_lor {x y : Int} (h : mj_ins k pc = some (.lor, 1)) : wp X d k pc ls ((1, y) :: (1, x) :: st) M Q ↔ wp X d k (pc + 1) ls ((1, jl_or x y) :: st) M Q := wp_go h rfl rfl rfl
theorem q_lneg {x : Int} (h : mj_ins k pc = some (.lneg, 1)) : wp X d k pc ls ((1, x) :: st) M Q ↔ wp X d k (pc + 1) ls ((1, jl_neg x) :: st) M Q := wp_go h rfl rfl rfl
theorem q_ldiv {x y : Int} (h : mj_ins k pc = some (.ldiv, 1)) : wp X d k pc ls ((1, y) :: (1, x) :: st) M Q ↔ y ≠ 0 ∧ wp X d k (pc + 1) ls ((1, jl_div x y) :: st) M Q := wp_ifg h rfl rfl (fun hy => by simp only [mj_step, mj_l2d, if_neg hy]) (fun hy => by simp only [mj_step, mj_l2d, if_pos (Decidable.not_not.mp hy)])
theorem q_lrem {x y : Int} (h : mj_ins k pc = some (.lrem, 1)) : wp X d k pc ls ((1, y) :: (1, x) :: st) M Q ↔ y ≠ 0 ∧ wp X d k (pc + 1) ls ((1, jl_rem x y) :: st) M Q := wp_ifg h rfl rfl (fun hy => by simp only [mj_step, mj_l2d, if_neg hy]) (fun hy => by simp only [mj_step, mj_l2d, if_pos (Decidable.not_not.mp hy)])
theorem q_lshl {x y : Int} (h : mj_ins k pc = some (.lshl, 1)) : wp X d k pc ls ((0, y) :: (1, x) :: st) M Q ↔ wp X d k (pc + 1) ls ((1, jl_shl x y) :: st) M Q := wp_go h rfl rfl rfl
theorem q_lshr {x y : Int} (h : mj_ins k pc = some (.lshr, 1)) : wp X d k pc ls ((0, y) :: (1, x) :: st) M Q ↔ wp X d k (pc + 1) ls ((1, jl_shr x y) :: st) M Q := wp_go h rfl rfl rfl
theorem q_i2l {x : Int} (h : mj_ins k pc = some (.i2l, 1)) : wp X d k pc ls ((0, x) :: st) M Q ↔ wp X d k (pc + 1) ls ((1, ji_2l x) :: st) M Q := wp_go h rfl rfl rfl
theorem q_l2i {x : Int} (h : mj_ins k pc = some (.l2i, 1)) : wp X d k pc ls ((1, x) :: st) M Q ↔ wp X d k (pc + 1) ls ((0, jl_2i x) :: st) M Q := wp_go h rfl rfl rfl
theorem q_i2c {x : Int} (h : mj_ins k pc = some (.i2c, 1)) : wp X d k pc ls ((0, x) :: st) M Q ↔ wp X d k (pc + 1) ls ((0, ji_2c x) :: st) M Q := wp_go h rfl rfl rfl
theorem q_i2b {x : Int} (h : mj_ins k pc = some (.i2b, 1)) : wp X d k pc ls ((0, x) :: st) M Q ↔ wp X d k (pc + 1) ls ((0, ji_2b x) :: st) M Q := wp_go h rfl rfl rfl
theorem q_lcmp {x y : Int} (h : mj_ins k pc = some (.lcmp, 1)) : wp X d k pc ls ((1, y) :: (1, x) :: st) M Q ↔ wp X d k (pc + 1) ls ((0, jl_cmp x y) :: st) M Q := wp_go h rfl rfl rfl
theorem wp_br {op : Instr} {ln pc1 pc2 : Nat} {ls1 st1 ls2 st2 : List mj_V} {M1 M2 : mj_M} {P : Prop} (hD : Decidable P) (h : mj_ins k pc = some (op, ln)) (hc : mj_call (mj_mi k).1 op = none) (hr : mj_ret (mj_mi k).2.2.2.1 op st = none) (h1 : P → mj_step X k pc op ln ls st M = some (pc1, ls1, st1, M1)) (h2 : ¬ P → mj_step X k pc op ln ls st M = some (pc2, ls2, st2, M2)) : wp X d k pc ls st M Q ↔ if P then wp X d k pc1 ls1 st1 M1 Q else wp X d k pc2 ls2 st2 M2 Q := by
  by_cases hP : P
  · rw [if_pos hP]; exact wp_go h hc hr (h1 hP)
  · rw [if_neg hP]; exact wp_go h hc hr (h2 hP)
theorem mj_toN2 {tgt : Nat} {off : Int} (ht : (pc : Int) + off = (tgt : Int)) : 0 ≤ (pc : Int) + off ∧ ((pc : Int) + off).toNat = tgt := by omega
theorem q_goto {off : Int} {tgt : Nat} (h : mj_ins k pc = some (.goto off, 3)) (ht : (pc : Int) + off = (tgt : Int)) : wp X d k pc ls st M Q ↔ wp X d k tgt ls st M Q := wp_go h rfl rfl (by simp only [mj_step, mj_to, if_pos (mj_toN2 ht).1, (mj_toN2 ht).2])
theorem q_if_eq {x : Int} {off : Int} {tgt : Nat} (h : mj_ins k pc = some (.ifCond .eq off, 3)) (ht : (pc : Int) + off = (tgt : Int)) : wp X d k pc ls ((0, x) :: st) M Q ↔ if x = 0 then wp X d k (tgt) ls st M Q else wp X d k (pc + 3) ls st M Q := wp_br inferInstance h rfl rfl (fun hP => by simp only [mj_step, mj_if, if_pos (mj_toN2 ht).1, (mj_toN2 ht).2, show mj_cnd .eq x 0 = true by simp only [mj_cnd]; first | (simp only [decide_eq_true_eq, decide_eq_false_iff_not, Bool.not_eq_true', Bool.not_eq_false', Decidable.not_not]; omega) | omega, cond_true, cond_false]) (fun hP => by simp only [mj_step, mj_if, if_pos (mj_toN2 ht).1, (mj_toN2 ht).2, show mj_cnd .eq x 0 = false by simp only [mj_cnd]; first | (simp only [decide_eq_true_eq, decide_eq_false_iff_not, Bool.not_eq_true', Bool.not_eq_false', Decidable.not_not]; omega) | omega, cond_true, cond_false])
theorem q_icmp_eq {x y : Int} {off : Int} {tgt : Nat} (h : mj_ins k pc = some (.if_icmp .eq off, 3)) (ht : (pc : Int) + off = (tgt : Int)) : wp X d k pc ls ((0, y) :: (0, x) :: st) M Q ↔ if x = y then wp X d k (tgt) ls st M Q else wp X d k (pc + 3) ls st M Q := wp_br inferInstance h rfl rfl (fun hP => by simp only [mj_step, mj_ifc, if_pos (mj_toN2 ht).1, (mj_toN2 ht).2, show mj_cnd .eq x y = true by simp only [mj_cnd]; first | (simp only [decide_eq_true_eq, decide_eq_false_iff_not, Bool.not_eq_true', Bool.not_eq_false', Decidable.not_not]; omega) | omega, cond_true, cond_false]) (fun hP => by simp only [mj_step, mj_ifc, if_pos (mj_toN2 ht).1, (mj_toN2 ht).2, show mj_cnd .eq x y = false by simp only [mj_cnd]; first | (simp only [decide_eq_true_eq, decide_eq_false_iff_not, Bool.not_eq_true', Bool.not_eq_false', Decidable.not_not]; omega) | omega, cond_true, cond_false])
theorem q_if_ne {x : Int} {off : Int} {tgt : Nat} (h : mj_ins k pc = some (.ifCond .ne off, 3)) (ht : (pc : Int) + off = (tgt : Int)) : wp X d k pc ls ((0, x) :: st) M Q ↔ if x = 0 then wp X d k (pc + 3) ls st M Q else wp X d k (tgt) ls st M Q := wp_br inferInstance h rfl rfl (fun hP => by simp only [mj_step, mj_if, if_pos (mj_toN2 ht).1, (mj_toN2 ht).2, show mj_cnd .ne x 0 = false by simp only [mj_cnd]; first | (simp only [decide_eq_true_eq, decide_eq_false_iff_not, Bool.not_eq_true', Bool.not_eq_false', Decidable.not_not]; omega) | omega, cond_true, cond_false]) (fun hP => by simp only [mj_step, mj_if, if_pos (mj_toN2 ht).1, (mj_toN2 ht).2, show mj_cnd .ne x 0 = true by simp only [mj_cnd]; first | (simp only [decide_eq_true_eq, decide_eq_false_iff_not, Bool.not_eq_true', Bool.not_eq_false', Decidable.not_not]; omega) | omega, cond_true, cond_false])
theorem q_icmp_ne {x y : Int} {off : Int} {tgt : Nat} (h : mj_ins k pc = some (.if_icmp .ne off, 3)) (ht : (pc : Int) + off = (tgt : Int)) : wp X d k pc ls ((0, y) :: (0, x) :: st) M Q ↔ if x = y then wp X d k (pc + 3) ls st M Q else wp X d k (tgt) ls st M Q := wp_br inferInstance h rfl rfl (fun hP => by simp only [mj_step, mj_ifc, if_pos (mj_toN2 ht).1, (mj_toN2 ht).2, show mj_cnd .ne x y = false by simp only [mj_cnd]; first | (simp only [decide_eq_true_eq, decide_eq_false_iff_not, Bool.not_eq_true', Bool.not_eq_false', Decidable.not_not]; omega) | omega, cond_true, cond_false]) (fun hP => by simp only [mj_step, mj_ifc, if_pos (mj_toN2 ht).1, (mj_toN2 ht).2, show mj_cnd .ne x y = true by simp only [mj_cnd]; first | (simp only [decide_eq_true_eq, decide_eq_false_iff_not, Bool.not_eq_true', Bool.not_eq_false', Decidable.not_not]; omega) | omega, cond_true, cond_false])
theorem q_if_lt {x : Int} {off : Int} {tgt : Nat} (h : mj_ins k pc = some (.ifCond .lt off, 3)) (ht : (pc : Int) + off = (tgt : Int)) : wp X d k pc ls ((0, x) :: st) M Q ↔ if x < 0 then wp X d k (tgt) ls st M Q else wp X d k (pc + 3) ls st M Q := wp_br inferInstance h rfl rfl (fun hP => by simp only [mj_step, mj_if, if_pos (mj_toN2 ht).1, (mj_toN2 ht).2, show mj_cnd .lt x 0 = true by simp only [mj_cnd]; first | (simp only [decide_eq_true_eq, decide_eq_false_iff_not, Bool.not_eq_true', Bool.not_eq_false', Decidable.not_not]; omega) | omega, cond_true, cond_false]) (fun hP => by simp only [mj_step, mj_if, if_pos (mj_toN2 ht).1, (mj_toN2 ht).2, show mj_cnd .lt x 0 = false by simp only [mj_cnd]; first | (simp only [decide_eq_true_eq, decide_eq_false_iff_not, Bool.not_eq_true', Bool.not_eq_false', Decidable.not_not]; omega) | omega, cond_true, cond_false])
theorem q_icmp_lt {x y : Int} {off : Int} {tgt : Nat} (h : mj_ins k pc = some (.if_icmp .lt off, 3)) (ht : (pc : Int) + off = (tgt : Int)) : wp X d k pc ls ((0, y) :: (0, x) :: st) M Q ↔ if x < y then wp X d k (tgt) ls st M Q else wp X d k (pc + 3) ls st M Q := wp_br inferInstance h rfl rfl (fun hP => by simp only [mj_step, mj_ifc, if_pos (mj_toN2 ht).1, (mj_toN2 ht).2, show mj_cnd .lt x y = true by simp only [mj_cnd]; first | (simp only [decide_eq_true_eq, decide_eq_false_iff_not, Bool.not_eq_true', Bool.not_eq_false', Decidable.not_not]; omega) | omega, cond_true, cond_false]) (fun hP => by simp only [mj_step, mj_ifc, if_pos (mj_toN2 ht).1, (mj_toN2 ht).2, show mj_cnd .lt x y = false by simp only [mj_cnd]; first | (simp only [decide_eq_true_eq, decide_eq_false_iff_not, Bool.not_eq_true', Bool.not_eq_false', Decidable.not_not]; omega) | omega, cond_true, cond_false])
theorem q_if_ge {x : Int} {off : Int} {tgt : Nat} (h : mj_ins k pc = some (.ifCond .ge off, 3)) (ht : (pc : Int) + off = (tgt : Int)) : wp X d k pc ls ((0, x) :: st) M Q ↔ if x < 0 then wp X d k (pc + 3) ls st M Q else wp X d k (tgt) ls st M Q := wp_br inferInstance h rfl rfl (fun hP => by simp only [mj_step, mj_if, if_pos (mj_toN2 ht).1, (mj_toN2 ht).2, show mj_cnd .ge x 0 = false by simp only [mj_cnd]; first | (simp only [decide_eq_true_eq, decide_eq_false_iff_not, Bool.not_eq_true', Bool.not_eq_false', Decidable.not_not]; omega) | omega, cond_true, cond_false]) (fun hP => by simp only [mj_step, mj_if, if_pos (mj_toN2 ht).1, (mj_toN2 ht).2, show mj_cnd .ge x 0 = true by simp only [mj_cnd]; first | (simp only [decide_eq_true_eq, decide_eq_false_iff_not, Bool.not_eq_true', Bool.not_eq_false', Decidable.not_not]; omega) | omega, cond_true, cond_false])
theorem q_icmp_ge {x y : Int} {off : Int} {tgt : Nat} (h : mj_ins k pc = some (.if_icmp .ge off, 3)) (ht : (pc : Int) + off = (tgt : Int)) : wp X d k pc ls ((0, y) :: (0, x) :: st) M Q ↔ if x < y then wp X d k (pc + 3) ls st M Q else wp X d k (tgt) ls st M Q := wp_br inferInstance h rfl rfl (fun hP => by simp only [mj_step, mj_ifc, if_pos (mj_toN2 ht).1, (mj_toN2 ht).2, show mj_cnd .ge x y = false by simp only [mj_cnd]; first | (simp only [decide_eq_true_eq, decide_eq_false_iff_not, Bool.not_eq_true', Bool.not_eq_false', Decidable.not_not]; omega) | omega, cond_true, cond_false]) (fun hP => by simp only [mj_step, mj_ifc, if_pos (mj_toN2 ht).1, (mj_toN2 ht).2, show mj_cnd .ge x y = true by simp only [mj_cnd]; first | (simp only [decide_eq_true_eq, decide_eq_false_iff_not, Bool.not_eq_true', Bool.not_eq_false', Decidable.not_not]; omega) | omega, cond_true, cond_false])
theorem q_if_gt {x : Int} {off : Int} {tgt : Nat} (h : mj_ins k pc = some (.ifCond .gt off, 3)) (ht : (pc : Int) + off = (tgt : Int)) : wp X d k pc ls ((0, x) :: st) M Q ↔ if x ≤ 0 then wp X d k (pc + 3) ls st M Q else wp X d k (tgt) ls st M Q := wp_br inferInstance h rfl rfl (fun hP => by simp only [mj_step, mj_if, if_pos (mj_toN2 ht).1, (mj_toN2 ht).2, show mj_cnd .gt x 0 = false by simp only [mj_cnd]; first | (simp only [decide_eq_true_eq, decide_eq_false_iff_not, Bool.not_eq_true', Bool.not_eq_false', Decidable.not_not]; omega) | omega, cond_true, cond_false]) (fun hP => by simp only [mj_step, mj_if, if_pos (mj_toN2 ht).1, (mj_toN2 ht).2, show mj_cnd .gt x 0 = true by simp only [mj_cnd]; first | (simp only [decide_eq_true_eq, decide_eq_false_iff_not, Bool.not_eq_true', Bool.not_eq_false', Decidable.not_not]; omega) | omega, cond_true, cond_false])
theorem q_icmp_gt {x y : Int} {off : Int} {tgt : Nat} (h : mj_ins k pc = some (.if_icmp .gt off, 3)) (ht : (pc : Int) + off = (tgt : Int)) : wp X d k pc ls ((0, y) :: (0, x) :: st) M Q ↔ if x ≤ y then wp X d k (pc + 3) ls st M Q else wp X d k (tgt) ls st M Q := wp_br inferInstance h rfl rfl (fun hP => by simp only [mj_step, mj_ifc, if_pos (mj_toN2 ht).1, (mj_toN2 ht).2, show mj_cnd .gt x y = false by simp only [mj_cnd]; first | (simp only [decide_eq_true_eq, decide_eq_false_iff_not, Bool.not_eq_true', Bool.not_eq_false', Decidable.not_not]; omega) | omega, cond_true, cond_false]) (fun hP => by simp only [mj_step, mj_ifc, if_pos (mj_toN2 ht).1, (mj_toN2 ht).2, show mj_cnd .gt x y = true by simp only [mj_cnd]; first | (simp only [decide_eq_true_eq, decide_eq_false_iff_not, Bool.not_eq_true', Bool.not_eq_false', Decidable.not_not]; omega) | omega, cond_true, cond_false])
theorem q_if_le {x : Int} {off : Int} {tgt : Nat} (h : mj_ins k pc = some (.ifCond .le off, 3)) (ht : (pc : Int) + off = (tgt : Int)) : wp X d k pc ls ((0, x) :: st) M Q ↔ if x ≤ 0 then wp X d k (tgt) ls st M Q else wp X d k (pc + 3) ls st M Q := wp_br inferInstance h rfl rfl (fun hP => by simp only [mj_step, mj_if, if_pos (mj_toN2 ht).1, (mj_toN2 ht).2, show mj_cnd .le x 0 = true by simp only [mj_cnd]; first | (simp only [decide_eq_true_eq, decide_eq_false_iff_not, Bool.not_eq_true', Bool.not_eq_false', Decidable.not_not]; omega) | omega, cond_true, cond_false]) (fun hP => by simp only [mj_step, mj_if, if_pos (mj_toN2 ht).1, (mj_toN2 ht).2, show mj_cnd .le x 0 = false by simp only [mj_cnd]; first | (simp only [decide_eq_true_eq, decide_eq_false_iff_not, Bool.not_eq_true', Bool.not_eq_false', Decidable.not_not]; omega) | omega, cond_true, cond_false])
theorem q_icmp_le {x y : Int} {off : Int} {tgt : Nat} (h : mj_ins k pc = some (.if_icmp .le off, 3)) (ht : (pc : Int) + off = (tgt : Int)) : wp X d k pc ls ((0, y) :: (0, x) :: st) M Q ↔ if x ≤ y then wp X d k (tgt) ls st M Q else wp X d k (pc + 3) ls st M Q := wp_br inferInstance h rfl rfl (fun hP => by simp only [mj_step, mj_ifc, if_pos (mj_toN2 ht).1, (mj_toN2 ht).2, show mj_cnd .le x y = true by simp only [mj_cnd]; first | (simp only [decide_eq_true_eq, decide_eq_false_iff_not, Bool.not_eq_true', Bool.not_eq_false', Decidable.not_not]; omega) | omega, cond_true, cond_false]) (fun hP => by simp only [mj_step, mj_ifc, if_pos (mj_toN2 ht).1, (mj_toN2 ht).2, show mj_cnd .le x y = false by simp only [mj_cnd]; first | (simp only [decide_eq_true_eq, decide_eq_false_iff_not, Bool.not_eq_true', Bool.not_eq_false', Decidable.not_not]; omega) | omega, cond_true, cond_false])
theorem q_ifnull {t : Nat} {x : Int} {off : Int} {tgt : Nat} (h : mj_ins k pc = some (.ifnull off, 3)) (ht : (pc : Int) + off = (tgt : Int)) (hN : mj_isN t = true) : wp X d k pc ls ((t, x) :: st) M Q ↔ if x = 0 then wp X d k tgt ls st M Q else wp X d k (pc + 3) ls st M Q := wp_br inferInstance h rfl rfl (fun hP => by
  subst hP
  simp only [mj_step, mj_ifn, hN, cond_true, mj_to, if_pos (mj_toN2 ht).1, (mj_toN2 ht).2]
  rfl) (fun hP => by
  simp only [mj_step, mj_ifn, hN, cond_true, show (decide (x = 0) == true) = false by simp [hP], cond_false])
theorem q_ifnonnull {t : Nat} {x : Int} {off : Int} {tgt : Nat} (h : mj_ins k pc = some (.ifnonnull off, 3)) (ht : (pc : Int) + off = (tgt : Int)) (hN : mj_isN t = true) : wp X d k pc ls ((t, x) :: st) M Q ↔ if x = 0 then wp X d k (pc + 3) ls st M Q else wp X d k tgt ls st M Q := wp_br inferInstance h rfl rfl (fun hP => by
  subst hP
  simp only [mj_step, mj_ifn, hN, cond_true]
  rfl) (fun hP => by
  simp only [mj_step, mj_ifn, hN, cond_true, show (decide (x = 0) == false) = true by simp [hP], mj_to, if_pos (mj_toN2 ht).1, (mj_toN2 ht).2])
theorem q_getfield {i ci fi t T : Nat} {x : Int} (h : mj_ins k pc = some (.getfield i, 3)) (hf : mj_fl (mj_mi k).1 i = some (ci, fi)) (hT : 20 + ci = T) (ht : mj_ft ci fi = t) : wp X d k pc ls ((T, x) :: st) M Q ↔ x ≠ 0 ∧ wp X d k (pc + 3) ls ((t, hh M x fi) :: st) M Q := by
  subst hT; subst ht
  exact wp_ifg h rfl rfl (fun hx => by simp only [mj_step, mj_get, hf]; exact if_pos ⟨trivial, hx⟩) (fun hx => by simp only [mj_step, mj_get, hf, if_neg (fun q : _ ∧ _ => hx q.2)])
theorem q_putfield {i ci fi T : Nat} {x w : Int} {v : mj_V} (h : mj_ins k pc = some (.putfield i, 3)) (hf : mj_fl (mj_mi k).1 i = some (ci, fi)) (hT : 20 + ci = T) (hn : mj_fn ci fi = false ∨ ((mj_mi k).2.2.2.2 = true ∧ (mj_mi k).1 = ci)) (hw : mj_fit (mj_fk ci fi) v = some w) : wp X d k pc ls (v :: (T, x) :: st) M Q ↔ x ≠ 0 ∧ wp X d k (pc + 3) ls st (mj_wr M x fi w) Q := by
  subst hT
  exact wp_ifg h rfl rfl (fun hx => by simp only [mj_step, mj_put, hf, hw]; exact if_pos ⟨trivial, hx, hn⟩) (fun hx => by simp only [mj_step, mj_put, hf, if_neg (fun q : _ ∧ _ ∧ _ => hx q.2.1)])
theorem q_iaload {i x : Int} (h : mj_ins k pc = some (.iaload, 1)) : wp X d k pc ls ((0, i) :: (3, x) :: st) M Q ↔ (x ≠ 0 ∧ 0 ≤ i ∧ i < hl M x) ∧ wp X d k (pc + 1) ls ((0, hh M x i) :: st) M Q := wp_ifg h rfl rfl (fun hx => by
  simp only [mj_step, mj_iald]
  exact if_pos hx) (fun hx => by
  simp only [mj_step, mj_iald]
  exact if_neg hx)
theorem q_ialoadX {i : Int} (h : mj_ins k pc = some (.iaload, 1)) : wp X d k pc ls ((0, i) :: (8, 0) :: st) M Q ↔ (0 ≤ i ∧ i < X.1) ∧ wp X d k (pc + 1) ls ((0, X.2 i) :: st) M Q := wp_ifg h rfl rfl (fun hx => by
  simp only [mj_step, mj_iald, if_true]
  exact if_pos hx) (fun hx => by
  simp only [mj_step, mj_iald, if_true]
  exact if_neg hx)
theorem q_ialoadW {i : Int} (h : mj_ins k pc = some (.iaload, 1)) : wp X d k pc ls ((0, i) :: (8, 1) :: st) M Q ↔ (0 ≤ i ∧ i < 40) ∧ wp X d k (pc + 1) ls ((0, mj_ways.getD i.toNat 0) :: st) M Q := wp_ifg h rfl rfl (fun hx => by
  simp only [mj_step, mj_iald, if_neg (show ¬ (1 : Int) = 0 by decide)]
  exact if_pos ⟨trivial, hx⟩) (fun hx => by
  simp only [mj_step, mj_iald, if_neg (show ¬ (1 : Int) = 0 by decide)]
  exact if_neg (fun q => hx q.2))
theorem q_laload {i x : Int} (h : mj_ins k pc = some (.laload, 1)) : wp X d k pc ls ((0, i) :: (4, x) :: st) M Q ↔ (x ≠ 0 ∧ 0 ≤ i ∧ i < hl M x) ∧ wp X d k (pc + 1) ls ((1, hh M x i) :: st) M Q := wp_ifg h rfl rfl (fun hx => by
  simp only [mj_step, mj_lald]
  exact if_pos hx) (fun hx => by
  simp only [mj_step, mj_lald]
  exact if_neg hx)
theorem q_baload {i x : Int} (h : mj_ins k pc = some (.baload, 1)) : wp X d k pc ls ((0, i) :: (5, x) :: st) M Q ↔ (x ≠ 0 ∧ 0 ≤ i ∧ i < hl M x) ∧ wp X d k (pc + 1) ls ((0, hh M x i) :: st) M Q := wp_ifg h rfl rfl (fun hx => by
  simp only [mj_step, mj_bald]
  exact if_pos hx) (fun hx => by
  simp only [mj_step, mj_bald]
  exact if_neg hx)
theorem q_baloadT {i x : Int} (h : mj_ins k pc = some (.baload, 1)) : wp X d k pc ls ((0, i) :: (11, x) :: st) M Q ↔ (0 ≤ i ∧ i < ((mj_tl x).length : Int)) ∧ wp X d k (pc + 1) ls ((0, (mj_tl x).getD i.toNat 0) :: st) M Q := wp_ifg h rfl rfl (fun hx => by
  simp only [mj_step, mj_bald]
  exact if_pos hx) (fun hx => by
  simp only [mj_step, mj_bald]
  exact if_neg hx)
theorem q_aaload6 {i x : Int} (h : mj_ins k pc = some (.aaload, 1)) : wp X d k pc ls ((0, i) :: (6, x) :: st) M Q ↔ (x ≠ 0 ∧ 0 ≤ i ∧ i < hl M x) ∧ wp X d k (pc + 1) ls ((24, hh M x i) :: st) M Q := wp_ifg h rfl rfl (fun hx => by
  simp only [mj_step, mj_aald]
  exact if_pos hx) (fun hx => by
  simp only [mj_step, mj_aald]
  exact if_neg hx)
theorem q_aaload7 {i x : Int} (h : mj_ins k pc = some (.aaload, 1)) : wp X d k pc ls ((0, i) :: (7, x) :: st) M Q ↔ (x ≠ 0 ∧ 0 ≤ i ∧ i < hl M x) ∧ wp X d k (pc + 1) ls ((28, hh M x i) :: st) M Q := wp_ifg h rfl rfl (fun hx => by
  simp only [mj_step, mj_aald]
  exact if_pos hx) (fun hx => by
  simp only [mj_step, mj_aald]
  exact if_neg hx)
theorem q_iastore {i x v : Int} (h : mj_ins k pc = some (.iastore, 1)) : wp X d k pc ls ((0, v) :: (0, i) :: (3, x) :: st) M Q ↔ (x ≠ 0 ∧ 0 ≤ i ∧ i < hl M x) ∧ wp X d k (pc + 1) ls st (mj_wr M x i v) Q := wp_ifg h rfl rfl (fun hx => by
  simp only [mj_step, mj_iast]
  exact if_pos hx) (fun hx => by
  simp only [mj_step, mj_iast]
  exact if_neg hx)
theorem q_lastore {i x v : Int} (h : mj_ins k pc = some (.lastore, 1)) : wp X d k pc ls ((1, v) :: (0, i) :: (4, x) :: st) M Q ↔ (x ≠ 0 ∧ 0 ≤ i ∧ i < hl M x) ∧ wp X d k (pc + 1) ls st (mj_wr M x i v) Q := wp_ifg h rfl rfl (fun hx => by
  simp only [mj_step, mj_last]
  exact if_pos hx) (fun hx => by
  simp only [mj_step, mj_last]
  exact if_neg hx)
theorem q_bastore {i x v : Int} (h : mj_ins k pc = some (.bastore, 1)) : wp X d k pc ls ((0, v) :: (0, i) :: (5, x) :: st) M Q ↔ ((v = 0 ∨ v = 1) ∧ x ≠ 0 ∧ 0 ≤ i ∧ i < hl M x) ∧ wp X d k (pc + 1) ls st (mj_wr M x i v) Q := wp_ifg h rfl rfl (fun hx => by
  simp only [mj_step, mj_bast]
  exact if_pos hx) (fun hx => by
  simp only [mj_step, mj_bast]
  exact if_neg hx)
theorem q_aastore6 {i x v : Int} (h : mj_ins k pc = some (.aastore, 1)) : wp X d k pc ls ((24, v) :: (0, i) :: (6, x) :: st) M Q ↔ (v ≠ 0 ∧ x ≠ 0 ∧ 0 ≤ i ∧ i < hl M x) ∧ wp X d k (pc + 1) ls st (mj_wr M x i v) Q := wp_ifg h rfl rfl (fun hx => by
  simp only [mj_step, mj_aast]
  exact if_pos hx) (fun hx => by
  simp only [mj_step, mj_aast]
  exact if_neg hx)
theorem q_aastore7 {i x v : Int} (h : mj_ins k pc = some (.aastore, 1)) : wp X d k pc ls ((28, v) :: (0, i) :: (7, x) :: st) M Q ↔ (v ≠ 0 ∧ x ≠ 0 ∧ 0 ≤ i ∧ i < hl M x) ∧ wp X d k (pc + 1) ls st (mj_wr M x i v) Q := wp_ifg h rfl rfl (fun hx => by
  simp only [mj_step, mj_aast]
  exact if_pos hx) (fun hx => by
  simp only [mj_step, mj_aast]
  exact if_neg hx)
theorem q_alen {t : Nat} {x : Int} (h : mj_ins k pc = some (.arraylength, 1)) (ht : 3 ≤ t ∧ t ≤ 7) : wp X d k pc ls ((t, x) :: st) M Q ↔ x ≠ 0 ∧ wp X d k (pc + 1) ls ((0, hl M x) :: st) M Q := wp_ifg h rfl rfl (fun hx => by
  rcases (show t = 3 ∨ t = 4 ∨ t = 5 ∨ t = 6 ∨ t = 7 by omega) with rfl | rfl | rfl | rfl | rfl <;> (simp only [mj_step, mj_alen]; exact if_pos ⟨by omega, by omega, hx⟩)) (fun hx => by
  rcases (show t = 3 ∨ t = 4 ∨ t = 5 ∨ t = 6 ∨ t = 7 by omega) with rfl | rfl | rfl | rfl | rfl <;> (simp only [mj_step, mj_alen]; exact if_neg (fun q => hx q.2.2)))
theorem q_alenX (h : mj_ins k pc = some (.arraylength, 1)) : wp X d k pc ls ((8, 0) :: st) M Q ↔ wp X d k (pc + 1) ls ((0, X.1) :: st) M Q := wp_go h rfl rfl (by simp only [mj_step, mj_alen, if_true])
theorem q_alenW (h : mj_ins k pc = some (.arraylength, 1)) : wp X d k pc ls ((8, 1) :: st) M Q ↔ wp X d k (pc + 1) ls ((0, 40) :: st) M Q := wp_go h rfl rfl (by simp only [mj_step, mj_alen, if_neg (show ¬ (1 : Int) = 0 by decide), if_true])
theorem q_alenT {x : Int} (h : mj_ins k pc = some (.arraylength, 1)) : wp X d k pc ls ((11, x) :: st) M Q ↔ wp X d k (pc + 1) ls ((0, ((mj_tl x).length : Int)) :: st) M Q := wp_go h rfl rfl rfl
theorem q_ireturn {x : Int} (h : mj_ins k pc = some (.ireturn, 1)) (hr : (mj_mi k).2.2.2.1 = 1) : wp X d k pc ls [(0, x)] M Q ↔ Q (some (0, x)) M := wp_ret h rfl (by simp [mj_ret, hr])
theorem q_zreturn {x : Int} (h : mj_ins k pc = some (.ireturn, 1)) (hr : (mj_mi k).2.2.2.1 = 2) (hx : x = 0 ∨ x = 1) : wp X d k pc ls [(0, x)] M Q ↔ Q (some (0, x)) M := wp_ret h rfl (by simp [mj_ret, hr, hx])
theorem q_lreturn {x : Int} (h : mj_ins k pc = some (.lreturn, 1)) (hr : (mj_mi k).2.2.2.1 = 4) : wp X d k pc ls [(1, x)] M Q ↔ Q (some (1, x)) M := wp_ret h rfl (by simp [mj_ret, hr])
theorem q_return (h : mj_ins k pc = some (.return_, 1)) (hr : (mj_mi k).2.2.2.1 = 0) : wp X d k pc ls [] M Q ↔ Q none M := wp_ret h rfl (by simp [mj_ret, hr])
theorem q_callS {i j : Nat} {as st' : List mj_V} (h : mj_ins k pc = some (.invokestatic i, 3)) (hc : mj_call (mj_mi k).1 (.invokestatic i) = some j) (ha : mj_args (mj_mi j).2.2.1 (st.take (mj_mi j).2.2.1.length).reverse = some as) (hst : st.drop (mj_mi j).2.2.1.length = st') (hl : (mj_ent1 as).length ≤ (mj_mi j).2.1) : wp X (d + 1) k pc ls st M Q ↔ mj_cs st' ≤ 8 ∧ wc X d j as M (fun r M' => wp X (d + 1) k (pc + 3) ls (r.toList ++ st') M' Q) := by
  rw [wp_call h hc ha hst hl]
  exact ⟨fun q => ⟨q.1.2, q.2⟩, fun q => ⟨⟨rfl, q.1⟩, q.2⟩⟩
theorem q_callV {i j T : Nat} {a0 : Int} {as st' : List mj_V} (hT : Nat.beq T 10 = false ∧ Nat.ble 20 T = true) (h : mj_ins k pc = some (.invokevirtual i, 3)) (hc : mj_call (mj_mi k).1 (.invokevirtual i) = some j) (ha : mj_args (mj_mi j).2.2.1 (st.take (mj_mi j).2.2.1.length).reverse = some ((T, a0) :: as)) (hst : st.drop (mj_mi j).2.2.1.length = st') (hl : (mj_ent1 ((T, a0) :: as)).length ≤ (mj_mi j).2.1) : wp X (d + 1) k pc ls st M Q ↔ (a0 ≠ 0 ∧ mj_cs st' ≤ 8) ∧ wc X d j ((T, a0) :: as) M (fun r M' => wp X (d + 1) k (pc + 3) ls (r.toList ++ st') M' Q) := by
  rw [wp_call h hc ha hst hl]
  have e : mj_rcv (.invokevirtual i) ((T, a0) :: as) = true ↔ a0 ≠ 0 := by
    show (Nat.beq T 10 || (Nat.ble 20 T && !decide (a0 = 0))) = true ↔ _
    rw [hT.1, hT.2]
    simp
  rw [e]
theorem q_callI {i j T : Nat} {a0 : Int} {as st' : List mj_V} (hT : Nat.beq T 10 = false ∧ Nat.ble 20 T = true) (h : mj_ins k pc = some (.invokespecial i, 3)) (hc : mj_call (mj_mi k).1 (.invokespecial i) = some j) (ha : mj_args (mj_mi j).2.2.1 (st.take (mj_mi j).2.2.1.length).reverse = some ((T, a0) :: as)) (hst : st.drop (mj_mi j).2.2.1.length = st') (hl : (mj_ent1 ((T, a0) :: as)).length ≤ (mj_mi j).2.1) : wp X (d + 1) k pc ls st M Q ↔ (a0 ≠ 0 ∧ mj_cs st' ≤ 8) ∧ wc X d j ((T, a0) :: as) M (fun r M' => wp X (d + 1) k (pc + 3) ls (r.toList ++ st') M' Q) := by
  rw [wp_call h hc ha hst hl]
  have e : mj_rcv (.invokespecial i) ((T, a0) :: as) = true ↔ a0 ≠ 0 := by
    show (Nat.beq T 10 || (Nat.ble 20 T && !decide (a0 = 0))) = true ↔ _
    rw [hT.1, hT.2]
    simp
  rw [e]
theorem q_callT {i j : Nat} {a0 : Int} {as st' : List mj_V} (h : mj_ins k pc = some (.invokevirtual i, 3)) (hc : mj_call (mj_mi k).1 (.invokevirtual i) = some j) (ha : mj_args (mj_mi j).2.2.1 (st.take (mj_mi j).2.2.1.length).reverse = some ((10, a0) :: as)) (hst : st.drop (mj_mi j).2.2.1.length = st') (hl : (mj_ent1 ((10, a0) :: as)).length ≤ (mj_mi j).2.1) : wp X (d + 1) k pc ls st M Q ↔ mj_cs st' ≤ 8 ∧ wc X d j ((10, a0) :: as) M (fun r M' => wp X (d + 1) k (pc + 3) ls (r.toList ++ st') M' Q) := by
  rw [wp_call h hc ha hst hl]
  exact ⟨fun q => ⟨q.1.2, q.2⟩, fun q => ⟨⟨rfl, q.1⟩, q.2⟩⟩
theorem q_new {i ci T : Nat} (h : mj_ins k pc = some (.new i, 3)) (hc : mj_cl (mj_mi k).1 i = some ci) (hT : 20 + ci = T) (h13 : ci < 13) : wp X d k pc ls st M Q ↔ wp X d k (pc + 3) ls ((T, (M.1 : Int) + 1) :: st) (mj_nw M T (mj_fN ci : Int) (fun _ => 0)) Q := by
  subst hT
  exact wp_go h rfl rfl (by simp only [mj_step, mj_new, hc, if_pos h13])
theorem q_newI {n : Int} (h : mj_ins k pc = some (.newarray .int, 2)) : wp X d k pc ls ((0, n) :: st) M Q ↔ (0 ≤ n ∧ n ≤ 100000) ∧ wp X d k (pc + 2) ls ((3, (M.1 : Int) + 1) :: st) (mj_nw M 3 n (fun _ => 0)) Q := wp_ifg h rfl rfl (fun hx => by simp only [mj_step, mj_newa, if_pos hx]) (fun hx => by simp only [mj_step, mj_newa, if_neg hx])
theorem q_newJ {n : Int} (h : mj_ins k pc = some (.newarray .long, 2)) : wp X d k pc ls ((0, n) :: st) M Q ↔ (0 ≤ n ∧ n ≤ 100000) ∧ wp X d k (pc + 2) ls ((4, (M.1 : Int) + 1) :: st) (mj_nw M 4 n (fun _ => 0)) Q := wp_ifg h rfl rfl (fun hx => by simp only [mj_step, mj_newa, if_pos hx]) (fun hx => by simp only [mj_step, mj_newa, if_neg hx])
theorem q_newZ {n : Int} (h : mj_ins k pc = some (.newarray .boolean, 2)) : wp X d k pc ls ((0, n) :: st) M Q ↔ (0 ≤ n ∧ n ≤ 100000) ∧ wp X d k (pc + 2) ls ((5, (M.1 : Int) + 1) :: st) (mj_nw M 5 n (fun _ => 0)) Q := wp_ifg h rfl rfl (fun hx => by simp only [mj_step, mj_newa, if_pos hx]) (fun hx => by simp only [mj_step, mj_newa, if_neg hx])
theorem q_newQ6 {i : Nat} {n : Int} (h : mj_ins k pc = some (.anewarray i, 3)) (hc : mj_cl (mj_mi k).1 i = some 4) : wp X d k pc ls ((0, n) :: st) M Q ↔ (0 ≤ n ∧ n ≤ 100000) ∧ wp X d k (pc + 3) ls ((6, (M.1 : Int) + 1) :: st) (mj_nw M 6 n (fun _ => 0)) Q := wp_ifg h rfl rfl (fun hx => by simp only [mj_step, mj_newq, if_pos hx, hc]) (fun hx => by simp only [mj_step, mj_newq, if_neg hx])
theorem q_newQ7 {i : Nat} {n : Int} (h : mj_ins k pc = some (.anewarray i, 3)) (hc : mj_cl (mj_mi k).1 i = some 8) : wp X d k pc ls ((0, n) :: st) M Q ↔ (0 ≤ n ∧ n ≤ 100000) ∧ wp X d k (pc + 3) ls ((7, (M.1 : Int) + 1) :: st) (mj_nw M 7 n (fun _ => 0)) Q := wp_ifg h rfl rfl (fun hx => by simp only [mj_step, mj_newq, if_pos hx, hc]) (fun hx => by simp only [mj_step, mj_newq, if_neg hx])
theorem q_oin {i j T : Nat} {x : Int} (hT : 20 ≤ T) (h : mj_ins k pc = some (.invokespecial i, 3)) (hc : mj_lk (mj_mi k).1 i = some (0, j)) : wp X d k pc ls ((T, x) :: st) M Q ↔ (x ≠ 0 ∧ mj_cs st ≤ 8) ∧ wp X d k (pc + 3) ls st M Q := wp_ifg h (by simp only [mj_call, hc]) rfl (fun hx => by
  simp only [mj_step, hc, mj_oin]
  exact if_pos ⟨hT, hx⟩) (fun hx => by
  simp only [mj_step, hc, mj_oin]
  exact if_neg (fun q => hx q.2))
theorem q_acp {i j : Nat} {n dp b sp a : Int} (h : mj_ins k pc = some (.invokestatic i, 3)) (hc : mj_lk (mj_mi k).1 i = some (4, j)) : wp X d k pc ls ((0, n) :: (0, dp) :: (3, b) :: (0, sp) :: (3, a) :: st) M Q ↔ (a ≠ 0 ∧ b ≠ 0 ∧ 0 ≤ n ∧ 0 ≤ dp ∧ 0 ≤ sp ∧ sp + n ≤ hl M a ∧ dp + n ≤ hl M b ∧ mj_cs st ≤ 8) ∧ wp X d k (pc + 3) ls st (mj_cp M a sp b dp n) Q := wp_ifg h (by simp only [mj_call, hc]) rfl (fun hx => by
  simp only [mj_step, hc, mj_acp]
  exact if_pos hx) (fun hx => by
  simp only [mj_step, hc, mj_acp]
  exact if_neg hx)
theorem q_cln {x : Int} (h : mj_ins k pc = some (.invokevirtual 316, 3)) (hk : (mj_mi k).1 = 16) : wp X d k pc ls ((3, x) :: st) M Q ↔ (x ≠ 0 ∧ mj_cs st ≤ 8) ∧ wp X d k (pc + 3) ls ((3, (M.1 : Int) + 1) :: st) (mj_nw M 3 (hl M x) (fun j => hh M x j)) Q := wp_ifg h (by rw [hk]; rfl) rfl (fun hx => by
  simp only [mj_step, hk, mj_cln]
  exact (if_pos ⟨trivial, trivial⟩).trans (if_pos hx)) (fun hx => by
  simp only [mj_step, hk, mj_cln]
  exact (if_pos ⟨trivial, trivial⟩).trans (if_neg hx))
theorem q_cast {x : Int} (h : mj_ins k pc = some (.checkcast 317, 3)) (hk : (mj_mi k).1 = 16) : wp X d k pc ls ((3, x) :: st) M Q ↔ x ≠ 0 ∧ wp X d k (pc + 3) ls ((3, x) :: st) M Q := wp_ifg h rfl rfl (fun hx => by
  simp only [mj_step, hk, mj_cast]
  exact if_pos ⟨trivial, trivial, hx⟩) (fun hx => by
  simp only [mj_step, hk, mj_cast]
  exact if_neg (fun q => hx q.2.2))
theorem q_gst {i w : Nat} {v : mj_V} (h : mj_ins k pc = some (.getstatic i, 3)) (hc : mj_st (mj_mi k).1 i = some w) (hv : (w = 0 ∧ v = (0, 1)) ∨ (w = 1 ∧ v = (8, 1)) ∨ (w = 2 ∧ v = (12, 0))) : wp X d k pc ls st M Q ↔ wp X d k (pc + 3) ls (v :: st) M Q := wp_go h rfl rfl (by
  rcases hv with ⟨rfl, rfl⟩ | ⟨rfl, rfl⟩ | ⟨rfl, rfl⟩ <;> simp only [mj_step, mj_gst, hc])
theorem q_xfV {i : Nat} {x : Int} (h : mj_ins k pc = some (.getfield i, 3)) (hf : mj_fl (mj_mi k).1 i = none) (hc : mj_xf (mj_mi k).1 i = some 0) : wp X d k pc ls ((10, x) :: st) M Q ↔ wp X d k (pc + 3) ls ((11, x) :: st) M Q := wp_go h rfl rfl (by simp only [mj_step, mj_get, hf, hc, if_true])
theorem q_xfC {i : Nat} {x : Int} (h : mj_ins k pc = some (.getfield i, 3)) (hf : mj_fl (mj_mi k).1 i = none) (hc : mj_xf (mj_mi k).1 i = some 1) : wp X d k pc ls ((10, x) :: st) M Q ↔ wp X d k (pc + 3) ls ((0, 0) :: st) M Q := wp_go h rfl rfl (by simp only [mj_step, mj_get, hf, hc, if_true])
theorem q_areturn {v w : mj_V} {T : Nat} (h : mj_ins k pc = some (.areturn, 1)) (hr : (mj_mi k).2.2.2.1 = 100 + T) (hT : 3 ≤ T) (hn : mj_nrm T v = some w) : wp X d k pc ls [v] M Q ↔ Q (some w) M := wp_ret h rfl (by
  simp only [mj_ret, hr]
  rw [if_neg (by omega), show 100 + T - 100 = T by omega, hn]
  rfl)
theorem q_creturn {x : Int} (h : mj_ins k pc = some (.ireturn, 1)) (hr : (mj_mi k).2.2.2.1 = 3) (hx : 0 ≤ x ∧ x < 65536) : wp X d k pc ls [(0, x)] M Q ↔ Q (some (0, x)) M := wp_ret h rfl (by simp [mj_ret, hr, hx])
theorem q_breturn {x : Int} (h : mj_ins k pc = some (.ireturn, 1)) (hr : (mj_mi k).2.2.2.1 = 5) (hx : -128 ≤ x ∧ x < 128) : wp X d k pc ls [(0, x)] M Q ↔ Q (some (0, x)) M := wp_ret h rfl (by simp [mj_ret, hr, hx])
/-- where a switch goes -/
def mj_sw (f : Nat → Prop) (x : Int) (dt : Nat) : List (Int × Nat) → Prop
  | [] => f dt
  | q :: r => if x = q.1 then f q.2 else mj_sw f x dt r
theorem mj_sw_none {f : Nat → Prop} {x : Int} {dt : Nat} : ∀ {l : List (Int × Nat)}, (∀ q ∈ l, x ≠ q.1) → mj_sw f x dt l = f dt
  | [], _ => rfl
  | q :: r, h => by
    unfold mj_sw
    rw [if_neg (h q List.mem_cons_self)]
    exact mj_sw_none (fun z hz => h z (List.mem_cons_of_mem _ hz))
theorem mj_sw_some {f : Nat → Prop} {x : Int} {dt t : Nat} : ∀ {l : List (Int × Nat)}, (∀ q ∈ l, x = q.1 → q.2 = t) → (∃ q ∈ l, x = q.1) → mj_sw f x dt l = f t
  | [], _, h => by obtain ⟨q, hq, _⟩ := h; cases hq
  | q :: r, h, h2 => by
    unfold mj_sw
    by_cases e : x = q.1
    · rw [if_pos e, h q List.mem_cons_self e]
    · rw [if_neg e]
      refine mj_sw_some (fun z hz => h z (List.mem_cons_of_mem _ hz)) ?_
      obtain ⟨z, hz, hz2⟩ := h2
      rcases List.mem_cons.mp hz with y | y
      · rw [y] at hz2; exact absurd hz2 e
      · exact ⟨z, y, hz2⟩
/-- the rows of a table switch: value and target -/
def mj_tswl (pc : Nat) (lo : Int) (offs : Array Int) : List (Int × Nat) := (List.range offs.size).map (fun i : Nat => (lo + (i : Int), ((pc : Int) + offs.getD i 0).toNat))
theorem q_tsw {df lo hi : Int} {offs : Array Int} {ln dt : Nat} {L : List (Int × Nat)} {x : Int} (h : mj_ins k pc = some (.tableswitch df lo hi offs, ln)) (hd : (pc : Int) + df = (dt : Int)) (hs : (offs.size : Int) = hi - lo + 1) (hp : (List.range offs.size).all (fun i => decide (0 ≤ (pc : Int) + offs.getD i 0)) = true) (hL : mj_tswl pc lo offs = L) : wp X d k pc ls ((0, x) :: st) M Q ↔ mj_sw (fun t => wp X d k t ls st M Q) x dt L := by
  subst hL
  by_cases hx : x < lo ∨ hi < x
  · rw [mj_sw_none (fun q hq => by
      obtain ⟨i, hi2, rfl⟩ := List.mem_map.mp hq
      have := List.mem_range.mp hi2
      omega)]
    exact wp_go h rfl rfl (by simp only [mj_step, mj_tsw, if_pos hx, mj_to, if_pos (mj_toN2 hd).1, (mj_toN2 hd).2])
  · have hlt : (x - lo).toNat < offs.size := by omega
    unfold mj_tswl
    rw [mj_sw_some (t := ((pc : Int) + offs.getD (x - lo).toNat 0).toNat) (fun q hq e => by
      obtain ⟨i, hi2, rfl⟩ := List.mem_map.mp hq
      rw [show (x - lo).toNat = i by omega]) ⟨_, List.mem_map.mpr ⟨(x - lo).toNat, List.mem_range.mpr hlt, rfl⟩, by omega⟩]
    have h0 := of_decide_eq_true (List.all_eq_true.mp hp (x - lo).toNat (List.mem_range.mpr hlt))
    have e : offs[(x - lo).toNat]? = some (offs.getD (x - lo).toNat 0) := by
      rw [Array.getElem?_eq_getElem hlt]
      simp [Array.getD, hlt]
    exact wp_go h rfl rfl (by simp only [mj_step, mj_tsw, if_neg hx, e, mj_to, if_pos h0])
end Ops
