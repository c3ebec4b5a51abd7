/-! LAWS: the reference weighs them -/
theorem stands2_app {f : Int → Int} {b : Int} {l1 l2 : List (Int × Int)} (h : stands2 f b (l1 ++ l2)) : stands2 f b l1 ∧ stands2 f (b + 2 * l1.length) l2 := by
  constructor
  · intro i hi
    have := h i (by rw [List.length_append]; omega)
    rw [gD_l hi] at this
    exact this
  · intro i hi
    have := h (l1.length + i) (by rw [List.length_append]; omega)
    rw [gD_r (by omega), show l1.length + i - l1.length = i by omega] at this
    rw [← this.1, ← this.2]
    exact ⟨by congr 1; omega, by congr 1; omega⟩
theorem stands2_cons {f : Int → Int} {b o v : Int} {l : List (Int × Int)} (h : stands2 f b ((o, v) :: l)) : f b = o ∧ f (b + 1) = v := by
  have := h 0 (by simp)
  simpa using this
/-- the cells y and z alone are changed -/
def Sk2 (y z : Int) (M M1 : mj_M) : Prop := (∀ x j, x ≠ y → x ≠ z → hh M1 x j = hh M x j) ∧ (∀ x, hl M1 x = hl M x) ∧ (M1.1 = M.1) ∧ (M1.2.1 = M.2.1)
theorem Sk2.h {y z : Int} {M M1 : mj_M} (h : Sk2 y z M M1) : ∀ x j, x ≠ y → x ≠ z → hh M1 x j = hh M x j := h.1
theorem Sk2.l {y z : Int} {M M1 : mj_M} (h : Sk2 y z M M1) : ∀ x, hl M1 x = hl M x := h.2.1
theorem Sk2.n {y z : Int} {M M1 : mj_M} (h : Sk2 y z M M1) : M1.1 = M.1 := h.2.2.1
theorem Sk2.s {y z : Int} {M M1 : mj_M} (h : Sk2 y z M M1) : M1.2.1 = M.2.1 := h.2.2.2
theorem Sk2.rfl' {y z : Int} {M : mj_M} : Sk2 y z M M := ⟨fun _ _ _ _ => rfl, fun _ => rfl, rfl, rfl⟩
theorem Sk2.wr {y z : Int} {M M1 : mj_M} {i v : Int} (h : Sk2 y z M M1) : Sk2 y z M (mj_wr M1 y i v) := ⟨fun x j hx hz => by rw [hh_wr, if_neg (fun q => hx q.1)]; exact h.h x j hx hz, h.l, h.n, h.s⟩
theorem Sk2.wz {y z : Int} {M M1 : mj_M} {i v : Int} (h : Sk2 y z M M1) : Sk2 y z M (mj_wr M1 z i v) := ⟨fun x j hx hz => by rw [hh_wr, if_neg (fun q => hz q.1)]; exact h.h x j hx hz, h.l, h.n, h.s⟩
theorem Sk2.fz {y z : Int} {M M1 : mj_M} {zs : List Nat} (h : Sk2 y z M M1) (hy : ∀ j, zone y j ∈ zs) (hz : ∀ j, zone z j ∈ zs) : fz zs M M1 := ⟨fun x j hx => h.h x j (fun e => by subst e; exact hx (hy j)) (fun e => by subst e; exact hx (hz j)), h.l, h.n, h.s⟩
theorem cmp_lt {x y : Int} (hx : mj_in64 x) (hy : mj_in64 y) : (jl_cmp x y < 0) = (x < y) := by
  rw [jl_cmp_eq hx hy]; apply propext; repeat' split
  all_goals omega
theorem cmp_le {x y : Int} (hx : mj_in64 x) (hy : mj_in64 y) : (jl_cmp x y ≤ 0) = (x ≤ y) := by
  rw [jl_cmp_eq hx hy]; apply propext; repeat' split
  all_goals omega
theorem cmp_eq {x y : Int} (hx : mj_in64 x) (hy : mj_in64 y) : (jl_cmp x y = 0) = (x = y) := by
  rw [jl_cmp_eq hx hy]; apply propext; repeat' split
  all_goals omega
theorem n64 {x : Int} (h : -1000000000000 ≤ x ∧ x ≤ 1000000000000) : mj_in64 x := ⟨by omega, by omega⟩
section Summed
variable {X : mj_X} {d : Nat} {M : mj_M} {Q : Option mj_V → mj_M → Prop} {tx cz x cd n tr i : Int} {w1 w2 : mj_V}
theorem m_clip {v : Int} (hv : -1000000000000 ≤ v ∧ v ≤ 1000000000000) : wc X d 273 [(1, v)] M Q ↔ Q (some (1, clp v)) M := by
  show wp X d 273 0 [(1, v), (9, 0)] [] M Q ↔ _
  simp only [w273_0, w273_1, w273_4, w273_5, w273_8, w273_11, w273_14, w273_15, w273_18, w273_19, w273_22, w273_25, w273_28, w273_29, cmp_le (n64 hv) (n64 (x := 1000000) (by decide)), cmp_lt (n64 hv) (n64 (x := -1000000) (by decide)), ite_q, ↓reduceIte, hh_wr, hl_wr, b10, b11, ite_not, ne_eq, Int.reduceEq, Int.reduceLE, Int.reduceLT, Int.reduceNe, Int.reduceNeg, Int.reduceAdd, Int.reduceSub, Int.reduceMul, not_false_eq_true, not_true_eq_false, false_and, and_false, true_and, and_true, and_self, true_or, or_true, false_or, or_false, if_true, if_false, ite_true, ite_false, mj_tl_some, mj_tl_none, mj_cs0, mj_cs1, mj_cs2, mj_cs3, mj_cs4]
  refine qe ?_
  unfold clp
  repeat' split
  all_goals first | rfl | omega
theorem m_two {o : Nat} {a b : Int} (ho : o < 4) (ha : -1000000 ≤ a ∧ a ≤ 1000000) (hb : -1000000 ≤ b ∧ b ≤ 1000000) : wc X (d + 1) 272 [(0, rk2 o), (1, a), (1, b)] M Q ↔ Q (some (1, v2 o a b)) M := by
  show wp X (d + 1) 272 0 [(0, rk2 o), (1, a), (9, 0), (1, b), (9, 0)] [] M Q ↔ _
  have hmul : -1000000000000 ≤ a * b ∧ a * b ≤ 1000000000000 := by
    have n1 : (a * b).natAbs = a.natAbs * b.natAbs := Int.natAbs_mul a b
    have n2 : a.natAbs * b.natAbs ≤ 1000000 * 1000000 := Nat.mul_le_mul (by omega) (by omega)
    omega
  have td := tdiv_r (y := b) ha
  have p1 : jl_add a b = a + b := jl_add_eq ⟨by omega, by omega⟩
  have p2 : jl_sub a b = a - b := jl_sub_eq ⟨by omega, by omega⟩
  have p3 : jl_mul a b = a * b := jl_mul_eq ⟨by omega, by omega⟩
  have p4 : jl_div a b = a.tdiv b := jl_div_eq ⟨by omega, by omega⟩ ⟨by omega, by omega⟩ (by omega)
  rcases (show o = 0 ∨ o = 1 ∨ o = 2 ∨ o = 3 by omega) with rfl | rfl | rfl | rfl
  all_goals simp only [rk2, List.getD_cons_zero, List.getD_cons_succ]
  · simp only [w272_0, w272_1, w272_28, w272_29, w272_30, w272_31, w272_34, w272_35, w272_36, w272_37, w272_38, w272_41, w272_42, w272_43, w272_44, w272_45, w272_48, w272_49, w272_50, w272_51, w272_52, w272_55, w272_56, w272_59, w272_60, w272_61, w272_62, w272_65, p1, m_clip (v := a + b) ⟨by omega, by omega⟩, v2, ↓reduceIte, hh_wr, hl_wr, b10, b11, ite_not, ne_eq, Int.reduceEq, Int.reduceLE, Int.reduceLT, Int.reduceNe, Int.reduceNeg, Int.reduceAdd, Int.reduceSub, Int.reduceMul, not_false_eq_true, not_true_eq_false, false_and, and_false, true_and, and_true, and_self, true_or, or_true, false_or, or_false, if_true, if_false, ite_true, ite_false, mj_tl_some, mj_tl_none, mj_cs0, mj_cs1, mj_cs2, mj_cs3, mj_cs4]
  · simp only [w272_0, w272_1, w272_28, w272_29, w272_30, w272_31, w272_34, w272_35, w272_36, w272_37, w272_38, w272_41, w272_42, w272_43, w272_44, w272_45, w272_48, w272_49, w272_50, w272_51, w272_52, w272_55, w272_56, w272_59, w272_60, w272_61, w272_62, w272_65, p2, m_clip (v := a - b) ⟨by omega, by omega⟩, v2, Nat.reduceEqDiff, ↓reduceIte, hh_wr, hl_wr, b10, b11, ite_not, ne_eq, Int.reduceEq, Int.reduceLE, Int.reduceLT, Int.reduceNe, Int.reduceNeg, Int.reduceAdd, Int.reduceSub, Int.reduceMul, not_false_eq_true, not_true_eq_false, false_and, and_false, true_and, and_true, and_self, true_or, or_true, false_or, or_false, if_true, if_false, ite_true, ite_false, mj_tl_some, mj_tl_none, mj_cs0, mj_cs1, mj_cs2, mj_cs3, mj_cs4]
  · simp only [w272_0, w272_1, w272_28, w272_29, w272_30, w272_31, w272_34, w272_35, w272_36, w272_37, w272_38, w272_41, w272_42, w272_43, w272_44, w272_45, w272_48, w272_49, w272_50, w272_51, w272_52, w272_55, w272_56, w272_59, w272_60, w272_61, w272_62, w272_65, p3, m_clip (v := a * b) hmul, v2, Nat.reduceEqDiff, ↓reduceIte, hh_wr, hl_wr, b10, b11, ite_not, ne_eq, Int.reduceEq, Int.reduceLE, Int.reduceLT, Int.reduceNe, Int.reduceNeg, Int.reduceAdd, Int.reduceSub, Int.reduceMul, not_false_eq_true, not_true_eq_false, false_and, and_false, true_and, and_true, and_self, true_or, or_true, false_or, or_false, if_true, if_false, ite_true, ite_false, mj_tl_some, mj_tl_none, mj_cs0, mj_cs1, mj_cs2, mj_cs3, mj_cs4]
  · by_cases hz : b = 0
    · simp only [w272_0, w272_1, w272_28, w272_29, w272_30, w272_31, w272_34, w272_35, w272_36, w272_37, w272_38, w272_41, w272_42, w272_43, w272_44, w272_45, w272_48, w272_49, w272_50, w272_51, w272_52, w272_55, w272_56, w272_59, w272_60, w272_61, w272_62, w272_65, cmp_eq (n64 (x := b) ⟨by omega, by omega⟩) (n64 (x := 0) (by decide)), hz, v2, Nat.reduceEqDiff, show jl_cmp 0 0 = 0 by decide, ↓reduceIte, hh_wr, hl_wr, b10, b11, ite_not, ne_eq, Int.reduceEq, Int.reduceLE, Int.reduceLT, Int.reduceNe, Int.reduceNeg, Int.reduceAdd, Int.reduceSub, Int.reduceMul, not_false_eq_true, not_true_eq_false, false_and, and_false, true_and, and_true, and_self, true_or, or_true, false_or, or_false, if_true, if_false, ite_true, ite_false, mj_tl_some, mj_tl_none, mj_cs0, mj_cs1, mj_cs2, mj_cs3, mj_cs4]
    · simp only [w272_0, w272_1, w272_28, w272_29, w272_30, w272_31, w272_34, w272_35, w272_36, w272_37, w272_38, w272_41, w272_42, w272_43, w272_44, w272_45, w272_48, w272_49, w272_50, w272_51, w272_52, w272_55, w272_56, w272_59, w272_60, w272_61, w272_62, w272_65, cmp_eq (n64 (x := b) ⟨by omega, by omega⟩) (n64 (x := 0) (by decide)), hz, p4, m_clip (v := a.tdiv b) ⟨by omega, by omega⟩, clp_id td, v2, Nat.reduceEqDiff, ↓reduceIte, hh_wr, hl_wr, b10, b11, ite_not, ne_eq, Int.reduceEq, Int.reduceLE, Int.reduceLT, Int.reduceNe, Int.reduceNeg, Int.reduceAdd, Int.reduceSub, Int.reduceMul, not_false_eq_true, not_true_eq_false, false_and, and_false, true_and, and_true, and_self, true_or, or_true, false_or, or_false, if_true, if_false, ite_true, ite_false, mj_tl_some, mj_tl_none, mj_cs0, mj_cs1, mj_cs2, mj_cs3, mj_cs4]
theorem m_isAsked {o : Nat} {a b : Int} (ho : 4 ≤ o ∧ o < 10) (ha : -1000000 ≤ a ∧ a ≤ 1000000) (hb : -1000000 ≤ b ∧ b ≤ 1000000) : wc X d 274 [(0, rk2 o), (1, a), (1, b)] M Q ↔ Q (some (0, v2 o a b)) M := by
  show wp X d 274 0 [(0, rk2 o), (1, a), (9, 0), (1, b), (9, 0)] [] M Q ↔ _
  have c1 := cmp_lt (n64 (x := a) ⟨by omega, by omega⟩) (n64 (x := b) ⟨by omega, by omega⟩)
  have c2 := cmp_le (n64 (x := a) ⟨by omega, by omega⟩) (n64 (x := b) ⟨by omega, by omega⟩)
  have c3 := cmp_eq (n64 (x := a) ⟨by omega, by omega⟩) (n64 (x := b) ⟨by omega, by omega⟩)
  rcases (show o = 4 ∨ o = 5 ∨ o = 6 ∨ o = 7 ∨ o = 8 ∨ o = 9 by omega) with rfl | rfl | rfl | rfl | rfl | rfl
  all_goals simp only [rk2, List.getD_cons_zero, List.getD_cons_succ]
  all_goals simp only [w274_0, w274_1, w274_3, w274_6, w274_7, w274_8, w274_9, w274_12, w274_13, w274_16, w274_17, w274_20, w274_21, w274_23, w274_26, w274_27, w274_28, w274_29, w274_32, w274_33, w274_36, w274_37, w274_40, w274_41, w274_43, w274_46, w274_47, w274_48, w274_49, w274_52, w274_53, w274_56, w274_57, w274_60, w274_61, w274_63, w274_66, w274_67, w274_68, w274_69, w274_72, w274_73, w274_76, w274_77, w274_80, w274_81, w274_83, w274_86, w274_87, w274_88, w274_89, w274_92, w274_93, w274_96, w274_97, w274_100, w274_101, w274_102, w274_103, w274_106, w274_107, w274_110, w274_111_i, w274_111_0, w274_111_1, c1, c2, c3, v2, b2, Nat.reduceEqDiff, ite_q, ↓reduceIte, hh_wr, hl_wr, b10, b11, ite_not, ne_eq, Int.reduceEq, Int.reduceLE, Int.reduceLT, Int.reduceNe, Int.reduceNeg, Int.reduceAdd, Int.reduceSub, Int.reduceMul, not_false_eq_true, not_true_eq_false, false_and, and_false, true_and, and_true, and_self, true_or, or_true, false_or, or_false, if_true, if_false, ite_true, ite_false, mj_tl_some, mj_tl_none, mj_cs0, mj_cs1, mj_cs2, mj_cs3, mj_cs4]
  all_goals refine qe ?_
  all_goals (repeat' split)
  all_goals first | rfl | omega
theorem m_joined {o : Nat} {a b : Int} (ho : o = 10 ∨ o = 11) (ha : a = 0 ∨ a = 1) (hb : b = 0 ∨ b = 1) : wc X d 275 [(0, rk2 o), (0, a), (0, b)] M Q ↔ Q (some (0, v2 o a b)) M := by
  show wp X d 275 0 [(0, rk2 o), (0, a), (0, b)] [] M Q ↔ _
  rcases ho with rfl | rfl
  all_goals simp only [rk2, List.getD_cons_zero, List.getD_cons_succ]
  all_goals (rcases ha with rfl | rfl <;> rcases hb with rfl | rfl <;> simp only [w275_0, w275_1, w275_3, w275_6, w275_7, w275_10, w275_11, w275_14, w275_15, w275_18, w275_19, w275_22, w275_23, w275_26, w275_27, w275_30, w275_31, w275_34, w275_35_i, w275_35_0, w275_35_1, v2, b2, Nat.reduceEqDiff, ↓reduceIte, hh_wr, hl_wr, b10, b11, ite_not, ne_eq, Int.reduceEq, Int.reduceLE, Int.reduceLT, Int.reduceNe, Int.reduceNeg, Int.reduceAdd, Int.reduceSub, Int.reduceMul, not_false_eq_true, not_true_eq_false, false_and, and_false, true_and, and_true, and_self, true_or, or_true, false_or, or_false, if_true, if_false, ite_true, ite_false, mj_tl_some, mj_tl_none, mj_cs0, mj_cs1, mj_cs2, mj_cs3, mj_cs4])
theorem m_halfOf {E : Env} {a : Int} (ha : -1000000 ≤ a ∧ a ≤ 1000000) : wc X d 269 [(1, a)] M Q ↔ Q (some (1, v1 0 E a)) M := by
  show wp X d 269 0 [(1, a), (9, 0)] [] M Q ↔ _
  have p1 : jl_add a 1 = a + 1 := jl_add_eq ⟨by omega, by omega⟩
  have p2 : jl_sub a 1 = a - 1 := jl_sub_eq ⟨by omega, by omega⟩
  have p3 : jl_div (a + 1) 2 = (a + 1).tdiv 2 := jl_div_eq ⟨by omega, by omega⟩ ⟨by decide, by decide⟩ (by omega)
  have p4 : jl_div (a - 1) 2 = (a - 1).tdiv 2 := jl_div_eq ⟨by omega, by omega⟩ ⟨by decide, by decide⟩ (by omega)
  simp only [w269_0, w269_1, w269_2, w269_3, w269_6, w269_7, w269_8, w269_9, w269_12, w269_13, w269_16, w269_17, w269_18, w269_19, w269_22, w269_23, cmp_lt (n64 (x := a) ⟨by omega, by omega⟩) (n64 (x := 0) (by decide)), p1, p2, p3, p4, ite_q, v1, ↓reduceIte, hh_wr, hl_wr, b10, b11, ite_not, ne_eq, Int.reduceEq, Int.reduceLE, Int.reduceLT, Int.reduceNe, Int.reduceNeg, Int.reduceAdd, Int.reduceSub, Int.reduceMul, not_false_eq_true, not_true_eq_false, false_and, and_false, true_and, and_true, and_self, true_or, or_true, false_or, or_false, if_true, if_false, ite_true, ite_false, mj_tl_some, mj_tl_none, mj_cs0, mj_cs1, mj_cs2, mj_cs3, mj_cs4]
  refine qe ?_
  by_cases hn : a < 0
  · rw [if_pos hn, if_pos hn]
    have q1 : (a - 1).tdiv 2 = -((-(a - 1)) / 2) := by
      rw [← Int.neg_neg (a - 1), Int.neg_tdiv, Int.tdiv_eq_ediv_of_nonneg (by omega)]
      simp
    rw [q1, show -(a - 1) = 1 - a by omega]
  · rw [if_neg hn, if_neg hn, Int.tdiv_eq_ediv_of_nonneg (by omega)]
/-- a bit above all is not there -/
theorem bit_hi {v f F : Int} (hv : 0 ≤ v ∧ v < pw F) (hF : 0 ≤ F) (hf : F ≤ f ∧ f < 8) : ¬ ji_and (ji_shr v f) 1 = 1 := by
  obtain ⟨k, rfl⟩ := nat_of (show 0 ≤ f by omega)
  obtain ⟨g, rfl⟩ := nat_of hF
  have hp := pw_le (show (g : Int) ≤ (k : Int) by omega)
  have e : pw (k : Int) = ((2 ^ k : Nat) : Int) := by unfold pw; simp
  have h8 := pw8 (show (k : Int) ≤ 8 by omega)
  rw [ji_shr_eq ⟨by omega, by omega⟩ (by omega), Int.shiftRight_eq_div_pow, Int.ediv_eq_zero_of_lt hv.1 (by rw [← e]; omega)]
  decide
/-- what the reference knows of the moment it asks at -/
def SE (M : mj_M) (p f : Int) : Prop := (CS M) ∧ (MI (hh M 355 0) (mn (hh M 355))) ∧ (0 ≤ hh M 355 0) ∧ (hh M 355 0 ≤ 8) ∧ (0 ≤ p ∧ p < hh M 355 1) ∧ (0 ≤ f ∧ f < 8) ∧ (0 ≤ hh M 355 (41 + 2 * f) ∧ hh M 355 (41 + 2 * f) ≤ 4) ∧ (0 ≤ hh M 355 (42 + 2 * f) ∧ hh M 355 (42 + 2 * f) ≤ 9) ∧ (∀ k : Nat, k < 8 → hh M 365 (k : Int) = (envA (hh M 355) (mn (hh M 355)) p f).1 k)
theorem SE.cs {M : mj_M} {p f : Int} (h : SE M p f) : CS M := h.1
theorem SE.ai {M : mj_M} {p f : Int} (h : SE M p f) : MI (hh M 355 0) (mn (hh M 355)) := h.2.1
theorem SE.F0 {M : mj_M} {p f : Int} (h : SE M p f) : 0 ≤ hh M 355 0 := h.2.2.1
theorem SE.F8 {M : mj_M} {p f : Int} (h : SE M p f) : hh M 355 0 ≤ 8 := h.2.2.2.1
theorem SE.hp {M : mj_M} {p f : Int} (h : SE M p f) : 0 ≤ p ∧ p < hh M 355 1 := h.2.2.2.2.1
theorem SE.hf {M : mj_M} {p f : Int} (h : SE M p f) : 0 ≤ f ∧ f < 8 := h.2.2.2.2.2.1
theorem SE.kr {M : mj_M} {p f : Int} (h : SE M p f) : 0 ≤ hh M 355 (41 + 2 * f) ∧ hh M 355 (41 + 2 * f) ≤ 4 := h.2.2.2.2.2.2.1
theorem SE.lr {M : mj_M} {p f : Int} (h : SE M p f) : 0 ≤ hh M 355 (42 + 2 * f) ∧ hh M 355 (42 + 2 * f) ≤ 9 := h.2.2.2.2.2.2.2.1
theorem SE.nm {M : mj_M} {p f : Int} (h : SE M p f) : ∀ k : Nat, k < 8 → hh M 365 (k : Int) = (envA (hh M 355) (mn (hh M 355)) p f).1 k := h.2.2.2.2.2.2.2.2
theorem SE.keep {M1 : mj_M} {p f : Int} (h : SE M p f) (s : Sk2 366 367 M M1) : SE M1 p f := by
  have e5 : hh M1 355 = hh M 355 := funext fun j => s.h 355 j (by decide) (by decide)
  have f := s.fz (zs := [8]) (fun j => by rw [show zone 366 j = 8 from rfl]; decide) (fun j => by rw [show zone 367 j = 8 from rfl]; decide)
  exact ⟨h.cs.fz f (by decide), by rw [e5]; exact h.ai, by rw [e5]; exact h.F0, by rw [e5]; exact h.F8, by rw [e5]; exact h.hp, h.hf, by rw [e5]; exact h.kr, by rw [e5]; exact h.lr, fun k hk => by rw [e5, s.h 365 _ (by decide) (by decide)]; exact h.nm k hk⟩
theorem m_knownOf {p f a : Int} (h : SE M p f) (ha : -1000000 ≤ a ∧ a ≤ 1000000) : wc X (d + 2) 270 [(32, 354), (1, a)] M Q ↔ Q (some (1, v1 2 (envA (hh M 355) (mn (hh M 355)) p f) a)) M := by
  show wp X (d + 2) 270 0 [(32, 354), (1, a), (9, 0)] [] M Q ↔ _
  have F8 := h.F8
  have F0 := h.F0
  obtain ⟨P, hP⟩ := nat_of h.ai.p0
  have hP' : hh M 355 1 = (P : Int) := hP
  have p6 : (mn (hh M 355)).P ≤ 6 := h.ai.p6
  have c1 := cmp_lt (n64 (x := a) ⟨by omega, by omega⟩) (n64 (x := 0) (by decide))
  have c2 := cmp_lt (n64 (x := a) ⟨by omega, by omega⟩) (n64 (x := hh M 355 0) ⟨by omega, by omega⟩)
  have e1 : v1 2 (envA (hh M 355) (mn (hh M 355)) p f) a = if 0 ≤ a ∧ a < 8 then pcI (kwm (mn (hh M 355)) a : Int) else 0 := rfl
  rw [e1]
  have l1 : ji_2l (hh M 355 0) = hh M 355 0 := ji_2l_eq ⟨by omega, by omega⟩
  have l2 : jl_2i a = a := jl_2i_eq ⟨by omega, by omega⟩
  have hlt := kwm_lt h.ai a
  have k1 : ∀ Q, (wc X (d + 1) 271 [(32, 354), (0, a)] M Q ↔ Q (some (0, (kwm (mn (hh M 355)) a : Int))) M) := by
    intro Q
    rw [s_knownBy (by decide) (c_354_0 h.cs) (by decide) (l_355 h.cs) hP' (by omega), kb_bt (by omega)]
    refine qe ?_
    unfold kwm
    rw [hP]
    simp only [Int.toNat_natCast]
    rfl
  have b1 := fun Q => m_bits (X := X) (d := d + 1) (M := M) (Q := Q) (v := (kwm (mn (hh M 355)) a : Int)) ⟨by omega, by omega⟩
  have c0 := pc_0 (v := (kwm (mn (hh M 355)) a : Int)) ⟨by omega, by omega⟩
  have c8 := pc_8 (v := (kwm (mn (hh M 355)) a : Int)) ⟨by omega, by omega⟩
  have l3 : ji_2l (pcI (kwm (mn (hh M 355)) a : Int)) = pcI (kwm (mn (hh M 355)) a : Int) := ji_2l_eq ⟨by omega, by omega⟩
  by_cases h0 : a < 0
  · simp only [w270_0, w270_1, w270_2, w270_3, w270_6, w270_7, w270_8, w270_11, w270_12, w270_13, w270_14, w270_15, w270_18, w270_19, w270_20, w270_21, w270_24, w270_27, w270_28, w270_31, w270_32, c_1_0 h.cs, c_1_1 h.cs, c_1_2 h.cs, c_1_3 h.cs, c_1_4 h.cs, c_1_5 h.cs, c_1_6 h.cs, c_1_7 h.cs, c_1_8 h.cs, c_2_0 h.cs, c_2_1 h.cs, c_5_0 h.cs, c_5_1 h.cs, c_5_2 h.cs, c_5_3 h.cs, c_5_5 h.cs, c_5_8 h.cs, c_5_11 h.cs, c_6_1 h.cs, c_6_2 h.cs, c_6_3 h.cs, c_10_4 h.cs, c_10_5 h.cs, c_10_6 h.cs, c_10_7 h.cs, c_15_1 h.cs, c_17_1 h.cs, c_339_0 h.cs, c_341_0 h.cs, c_341_1 h.cs, c_341_2 h.cs, c_342_4 h.cs, c_342_5 h.cs, c_342_6 h.cs, c_342_7 h.cs, c_347_0 h.cs, c_347_2 h.cs, c_347_3 h.cs, c_349_0 h.cs, c_349_1 h.cs, c_349_2 h.cs, c_351_2 h.cs, c_351_10 h.cs, c_351_12 h.cs, c_354_0 h.cs, c_354_1 h.cs, c_354_2 h.cs, c_354_3 h.cs, c_354_4 h.cs, c_354_5 h.cs, c_354_6 h.cs, c_354_7 h.cs, c_354_8 h.cs, c_354_20 h.cs, c_354_25 h.cs, c_354_26 h.cs, c_354_27 h.cs, c_354_28 h.cs, c_354_32 h.cs, c_354_33 h.cs, c_354_34 h.cs, c_354_35 h.cs, c_354_38 h.cs, l_3 h.cs, l_4 h.cs, l_7 h.cs, l_8 h.cs, l_9 h.cs, l_11 h.cs, l_12 h.cs, l_13 h.cs, l_14 h.cs, l_16 h.cs, l_18 h.cs, l_19 h.cs, l_20 h.cs, l_21 h.cs, l_340 h.cs, l_343 h.cs, l_344 h.cs, l_345 h.cs, l_346 h.cs, l_348 h.cs, l_350 h.cs, l_352 h.cs, l_353 h.cs, l_355 h.cs, l_356 h.cs, l_357 h.cs, l_358 h.cs, l_359 h.cs, l_360 h.cs, l_361 h.cs, l_362 h.cs, l_363 h.cs, l_364 h.cs, l_365 h.cs, l_366 h.cs, l_367 h.cs, l_368 h.cs, l_369 h.cs, l_370 h.cs, l_371 h.cs, l_372 h.cs, l_373 h.cs, c1, h0, show ¬ (0 ≤ a ∧ a < 8) by omega, ↓reduceIte, hh_wr, hl_wr, b10, b11, ite_not, ne_eq, Int.reduceEq, Int.reduceLE, Int.reduceLT, Int.reduceNe, Int.reduceNeg, Int.reduceAdd, Int.reduceSub, Int.reduceMul, not_false_eq_true, not_true_eq_false, false_and, and_false, true_and, and_true, and_self, true_or, or_true, false_or, or_false, if_true, if_false, ite_true, ite_false, mj_tl_some, mj_tl_none, mj_cs0, mj_cs1, mj_cs2, mj_cs3, mj_cs4]
  · by_cases hF : a < hh M 355 0
    · simp only [w270_0, w270_1, w270_2, w270_3, w270_6, w270_7, w270_8, w270_11, w270_12, w270_13, w270_14, w270_15, w270_18, w270_19, w270_20, w270_21, w270_24, w270_27, w270_28, w270_31, w270_32, c_1_0 h.cs, c_1_1 h.cs, c_1_2 h.cs, c_1_3 h.cs, c_1_4 h.cs, c_1_5 h.cs, c_1_6 h.cs, c_1_7 h.cs, c_1_8 h.cs, c_2_0 h.cs, c_2_1 h.cs, c_5_0 h.cs, c_5_1 h.cs, c_5_2 h.cs, c_5_3 h.cs, c_5_5 h.cs, c_5_8 h.cs, c_5_11 h.cs, c_6_1 h.cs, c_6_2 h.cs, c_6_3 h.cs, c_10_4 h.cs, c_10_5 h.cs, c_10_6 h.cs, c_10_7 h.cs, c_15_1 h.cs, c_17_1 h.cs, c_339_0 h.cs, c_341_0 h.cs, c_341_1 h.cs, c_341_2 h.cs, c_342_4 h.cs, c_342_5 h.cs, c_342_6 h.cs, c_342_7 h.cs, c_347_0 h.cs, c_347_2 h.cs, c_347_3 h.cs, c_349_0 h.cs, c_349_1 h.cs, c_349_2 h.cs, c_351_2 h.cs, c_351_10 h.cs, c_351_12 h.cs, c_354_0 h.cs, c_354_1 h.cs, c_354_2 h.cs, c_354_3 h.cs, c_354_4 h.cs, c_354_5 h.cs, c_354_6 h.cs, c_354_7 h.cs, c_354_8 h.cs, c_354_20 h.cs, c_354_25 h.cs, c_354_26 h.cs, c_354_27 h.cs, c_354_28 h.cs, c_354_32 h.cs, c_354_33 h.cs, c_354_34 h.cs, c_354_35 h.cs, c_354_38 h.cs, l_3 h.cs, l_4 h.cs, l_7 h.cs, l_8 h.cs, l_9 h.cs, l_11 h.cs, l_12 h.cs, l_13 h.cs, l_14 h.cs, l_16 h.cs, l_18 h.cs, l_19 h.cs, l_20 h.cs, l_21 h.cs, l_340 h.cs, l_343 h.cs, l_344 h.cs, l_345 h.cs, l_346 h.cs, l_348 h.cs, l_350 h.cs, l_352 h.cs, l_353 h.cs, l_355 h.cs, l_356 h.cs, l_357 h.cs, l_358 h.cs, l_359 h.cs, l_360 h.cs, l_361 h.cs, l_362 h.cs, l_363 h.cs, l_364 h.cs, l_365 h.cs, l_366 h.cs, l_367 h.cs, l_368 h.cs, l_369 h.cs, l_370 h.cs, l_371 h.cs, l_372 h.cs, l_373 h.cs, c1, c2, l1, l2, l3, k1, b1, h0, hF, show (0 ≤ a ∧ a < 8) by omega, ↓reduceIte, hh_wr, hl_wr, b10, b11, ite_not, ne_eq, Int.reduceEq, Int.reduceLE, Int.reduceLT, Int.reduceNe, Int.reduceNeg, Int.reduceAdd, Int.reduceSub, Int.reduceMul, not_false_eq_true, not_true_eq_false, false_and, and_false, true_and, and_true, and_self, true_or, or_true, false_or, or_false, if_true, if_false, ite_true, ite_false, mj_tl_some, mj_tl_none, mj_cs0, mj_cs1, mj_cs2, mj_cs3, mj_cs4]
    · by_cases h8 : a < 8
      · have ez : kwm (mn (hh M 355)) a = 0 := by
          unfold kwm
          refine bt_0.mpr (fun q hq => ?_)
          have kk := h.ai.k (q : Int) (by omega) (by omega)
          exact decide_eq_false (bit_hi kk F0 ⟨by omega, h8⟩)
        simp only [w270_0, w270_1, w270_2, w270_3, w270_6, w270_7, w270_8, w270_11, w270_12, w270_13, w270_14, w270_15, w270_18, w270_19, w270_20, w270_21, w270_24, w270_27, w270_28, w270_31, w270_32, c_1_0 h.cs, c_1_1 h.cs, c_1_2 h.cs, c_1_3 h.cs, c_1_4 h.cs, c_1_5 h.cs, c_1_6 h.cs, c_1_7 h.cs, c_1_8 h.cs, c_2_0 h.cs, c_2_1 h.cs, c_5_0 h.cs, c_5_1 h.cs, c_5_2 h.cs, c_5_3 h.cs, c_5_5 h.cs, c_5_8 h.cs, c_5_11 h.cs, c_6_1 h.cs, c_6_2 h.cs, c_6_3 h.cs, c_10_4 h.cs, c_10_5 h.cs, c_10_6 h.cs, c_10_7 h.cs, c_15_1 h.cs, c_17_1 h.cs, c_339_0 h.cs, c_341_0 h.cs, c_341_1 h.cs, c_341_2 h.cs, c_342_4 h.cs, c_342_5 h.cs, c_342_6 h.cs, c_342_7 h.cs, c_347_0 h.cs, c_347_2 h.cs, c_347_3 h.cs, c_349_0 h.cs, c_349_1 h.cs, c_349_2 h.cs, c_351_2 h.cs, c_351_10 h.cs, c_351_12 h.cs, c_354_0 h.cs, c_354_1 h.cs, c_354_2 h.cs, c_354_3 h.cs, c_354_4 h.cs, c_354_5 h.cs, c_354_6 h.cs, c_354_7 h.cs, c_354_8 h.cs, c_354_20 h.cs, c_354_25 h.cs, c_354_26 h.cs, c_354_27 h.cs, c_354_28 h.cs, c_354_32 h.cs, c_354_33 h.cs, c_354_34 h.cs, c_354_35 h.cs, c_354_38 h.cs, l_3 h.cs, l_4 h.cs, l_7 h.cs, l_8 h.cs, l_9 h.cs, l_11 h.cs, l_12 h.cs, l_13 h.cs, l_14 h.cs, l_16 h.cs, l_18 h.cs, l_19 h.cs, l_20 h.cs, l_21 h.cs, l_340 h.cs, l_343 h.cs, l_344 h.cs, l_345 h.cs, l_346 h.cs, l_348 h.cs, l_350 h.cs, l_352 h.cs, l_353 h.cs, l_355 h.cs, l_356 h.cs, l_357 h.cs, l_358 h.cs, l_359 h.cs, l_360 h.cs, l_361 h.cs, l_362 h.cs, l_363 h.cs, l_364 h.cs, l_365 h.cs, l_366 h.cs, l_367 h.cs, l_368 h.cs, l_369 h.cs, l_370 h.cs, l_371 h.cs, l_372 h.cs, l_373 h.cs, c1, c2, l1, h0, hF, show (0 ≤ a ∧ a < 8) by omega, ez, ct0, show pcI 0 = 0 by decide, ↓reduceIte, hh_wr, hl_wr, b10, b11, ite_not, ne_eq, Int.reduceEq, Int.reduceLE, Int.reduceLT, Int.reduceNe, Int.reduceNeg, Int.reduceAdd, Int.reduceSub, Int.reduceMul, not_false_eq_true, not_true_eq_false, false_and, and_false, true_and, and_true, and_self, true_or, or_true, false_or, or_false, if_true, if_false, ite_true, ite_false, mj_tl_some, mj_tl_none, mj_cs0, mj_cs1, mj_cs2, mj_cs3, mj_cs4]
      · simp only [w270_0, w270_1, w270_2, w270_3, w270_6, w270_7, w270_8, w270_11, w270_12, w270_13, w270_14, w270_15, w270_18, w270_19, w270_20, w270_21, w270_24, w270_27, w270_28, w270_31, w270_32, c_1_0 h.cs, c_1_1 h.cs, c_1_2 h.cs, c_1_3 h.cs, c_1_4 h.cs, c_1_5 h.cs, c_1_6 h.cs, c_1_7 h.cs, c_1_8 h.cs, c_2_0 h.cs, c_2_1 h.cs, c_5_0 h.cs, c_5_1 h.cs, c_5_2 h.cs, c_5_3 h.cs, c_5_5 h.cs, c_5_8 h.cs, c_5_11 h.cs, c_6_1 h.cs, c_6_2 h.cs, c_6_3 h.cs, c_10_4 h.cs, c_10_5 h.cs, c_10_6 h.cs, c_10_7 h.cs, c_15_1 h.cs, c_17_1 h.cs, c_339_0 h.cs, c_341_0 h.cs, c_341_1 h.cs, c_341_2 h.cs, c_342_4 h.cs, c_342_5 h.cs, c_342_6 h.cs, c_342_7 h.cs, c_347_0 h.cs, c_347_2 h.cs, c_347_3 h.cs, c_349_0 h.cs, c_349_1 h.cs, c_349_2 h.cs, c_351_2 h.cs, c_351_10 h.cs, c_351_12 h.cs, c_354_0 h.cs, c_354_1 h.cs, c_354_2 h.cs, c_354_3 h.cs, c_354_4 h.cs, c_354_5 h.cs, c_354_6 h.cs, c_354_7 h.cs, c_354_8 h.cs, c_354_20 h.cs, c_354_25 h.cs, c_354_26 h.cs, c_354_27 h.cs, c_354_28 h.cs, c_354_32 h.cs, c_354_33 h.cs, c_354_34 h.cs, c_354_35 h.cs, c_354_38 h.cs, l_3 h.cs, l_4 h.cs, l_7 h.cs, l_8 h.cs, l_9 h.cs, l_11 h.cs, l_12 h.cs, l_13 h.cs, l_14 h.cs, l_16 h.cs, l_18 h.cs, l_19 h.cs, l_20 h.cs, l_21 h.cs, l_340 h.cs, l_343 h.cs, l_344 h.cs, l_345 h.cs, l_346 h.cs, l_348 h.cs, l_350 h.cs, l_352 h.cs, l_353 h.cs, l_355 h.cs, l_356 h.cs, l_357 h.cs, l_358 h.cs, l_359 h.cs, l_360 h.cs, l_361 h.cs, l_362 h.cs, l_363 h.cs, l_364 h.cs, l_365 h.cs, l_366 h.cs, l_367 h.cs, l_368 h.cs, l_369 h.cs, l_370 h.cs, l_371 h.cs, l_372 h.cs, l_373 h.cs, c1, c2, l1, h0, hF, show ¬ (0 ≤ a ∧ a < 8) by omega, ↓reduceIte, hh_wr, hl_wr, b10, b11, ite_not, ne_eq, Int.reduceEq, Int.reduceLE, Int.reduceLT, Int.reduceNe, Int.reduceNeg, Int.reduceAdd, Int.reduceSub, Int.reduceMul, not_false_eq_true, not_true_eq_false, false_and, and_false, true_and, and_true, and_self, true_or, or_true, false_or, or_false, if_true, if_false, ite_true, ite_false, mj_tl_some, mj_tl_none, mj_cs0, mj_cs1, mj_cs2, mj_cs3, mj_cs4]
theorem m_ofOne {p f a : Int} {o : Nat} (h : SE M p f) (ho : o < 3) (ha : -1000000 ≤ a ∧ a ≤ 1000000) : wc X (d + 3) 268 [(32, 354), (0, rk1 o), (1, a)] M Q ↔ Q (some (1, v1 o (envA (hh M 355) (mn (hh M 355)) p f) a)) M := by
  show wp X (d + 3) 268 0 [(32, 354), (0, rk1 o), (1, a), (9, 0)] [] M Q ↔ _
  have p1 : jl_neg a = -a := jl_neg_eq ⟨by omega, by omega⟩
  rcases (show o = 0 ∨ o = 1 ∨ o = 2 by omega) with rfl | rfl | rfl
  all_goals simp only [rk1, List.getD_cons_zero, List.getD_cons_succ]
  · simp only [w268_0, w268_1, w268_2, w268_5, w268_6, w268_7, w268_10, w268_11, w268_12, w268_15, w268_16, w268_19, w268_22, w268_23, w268_24, w268_27, m_halfOf (E := envA (hh M 355) (mn (hh M 355)) p f) ha, ↓reduceIte, hh_wr, hl_wr, b10, b11, ite_not, ne_eq, Int.reduceEq, Int.reduceLE, Int.reduceLT, Int.reduceNe, Int.reduceNeg, Int.reduceAdd, Int.reduceSub, Int.reduceMul, not_false_eq_true, not_true_eq_false, false_and, and_false, true_and, and_true, and_self, true_or, or_true, false_or, or_false, if_true, if_false, ite_true, ite_false, mj_tl_some, mj_tl_none, mj_cs0, mj_cs1, mj_cs2, mj_cs3, mj_cs4]
  · simp only [w268_0, w268_1, w268_2, w268_5, w268_6, w268_7, w268_10, w268_11, w268_12, w268_15, w268_16, w268_19, w268_22, w268_23, w268_24, w268_27, p1, v1, Nat.reduceEqDiff, ↓reduceIte, hh_wr, hl_wr, b10, b11, ite_not, ne_eq, Int.reduceEq, Int.reduceLE, Int.reduceLT, Int.reduceNe, Int.reduceNeg, Int.reduceAdd, Int.reduceSub, Int.reduceMul, not_false_eq_true, not_true_eq_false, false_and, and_false, true_and, and_true, and_self, true_or, or_true, false_or, or_false, if_true, if_false, ite_true, ite_false, mj_tl_some, mj_tl_none, mj_cs0, mj_cs1, mj_cs2, mj_cs3, mj_cs4]
  · simp only [w268_0, w268_1, w268_2, w268_5, w268_6, w268_7, w268_10, w268_11, w268_12, w268_15, w268_16, w268_19, w268_22, w268_23, w268_24, w268_27, m_knownOf h ha, ↓reduceIte, hh_wr, hl_wr, b10, b11, ite_not, ne_eq, Int.reduceEq, Int.reduceLE, Int.reduceLT, Int.reduceNe, Int.reduceNeg, Int.reduceAdd, Int.reduceSub, Int.reduceMul, not_false_eq_true, not_true_eq_false, false_and, and_false, true_and, and_true, and_self, true_or, or_true, false_or, or_false, if_true, if_false, ite_true, ite_false, mj_tl_some, mj_tl_none, mj_cs0, mj_cs1, mj_cs2, mj_cs3, mj_cs4]
end Summed
