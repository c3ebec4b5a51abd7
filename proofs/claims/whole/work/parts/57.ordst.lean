/-! CALLS ON ORDERS: order, number, holds, apart, middle -/
theorem ct0 : ((0 : Nat) : Int) = 0 := rfl
theorem ct5 : ((5 : Nat) : Int) = 5 := rfl
theorem ct8 : ((8 : Nat) : Int) = 8 := rfl
theorem ct120 : ((120 : Nat) : Int) = 120 := rfl
section OrdSt
variable {X : mj_X} {d : Nat} {M : mj_M} {Q : Option mj_V → mj_M → Prop}
theorem p_order {o a : Int} (h : CS M) (t : Tb M) : wc X (d + 2) 128 [(31, 1), (0, o), (0, a)] M Q ↔ Q (some (0, if (0 ≤ o ∧ o ≤ 119) ∧ (0 ≤ a ∧ a ≤ 4) then dT (5 * o + a) else -1)) M := by
  show wp X (d + 2) 128 0 [(31, 1), (0, o), (0, a)] [] M Q ↔ _
  simp only [w128_0, w128_1, w128_4, w128_5, w128_6, w128_9, c_1_0 h, c_doingAt h t, ↓reduceIte, hh_wr, hl_wr, b10, b11, ite_not, ne_eq, Int.reduceEq, Int.reduceLE, Int.reduceLT, Int.reduceNe, Int.reduceNeg, Int.reduceAdd, Int.reduceSub, Int.reduceMul, not_false_eq_true, not_true_eq_false, false_and, and_false, true_and, and_true, and_self, true_or, or_true, false_or, or_false, if_true, if_false, ite_true, ite_false, mj_tl_some, mj_tl_none, mj_cs0, mj_cs1, mj_cs2, mj_cs3, mj_cs4]
theorem m_order {o a : Int} (h : CS M) (t : Tb M) : wc X (d + 2) 308 [(32, 354), (0, o), (0, a)] M Q ↔ Q (some (0, if (0 ≤ o ∧ o ≤ 119) ∧ (0 ≤ a ∧ a ≤ 4) then dT (5 * o + a) else -1)) M := by
  show wp X (d + 2) 308 0 [(32, 354), (0, o), (0, a)] [] M Q ↔ _
  by_cases ho : 0 ≤ o ∧ o ≤ 119
  · by_cases ha : 0 ≤ a ∧ a ≤ 4
    · simp only [w308_0, w308_1, w308_2, w308_4, w308_7, w308_10, w308_11, w308_14, w308_17, w308_18, w308_21, w308_22, w308_23, w308_24, w308_25, w308_26, w308_27, w308_30, w308_31, s_isIn, m_isDoing, c_354_3 h, l_358 h, ho, ha, mj5 (p := o) ⟨by omega, by omega⟩, aj (x := 5 * o) (y := a) ⟨by omega, by omega⟩, t.d' (5 * o + a) (by omega) (by omega), show 0 ≤ 5 * o + a by omega, show 5 * o + a < 600 by omega, ↓reduceIte, hh_wr, hl_wr, b10, b11, ite_not, ne_eq, Int.reduceEq, Int.reduceLE, Int.reduceLT, Int.reduceNe, Int.reduceNeg, Int.reduceAdd, Int.reduceSub, Int.reduceMul, not_false_eq_true, not_true_eq_false, false_and, and_false, true_and, and_true, and_self, true_or, or_true, false_or, or_false, if_true, if_false, ite_true, ite_false, mj_tl_some, mj_tl_none, mj_cs0, mj_cs1, mj_cs2, mj_cs3, mj_cs4]
    · simp only [w308_0, w308_1, w308_2, w308_4, w308_7, w308_10, w308_11, w308_14, w308_17, w308_18, w308_21, w308_22, w308_23, w308_24, w308_25, w308_26, w308_27, w308_30, w308_31, s_isIn, m_isDoing, ho, ha, ↓reduceIte, hh_wr, hl_wr, b10, b11, ite_not, ne_eq, Int.reduceEq, Int.reduceLE, Int.reduceLT, Int.reduceNe, Int.reduceNeg, Int.reduceAdd, Int.reduceSub, Int.reduceMul, not_false_eq_true, not_true_eq_false, false_and, and_false, true_and, and_true, and_self, true_or, or_true, false_or, or_false, if_true, if_false, ite_true, ite_false, mj_tl_some, mj_tl_none, mj_cs0, mj_cs1, mj_cs2, mj_cs3, mj_cs4]
  · simp only [w308_0, w308_1, w308_2, w308_4, w308_7, w308_10, w308_11, w308_14, w308_17, w308_18, w308_21, w308_22, w308_23, w308_24, w308_25, w308_26, w308_27, w308_30, w308_31, s_isIn, m_isDoing, ho, ↓reduceIte, hh_wr, hl_wr, b10, b11, ite_not, ne_eq, Int.reduceEq, Int.reduceLE, Int.reduceLT, Int.reduceNe, Int.reduceNeg, Int.reduceAdd, Int.reduceSub, Int.reduceMul, not_false_eq_true, not_true_eq_false, false_and, and_false, true_and, and_true, and_self, true_or, or_true, false_or, or_false, if_true, if_false, ite_true, ite_false, mj_tl_some, mj_tl_none, mj_cs0, mj_cs1, mj_cs2, mj_cs3, mj_cs4]
theorem st21 : St21 RR (d + 60) := by
  intro X M a1 a2 h i1 i2
  unfold LS2
  simp only [p_order h.cs h.tb, m_order h.cs h.tb]
  exact ls_id h rfl
theorem p_holds {o k a b : Int} (h : CS M) (t : Tb M) : wc X (d + 3) 132 [(31, 1), (0, o), (0, k), (0, a), (0, b)] M Q ↔ Q (some (0, if (0 ≤ o ∧ o ≤ 119) ∧ isS k a b = true ∧ so o k a b = true then 1 else 0)) M := by
  show wp X (d + 3) 132 0 [(31, 1), (0, o), (0, k), (0, a), (0, b)] [] M Q ↔ _
  by_cases ho : 0 ≤ o ∧ o ≤ 119
  · by_cases hs : isS k a b = true
    · have hs' := hs
      unfold isS at hs'
      simp only [decide_eq_true_eq] at hs'
      simp only [w132_0, w132_1, w132_4, w132_7, w132_8, w132_9, w132_11, w132_14, w132_17, w132_18, w132_21, w132_22, w132_23, w132_24, w132_26, w132_29, w132_32, w132_33, w132_36, w132_37_i, w132_37_0, w132_37_1, c_isOrder, c_isSaying, c_1_0 h, c_isSo h t ho hs'.1 hs'.2.1 hs'.2.2.1, ho, hs, ite_q, ↓reduceIte, hh_wr, hl_wr, b10, b11, ite_not, ne_eq, Int.reduceEq, Int.reduceLE, Int.reduceLT, Int.reduceNe, Int.reduceNeg, Int.reduceAdd, Int.reduceSub, Int.reduceMul, not_false_eq_true, not_true_eq_false, false_and, and_false, true_and, and_true, and_self, true_or, or_true, false_or, or_false, if_true, if_false, ite_true, ite_false, mj_tl_some, mj_tl_none, mj_cs0, mj_cs1, mj_cs2, mj_cs3, mj_cs4]
    · simp only [w132_0, w132_1, w132_4, w132_7, w132_8, w132_9, w132_11, w132_14, w132_17, w132_18, w132_21, w132_22, w132_23, w132_24, w132_26, w132_29, w132_32, w132_33, w132_36, w132_37_i, w132_37_0, w132_37_1, c_isOrder, c_isSaying, ho, hs, ↓reduceIte, hh_wr, hl_wr, b10, b11, ite_not, ne_eq, Int.reduceEq, Int.reduceLE, Int.reduceLT, Int.reduceNe, Int.reduceNeg, Int.reduceAdd, Int.reduceSub, Int.reduceMul, not_false_eq_true, not_true_eq_false, false_and, and_false, true_and, and_true, and_self, true_or, or_true, false_or, or_false, if_true, if_false, ite_true, ite_false, mj_tl_some, mj_tl_none, mj_cs0, mj_cs1, mj_cs2, mj_cs3, mj_cs4]
      simp
  · simp only [w132_0, w132_1, w132_4, w132_7, w132_8, w132_9, w132_11, w132_14, w132_17, w132_18, w132_21, w132_22, w132_23, w132_24, w132_26, w132_29, w132_32, w132_33, w132_36, w132_37_i, w132_37_0, w132_37_1, c_isOrder, ho, ↓reduceIte, hh_wr, hl_wr, b10, b11, ite_not, ne_eq, Int.reduceEq, Int.reduceLE, Int.reduceLT, Int.reduceNe, Int.reduceNeg, Int.reduceAdd, Int.reduceSub, Int.reduceMul, not_false_eq_true, not_true_eq_false, false_and, and_false, true_and, and_true, and_self, true_or, or_true, false_or, or_false, if_true, if_false, ite_true, ite_false, mj_tl_some, mj_tl_none, mj_cs0, mj_cs1, mj_cs2, mj_cs3, mj_cs4]
theorem m_holds {o k a b : Int} (h : CS M) (t : Tb M) : wc X (d + 3) 311 [(32, 354), (0, o), (0, k), (0, a), (0, b)] M Q ↔ Q (some (0, if (0 ≤ o ∧ o ≤ 119) ∧ isS k a b = true ∧ so o k a b = true then 1 else 0)) M := by
  show wp X (d + 3) 311 0 [(32, 354), (0, o), (0, k), (0, a), (0, b)] [] M Q ↔ _
  by_cases ho : 0 ≤ o ∧ o ≤ 119
  · by_cases hs : isS k a b = true
    · have hs' := hs
      unfold isS at hs'
      simp only [decide_eq_true_eq] at hs'
      simp only [w311_0, w311_1, w311_2, w311_4, w311_7, w311_10, w311_11, w311_12, w311_14, w311_17, w311_20, w311_21, w311_22, w311_23, w311_24, w311_26, w311_29, w311_32, w311_33, w311_36, w311_37_i, w311_37_0, w311_37_1, s_isIn, m_isSaying, m_isSo h t ho hs'.1 hs'.2.1 hs'.2.2.1, ho, hs, ite_q, ↓reduceIte, hh_wr, hl_wr, b10, b11, ite_not, ne_eq, Int.reduceEq, Int.reduceLE, Int.reduceLT, Int.reduceNe, Int.reduceNeg, Int.reduceAdd, Int.reduceSub, Int.reduceMul, not_false_eq_true, not_true_eq_false, false_and, and_false, true_and, and_true, and_self, true_or, or_true, false_or, or_false, if_true, if_false, ite_true, ite_false, mj_tl_some, mj_tl_none, mj_cs0, mj_cs1, mj_cs2, mj_cs3, mj_cs4]
    · simp only [w311_0, w311_1, w311_2, w311_4, w311_7, w311_10, w311_11, w311_12, w311_14, w311_17, w311_20, w311_21, w311_22, w311_23, w311_24, w311_26, w311_29, w311_32, w311_33, w311_36, w311_37_i, w311_37_0, w311_37_1, s_isIn, m_isSaying, ho, hs, ↓reduceIte, hh_wr, hl_wr, b10, b11, ite_not, ne_eq, Int.reduceEq, Int.reduceLE, Int.reduceLT, Int.reduceNe, Int.reduceNeg, Int.reduceAdd, Int.reduceSub, Int.reduceMul, not_false_eq_true, not_true_eq_false, false_and, and_false, true_and, and_true, and_self, true_or, or_true, false_or, or_false, if_true, if_false, ite_true, ite_false, mj_tl_some, mj_tl_none, mj_cs0, mj_cs1, mj_cs2, mj_cs3, mj_cs4]
      simp
  · simp only [w311_0, w311_1, w311_2, w311_4, w311_7, w311_10, w311_11, w311_12, w311_14, w311_17, w311_20, w311_21, w311_22, w311_23, w311_24, w311_26, w311_29, w311_32, w311_33, w311_36, w311_37_i, w311_37_0, w311_37_1, s_isIn, ho, ↓reduceIte, hh_wr, hl_wr, b10, b11, ite_not, ne_eq, Int.reduceEq, Int.reduceLE, Int.reduceLT, Int.reduceNe, Int.reduceNeg, Int.reduceAdd, Int.reduceSub, Int.reduceMul, not_false_eq_true, not_true_eq_false, false_and, and_false, true_and, and_true, and_self, true_or, or_true, false_or, or_false, if_true, if_false, ite_true, ite_false, mj_tl_some, mj_tl_none, mj_cs0, mj_cs1, mj_cs2, mj_cs3, mj_cs4]
theorem st23 : St23 RR (d + 60) := by
  intro X M a1 a2 a3 a4 h i1 i2 i3 i4
  unfold LS2
  simp only [p_holds h.cs h.tb, m_holds h.cs h.tb]
  exact ls_id h rfl
/-- order p is a b c e f -/
def isN (a b c e f : Int) (p : Nat) : Bool := decide (dT (5 * (p : Int)) = a ∧ dT (5 * (p : Int) + 1) = b ∧ dT (5 * (p : Int) + 2) = c ∧ dT (5 * (p : Int) + 3) = e ∧ dT (5 * (p : Int) + 4) = f)
def nuV (a b c e f : Int) : Int := fr (isN a b c e f) (fun p => (p : Int)) (-1) 120 0
theorem c_numberOf {a b c e f : Int} (h : CS M) (t : Tb M) : wc X (d + 2) 131 [(25, 2), (0, a), (0, b), (0, c), (0, e), (0, f)] M Q ↔ Q (some (0, nuV a b c e f)) M := by
  show wp X (d + 2) 131 0 [(25, 2), (0, a), (0, b), (0, c), (0, e), (0, f), (9, 0)] [] M Q ↔ _
  refine wp.det ?_
  simp only [w131_0, w131_1]
  refine loopF (S := fun p v => wp X (d + 2) 131 3 [(25, 2), (0, a), (0, b), (0, c), (0, e), (0, f), (0, (p : Int))] [] M (fun r M' => r = some (0, v) ∧ M' = M)) ?_ ?_ ?_
  · intro p hp hc
    unfold isN at hc
    simp only [decide_eq_true_eq] at hc
    obtain ⟨e1, e2, e3, e4, e5⟩ := hc
    simp only [w131_0, w131_1, w131_3, w131_5, w131_7, w131_10, w131_11, w131_13, w131_14, w131_17, w131_18, w131_21, w131_22, w131_24, w131_25, w131_28, w131_29, w131_32, w131_33, w131_35, w131_36, w131_39, w131_40, w131_43, w131_44, w131_46, w131_47, w131_50, w131_52, w131_55, w131_56, w131_58, w131_59, w131_62, w131_64, w131_67, w131_69, w131_70, w131_73, w131_76, w131_77, c_doingAt h t, Int.add_zero, e1, e2, e3, e4, e5, show (p : Int) < 120 by omega, show (0 : Int) ≤ (p : Int) by omega, show (p : Int) ≤ 119 by omega, ↓reduceIte, hh_wr, hl_wr, b10, b11, ite_not, ne_eq, Int.reduceEq, Int.reduceLE, Int.reduceLT, Int.reduceNe, Int.reduceNeg, Int.reduceAdd, Int.reduceSub, Int.reduceMul, not_false_eq_true, not_true_eq_false, false_and, and_false, true_and, and_true, and_self, true_or, or_true, false_or, or_false, if_true, if_false, ite_true, ite_false, mj_tl_some, mj_tl_none, mj_cs0, mj_cs1, mj_cs2, mj_cs3, mj_cs4]
  · intro p v hp hc hS
    unfold isN at hc
    simp only [decide_eq_false_iff_not] at hc
    rw [w131_3]
    simp only [w131_0, w131_1, w131_5, w131_7, w131_10, w131_11, w131_13, w131_14, w131_17, w131_18, w131_21, w131_22, w131_24, w131_25, w131_28, w131_29, w131_32, w131_33, w131_35, w131_36, w131_39, w131_40, w131_43, w131_44, w131_46, w131_47, w131_50, w131_52, w131_55, w131_56, w131_58, w131_59, w131_62, w131_64, w131_67, w131_69, w131_70, w131_73, w131_76, w131_77, c_doingAt h t, Int.add_zero, show (p : Int) < 120 by omega, show (0 : Int) ≤ (p : Int) by omega, show (p : Int) ≤ 119 by omega, jp1 (p := p) (by omega), ↓reduceIte, hh_wr, hl_wr, b10, b11, ite_not, ne_eq, Int.reduceEq, Int.reduceLE, Int.reduceLT, Int.reduceNe, Int.reduceNeg, Int.reduceAdd, Int.reduceSub, Int.reduceMul, not_false_eq_true, not_true_eq_false, false_and, and_false, true_and, and_true, and_self, true_or, or_true, false_or, or_false, if_true, if_false, ite_true, ite_false, mj_tl_some, mj_tl_none, mj_cs0, mj_cs1, mj_cs2, mj_cs3, mj_cs4]
    repeat' split
    all_goals first | exact hS | (exfalso; exact hc ⟨by assumption, by assumption, by assumption, by assumption, by assumption⟩)
  · simp only [w131_0, w131_1, w131_3, w131_5, w131_7, w131_10, w131_11, w131_13, w131_14, w131_17, w131_18, w131_21, w131_22, w131_24, w131_25, w131_28, w131_29, w131_32, w131_33, w131_35, w131_36, w131_39, w131_40, w131_43, w131_44, w131_46, w131_47, w131_50, w131_52, w131_55, w131_56, w131_58, w131_59, w131_62, w131_64, w131_67, w131_69, w131_70, w131_73, w131_76, w131_77, ↓reduceIte, hh_wr, hl_wr, b10, b11, ite_not, ne_eq, Int.reduceEq, Int.reduceLE, Int.reduceLT, Int.reduceNe, Int.reduceNeg, Int.reduceAdd, Int.reduceSub, Int.reduceMul, not_false_eq_true, not_true_eq_false, false_and, and_false, true_and, and_true, and_self, true_or, or_true, false_or, or_false, if_true, if_false, ite_true, ite_false, mj_tl_some, mj_tl_none, mj_cs0, mj_cs1, mj_cs2, mj_cs3, mj_cs4]
    simp
theorem m_numberOf {a b c e f : Int} (h : CS M) (t : Tb M) (ha : 0 ≤ a ∧ a ≤ 4) (hb : 0 ≤ b ∧ b ≤ 4) (hc : 0 ≤ c ∧ c ≤ 4) (he : 0 ≤ e ∧ e ≤ 4) (hf : 0 ≤ f ∧ f ≤ 4) : wc X d 310 [(32, 354), (0, 10000 * a + 1000 * b + 100 * c + 10 * e + f)] M Q ↔ Q (some (0, nuV a b c e f)) M := by
  show wp X d 310 0 [(32, 354), (0, 10000 * a + 1000 * b + 100 * c + 10 * e + f), (9, 0), (9, 0), (9, 0)] [] M Q ↔ _
  refine wp.det ?_
  simp only [w310_0, w310_1]
  have key : ∀ (p : Nat) (w1 w2 : mj_V) (Q : Option mj_V → mj_M → Prop), p < 120 → (wp X d 310 2 [(32, 354), (0, 10000 * a + 1000 * b + 100 * c + 10 * e + f), (0, (p : Int)), w1, w2] [] M Q ↔ if isN a b c e f p then Q (some (0, (p : Int))) M else wp X d 310 2 [(32, 354), (0, 10000 * a + 1000 * b + 100 * c + 10 * e + f), (0, ((p + 1 : Nat) : Int)), (0, 10000 * dT (5 * (p : Int)) + 1000 * dT (5 * (p : Int) + 1) + 100 * dT (5 * (p : Int) + 2) + 10 * dT (5 * (p : Int) + 3) + dT (5 * (p : Int) + 4)), (0, 5)] [] M Q) := by
    intro p w1 w2 Q hp
    unfold isN
    have r0 := dT_r (5 * (p : Int))
    have r1 := dT_r (5 * (p : Int) + 1)
    have r2 := dT_r (5 * (p : Int) + 2)
    have r3 := dT_r (5 * (p : Int) + 3)
    have r4 := dT_r (5 * (p : Int) + 4)
    have t0 := t.d' (5 * (p : Int)) (by omega) (by omega)
    have t1 := t.d' (5 * (p : Int) + 1) (by omega) (by omega)
    have t2 := t.d' (5 * (p : Int) + 2) (by omega) (by omega)
    have t3 := t.d' (5 * (p : Int) + 3) (by omega) (by omega)
    have t4 := t.d' (5 * (p : Int) + 4) (by omega) (by omega)
    have m0 : ji_mul 10 0 = 0 := by decide
    have z1 : ji_add 0 1 = 1 := by decide
    have z2 : ji_add 1 1 = 2 := by decide
    have z3 : ji_add 2 1 = 3 := by decide
    have z4 : ji_add 3 1 = 4 := by decide
    have z5 : ji_add 4 1 = 5 := by decide
    generalize dT (5 * (p : Int)) = y0 at *
    generalize dT (5 * (p : Int) + 1) = y1 at *
    generalize dT (5 * (p : Int) + 2) = y2 at *
    generalize dT (5 * (p : Int) + 3) = y3 at *
    generalize dT (5 * (p : Int) + 4) = y4 at *
    have a0 : ji_add 0 y0 = y0 := by rw [aj ⟨by omega, by omega⟩]; omega
    have a1 : ji_add (ji_mul 10 y0) y1 = 10 * y0 + y1 := by rw [ji_mul_eq ⟨by omega, by omega⟩, aj ⟨by omega, by omega⟩]
    have a2 : ji_add (ji_mul 10 (10 * y0 + y1)) y2 = 100 * y0 + 10 * y1 + y2 := by rw [ji_mul_eq ⟨by omega, by omega⟩, aj ⟨by omega, by omega⟩]; omega
    have a3 : ji_add (ji_mul 10 (100 * y0 + 10 * y1 + y2)) y3 = 1000 * y0 + 100 * y1 + 10 * y2 + y3 := by rw [ji_mul_eq ⟨by omega, by omega⟩, aj ⟨by omega, by omega⟩]; omega
    have a4 : ji_add (ji_mul 10 (1000 * y0 + 100 * y1 + 10 * y2 + y3)) y4 = 10000 * y0 + 1000 * y1 + 100 * y2 + 10 * y3 + y4 := by rw [ji_mul_eq ⟨by omega, by omega⟩, aj ⟨by omega, by omega⟩]; omega
    rw [w310_2]
    simp only [w310_0, w310_1, w310_3, w310_5, w310_8, w310_9, w310_10, w310_11, w310_13, w310_15, w310_16, w310_19, w310_21, w310_22, w310_23, w310_24, w310_27, w310_28, w310_29, w310_30, w310_32, w310_33, w310_34, w310_35, w310_36, w310_39, w310_42, w310_43, w310_44, w310_47, w310_48, w310_49, w310_52, w310_55, w310_56, c_354_3 h, l_358 h, mj5 (p := (p : Int)) ⟨by omega, by omega⟩, aj (x := 5 * (p : Int)) (y := 0) ⟨by omega, by omega⟩, aj (x := 5 * (p : Int)) (y := 1) ⟨by omega, by omega⟩, aj (x := 5 * (p : Int)) (y := 2) ⟨by omega, by omega⟩, aj (x := 5 * (p : Int)) (y := 3) ⟨by omega, by omega⟩, aj (x := 5 * (p : Int)) (y := 4) ⟨by omega, by omega⟩, Int.add_zero, t0, t1, t2, t3, t4, m0, z1, z2, z3, z4, z5, a0, a1, a2, a3, a4, show (p : Int) < 120 by omega, jp1 (p := p) (by omega), show 0 ≤ 5 * (p : Int) by omega, show 5 * (p : Int) < 600 by omega, show 0 ≤ 5 * (p : Int) + 1 by omega, show 5 * (p : Int) + 1 < 600 by omega, show 0 ≤ 5 * (p : Int) + 2 by omega, show 5 * (p : Int) + 2 < 600 by omega, show 0 ≤ 5 * (p : Int) + 3 by omega, show 5 * (p : Int) + 3 < 600 by omega, show 0 ≤ 5 * (p : Int) + 4 by omega, show 5 * (p : Int) + 4 < 600 by omega, ↓reduceIte, hh_wr, hl_wr, b10, b11, ite_not, ne_eq, Int.reduceEq, Int.reduceLE, Int.reduceLT, Int.reduceNe, Int.reduceNeg, Int.reduceAdd, Int.reduceSub, Int.reduceMul, not_false_eq_true, not_true_eq_false, false_and, and_false, true_and, and_true, and_self, true_or, or_true, false_or, or_false, if_true, if_false, ite_true, ite_false, mj_tl_some, mj_tl_none, mj_cs0, mj_cs1, mj_cs2, mj_cs3, mj_cs4]
    simp only [decide_eq_true_eq]
    by_cases hq : y0 = a ∧ y1 = b ∧ y2 = c ∧ y3 = e ∧ y4 = f
    · rw [if_pos hq, if_pos (by omega)]
    · rw [if_neg hq, if_neg (by omega)]
  have key2 := loopF (S := fun p v => ∀ w1 w2 : mj_V, wp X d 310 2 [(32, 354), (0, 10000 * a + 1000 * b + 100 * c + 10 * e + f), (0, (p : Int)), w1, w2] [] M (fun r M' => r = some (0, v) ∧ M' = M)) (c := isN a b c e f) (r := fun p => (p : Int)) (z := -1) (P := 120) ?_ ?_ ?_
  · exact key2 _ _
  · intro p hp hc w1 w2
    rw [key p w1 w2 _ hp, if_pos hc]
    exact ⟨rfl, rfl⟩
  · intro p v hp hc hS w1 w2
    rw [key p w1 w2 _ hp, hc]
    exact hS _ _
  · intro w1 w2
    simp only [w310_0, w310_1, w310_2, w310_3, w310_5, w310_8, w310_9, w310_10, w310_11, w310_13, w310_15, w310_16, w310_19, w310_21, w310_22, w310_23, w310_24, w310_27, w310_28, w310_29, w310_30, w310_32, w310_33, w310_34, w310_35, w310_36, w310_39, w310_42, w310_43, w310_44, w310_47, w310_48, w310_49, w310_52, w310_55, w310_56, ct120, ↓reduceIte, hh_wr, hl_wr, b10, b11, ite_not, ne_eq, Int.reduceEq, Int.reduceLE, Int.reduceLT, Int.reduceNe, Int.reduceNeg, Int.reduceAdd, Int.reduceSub, Int.reduceMul, not_false_eq_true, not_true_eq_false, false_and, and_false, true_and, and_true, and_self, true_or, or_true, false_or, or_false, if_true, if_false, ite_true, ite_false, mj_tl_some, mj_tl_none, mj_cs0, mj_cs1, mj_cs2, mj_cs3, mj_cs4]
theorem nuV_none {a b c e f : Int} (hn : ¬ ((0 ≤ a ∧ a ≤ 4) ∧ (0 ≤ b ∧ b ≤ 4) ∧ (0 ≤ c ∧ c ≤ 4) ∧ (0 ≤ e ∧ e ≤ 4) ∧ (0 ≤ f ∧ f ≤ 4))) : nuV a b c e f = -1 := by
  refine fr_none (fun p hp => ?_)
  unfold isN
  rw [decide_eq_false_iff_not]
  intro hq
  have r0 := dT_r (5 * (p : Int))
  have r1 := dT_r (5 * (p : Int) + 1)
  have r2 := dT_r (5 * (p : Int) + 2)
  have r3 := dT_r (5 * (p : Int) + 3)
  have r4 := dT_r (5 * (p : Int) + 4)
  exact hn (by omega)
theorem m_number {a b c e f : Int} (h : CS M) (t : Tb M) : wc X (d + 2) 309 [(32, 354), (0, a), (0, b), (0, c), (0, e), (0, f)] M Q ↔ Q (some (0, nuV a b c e f)) M := by
  show wp X (d + 2) 309 0 [(32, 354), (0, a), (0, b), (0, c), (0, e), (0, f)] [] M Q ↔ _
  by_cases hn : (0 ≤ a ∧ a ≤ 4) ∧ (0 ≤ b ∧ b ≤ 4) ∧ (0 ≤ c ∧ c ≤ 4) ∧ (0 ≤ e ∧ e ≤ 4) ∧ (0 ≤ f ∧ f ≤ 4)
  · obtain ⟨ha, hb, hc, he, hf⟩ := hn
    have e1 : ji_add (ji_add (ji_add (ji_add (ji_mul a 10000) (ji_mul b 1000)) (ji_mul c 100)) (ji_mul e 10)) f = 10000 * a + 1000 * b + 100 * c + 10 * e + f := by
      rw [ji_mul_eq (x := a) ⟨by omega, by omega⟩, ji_mul_eq (x := b) ⟨by omega, by omega⟩, ji_mul_eq (x := c) ⟨by omega, by omega⟩, ji_mul_eq (x := e) ⟨by omega, by omega⟩, aj (x := a * 10000) (y := b * 1000) ⟨by omega, by omega⟩, aj (x := a * 10000 + b * 1000) (y := c * 100) ⟨by omega, by omega⟩, aj (x := a * 10000 + b * 1000 + c * 100) (y := e * 10) ⟨by omega, by omega⟩, aj ⟨by omega, by omega⟩]
      omega
    simp only [w309_0, w309_1, w309_4, w309_7, w309_8, w309_11, w309_14, w309_15, w309_18, w309_21, w309_23, w309_26, w309_29, w309_31, w309_34, w309_37, w309_38, w309_39, w309_42, w309_43, w309_44, w309_47, w309_48, w309_49, w309_50, w309_52, w309_53, w309_54, w309_56, w309_58, w309_59, w309_60, w309_62, w309_63, w309_66, w309_69, w309_70, m_isDoing, ha, hb, hc, he, hf, e1, m_numberOf h t ha hb hc he hf, ↓reduceIte, hh_wr, hl_wr, b10, b11, ite_not, ne_eq, Int.reduceEq, Int.reduceLE, Int.reduceLT, Int.reduceNe, Int.reduceNeg, Int.reduceAdd, Int.reduceSub, Int.reduceMul, not_false_eq_true, not_true_eq_false, false_and, and_false, true_and, and_true, and_self, true_or, or_true, false_or, or_false, if_true, if_false, ite_true, ite_false, mj_tl_some, mj_tl_none, mj_cs0, mj_cs1, mj_cs2, mj_cs3, mj_cs4]
  · rw [nuV_none hn]
    simp only [w309_0, w309_1, w309_4, w309_7, w309_8, w309_11, w309_14, w309_15, w309_18, w309_21, w309_23, w309_26, w309_29, w309_31, w309_34, w309_37, w309_38, w309_39, w309_42, w309_43, w309_44, w309_47, w309_48, w309_49, w309_50, w309_52, w309_53, w309_54, w309_56, w309_58, w309_59, w309_60, w309_62, w309_63, w309_66, w309_69, w309_70, m_isDoing, ↓reduceIte, hh_wr, hl_wr, b10, b11, ite_not, ne_eq, Int.reduceEq, Int.reduceLE, Int.reduceLT, Int.reduceNe, Int.reduceNeg, Int.reduceAdd, Int.reduceSub, Int.reduceMul, not_false_eq_true, not_true_eq_false, false_and, and_false, true_and, and_true, and_self, true_or, or_true, false_or, or_false, if_true, if_false, ite_true, ite_false, mj_tl_some, mj_tl_none, mj_cs0, mj_cs1, mj_cs2, mj_cs3, mj_cs4]
    repeat' split
    all_goals first | rfl | (exfalso; exact hn ⟨by assumption, by assumption, by assumption, by assumption, by assumption⟩)
theorem p_number {a b c e f : Int} (h : CS M) (t : Tb M) : wc X (d + 3) 130 [(31, 1), (0, a), (0, b), (0, c), (0, e), (0, f)] M Q ↔ Q (some (0, nuV a b c e f)) M := by
  show wp X (d + 3) 130 0 [(31, 1), (0, a), (0, b), (0, c), (0, e), (0, f)] [] M Q ↔ _
  simp only [w130_0, w130_1, w130_4, w130_5, w130_6, w130_7, w130_9, w130_11, w130_14, c_1_0 h, c_numberOf h t, ↓reduceIte, hh_wr, hl_wr, b10, b11, ite_not, ne_eq, Int.reduceEq, Int.reduceLE, Int.reduceLT, Int.reduceNe, Int.reduceNeg, Int.reduceAdd, Int.reduceSub, Int.reduceMul, not_false_eq_true, not_true_eq_false, false_and, and_false, true_and, and_true, and_self, true_or, or_true, false_or, or_false, if_true, if_false, ite_true, ite_false, mj_tl_some, mj_tl_none, mj_cs0, mj_cs1, mj_cs2, mj_cs3, mj_cs4]
theorem st22 : St22 RR (d + 60) := by
  intro X M a1 a2 a3 a4 a5 h i1 i2 i3 i4 i5
  unfold LS2
  simp only [p_number h.cs h.tb, m_number h.cs h.tb]
  exact ls_id h rfl
/-- one pair is in unlike order -/
def df (o q a b : Int) : Int := if (pT (5 * o + a) < pT (5 * o + b) ↔ pT (5 * q + a) < pT (5 * q + b)) then 0 else 1
def apI (o q : Int) (a : Nat) : Int := sm (fun j => df o q (a : Int) ((a : Int) + 1 + (j : Int))) (4 - a)
def ap (o q : Int) : Int := sm (apI o q) 5
theorem df_r (o q a b : Int) : 0 ≤ df o q a b ∧ df o q a b ≤ 1 := by unfold df; split <;> decide
theorem c_pairsApart {o q : Int} (h : CS M) (t : Tb M) (ho : 0 ≤ o ∧ o ≤ 119) (hq : 0 ≤ q ∧ q ≤ 119) : wc X (d + 3) 163 [(25, 2), (0, o), (0, q)] M Q ↔ Q (some (0, ap o q)) M := by
  show wp X (d + 3) 163 0 [(25, 2), (0, o), (0, q), (9, 0), (9, 0), (9, 0)] [] M Q ↔ _
  refine wp.det ?_
  simp only [w163_0, w163_1, w163_2, w163_3]
  have key := loop2 (S := fun (a : Nat) (n : Int) (w : mj_V) => wp X (d + 3) 163 5 [(25, 2), (0, o), (0, q), (0, n), (0, (a : Int)), w] [] M (fun r M' => r = some (0, ap o q) ∧ M' = M)) (I := fun a n w => n = sm (apI o q) a ∧ 0 ≤ n ∧ n ≤ 5 * a) (P := 5) ?_ ?_
  · exact key 0 _ ⟨rfl, by decide, by decide⟩
  · rintro a n w ha ⟨h1, h2, h3⟩ ih
    rw [w163_5]
    simp only [w163_0, w163_1, w163_2, w163_3, w163_7, w163_8, w163_11, w163_13, w163_14, w163_15, w163_19, w163_20, w163_23, w163_24, w163_25, w163_27, w163_29, w163_32, w163_33, w163_34, w163_36, w163_38, w163_41, w163_44, w163_47, w163_50, w163_53, w163_56, w163_59, w163_60, show (a : Int) < 5 by omega, aj (x := (a : Int)) (y := 1) ⟨by omega, by omega⟩, ↓reduceIte, hh_wr, hl_wr, b10, b11, ite_not, ne_eq, Int.reduceEq, Int.reduceLE, Int.reduceLT, Int.reduceNe, Int.reduceNeg, Int.reduceAdd, Int.reduceSub, Int.reduceMul, not_false_eq_true, not_true_eq_false, false_and, and_false, true_and, and_true, and_self, true_or, or_true, false_or, or_false, if_true, if_false, ite_true, ite_false, mj_tl_some, mj_tl_none, mj_cs0, mj_cs1, mj_cs2, mj_cs3, mj_cs4]
    have inner := loop1 (S := fun (j : Nat) (n' : Int) => wp X (d + 3) 163 17 [(25, 2), (0, o), (0, q), (0, n'), (0, (a : Int)), (0, (a : Int) + 1 + (j : Int))] [] M (fun r M' => r = some (0, ap o q) ∧ M' = M)) (I := fun j n' => n' = n + sm (fun j => df o q (a : Int) ((a : Int) + 1 + (j : Int))) j ∧ n ≤ n' ∧ n' ≤ n + j) (P := 4 - a) ?_ ?_
    · have := inner n ⟨by simp [sm], by omega, by omega⟩
      simpa using this
    · rintro j n' hj ⟨g1, g2, g3⟩ ih2
      have ca := fun Q => c_isAhead (X := X) (d := d) (M := M) (Q := Q) (o := o) (a := (a : Int)) (b := (a : Int) + 1 + (j : Int)) h t ho ⟨by omega, by omega⟩ ⟨by omega, by omega⟩
      have cb := fun Q => c_isAhead (X := X) (d := d) (M := M) (Q := Q) (o := q) (a := (a : Int)) (b := (a : Int) + 1 + (j : Int)) h t hq ⟨by omega, by omega⟩ ⟨by omega, by omega⟩
      have hd : df o q (a : Int) ((a : Int) + 1 + (j : Int)) = if (pT (5 * o + (a : Int)) < pT (5 * o + ((a : Int) + 1 + (j : Int))) ↔ pT (5 * q + (a : Int)) < pT (5 * q + ((a : Int) + 1 + (j : Int)))) then 0 else 1 := rfl
      have e2 : (a : Int) + 1 + (j : Int) + 1 = (a : Int) + 1 + ((j + 1 : Nat) : Int) := by omega
      rw [w163_17]
      by_cases c1 : pT (5 * o + (a : Int)) < pT (5 * o + ((a : Int) + 1 + (j : Int))) <;> by_cases c2 : pT (5 * q + (a : Int)) < pT (5 * q + ((a : Int) + 1 + (j : Int)))
      all_goals simp only [w163_0, w163_1, w163_2, w163_3, w163_7, w163_8, w163_11, w163_13, w163_14, w163_15, w163_19, w163_20, w163_23, w163_24, w163_25, w163_27, w163_29, w163_32, w163_33, w163_34, w163_36, w163_38, w163_41, w163_44, w163_47, w163_50, w163_53, w163_56, w163_59, w163_60, ca, cb, c1, c2, show (a : Int) + 1 + (j : Int) < 5 by omega, aj (x := n') (y := 1) ⟨by omega, by omega⟩, aj (x := (a : Int) + 1 + (j : Int)) (y := 1) ⟨by omega, by omega⟩, e2, ↓reduceIte, hh_wr, hl_wr, b10, b11, ite_not, ne_eq, Int.reduceEq, Int.reduceLE, Int.reduceLT, Int.reduceNe, Int.reduceNeg, Int.reduceAdd, Int.reduceSub, Int.reduceMul, not_false_eq_true, not_true_eq_false, false_and, and_false, true_and, and_true, and_self, true_or, or_true, false_or, or_false, if_true, if_false, ite_true, ite_false, mj_tl_some, mj_tl_none, mj_cs0, mj_cs1, mj_cs2, mj_cs3, mj_cs4]
      all_goals simp only [c1, c2, iff_self, if_true, iff_false, false_iff, not_true_eq_false, not_false_eq_true, if_false, ↓reduceIte, hh_wr, hl_wr, b10, b11, ite_not, ne_eq, Int.reduceEq, Int.reduceLE, Int.reduceLT, Int.reduceNe, Int.reduceNeg, Int.reduceAdd, Int.reduceSub, Int.reduceMul, not_false_eq_true, not_true_eq_false, false_and, and_false, true_and, and_true, and_self, true_or, or_true, false_or, or_false, if_true, if_false, ite_true, ite_false, mj_tl_some, mj_tl_none, mj_cs0, mj_cs1, mj_cs2, mj_cs3, mj_cs4] at hd
      all_goals exact ih2 _ ⟨by rw [sm, hd]; omega, by omega, by omega⟩
    · rintro n' ⟨g1, g2, g3⟩
      have e2 : (a : Int) + 1 + ((4 - a : Nat) : Int) = 5 := by omega
      rw [e2]
      simp only [w163_0, w163_1, w163_2, w163_3, w163_7, w163_8, w163_11, w163_13, w163_14, w163_15, w163_17, w163_19, w163_20, w163_23, w163_24, w163_25, w163_27, w163_29, w163_32, w163_33, w163_34, w163_36, w163_38, w163_41, w163_44, w163_47, w163_50, w163_53, w163_56, w163_59, w163_60, jp1 (p := a) (by omega), ↓reduceIte, hh_wr, hl_wr, b10, b11, ite_not, ne_eq, Int.reduceEq, Int.reduceLE, Int.reduceLT, Int.reduceNe, Int.reduceNeg, Int.reduceAdd, Int.reduceSub, Int.reduceMul, not_false_eq_true, not_true_eq_false, false_and, and_false, true_and, and_true, and_self, true_or, or_true, false_or, or_false, if_true, if_false, ite_true, ite_false, mj_tl_some, mj_tl_none, mj_cs0, mj_cs1, mj_cs2, mj_cs3, mj_cs4]
      refine ih _ _ ⟨?_, by omega, by omega⟩
      rw [sm, ← h1]
      exact g1
  · rintro n w ⟨h1, h2, h3⟩
    simp only [w163_0, w163_1, w163_2, w163_3, w163_5, w163_7, w163_8, w163_11, w163_13, w163_14, w163_15, w163_17, w163_19, w163_20, w163_23, w163_24, w163_25, w163_27, w163_29, w163_32, w163_33, w163_34, w163_36, w163_38, w163_41, w163_44, w163_47, w163_50, w163_53, w163_56, w163_59, w163_60, ct5, ↓reduceIte, hh_wr, hl_wr, b10, b11, ite_not, ne_eq, Int.reduceEq, Int.reduceLE, Int.reduceLT, Int.reduceNe, Int.reduceNeg, Int.reduceAdd, Int.reduceSub, Int.reduceMul, not_false_eq_true, not_true_eq_false, false_and, and_false, true_and, and_true, and_self, true_or, or_true, false_or, or_false, if_true, if_false, ite_true, ite_false, mj_tl_some, mj_tl_none, mj_cs0, mj_cs1, mj_cs2, mj_cs3, mj_cs4]
    rw [h1]; rfl
theorem m_apartBy {o q : Int} (h : CS M) (t : Tb M) (ho : 0 ≤ o ∧ o ≤ 119) (hq : 0 ≤ q ∧ q ≤ 119) : wc X (d + 1) 326 [(32, 354), (0, o), (0, q)] M Q ↔ Q (some (0, ap o q)) M := by
  show wp X (d + 1) 326 0 [(32, 354), (0, o), (0, q), (9, 0), (9, 0), (9, 0)] [] M Q ↔ _
  refine wp.det ?_
  simp only [w326_0, w326_1, w326_2, w326_3]
  have key := loop2 (S := fun (a : Nat) (n : Int) (w : mj_V) => wp X (d + 1) 326 5 [(32, 354), (0, o), (0, q), (0, n), (0, (a : Int)), w] [] M (fun r M' => r = some (0, ap o q) ∧ M' = M)) (I := fun a n w => n = sm (apI o q) a ∧ 0 ≤ n ∧ n ≤ 5 * a) (P := 5) ?_ ?_
  · exact key 0 _ ⟨rfl, by decide, by decide⟩
  · rintro a n w ha ⟨h1, h2, h3⟩ ih
    rw [w326_5]
    simp only [w326_0, w326_1, w326_2, w326_3, w326_7, w326_8, w326_11, w326_13, w326_14, w326_15, w326_19, w326_20, w326_23, w326_24, w326_25, w326_26, w326_28, w326_31, w326_32, w326_33, w326_35, w326_38, w326_41, w326_42, w326_45, w326_46, w326_47, w326_48, w326_50, w326_53, w326_54, w326_55, w326_57, w326_60, w326_63, w326_64, w326_67, w326_68, w326_71, w326_72, w326_75, w326_76, w326_77, w326_78, w326_81, w326_84, w326_87, w326_90, w326_91, show (a : Int) < 5 by omega, aj (x := (a : Int)) (y := 1) ⟨by omega, by omega⟩, ↓reduceIte, hh_wr, hl_wr, b10, b11, ite_not, ne_eq, Int.reduceEq, Int.reduceLE, Int.reduceLT, Int.reduceNe, Int.reduceNeg, Int.reduceAdd, Int.reduceSub, Int.reduceMul, not_false_eq_true, not_true_eq_false, false_and, and_false, true_and, and_true, and_self, true_or, or_true, false_or, or_false, if_true, if_false, ite_true, ite_false, mj_tl_some, mj_tl_none, mj_cs0, mj_cs1, mj_cs2, mj_cs3, mj_cs4]
    have inner := loop1 (S := fun (j : Nat) (n' : Int) => wp X (d + 1) 326 17 [(32, 354), (0, o), (0, q), (0, n'), (0, (a : Int)), (0, (a : Int) + 1 + (j : Int))] [] M (fun r M' => r = some (0, ap o q) ∧ M' = M)) (I := fun j n' => n' = n + sm (fun j => df o q (a : Int) ((a : Int) + 1 + (j : Int))) j ∧ n ≤ n' ∧ n' ≤ n + j) (P := 4 - a) ?_ ?_
    · have := inner n ⟨by simp [sm], by omega, by omega⟩
      simpa using this
    · rintro j n' hj ⟨g1, g2, g3⟩ ih2
      have p1 := fun Q => m_placeOf (X := X) (d := d) (M := M) (Q := Q) (o := o) (a := (a : Int)) h t ho ⟨by omega, by omega⟩
      have p2 := fun Q => m_placeOf (X := X) (d := d) (M := M) (Q := Q) (o := o) (a := (a : Int) + 1 + (j : Int)) h t ho ⟨by omega, by omega⟩
      have p3 := fun Q => m_placeOf (X := X) (d := d) (M := M) (Q := Q) (o := q) (a := (a : Int)) h t hq ⟨by omega, by omega⟩
      have p4 := fun Q => m_placeOf (X := X) (d := d) (M := M) (Q := Q) (o := q) (a := (a : Int) + 1 + (j : Int)) h t hq ⟨by omega, by omega⟩
      have hd : df o q (a : Int) ((a : Int) + 1 + (j : Int)) = if (pT (5 * o + (a : Int)) < pT (5 * o + ((a : Int) + 1 + (j : Int))) ↔ pT (5 * q + (a : Int)) < pT (5 * q + ((a : Int) + 1 + (j : Int)))) then 0 else 1 := rfl
      have e2 : (a : Int) + 1 + (j : Int) + 1 = (a : Int) + 1 + ((j + 1 : Nat) : Int) := by omega
      rw [w326_17]
      by_cases c1 : pT (5 * o + (a : Int)) < pT (5 * o + ((a : Int) + 1 + (j : Int))) <;> by_cases c2 : pT (5 * q + (a : Int)) < pT (5 * q + ((a : Int) + 1 + (j : Int)))
      all_goals simp only [w326_0, w326_1, w326_2, w326_3, w326_7, w326_8, w326_11, w326_13, w326_14, w326_15, w326_19, w326_20, w326_23, w326_24, w326_25, w326_26, w326_28, w326_31, w326_32, w326_33, w326_35, w326_38, w326_41, w326_42, w326_45, w326_46, w326_47, w326_48, w326_50, w326_53, w326_54, w326_55, w326_57, w326_60, w326_63, w326_64, w326_67, w326_68, w326_71, w326_72, w326_75, w326_76, w326_77, w326_78, w326_81, w326_84, w326_87, w326_90, w326_91, p1, p2, p3, p4, c1, c2, show (a : Int) + 1 + (j : Int) < 5 by omega, aj (x := n') (y := 1) ⟨by omega, by omega⟩, aj (x := n') (y := 0) ⟨by omega, by omega⟩, aj (x := (a : Int) + 1 + (j : Int)) (y := 1) ⟨by omega, by omega⟩, e2, ↓reduceIte, hh_wr, hl_wr, b10, b11, ite_not, ne_eq, Int.reduceEq, Int.reduceLE, Int.reduceLT, Int.reduceNe, Int.reduceNeg, Int.reduceAdd, Int.reduceSub, Int.reduceMul, not_false_eq_true, not_true_eq_false, false_and, and_false, true_and, and_true, and_self, true_or, or_true, false_or, or_false, if_true, if_false, ite_true, ite_false, mj_tl_some, mj_tl_none, mj_cs0, mj_cs1, mj_cs2, mj_cs3, mj_cs4]
      all_goals simp only [c1, c2, iff_self, if_true, iff_false, false_iff, not_true_eq_false, not_false_eq_true, if_false, ↓reduceIte, hh_wr, hl_wr, b10, b11, ite_not, ne_eq, Int.reduceEq, Int.reduceLE, Int.reduceLT, Int.reduceNe, Int.reduceNeg, Int.reduceAdd, Int.reduceSub, Int.reduceMul, not_false_eq_true, not_true_eq_false, false_and, and_false, true_and, and_true, and_self, true_or, or_true, false_or, or_false, if_true, if_false, ite_true, ite_false, mj_tl_some, mj_tl_none, mj_cs0, mj_cs1, mj_cs2, mj_cs3, mj_cs4] at hd
      all_goals exact ih2 _ ⟨by rw [sm, hd]; omega, by omega, by omega⟩
    · rintro n' ⟨g1, g2, g3⟩
      have e2 : (a : Int) + 1 + ((4 - a : Nat) : Int) = 5 := by omega
      rw [e2]
      simp only [w326_0, w326_1, w326_2, w326_3, w326_7, w326_8, w326_11, w326_13, w326_14, w326_15, w326_17, w326_19, w326_20, w326_23, w326_24, w326_25, w326_26, w326_28, w326_31, w326_32, w326_33, w326_35, w326_38, w326_41, w326_42, w326_45, w326_46, w326_47, w326_48, w326_50, w326_53, w326_54, w326_55, w326_57, w326_60, w326_63, w326_64, w326_67, w326_68, w326_71, w326_72, w326_75, w326_76, w326_77, w326_78, w326_81, w326_84, w326_87, w326_90, w326_91, jp1 (p := a) (by omega), ↓reduceIte, hh_wr, hl_wr, b10, b11, ite_not, ne_eq, Int.reduceEq, Int.reduceLE, Int.reduceLT, Int.reduceNe, Int.reduceNeg, Int.reduceAdd, Int.reduceSub, Int.reduceMul, not_false_eq_true, not_true_eq_false, false_and, and_false, true_and, and_true, and_self, true_or, or_true, false_or, or_false, if_true, if_false, ite_true, ite_false, mj_tl_some, mj_tl_none, mj_cs0, mj_cs1, mj_cs2, mj_cs3, mj_cs4]
      refine ih _ _ ⟨?_, by omega, by omega⟩
      rw [sm, ← h1]
      exact g1
  · rintro n w ⟨h1, h2, h3⟩
    simp only [w326_0, w326_1, w326_2, w326_3, w326_5, w326_7, w326_8, w326_11, w326_13, w326_14, w326_15, w326_17, w326_19, w326_20, w326_23, w326_24, w326_25, w326_26, w326_28, w326_31, w326_32, w326_33, w326_35, w326_38, w326_41, w326_42, w326_45, w326_46, w326_47, w326_48, w326_50, w326_53, w326_54, w326_55, w326_57, w326_60, w326_63, w326_64, w326_67, w326_68, w326_71, w326_72, w326_75, w326_76, w326_77, w326_78, w326_81, w326_84, w326_87, w326_90, w326_91, ct5, ↓reduceIte, hh_wr, hl_wr, b10, b11, ite_not, ne_eq, Int.reduceEq, Int.reduceLE, Int.reduceLT, Int.reduceNe, Int.reduceNeg, Int.reduceAdd, Int.reduceSub, Int.reduceMul, not_false_eq_true, not_true_eq_false, false_and, and_false, true_and, and_true, and_self, true_or, or_true, false_or, or_false, if_true, if_false, ite_true, ite_false, mj_tl_some, mj_tl_none, mj_cs0, mj_cs1, mj_cs2, mj_cs3, mj_cs4]
    rw [h1]; rfl
theorem p_apart {o q : Int} (h : CS M) (t : Tb M) : wc X (d + 4) 162 [(31, 1), (0, o), (0, q)] M Q ↔ Q (some (0, if (0 ≤ o ∧ o ≤ 119) ∧ (0 ≤ q ∧ q ≤ 119) then ap o q else -1)) M := by
  show wp X (d + 4) 162 0 [(31, 1), (0, o), (0, q)] [] M Q ↔ _
  by_cases ho : 0 ≤ o ∧ o ≤ 119
  · by_cases hq : 0 ≤ q ∧ q ≤ 119
    · simp only [w162_0, w162_1, w162_4, w162_7, w162_8, w162_11, w162_14, w162_15, w162_18, w162_19, w162_20, w162_23, w162_26, w162_27, c_isOrder, c_1_0 h, c_pairsApart h t ho hq, ho, hq, ↓reduceIte, hh_wr, hl_wr, b10, b11, ite_not, ne_eq, Int.reduceEq, Int.reduceLE, Int.reduceLT, Int.reduceNe, Int.reduceNeg, Int.reduceAdd, Int.reduceSub, Int.reduceMul, not_false_eq_true, not_true_eq_false, false_and, and_false, true_and, and_true, and_self, true_or, or_true, false_or, or_false, if_true, if_false, ite_true, ite_false, mj_tl_some, mj_tl_none, mj_cs0, mj_cs1, mj_cs2, mj_cs3, mj_cs4]
    · simp only [w162_0, w162_1, w162_4, w162_7, w162_8, w162_11, w162_14, w162_15, w162_18, w162_19, w162_20, w162_23, w162_26, w162_27, c_isOrder, ho, hq, ↓reduceIte, hh_wr, hl_wr, b10, b11, ite_not, ne_eq, Int.reduceEq, Int.reduceLE, Int.reduceLT, Int.reduceNe, Int.reduceNeg, Int.reduceAdd, Int.reduceSub, Int.reduceMul, not_false_eq_true, not_true_eq_false, false_and, and_false, true_and, and_true, and_self, true_or, or_true, false_or, or_false, if_true, if_false, ite_true, ite_false, mj_tl_some, mj_tl_none, mj_cs0, mj_cs1, mj_cs2, mj_cs3, mj_cs4]
  · simp only [w162_0, w162_1, w162_4, w162_7, w162_8, w162_11, w162_14, w162_15, w162_18, w162_19, w162_20, w162_23, w162_26, w162_27, c_isOrder, ho, ↓reduceIte, hh_wr, hl_wr, b10, b11, ite_not, ne_eq, Int.reduceEq, Int.reduceLE, Int.reduceLT, Int.reduceNe, Int.reduceNeg, Int.reduceAdd, Int.reduceSub, Int.reduceMul, not_false_eq_true, not_true_eq_false, false_and, and_false, true_and, and_true, and_self, true_or, or_true, false_or, or_false, if_true, if_false, ite_true, ite_false, mj_tl_some, mj_tl_none, mj_cs0, mj_cs1, mj_cs2, mj_cs3, mj_cs4]
theorem m_apart {o q : Int} (h : CS M) (t : Tb M) : wc X (d + 4) 325 [(32, 354), (0, o), (0, q)] M Q ↔ Q (some (0, if (0 ≤ o ∧ o ≤ 119) ∧ (0 ≤ q ∧ q ≤ 119) then ap o q else -1)) M := by
  show wp X (d + 4) 325 0 [(32, 354), (0, o), (0, q)] [] M Q ↔ _
  by_cases ho : 0 ≤ o ∧ o ≤ 119
  · by_cases hq : 0 ≤ q ∧ q ≤ 119
    · simp only [w325_0, w325_1, w325_2, w325_4, w325_7, w325_10, w325_11, w325_12, w325_14, w325_17, w325_20, w325_21, w325_22, w325_23, w325_26, w325_29, w325_30, s_isIn, m_apartBy h t ho hq, ho, hq, ↓reduceIte, hh_wr, hl_wr, b10, b11, ite_not, ne_eq, Int.reduceEq, Int.reduceLE, Int.reduceLT, Int.reduceNe, Int.reduceNeg, Int.reduceAdd, Int.reduceSub, Int.reduceMul, not_false_eq_true, not_true_eq_false, false_and, and_false, true_and, and_true, and_self, true_or, or_true, false_or, or_false, if_true, if_false, ite_true, ite_false, mj_tl_some, mj_tl_none, mj_cs0, mj_cs1, mj_cs2, mj_cs3, mj_cs4]
    · simp only [w325_0, w325_1, w325_2, w325_4, w325_7, w325_10, w325_11, w325_12, w325_14, w325_17, w325_20, w325_21, w325_22, w325_23, w325_26, w325_29, w325_30, s_isIn, ho, hq, ↓reduceIte, hh_wr, hl_wr, b10, b11, ite_not, ne_eq, Int.reduceEq, Int.reduceLE, Int.reduceLT, Int.reduceNe, Int.reduceNeg, Int.reduceAdd, Int.reduceSub, Int.reduceMul, not_false_eq_true, not_true_eq_false, false_and, and_false, true_and, and_true, and_self, true_or, or_true, false_or, or_false, if_true, if_false, ite_true, ite_false, mj_tl_some, mj_tl_none, mj_cs0, mj_cs1, mj_cs2, mj_cs3, mj_cs4]
  · simp only [w325_0, w325_1, w325_2, w325_4, w325_7, w325_10, w325_11, w325_12, w325_14, w325_17, w325_20, w325_21, w325_22, w325_23, w325_26, w325_29, w325_30, s_isIn, ho, ↓reduceIte, hh_wr, hl_wr, b10, b11, ite_not, ne_eq, Int.reduceEq, Int.reduceLE, Int.reduceLT, Int.reduceNe, Int.reduceNeg, Int.reduceAdd, Int.reduceSub, Int.reduceMul, not_false_eq_true, not_true_eq_false, false_and, and_false, true_and, and_true, and_self, true_or, or_true, false_or, or_false, if_true, if_false, ite_true, ite_false, mj_tl_some, mj_tl_none, mj_cs0, mj_cs1, mj_cs2, mj_cs3, mj_cs4]
theorem st34 : St34 RR (d + 60) := by
  intro X M a1 a2 h i1 i2
  unfold LS2
  simp only [p_apart h.cs h.tb, m_apart h.cs h.tb]
  exact ls_id h rfl
end OrdSt
