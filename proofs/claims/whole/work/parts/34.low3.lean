/-! CLASS AND REFERENCE: person, story, end, fault, feed -/
section Low3
variable {X : mj_X} {d : Nat} {M : mj_M} {Q : Option mj_V → mj_M → Prop}
theorem m_story {o : Int} {n : Nat} (h : CS M) (hn : hh M 355 2 = (n : Int)) (hn4 : n ≤ 4) : wc X (d + 1) 204 [(32, 354), (0, o)] M Q ↔ if (0 ≤ o ∧ o ≤ 119) ∧ n ≠ 4 then Q (some (0, (n : Int))) (mj_wr (mj_wr M 355 (57 + (n : Int)) o) 355 2 ((n : Int) + 1)) else Q (some (0, -1)) M := by
  show wp X (d + 1) 204 0 [(32, 354), (0, o)] [] M Q ↔ _
  have e1 : ¬ ((2 : Int) = 57 + (n : Int)) := by omega
  by_cases h4 : n = 4
  · subst h4
    simp only [w204_0, w204_1, w204_2, w204_4, w204_7, w204_10, w204_11, w204_14, w204_15, w204_16, w204_17, w204_20, w204_21, w204_22, w204_23, w204_26, w204_28, w204_29, w204_32, w204_33, w204_34, w204_35, w204_36, w204_37, w204_38, w204_41, w204_42, w204_43, w204_44, w204_45, w204_46, w204_47, w204_48, w204_51, w204_52, w204_53, w204_54, w204_55, c_354_0 h, l_355 h, s_isIn, hn, ↓reduceIte, hh_wr, hl_wr, b10, b11, ite_not, ne_eq, Int.reduceEq, Int.reduceLE, Int.reduceLT, Int.reduceNe, Int.reduceNeg, Int.reduceAdd, Int.reduceSub, Int.reduceMul, not_false_eq_true, not_true_eq_false, false_and, and_false, true_and, and_true, and_self, true_or, or_true, false_or, or_false, if_true, if_false, ite_true, ite_false, mj_tl_some, mj_tl_none, mj_cs0, mj_cs1, mj_cs2, mj_cs3, mj_cs4]
    by_cases h1 : 0 ≤ o ∧ o ≤ 119
    · simp [h1]
    · simp [h1]
  · have h9 : ¬ ((n : Int) = 4) := by omega
    simp only [w204_0, w204_1, w204_2, w204_4, w204_7, w204_10, w204_11, w204_14, w204_15, w204_16, w204_17, w204_20, w204_21, w204_22, w204_23, w204_26, w204_28, w204_29, w204_32, w204_33, w204_34, w204_35, w204_36, w204_37, w204_38, w204_41, w204_42, w204_43, w204_44, w204_45, w204_46, w204_47, w204_48, w204_51, w204_52, w204_53, w204_54, w204_55, c_354_0 h, l_355 h, s_isIn, hn, h4, h9, e1, aj (x := 57) (y := (n : Int)) ⟨by omega, by omega⟩, aj (x := (n : Int)) (y := 1) ⟨by omega, by omega⟩, sj (x := (n : Int) + 1) (y := 1) ⟨by omega, by omega⟩, show (n : Int) + 1 - 1 = (n : Int) by omega, ↓reduceIte, hh_wr, hl_wr, b10, b11, ite_not, ne_eq, Int.reduceEq, Int.reduceLE, Int.reduceLT, Int.reduceNe, Int.reduceNeg, Int.reduceAdd, Int.reduceSub, Int.reduceMul, not_false_eq_true, not_true_eq_false, false_and, and_false, true_and, and_true, and_self, true_or, or_true, false_or, or_false, if_true, if_false, ite_true, ite_false, mj_tl_some, mj_tl_none, mj_cs0, mj_cs1, mj_cs2, mj_cs3, mj_cs4]
    by_cases h1 : 0 ≤ o ∧ o ≤ 119
    · simp only [h1, ↓reduceIte, hh_wr, hl_wr, b10, b11, ite_not, ne_eq, Int.reduceEq, Int.reduceLE, Int.reduceLT, Int.reduceNe, Int.reduceNeg, Int.reduceAdd, Int.reduceSub, Int.reduceMul, not_false_eq_true, not_true_eq_false, false_and, and_false, true_and, and_true, and_self, true_or, or_true, false_or, or_false, if_true, if_false, ite_true, ite_false, mj_tl_some, mj_tl_none, mj_cs0, mj_cs1, mj_cs2, mj_cs3, mj_cs4]
      constructor
      · exact fun q => q.2
      · exact fun q => ⟨⟨by omega, by omega⟩, q⟩
    · simp [h1]
theorem c_isOrder {o : Int} : wc X d 21 [(0, o)] M Q ↔ Q (some (0, if 0 ≤ o ∧ o ≤ 119 then 1 else 0)) M := by
  show wp X d 21 0 [(0, o)] [] M Q ↔ _
  simp only [w21_0, w21_1, w21_4, w21_5, w21_7, w21_10, w21_11, w21_14, w21_15_i, w21_15_0, w21_15_1]
  by_cases h1 : o < 0
  · rw [if_pos h1, if_neg (by omega)]
  · by_cases h2 : o < 120
    · rw [if_neg h1, if_pos h2, if_pos (by omega)]
    · rw [if_neg h1, if_neg h2, if_neg (by omega)]
theorem c_isDoing {o : Int} : wc X d 134 [(0, o)] M Q ↔ Q (some (0, if 0 ≤ o ∧ o ≤ 4 then 1 else 0)) M := by
  show wp X d 134 0 [(0, o)] [] M Q ↔ _
  simp only [w134_0, w134_1, w134_4, w134_5, w134_6, w134_9, w134_10, w134_13, w134_14_i, w134_14_0, w134_14_1]
  by_cases h1 : o < 0
  · rw [if_pos h1, if_neg (by omega)]
  · by_cases h2 : o < 5
    · rw [if_neg h1, if_pos h2, if_pos (by omega)]
    · rw [if_neg h1, if_neg h2, if_neg (by omega)]
theorem m_isDoing {o : Int} : wc X (d + 1) 194 [(0, o)] M Q ↔ Q (some (0, if 0 ≤ o ∧ o ≤ 4 then 1 else 0)) M := by
  show wp X (d + 1) 194 0 [(0, o)] [] M Q ↔ _
  simp only [w194_0, w194_1, w194_2, w194_3, w194_6_i, w194_6_0, w194_6_1, s_isIn, ↓reduceIte, hh_wr, hl_wr, b10, b11, ite_not, ne_eq, Int.reduceEq, Int.reduceLE, Int.reduceLT, Int.reduceNe, Int.reduceNeg, Int.reduceAdd, Int.reduceSub, Int.reduceMul, not_false_eq_true, not_true_eq_false, false_and, and_false, true_and, and_true, and_self, true_or, or_true, false_or, or_false, if_true, if_false, ite_true, ite_false, mj_tl_some, mj_tl_none, mj_cs0, mj_cs1, mj_cs2, mj_cs3, mj_cs4]
theorem c_addStory {o : Int} {n : Nat} (h : CS M) (hn : hh M 5 4 = (n : Int)) (hn4 : n ≤ 4) : wc X (d + 1) 20 [(30, 5), (0, o)] M Q ↔ if (0 ≤ o ∧ o ≤ 119) ∧ n ≠ 4 then Q (some (0, (n : Int))) (mj_wr (mj_wr M 19 (n : Int) o) 5 4 ((n : Int) + 1)) else Q (some (0, -1)) M := by
  show wp X (d + 1) 20 0 [(30, 5), (0, o)] [] M Q ↔ _
  by_cases h4 : n = 4
  · subst h4
    simp only [w20_0, w20_1, w20_4, w20_7, w20_8, w20_11, w20_12, w20_15, w20_16, w20_17, w20_18, w20_21, w20_22, w20_25, w20_26, w20_27, w20_28, w20_29, w20_32, w20_33, w20_34, w20_37, w20_38, w20_41, w20_42, w20_43, c_isOrder, hn, ↓reduceIte, hh_wr, hl_wr, b10, b11, ite_not, ne_eq, Int.reduceEq, Int.reduceLE, Int.reduceLT, Int.reduceNe, Int.reduceNeg, Int.reduceAdd, Int.reduceSub, Int.reduceMul, not_false_eq_true, not_true_eq_false, false_and, and_false, true_and, and_true, and_self, true_or, or_true, false_or, or_false, if_true, if_false, ite_true, ite_false, mj_tl_some, mj_tl_none, mj_cs0, mj_cs1, mj_cs2, mj_cs3, mj_cs4]
    by_cases h1 : 0 ≤ o ∧ o ≤ 119
    · simp [h1]
    · simp [h1]
  · have h9 : (n : Int) < 4 := by omega
    simp only [w20_0, w20_1, w20_4, w20_7, w20_8, w20_11, w20_12, w20_15, w20_16, w20_17, w20_18, w20_21, w20_22, w20_25, w20_26, w20_27, w20_28, w20_29, w20_32, w20_33, w20_34, w20_37, w20_38, w20_41, w20_42, w20_43, c_isOrder, c_5_5 h, l_19 h, hn, h4, h9, aj (x := (n : Int)) (y := 1) ⟨by omega, by omega⟩, sj (x := (n : Int) + 1) (y := 1) ⟨by omega, by omega⟩, show (n : Int) + 1 - 1 = (n : Int) by omega, show (0 : Int) ≤ (n : Int) by omega, ↓reduceIte, hh_wr, hl_wr, b10, b11, ite_not, ne_eq, Int.reduceEq, Int.reduceLE, Int.reduceLT, Int.reduceNe, Int.reduceNeg, Int.reduceAdd, Int.reduceSub, Int.reduceMul, not_false_eq_true, not_true_eq_false, false_and, and_false, true_and, and_true, and_self, true_or, or_true, false_or, or_false, if_true, if_false, ite_true, ite_false, mj_tl_some, mj_tl_none, mj_cs0, mj_cs1, mj_cs2, mj_cs3, mj_cs4]
theorem p_story {o : Int} {n : Nat} (h : CS M) (hn : hh M 5 4 = (n : Int)) (hn4 : n ≤ 4) : wc X (d + 2) 19 [(31, 1), (0, o)] M Q ↔ if (0 ≤ o ∧ o ≤ 119) ∧ n ≠ 4 then Q (some (0, (n : Int))) (mj_wr (mj_wr M 19 (n : Int) o) 5 4 ((n : Int) + 1)) else Q (some (0, -1)) M := by
  show wp X (d + 2) 19 0 [(31, 1), (0, o)] [] M Q ↔ _
  simp only [w19_0, w19_1, w19_4, w19_5, w19_8, c_1_1 h, c_addStory h hn hn4, ↓reduceIte, hh_wr, hl_wr, b10, b11, ite_not, ne_eq, Int.reduceEq, Int.reduceLE, Int.reduceLT, Int.reduceNe, Int.reduceNeg, Int.reduceAdd, Int.reduceSub, Int.reduceMul, not_false_eq_true, not_true_eq_false, false_and, and_false, true_and, and_true, and_self, true_or, or_true, false_or, or_false, if_true, if_false, ite_true, ite_false, mj_tl_some, mj_tl_none, mj_cs0, mj_cs1, mj_cs2, mj_cs3, mj_cs4]
theorem p_end {o : Int} : wc X d 24 [(31, 1), (0, o)] M Q ↔ if 0 ≤ o ∧ o ≤ hh M 1 9 then Q (some (0, o)) (mj_wr M 1 9 o) else Q (some (0, -1)) M := by
  show wp X d 24 0 [(31, 1), (0, o)] [] M Q ↔ _
  simp only [w24_0, w24_1, w24_4, w24_5, w24_6, w24_9, w24_12, w24_13, w24_14, w24_15, w24_16, w24_19, w24_20, ↓reduceIte, hh_wr, hl_wr, b10, b11, ite_not, ne_eq, Int.reduceEq, Int.reduceLE, Int.reduceLT, Int.reduceNe, Int.reduceNeg, Int.reduceAdd, Int.reduceSub, Int.reduceMul, not_false_eq_true, not_true_eq_false, false_and, and_false, true_and, and_true, and_self, true_or, or_true, false_or, or_false, if_true, if_false, ite_true, ite_false, mj_tl_some, mj_tl_none, mj_cs0, mj_cs1, mj_cs2, mj_cs3, mj_cs4]
  by_cases h1 : o < 0
  · rw [if_pos h1, if_neg (by omega)]
  · by_cases h2 : o ≤ hh M 1 9
    · rw [if_neg h1, if_pos h2, if_pos (by omega)]
    · rw [if_neg h1, if_neg h2, if_neg (by omega)]
theorem m_end {o : Int} : wc X (d + 1) 207 [(32, 354), (0, o)] M Q ↔ if 0 ≤ o ∧ o ≤ hh M 354 9 then Q (some (0, o)) (mj_wr M 354 9 o) else Q (some (0, -1)) M := by
  show wp X (d + 1) 207 0 [(32, 354), (0, o)] [] M Q ↔ _
  simp only [w207_0, w207_1, w207_2, w207_3, w207_6, w207_9, w207_12, w207_13, w207_14, w207_15, w207_16, w207_19, w207_20, s_isIn, ↓reduceIte, hh_wr, hl_wr, b10, b11, ite_not, ne_eq, Int.reduceEq, Int.reduceLE, Int.reduceLT, Int.reduceNe, Int.reduceNeg, Int.reduceAdd, Int.reduceSub, Int.reduceMul, not_false_eq_true, not_true_eq_false, false_and, and_false, true_and, and_true, and_self, true_or, or_true, false_or, or_false, if_true, if_false, ite_true, ite_false, mj_tl_some, mj_tl_none, mj_cs0, mj_cs1, mj_cs2, mj_cs3, mj_cs4]
theorem p_fault {w : Int} : wc X d 71 [(31, 1), (0, w)] M Q ↔ Q (some (0, if hh M 1 10 = 0 then -1 else if w = 0 then hh M 1 11 else if w = 1 then hh M 1 12 else -1)) M := by
  show wp X d 71 0 [(31, 1), (0, w)] [] M Q ↔ _
  simp only [w71_0, w71_1, w71_4, w71_7, w71_8, w71_9, w71_10, w71_13, w71_14, w71_17, w71_18, w71_19, w71_20, w71_23, w71_24, w71_27, w71_30, w71_31, ↓reduceIte, hh_wr, hl_wr, b10, b11, ite_not, ne_eq, Int.reduceEq, Int.reduceLE, Int.reduceLT, Int.reduceNe, Int.reduceNeg, Int.reduceAdd, Int.reduceSub, Int.reduceMul, not_false_eq_true, not_true_eq_false, false_and, and_false, true_and, and_true, and_self, true_or, or_true, false_or, or_false, if_true, if_false, ite_true, ite_false, mj_tl_some, mj_tl_none, mj_cs0, mj_cs1, mj_cs2, mj_cs3, mj_cs4]
  repeat' split
  all_goals rfl
theorem m_fault {w : Int} : wc X d 244 [(32, 354), (0, w)] M Q ↔ Q (some (0, if w = 0 then hh M 354 10 else if w = 1 then hh M 354 11 else -1)) M := by
  show wp X d 244 0 [(32, 354), (0, w)] [] M Q ↔ _
  simp only [w244_0, w244_1, w244_4, w244_5, w244_8, w244_11, w244_12, w244_13, w244_16, w244_17, w244_20, w244_23, w244_24, ↓reduceIte, hh_wr, hl_wr, b10, b11, ite_not, ne_eq, Int.reduceEq, Int.reduceLE, Int.reduceLT, Int.reduceNe, Int.reduceNeg, Int.reduceAdd, Int.reduceSub, Int.reduceMul, not_false_eq_true, not_true_eq_false, false_and, and_false, true_and, and_true, and_self, true_or, or_true, false_or, or_false, if_true, if_false, ite_true, ite_false, mj_tl_some, mj_tl_none, mj_cs0, mj_cs1, mj_cs2, mj_cs3, mj_cs4]
  repeat' split
  all_goals rfl
/-- four bytes of v into the cell a from t on; the place (o, f) holds the next -/
def f4 (M : mj_M) (o f a t v : Int) : mj_M := mj_wr (mj_wr (mj_wr (mj_wr (mj_wr (mj_wr (mj_wr (mj_wr M a t (ji_and (ji_shr v 24) 255)) o f (t + 1)) a (t + 1) (ji_and (ji_shr v 16) 255)) o f (t + 2)) a (t + 2) (ji_and (ji_shr v 8) 255)) o f (t + 3)) a (t + 3) (ji_and (ji_shr v 0) 255)) o f (t + 4)
theorem j24 : ji_add 24 (-8) = 16 := by decide
theorem j16 : ji_add 16 (-8) = 8 := by decide
theorem j8 : ji_add 8 (-8) = 0 := by decide
theorem j0 : ji_add 0 (-8) = -8 := by decide
set_option maxRecDepth 20000 in
theorem m_four {v : Int} {t : Nat} (h : CS M) (ht : hh M 354 9 = (t : Int)) (ht2 : t ≤ 296) : wc X d 206 [(32, 354), (0, v)] M Q ↔ Q none (f4 M 354 9 363 t v) := by
  show wp X d 206 0 [(32, 354), (0, v), (9, 0)] [] M Q ↔ _
  have a1 := aj (x := (t : Int)) (y := 1) ⟨by omega, by omega⟩
  have a2 : ji_add ((t : Int) + 1) 1 = (t : Int) + 2 := by rw [aj ⟨by omega, by omega⟩]; omega
  have a3 : ji_add ((t : Int) + 2) 1 = (t : Int) + 3 := by rw [aj ⟨by omega, by omega⟩]; omega
  have a4 : ji_add ((t : Int) + 3) 1 = (t : Int) + 4 := by rw [aj ⟨by omega, by omega⟩]; omega
  simp only [w206_0, w206_2, w206_3, w206_4, w206_7, w206_8, w206_11, w206_12, w206_15, w206_16, w206_17, w206_18, w206_21, w206_22, w206_23, w206_24, w206_25, w206_28, w206_29, w206_30, w206_33, w206_36, w206_39, c_354_8 h, l_363 h, ht, j24, j16, j8, j0, a1, a2, a3, a4, f4, ↓reduceIte, hh_wr, hl_wr, b10, b11, ite_not, ne_eq, Int.reduceEq, Int.reduceLE, Int.reduceLT, Int.reduceNe, Int.reduceNeg, Int.reduceAdd, Int.reduceSub, Int.reduceMul, not_false_eq_true, not_true_eq_false, false_and, and_false, true_and, and_true, and_self, true_or, or_true, false_or, or_false, if_true, if_false, ite_true, ite_false, mj_tl_some, mj_tl_none, mj_cs0, mj_cs1, mj_cs2, mj_cs3, mj_cs4]
  constructor
  · exact fun q => q.2.2.2.2
  · exact fun q => ⟨⟨by omega, by omega⟩, ⟨by omega, by omega⟩, ⟨by omega, by omega⟩, ⟨by omega, by omega⟩, q⟩
set_option maxRecDepth 20000 in
theorem c_four {v : Int} {t : Nat} (h : CS M) (ht : hh M 1 9 = (t : Int)) (ht2 : t ≤ 296) : wc X d 23 [(31, 1), (0, v)] M Q ↔ Q none (f4 M 1 9 350 t v) := by
  show wp X d 23 0 [(31, 1), (0, v), (9, 0)] [] M Q ↔ _
  have a1 := aj (x := (t : Int)) (y := 1) ⟨by omega, by omega⟩
  have a2 : ji_add ((t : Int) + 1) 1 = (t : Int) + 2 := by rw [aj ⟨by omega, by omega⟩]; omega
  have a3 : ji_add ((t : Int) + 2) 1 = (t : Int) + 3 := by rw [aj ⟨by omega, by omega⟩]; omega
  have a4 : ji_add ((t : Int) + 3) 1 = (t : Int) + 4 := by rw [aj ⟨by omega, by omega⟩]; omega
  have b1 : (t : Int) < 300 := by omega
  have b2 : (t : Int) + 1 < 300 := by omega
  have b3 : (t : Int) + 2 < 300 := by omega
  have b4 : (t : Int) + 3 < 300 := by omega
  simp only [w23_0, w23_2, w23_3, w23_4, w23_7, w23_8, w23_11, w23_14, w23_17, w23_18, w23_21, w23_22, w23_25, w23_26, w23_27, w23_28, w23_31, w23_32, w23_33, w23_34, w23_35, w23_38, w23_39, w23_40, w23_43, w23_46, w23_49, c_1_7 h, l_350 h, ht, j24, j16, j8, j0, a1, a2, a3, a4, b1, b2, b3, b4, f4, ↓reduceIte, hh_wr, hl_wr, b10, b11, ite_not, ne_eq, Int.reduceEq, Int.reduceLE, Int.reduceLT, Int.reduceNe, Int.reduceNeg, Int.reduceAdd, Int.reduceSub, Int.reduceMul, not_false_eq_true, not_true_eq_false, false_and, and_false, true_and, and_true, and_self, true_or, or_true, false_or, or_false, if_true, if_false, ite_true, ite_false, mj_tl_some, mj_tl_none, mj_cs0, mj_cs1, mj_cs2, mj_cs3, mj_cs4]
  constructor
  · exact fun q => q.2.2.2.2
  · exact fun q => ⟨by omega, by omega, by omega, by omega, q⟩
end Low3
