/-! CLASS AND REFERENCE: form, person, story -/
section Low2
variable {X : mj_X} {d : Nat} {M : mj_M} {Q : Option mj_V → mj_M → Prop}
theorem cs355 {i v : Int} (h : CS M) : CS (mj_wr M 355 i v) := h.wa (by decide +kernel)
theorem cs7 {i v : Int} (h : CS M) : CS (mj_wr M 7 i v) := h.wa (by decide +kernel)
theorem cs8 {i v : Int} (h : CS M) : CS (mj_wr M 8 i v) := h.wa (by decide +kernel)
theorem cs11 {i v : Int} (h : CS M) : CS (mj_wr M 11 i v) := h.wa (by decide +kernel)
theorem cs12 {i v : Int} (h : CS M) : CS (mj_wr M 12 i v) := h.wa (by decide +kernel)
theorem cs13 {i v : Int} (h : CS M) : CS (mj_wr M 13 i v) := h.wa (by decide +kernel)
theorem cs19 {i v : Int} (h : CS M) : CS (mj_wr M 19 i v) := h.wa (by decide +kernel)
theorem cs6_0 {v : Int} (h : CS M) : CS (mj_wr M 6 0 v) := h.wr (by decide +kernel)
theorem cs10_2 {v : Int} (h : CS M) : CS (mj_wr M 10 2 v) := h.wr (by decide +kernel)
theorem cs5_4 {v : Int} (h : CS M) : CS (mj_wr M 5 4 v) := h.wr (by decide +kernel)
/-- Tongue.add -/
theorem c_add {kd l : Int} {n : Nat} (h : CS M) (hn : hh M 6 0 = (n : Int)) (hn8 : n ≤ 8) : wc X d 14 [(29, 6), (0, kd), (0, l)] M Q ↔ if (0 ≤ kd ∧ kd ≤ 4) ∧ (1 ≤ l ∧ l ≤ 9) ∧ n ≠ 8 then Q (some (0, (n : Int))) (mj_wr (mj_wr (mj_wr M 7 (n : Int) kd) 8 (n : Int) l) 6 0 ((n : Int) + 1)) else Q (some (0, -1)) M := by
  show wp X d 14 0 [(29, 6), (0, kd), (0, l), (9, 0)] [] M Q ↔ _
  by_cases h8 : n = 8
  · subst h8
    simp only [w14_0, w14_1, w14_4, w14_5, w14_6, w14_9, w14_10, w14_11, w14_14, w14_15, w14_17, w14_20, w14_21, w14_24, w14_25, w14_26, w14_27, w14_30, w14_31, w14_34, w14_36, w14_39, w14_40, w14_41, w14_42, w14_45, w14_46, w14_49, w14_50, w14_51, w14_52, w14_55, w14_56, w14_59, w14_60, w14_61, w14_62, w14_63, w14_66, w14_67, w14_68, w14_71, w14_72, w14_75, w14_76, w14_77, hn, ↓reduceIte, hh_wr, hl_wr, b10, b11, ite_not, ne_eq, Int.reduceEq, Int.reduceLE, Int.reduceLT, Int.reduceNe, Int.reduceNeg, Int.reduceAdd, Int.reduceSub, Int.reduceMul, not_false_eq_true, not_true_eq_false, false_and, and_false, true_and, and_true, and_self, true_or, or_true, false_or, or_false, if_true, if_false, ite_true, ite_false, mj_tl_some, mj_tl_none, mj_cs0, mj_cs1, mj_cs2, mj_cs3, mj_cs4]
    simp
  · have h9 : (n : Int) < 8 := by omega
    simp only [w14_0, w14_1, w14_4, w14_5, w14_6, w14_9, w14_10, w14_11, w14_14, w14_15, w14_17, w14_20, w14_21, w14_24, w14_25, w14_26, w14_27, w14_30, w14_31, w14_34, w14_36, w14_39, w14_40, w14_41, w14_42, w14_45, w14_46, w14_49, w14_50, w14_51, w14_52, w14_55, w14_56, w14_59, w14_60, w14_61, w14_62, w14_63, w14_66, w14_67, w14_68, w14_71, w14_72, w14_75, w14_76, w14_77, hn, c_6_1 h, c_6_2 h, l_7 h, l_8 h, h8, h9, aj (x := (n : Int)) (y := 1) ⟨by omega, by omega⟩, sj (x := (n : Int) + 1) (y := 1) ⟨by omega, by omega⟩, show (n : Int) + 1 - 1 = (n : Int) by omega, show (0 : Int) ≤ (n : Int) by omega, ↓reduceIte, hh_wr, hl_wr, b10, b11, ite_not, ne_eq, Int.reduceEq, Int.reduceLE, Int.reduceLT, Int.reduceNe, Int.reduceNeg, Int.reduceAdd, Int.reduceSub, Int.reduceMul, not_false_eq_true, not_true_eq_false, false_and, and_false, true_and, and_true, and_self, true_or, or_true, false_or, or_false, if_true, if_false, ite_true, ite_false, mj_tl_some, mj_tl_none, mj_cs0, mj_cs1, mj_cs2, mj_cs3, mj_cs4]
    by_cases h1 : kd < 0
    · rw [if_pos h1, if_neg (by omega)]
    · by_cases h2 : kd < 5
      · by_cases h3 : l < 1
        · simp only [h1, h2, h3, ↓reduceIte, hh_wr, hl_wr, b10, b11, ite_not, ne_eq, Int.reduceEq, Int.reduceLE, Int.reduceLT, Int.reduceNe, Int.reduceNeg, Int.reduceAdd, Int.reduceSub, Int.reduceMul, not_false_eq_true, not_true_eq_false, false_and, and_false, true_and, and_true, and_self, true_or, or_true, false_or, or_false, if_true, if_false, ite_true, ite_false, mj_tl_some, mj_tl_none, mj_cs0, mj_cs1, mj_cs2, mj_cs3, mj_cs4]
          rw [if_neg (by omega)]
        · by_cases h4 : l ≤ 9
          · simp only [h1, h2, h3, h4, ↓reduceIte, hh_wr, hl_wr, b10, b11, ite_not, ne_eq, Int.reduceEq, Int.reduceLE, Int.reduceLT, Int.reduceNe, Int.reduceNeg, Int.reduceAdd, Int.reduceSub, Int.reduceMul, not_false_eq_true, not_true_eq_false, false_and, and_false, true_and, and_true, and_self, true_or, or_true, false_or, or_false, if_true, if_false, ite_true, ite_false, mj_tl_some, mj_tl_none, mj_cs0, mj_cs1, mj_cs2, mj_cs3, mj_cs4]
            rw [if_pos (by omega)]
          · simp only [h1, h2, h3, h4, ↓reduceIte, hh_wr, hl_wr, b10, b11, ite_not, ne_eq, Int.reduceEq, Int.reduceLE, Int.reduceLT, Int.reduceNe, Int.reduceNeg, Int.reduceAdd, Int.reduceSub, Int.reduceMul, not_false_eq_true, not_true_eq_false, false_and, and_false, true_and, and_true, and_self, true_or, or_true, false_or, or_false, if_true, if_false, ite_true, ite_false, mj_tl_some, mj_tl_none, mj_cs0, mj_cs1, mj_cs2, mj_cs3, mj_cs4]
      · simp only [h1, h2, ↓reduceIte, hh_wr, hl_wr, b10, b11, ite_not, ne_eq, Int.reduceEq, Int.reduceLE, Int.reduceLT, Int.reduceNe, Int.reduceNeg, Int.reduceAdd, Int.reduceSub, Int.reduceMul, not_false_eq_true, not_true_eq_false, false_and, and_false, true_and, and_true, and_self, true_or, or_true, false_or, or_false, if_true, if_false, ite_true, ite_false, mj_tl_some, mj_tl_none, mj_cs0, mj_cs1, mj_cs2, mj_cs3, mj_cs4]
        rw [if_neg (by omega)]
theorem p_form {kd l : Int} {n : Nat} (h : CS M) (hn : hh M 6 0 = (n : Int)) (hn8 : n ≤ 8) : wc X (d + 1) 13 [(31, 1), (0, kd), (0, l)] M Q ↔ if (0 ≤ kd ∧ kd ≤ 4) ∧ (1 ≤ l ∧ l ≤ 9) ∧ n ≠ 8 then Q (some (0, (n : Int))) (mj_wr (mj_wr (mj_wr M 7 (n : Int) kd) 8 (n : Int) l) 6 0 ((n : Int) + 1)) else Q (some (0, -1)) M := by
  show wp X (d + 1) 13 0 [(31, 1), (0, kd), (0, l)] [] M Q ↔ _
  simp only [w13_0, w13_1, w13_4, w13_7, w13_8, w13_9, w13_12, c_1_1 h, c_5_0 h, c_add h hn hn8, ↓reduceIte, hh_wr, hl_wr, b10, b11, ite_not, ne_eq, Int.reduceEq, Int.reduceLE, Int.reduceLT, Int.reduceNe, Int.reduceNeg, Int.reduceAdd, Int.reduceSub, Int.reduceMul, not_false_eq_true, not_true_eq_false, false_and, and_false, true_and, and_true, and_self, true_or, or_true, false_or, or_false, if_true, if_false, ite_true, ite_false, mj_tl_some, mj_tl_none, mj_cs0, mj_cs1, mj_cs2, mj_cs3, mj_cs4]
/-- 1 << n of a small n -/
theorem shl1 {n : Nat} (hn : n < 31) : ji_shl 1 (n : Int) = 2 ^ n := ji_shl1 n hn
theorem pow8 {n : Nat} (hn : n ≤ 8) : (1 : Int) ≤ 2 ^ n ∧ (2 : Int) ^ n ≤ 256 := by
  rcases (show n = 0 ∨ n = 1 ∨ n = 2 ∨ n = 3 ∨ n = 4 ∨ n = 5 ∨ n = 6 ∨ n = 7 ∨ n = 8 by omega) with rfl | rfl | rfl | rfl | rfl | rfl | rfl | rfl | rfl <;> decide
theorem c_hasForms {b : Int} {n : Nat} (h : CS M) (hn : hh M 6 0 = (n : Int)) (hn8 : n ≤ 8) : wc X d 17 [(29, 6), (0, b)] M Q ↔ Q (some (0, if 0 ≤ b ∧ b ≤ 2 ^ n - 1 then 1 else 0)) M := by
  show wp X d 17 0 [(29, 6), (0, b)] [] M Q ↔ _
  simp only [w17_0, w17_1, w17_4, w17_5, w17_6, w17_7, w17_10, w17_11, w17_14, w17_15, w17_18, w17_19_i, w17_19_0, w17_19_1, hn, shl1 (n := n) (by omega), ↓reduceIte, hh_wr, hl_wr, b10, b11, ite_not, ne_eq, Int.reduceEq, Int.reduceLE, Int.reduceLT, Int.reduceNe, Int.reduceNeg, Int.reduceAdd, Int.reduceSub, Int.reduceMul, not_false_eq_true, not_true_eq_false, false_and, and_false, true_and, and_true, and_self, true_or, or_true, false_or, or_false, if_true, if_false, ite_true, ite_false, mj_tl_some, mj_tl_none, mj_cs0, mj_cs1, mj_cs2, mj_cs3, mj_cs4]
  by_cases h1 : b < 0
  · rw [if_pos h1, if_neg (by omega)]
  · by_cases h2 : b < 2 ^ n
    · rw [if_neg h1, if_pos h2, if_pos (by omega)]
    · rw [if_neg h1, if_neg h2, if_neg (by omega)]
theorem m_areForms {b : Int} {n : Nat} (h : CS M) (hn : hh M 355 0 = (n : Int)) (hn8 : n ≤ 8) : wc X (d + 1) 200 [(32, 354), (0, b)] M Q ↔ Q (some (0, if 0 ≤ b ∧ b ≤ 2 ^ n - 1 then 1 else 0)) M := by
  show wp X (d + 1) 200 0 [(32, 354), (0, b)] [] M Q ↔ _
  have hp := pow8 hn8
  simp only [w200_0, w200_1, w200_2, w200_3, w200_4, w200_7, w200_8, w200_9, w200_10, w200_11, w200_12, w200_15_i, w200_15_0, w200_15_1, c_354_0 h, l_355 h, hn, shl1 (n := n) (by omega), s_isIn, sj (x := 2 ^ n) (y := 1) ⟨by omega, by omega⟩, ↓reduceIte, hh_wr, hl_wr, b10, b11, ite_not, ne_eq, Int.reduceEq, Int.reduceLE, Int.reduceLT, Int.reduceNe, Int.reduceNeg, Int.reduceAdd, Int.reduceSub, Int.reduceMul, not_false_eq_true, not_true_eq_false, false_and, and_false, true_and, and_true, and_self, true_or, or_true, false_or, or_false, if_true, if_false, ite_true, ite_false, mj_tl_some, mj_tl_none, mj_cs0, mj_cs1, mj_cs2, mj_cs3, mj_cs4]
/-- Moment.add of the moment now -/
theorem c_madd {g b : Int} {n : Nat} (h : CS M) (hn : hh M 10 2 = (n : Int)) (hn6 : n ≤ 6) : wc X d 18 [(24, 10), (0, g), (0, b)] M Q ↔ if n ≠ 6 then Q (some (0, (n : Int))) (mj_wr (mj_wr (mj_wr (mj_wr M 11 (n : Int) g) 12 (n : Int) b) 13 (n : Int) 20) 10 2 ((n : Int) + 1)) else Q (some (0, -1)) M := by
  show wp X d 18 0 [(24, 10), (0, g), (0, b)] [] M Q ↔ _
  by_cases h6 : n = 6
  · subst h6
    simp only [w18_0, w18_1, w18_4, w18_6, w18_9, w18_10, w18_11, w18_12, w18_15, w18_16, w18_19, w18_20, w18_21, w18_22, w18_25, w18_26, w18_29, w18_30, w18_31, w18_32, w18_35, w18_36, w18_39, w18_41, w18_42, w18_43, w18_44, w18_47, w18_48, w18_49, w18_52, w18_53, w18_56, w18_57, w18_58, hn, ↓reduceIte, hh_wr, hl_wr, b10, b11, ite_not, ne_eq, Int.reduceEq, Int.reduceLE, Int.reduceLT, Int.reduceNe, Int.reduceNeg, Int.reduceAdd, Int.reduceSub, Int.reduceMul, not_false_eq_true, not_true_eq_false, false_and, and_false, true_and, and_true, and_self, true_or, or_true, false_or, or_false, if_true, if_false, ite_true, ite_false, mj_tl_some, mj_tl_none, mj_cs0, mj_cs1, mj_cs2, mj_cs3, mj_cs4]
    simp
  · have h9 : (n : Int) < 6 := by omega
    simp only [w18_0, w18_1, w18_4, w18_6, w18_9, w18_10, w18_11, w18_12, w18_15, w18_16, w18_19, w18_20, w18_21, w18_22, w18_25, w18_26, w18_29, w18_30, w18_31, w18_32, w18_35, w18_36, w18_39, w18_41, w18_42, w18_43, w18_44, w18_47, w18_48, w18_49, w18_52, w18_53, w18_56, w18_57, w18_58, hn, c_10_4 h, c_10_5 h, c_10_6 h, l_11 h, l_12 h, l_13 h, h6, h9, aj (x := (n : Int)) (y := 1) ⟨by omega, by omega⟩, sj (x := (n : Int) + 1) (y := 1) ⟨by omega, by omega⟩, show (n : Int) + 1 - 1 = (n : Int) by omega, show (0 : Int) ≤ (n : Int) by omega, ↓reduceIte, hh_wr, hl_wr, b10, b11, ite_not, ne_eq, Int.reduceEq, Int.reduceLE, Int.reduceLT, Int.reduceNe, Int.reduceNeg, Int.reduceAdd, Int.reduceSub, Int.reduceMul, not_false_eq_true, not_true_eq_false, false_and, and_false, true_and, and_true, and_self, true_or, or_true, false_or, or_false, if_true, if_false, ite_true, ite_false, mj_tl_some, mj_tl_none, mj_cs0, mj_cs1, mj_cs2, mj_cs3, mj_cs4]
theorem c_addPerson {g b : Int} {n k : Nat} (h : CS M) (hn : hh M 10 2 = (n : Int)) (hn6 : n ≤ 6) (hk : hh M 6 0 = (k : Int)) (hk8 : k ≤ 8) : wc X (d + 1) 16 [(30, 5), (0, g), (0, b)] M Q ↔ if (0 ≤ g ∧ g ≤ 99) ∧ (0 ≤ b ∧ b ≤ 2 ^ k - 1) ∧ n ≠ 6 then Q (some (0, (n : Int))) (mj_wr (mj_wr (mj_wr (mj_wr M 11 (n : Int) g) 12 (n : Int) b) 13 (n : Int) 20) 10 2 ((n : Int) + 1)) else Q (some (0, -1)) M := by
  show wp X (d + 1) 16 0 [(30, 5), (0, g), (0, b)] [] M Q ↔ _
  simp only [w16_0, w16_1, w16_4, w16_5, w16_7, w16_10, w16_11, w16_14, w16_15, w16_18, w16_21, w16_22, w16_25, w16_26, w16_29, w16_30, w16_31, w16_34, c_5_0 h, c_5_1 h, c_hasForms h hk hk8, c_madd h hn hn6, ↓reduceIte, hh_wr, hl_wr, b10, b11, ite_not, ne_eq, Int.reduceEq, Int.reduceLE, Int.reduceLT, Int.reduceNe, Int.reduceNeg, Int.reduceAdd, Int.reduceSub, Int.reduceMul, not_false_eq_true, not_true_eq_false, false_and, and_false, true_and, and_true, and_self, true_or, or_true, false_or, or_false, if_true, if_false, ite_true, ite_false, mj_tl_some, mj_tl_none, mj_cs0, mj_cs1, mj_cs2, mj_cs3, mj_cs4]
  by_cases h1 : g < 0
  · rw [if_pos h1, if_neg (by omega)]
  · by_cases h2 : g ≤ 99
    · by_cases h3 : 0 ≤ b ∧ b ≤ 2 ^ k - 1
      · by_cases h4 : n = 6
        · simp [h1, h2, h3, h4]
        · simp only [h1, h2, h3, h4, ↓reduceIte, hh_wr, hl_wr, b10, b11, ite_not, ne_eq, Int.reduceEq, Int.reduceLE, Int.reduceLT, Int.reduceNe, Int.reduceNeg, Int.reduceAdd, Int.reduceSub, Int.reduceMul, not_false_eq_true, not_true_eq_false, false_and, and_false, true_and, and_true, and_self, true_or, or_true, false_or, or_false, if_true, if_false, ite_true, ite_false, mj_tl_some, mj_tl_none, mj_cs0, mj_cs1, mj_cs2, mj_cs3, mj_cs4]
          rw [if_pos (by omega)]
      · simp only [h1, h2, h3, ↓reduceIte, hh_wr, hl_wr, b10, b11, ite_not, ne_eq, Int.reduceEq, Int.reduceLE, Int.reduceLT, Int.reduceNe, Int.reduceNeg, Int.reduceAdd, Int.reduceSub, Int.reduceMul, not_false_eq_true, not_true_eq_false, false_and, and_false, true_and, and_true, and_self, true_or, or_true, false_or, or_false, if_true, if_false, ite_true, ite_false, mj_tl_some, mj_tl_none, mj_cs0, mj_cs1, mj_cs2, mj_cs3, mj_cs4]
    · simp only [h1, h2, ↓reduceIte, hh_wr, hl_wr, b10, b11, ite_not, ne_eq, Int.reduceEq, Int.reduceLE, Int.reduceLT, Int.reduceNe, Int.reduceNeg, Int.reduceAdd, Int.reduceSub, Int.reduceMul, not_false_eq_true, not_true_eq_false, false_and, and_false, true_and, and_true, and_self, true_or, or_true, false_or, or_false, if_true, if_false, ite_true, ite_false, mj_tl_some, mj_tl_none, mj_cs0, mj_cs1, mj_cs2, mj_cs3, mj_cs4]
theorem p_person {g b : Int} {n k : Nat} (h : CS M) (hn : hh M 10 2 = (n : Int)) (hn6 : n ≤ 6) (hk : hh M 6 0 = (k : Int)) (hk8 : k ≤ 8) : wc X (d + 2) 15 [(31, 1), (0, g), (0, b)] M Q ↔ if (0 ≤ g ∧ g ≤ 99) ∧ (0 ≤ b ∧ b ≤ 2 ^ k - 1) ∧ n ≠ 6 then Q (some (0, (n : Int))) (mj_wr (mj_wr (mj_wr (mj_wr M 11 (n : Int) g) 12 (n : Int) b) 13 (n : Int) 20) 10 2 ((n : Int) + 1)) else Q (some (0, -1)) M := by
  show wp X (d + 2) 15 0 [(31, 1), (0, g), (0, b)] [] M Q ↔ _
  simp only [w15_0, w15_1, w15_4, w15_5, w15_6, w15_9, c_1_1 h, c_addPerson h hn hn6 hk hk8, ↓reduceIte, hh_wr, hl_wr, b10, b11, ite_not, ne_eq, Int.reduceEq, Int.reduceLE, Int.reduceLT, Int.reduceNe, Int.reduceNeg, Int.reduceAdd, Int.reduceSub, Int.reduceMul, not_false_eq_true, not_true_eq_false, false_and, and_false, true_and, and_true, and_self, true_or, or_true, false_or, or_false, if_true, if_false, ite_true, ite_false, mj_tl_some, mj_tl_none, mj_cs0, mj_cs1, mj_cs2, mj_cs3, mj_cs4]
theorem m_begin {p : Int} (h : CS M) (hp : 0 ≤ p ∧ p < 6) : wc X (d + 1) 202 [(32, 354), (0, p)] M Q ↔ Q none (mj_wr (mj_wr (mj_wr M 355 (11 + 5 * p + 0) (hh M 355 (11 + 5 * p + 3))) 355 (11 + 5 * p + 1) (hh M 355 (11 + 5 * p + 4))) 355 (11 + 5 * p + 2) 20) := by
  show wp X (d + 1) 202 0 [(32, 354), (0, p)] [] M Q ↔ _
  have gg : ∀ {M : mj_M}, CS M → ∀ {Q w}, 0 ≤ w ∧ w < 5 → (wc X d 203 [(32, 354), (0, p), (0, w)] M Q ↔ Q (some (0, hh M 355 (11 + 5 * p + w))) M) := fun h _ _ hw => m_get h hp hw
  have pp : ∀ {M : mj_M}, CS M → ∀ {Q w v}, 0 ≤ w ∧ w < 5 → (wc X d 201 [(32, 354), (0, p), (0, w), (0, v)] M Q ↔ Q none (mj_wr M 355 (11 + 5 * p + w) v)) := fun h _ _ _ hw => m_put h hp hw
  simp only [w202_0, w202_1, w202_2, w202_3, w202_4, w202_5, w202_6, w202_9, w202_12, w202_13, w202_14, w202_15, w202_16, w202_17, w202_18, w202_21, w202_24, w202_25, w202_26, w202_27, w202_29, w202_32, gg h, pp h, gg (cs355 h), pp (cs355 h), pp (cs355 (cs355 h)), ↓reduceIte, hh_wr, hl_wr, b10, b11, ite_not, ne_eq, Int.reduceEq, Int.reduceLE, Int.reduceLT, Int.reduceNe, Int.reduceNeg, Int.reduceAdd, Int.reduceSub, Int.reduceMul, not_false_eq_true, not_true_eq_false, false_and, and_false, true_and, and_true, and_self, true_or, or_true, false_or, or_false, if_true, if_false, ite_true, ite_false, mj_tl_some, mj_tl_none, mj_cs0, mj_cs1, mj_cs2, mj_cs3, mj_cs4]
  have e : ¬ (11 + 5 * p + 4 = 11 + 5 * p + 0) := by omega
  simp only [e, ↓reduceIte, hh_wr, hl_wr, b10, b11, ite_not, ne_eq, Int.reduceEq, Int.reduceLE, Int.reduceLT, Int.reduceNe, Int.reduceNeg, Int.reduceAdd, Int.reduceSub, Int.reduceMul, not_false_eq_true, not_true_eq_false, false_and, and_false, true_and, and_true, and_self, true_or, or_true, false_or, or_false, if_true, if_false, ite_true, ite_false, mj_tl_some, mj_tl_none, mj_cs0, mj_cs1, mj_cs2, mj_cs3, mj_cs4]
end Low2
