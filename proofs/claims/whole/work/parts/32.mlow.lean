/-! THE REFERENCE: its small methods -/
section MLow
variable {X : mj_X} {d : Nat} {M : mj_M} {Q : Option mj_V → mj_M → Prop}
theorem b10 {P : Prop} {hP : Decidable P} : ((@ite Int P hP 1 0) = 0) = ¬ P := by by_cases h : P <;> simp [h]
theorem b11 {P : Prop} {hP : Decidable P} : ((@ite Int P hP 1 0) = 1) = P := by by_cases h : P <;> simp [h]
/-- numbers small enough -/
theorem nn {x : Int} (h : -1000000 ≤ x ∧ x ≤ 1000000) : mj_in32 x := ⟨by omega, by omega⟩
theorem aj {x y : Int} (h : -1000000 ≤ x + y ∧ x + y ≤ 1000000) : ji_add x y = x + y := ji_add_eq (nn h)
theorem sj {x y : Int} (h : -1000000 ≤ x - y ∧ x - y ≤ 1000000) : ji_sub x y = x - y := ji_sub_eq (nn h)
theorem mj5 {p : Int} (h : -1000 ≤ p ∧ p ≤ 1000) : ji_mul 5 p = 5 * p := ji_mul_eq (nn ⟨by omega, by omega⟩)
theorem mj2 {p : Int} (h : -1000 ≤ p ∧ p ≤ 1000) : ji_mul 2 p = 2 * p := ji_mul_eq (nn ⟨by omega, by omega⟩)
theorem m_get {p w : Int} (h : CS M) (hp : 0 ≤ p ∧ p < 6) (hw : 0 ≤ w ∧ w < 5) : wc X d 203 [(32, 354), (0, p), (0, w)] M Q ↔ Q (some (0, hh M 355 (11 + 5 * p + w))) M := s_get (by decide) (c_354_0 h) (by decide) (l_355 h) hp hw
theorem m_put {p w v : Int} (h : CS M) (hp : 0 ≤ p ∧ p < 6) (hw : 0 ≤ w ∧ w < 5) : wc X d 201 [(32, 354), (0, p), (0, w), (0, v)] M Q ↔ Q none (mj_wr M 355 (11 + 5 * p + w) v) := by
  show wp X d 201 0 [(32, 354), (0, p), (0, w), (0, v)] [] M Q ↔ _
  simp only [w201_0, w201_1, w201_4, w201_6, w201_7, w201_8, w201_9, w201_10, w201_11, w201_12, w201_13, w201_14, c_354_0 h, l_355 h, mj5 (p := p) ⟨by omega, by omega⟩, aj (x := 11) (y := 5 * p) ⟨by omega, by omega⟩, aj (x := 11 + 5 * p) (y := w) ⟨by omega, by omega⟩]
  constructor
  · exact fun q => q.2.2
  · exact fun q => ⟨by decide, ⟨by decide, by omega, by omega⟩, q⟩
theorem m_isPerson {p : Int} (h : CS M) (hP : 0 ≤ hh M 355 1 ∧ hh M 355 1 ≤ 6) : wc X (d + 1) 262 [(32, 354), (0, p)] M Q ↔ Q (some (0, if 0 ≤ p ∧ p ≤ hh M 355 1 - 1 then 1 else 0)) M := by
  show wp X (d + 1) 262 0 [(32, 354), (0, p)] [] M Q ↔ _
  simp only [w262_0, w262_1, w262_2, w262_3, w262_6, w262_7, w262_8, w262_9, w262_10, w262_13_i, w262_13_0, w262_13_1, c_354_0 h, l_355 h, s_isIn, mj_tl_some, mj_cs0, sj (x := hh M 355 1) (y := 1) ⟨by omega, by omega⟩]
  simp
theorem m_isForm {p : Int} (h : CS M) (hP : 0 ≤ hh M 355 0 ∧ hh M 355 0 ≤ 8) : wc X (d + 1) 261 [(32, 354), (0, p)] M Q ↔ Q (some (0, if 0 ≤ p ∧ p ≤ hh M 355 0 - 1 then 1 else 0)) M := by
  show wp X (d + 1) 261 0 [(32, 354), (0, p)] [] M Q ↔ _
  simp only [w261_0, w261_1, w261_2, w261_3, w261_6, w261_7, w261_8, w261_9, w261_10, w261_13_i, w261_13_0, w261_13_1, c_354_0 h, l_355 h, s_isIn, mj_tl_some, mj_cs0, sj (x := hh M 355 0) (y := 1) ⟨by omega, by omega⟩]
  simp
theorem m_isStory {p : Int} (h : CS M) (hP : 0 ≤ hh M 355 2 ∧ hh M 355 2 ≤ 4) : wc X (d + 1) 247 [(32, 354), (0, p)] M Q ↔ Q (some (0, if 0 ≤ p ∧ p ≤ hh M 355 2 - 1 then 1 else 0)) M := by
  show wp X (d + 1) 247 0 [(32, 354), (0, p)] [] M Q ↔ _
  simp only [w247_0, w247_1, w247_2, w247_3, w247_6, w247_7, w247_8, w247_9, w247_10, w247_13_i, w247_13_0, w247_13_1, c_354_0 h, l_355 h, s_isIn, mj_tl_some, mj_cs0, sj (x := hh M 355 2) (y := 1) ⟨by omega, by omega⟩]
  simp
theorem m_kindOf {f : Int} (h : CS M) (hf : 0 ≤ f ∧ f < 8) : wc X d 252 [(32, 354), (0, f)] M Q ↔ Q (some (0, hh M 355 (41 + 2 * f))) M := by
  show wp X d 252 0 [(32, 354), (0, f)] [] M Q ↔ _
  simp only [w252_0, w252_1, w252_4, w252_6, w252_7, w252_8, w252_9, w252_10, w252_11, c_354_0 h, l_355 h, mj2 (p := f) ⟨by omega, by omega⟩, aj (x := 41) (y := 2 * f) ⟨by omega, by omega⟩]
  constructor
  · exact fun q => q.2.2
  · exact fun q => ⟨by decide, ⟨by decide, by omega, by omega⟩, q⟩
theorem m_lengthOf {f : Int} (h : CS M) (hf : 0 ≤ f ∧ f < 8) : wc X d 253 [(32, 354), (0, f)] M Q ↔ Q (some (0, hh M 355 (41 + 2 * f + 1))) M := by
  show wp X d 253 0 [(32, 354), (0, f)] [] M Q ↔ _
  simp only [w253_0, w253_1, w253_4, w253_6, w253_7, w253_8, w253_9, w253_10, w253_11, w253_12, w253_13, c_354_0 h, l_355 h, mj2 (p := f) ⟨by omega, by omega⟩, aj (x := 41) (y := 2 * f) ⟨by omega, by omega⟩, aj (x := 41 + 2 * f) (y := 1) ⟨by omega, by omega⟩]
  constructor
  · exact fun q => q.2.2
  · exact fun q => ⟨by decide, ⟨by decide, by omega, by omega⟩, q⟩
/-- form: what it answers, what it does -/
theorem m_form {kd l : Int} {n : Nat} (h : CS M) (hn : hh M 355 0 = (n : Int)) (hn8 : n ≤ 8) : wc X (d + 1) 198 [(32, 354), (0, kd), (0, l)] M Q ↔ if (0 ≤ kd ∧ kd ≤ 4) ∧ (1 ≤ l ∧ l ≤ 9) ∧ n ≠ 8 then Q (some (0, (n : Int))) (mj_wr (mj_wr (mj_wr M 355 (41 + 2 * (n : Int)) kd) 355 (41 + 2 * (n : Int) + 1) l) 355 0 ((n : Int) + 1)) else Q (some (0, -1)) M := by
  show wp X (d + 1) 198 0 [(32, 354), (0, kd), (0, l)] [] M Q ↔ _
  have e1 : ¬ ((0 : Int) = 41 + 2 * (n : Int)) := by omega
  have e2 : ¬ ((0 : Int) = 41 + 2 * (n : Int) + 1) := by omega
  by_cases h8 : n = 8
  · subst h8
    simp only [w198_0, w198_1, w198_2, w198_3, w198_6, w198_9, w198_10, w198_11, w198_13, w198_16, w198_19, w198_20, w198_23, w198_24, w198_25, w198_27, w198_30, w198_31, w198_32, w198_33, w198_36, w198_38, w198_39, w198_40, w198_43, w198_44, w198_45, w198_46, w198_47, w198_48, w198_49, w198_50, w198_53, w198_55, w198_56, w198_57, w198_60, w198_61, w198_62, w198_63, w198_64, w198_65, w198_66, w198_67, w198_68, w198_69, w198_72, w198_73, w198_74, w198_75, w198_76, w198_77, w198_78, w198_79, w198_82, w198_83, w198_84, w198_85, w198_86, c_354_0 h, l_355 h, s_isIn, hn, ↓reduceIte, hh_wr, hl_wr, b10, b11, ite_not, ne_eq, Int.reduceEq, Int.reduceLE, Int.reduceLT, Int.reduceNe, Int.reduceNeg, Int.reduceAdd, Int.reduceSub, Int.reduceMul, not_false_eq_true, not_true_eq_false, false_and, and_false, true_and, and_true, and_self, true_or, or_true, false_or, or_false, if_true, if_false, ite_true, ite_false, mj_tl_some, mj_tl_none, mj_cs0, mj_cs1, mj_cs2, mj_cs3, mj_cs4]
    by_cases h1 : 0 ≤ kd ∧ kd ≤ 4
    · by_cases h2 : 1 ≤ l ∧ l ≤ 9
      · simp [h1, h2]
      · simp [h1, h2]
    · simp [h1]
  · have h9 : ¬ ((n : Int) = 8) := by omega
    simp only [w198_0, w198_1, w198_2, w198_3, w198_6, w198_9, w198_10, w198_11, w198_13, w198_16, w198_19, w198_20, w198_23, w198_24, w198_25, w198_27, w198_30, w198_31, w198_32, w198_33, w198_36, w198_38, w198_39, w198_40, w198_43, w198_44, w198_45, w198_46, w198_47, w198_48, w198_49, w198_50, w198_53, w198_55, w198_56, w198_57, w198_60, w198_61, w198_62, w198_63, w198_64, w198_65, w198_66, w198_67, w198_68, w198_69, w198_72, w198_73, w198_74, w198_75, w198_76, w198_77, w198_78, w198_79, w198_82, w198_83, w198_84, w198_85, w198_86, c_354_0 h, l_355 h, s_isIn, hn, h8, h9, mj2 (p := (n : Int)) ⟨by omega, by omega⟩, aj (x := 41) (y := 2 * (n : Int)) ⟨by omega, by omega⟩, aj (x := 41 + 2 * (n : Int)) (y := 1) ⟨by omega, by omega⟩, aj (x := (n : Int)) (y := 1) ⟨by omega, by omega⟩, sj (x := (n : Int) + 1) (y := 1) ⟨by omega, by omega⟩, e1, e2, show (n : Int) + 1 - 1 = (n : Int) by omega, ↓reduceIte, hh_wr, hl_wr, b10, b11, ite_not, ne_eq, Int.reduceEq, Int.reduceLE, Int.reduceLT, Int.reduceNe, Int.reduceNeg, Int.reduceAdd, Int.reduceSub, Int.reduceMul, not_false_eq_true, not_true_eq_false, false_and, and_false, true_and, and_true, and_self, true_or, or_true, false_or, or_false, if_true, if_false, ite_true, ite_false, mj_tl_some, mj_tl_none, mj_cs0, mj_cs1, mj_cs2, mj_cs3, mj_cs4]
    by_cases h1 : 0 ≤ kd ∧ kd ≤ 4
    · by_cases h2 : 1 ≤ l ∧ l ≤ 9
      · simp only [h1, h2, ↓reduceIte, hh_wr, hl_wr, b10, b11, ite_not, ne_eq, Int.reduceEq, Int.reduceLE, Int.reduceLT, Int.reduceNe, Int.reduceNeg, Int.reduceAdd, Int.reduceSub, Int.reduceMul, not_false_eq_true, not_true_eq_false, false_and, and_false, true_and, and_true, and_self, true_or, or_true, false_or, or_false, if_true, if_false, ite_true, ite_false, mj_tl_some, mj_tl_none, mj_cs0, mj_cs1, mj_cs2, mj_cs3, mj_cs4]
        constructor
        · exact fun q => q.2.2
        · exact fun q => ⟨⟨by omega, by omega⟩, ⟨by omega, by omega⟩, q⟩
      · simp [h1, h2]
    · simp [h1]
end MLow
