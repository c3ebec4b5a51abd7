/-! PLAYED: a clause, the reference -/
section Plays2
variable {X : mj_X} {d : Nat} {M : mj_M} {A : Int → Int} {Lf Ll : Option (Env → Int)}
theorem fz.u3 {M1 : mj_M} (f : fz [3] M M1) : fz [3, 8, 9] M M1 := f.mono (fun z hz => by simp at hz ⊢; omega)
theorem m_isPlayed {x s a b c r : Int} (h : RW M) (co : Cok M) (w : hh M 354 36 = 1) (eA : hh M 355 = A) (t1 : TxL M r (A 4) 0 2 Lf) (t2 : TxL M r (A 4) 1 4 Ll) (hx : 0 ≤ x ∧ x + 3 < 2820) (es : hh M 357 x = s) (ea : hh M 357 (x + 1) = a) (eb : hh M 357 (x + 2) = b) (ec : hh M 357 (x + 3) = c) (s8 : 0 ≤ s ∧ s ≤ 8) (a8 : s = 8 → 1 ≤ a ∧ a ≤ 60) : wc X (d + 10) 293 [(32, 354), (0, x)] M (fun q M1 => q = some (0, plO Ll A s a b c) ∧ fz [3, 8, 9] M M1 ∧ Cok M1 ∧ hh M1 355 = plR Lf Ll A s a b c) := by
  show wp X (d + 10) 293 0 [(32, 354), (0, x), (9, 0), (9, 0)] [] M _
  have hai := h.ai
  rw [eA] at hai
  have x1 : ji_add x 1 = x + 1 := aj ⟨by omega, by omega⟩
  have x2 : ji_add x 2 = x + 2 := aj ⟨by omega, by omega⟩
  have x3 : ji_add x 3 = x + 3 := aj ⟨by omega, by omega⟩
  simp only [w293_0, w293_1, w293_4, w293_5, w293_6, w293_7, w293_8, w293_9, w293_10, w293_13, w293_14, w293_15, w293_16, w293_17, w293_18, w293_19, w293_22, w293_23, c_1_0 h.cs, c_1_1 h.cs, c_1_2 h.cs, c_1_3 h.cs, c_1_4 h.cs, c_1_5 h.cs, c_1_6 h.cs, c_1_7 h.cs, c_1_8 h.cs, c_2_0 h.cs, c_2_1 h.cs, c_5_0 h.cs, c_5_1 h.cs, c_5_2 h.cs, c_5_3 h.cs, c_5_5 h.cs, c_5_8 h.cs, c_5_11 h.cs, c_6_1 h.cs, c_6_2 h.cs, c_6_3 h.cs, c_10_4 h.cs, c_10_5 h.cs, c_10_6 h.cs, c_10_7 h.cs, c_15_1 h.cs, c_17_1 h.cs, c_339_0 h.cs, c_341_0 h.cs, c_341_1 h.cs, c_341_2 h.cs, c_342_4 h.cs, c_342_5 h.cs, c_342_6 h.cs, c_342_7 h.cs, c_347_0 h.cs, c_347_2 h.cs, c_347_3 h.cs, c_349_0 h.cs, c_349_1 h.cs, c_349_2 h.cs, c_351_2 h.cs, c_351_10 h.cs, c_351_12 h.cs, c_354_0 h.cs, c_354_1 h.cs, c_354_2 h.cs, c_354_3 h.cs, c_354_4 h.cs, c_354_5 h.cs, c_354_6 h.cs, c_354_7 h.cs, c_354_8 h.cs, c_354_20 h.cs, c_354_25 h.cs, c_354_26 h.cs, c_354_27 h.cs, c_354_28 h.cs, c_354_32 h.cs, c_354_33 h.cs, c_354_34 h.cs, c_354_35 h.cs, c_354_38 h.cs, l_3 h.cs, l_4 h.cs, l_7 h.cs, l_8 h.cs, l_9 h.cs, l_11 h.cs, l_12 h.cs, l_13 h.cs, l_14 h.cs, l_16 h.cs, l_18 h.cs, l_19 h.cs, l_20 h.cs, l_21 h.cs, l_340 h.cs, l_343 h.cs, l_344 h.cs, l_345 h.cs, l_346 h.cs, l_348 h.cs, l_350 h.cs, l_352 h.cs, l_353 h.cs, l_355 h.cs, l_356 h.cs, l_357 h.cs, l_358 h.cs, l_359 h.cs, l_360 h.cs, l_361 h.cs, l_362 h.cs, l_363 h.cs, l_364 h.cs, l_365 h.cs, l_366 h.cs, l_367 h.cs, l_368 h.cs, l_369 h.cs, l_370 h.cs, l_371 h.cs, l_372 h.cs, l_373 h.cs, x1, x2, es, ea, eb, show (0 : Int) ≤ x by omega, show x < 2820 by omega, show (0 : Int) ≤ x + 1 by omega, show x + 1 < 2820 by omega, show (0 : Int) ≤ x + 2 by omega, show x + 2 < 2820 by omega, ↓reduceIte, hh_wr, hl_wr, b10, b11, ite_not, ne_eq, Int.reduceEq, Int.reduceLE, Int.reduceLT, Int.reduceNe, Int.reduceNeg, Int.reduceAdd, Int.reduceSub, Int.reduceMul, not_false_eq_true, not_true_eq_false, false_and, and_false, true_and, and_true, and_self, true_or, or_true, false_or, or_false, if_true, if_false, ite_true, ite_false, mj_tl_some, mj_tl_none, mj_cs0, mj_cs1, mj_cs2, mj_cs3, mj_cs4]
  rcases (show s = 0 ∨ s = 1 ∨ s = 2 ∨ s = 3 ∨ s = 4 ∨ s = 5 ∨ s = 6 ∨ s = 7 ∨ s = 8 by omega) with rfl | rfl | rfl | rfl | rfl | rfl | rfl | rfl | rfl
  · simp only [w293_0, w293_1, w293_4, w293_5, w293_6, w293_7, w293_8, w293_9, w293_10, w293_13, w293_14, w293_15, w293_16, w293_17, w293_18, w293_19, w293_22, w293_23, w293_24, w293_68, w293_69, w293_70, w293_71, w293_74, w293_77, w293_78, w293_81, w293_82_i, w293_82_0, w293_82_1, w293_83, w293_84, w293_85, w293_86, w293_89, w293_92, w293_93, w293_96, w293_97_i, w293_97_0, w293_97_1, w293_98, w293_99, w293_100, w293_103, w293_106, w293_107, w293_110, w293_111_i, w293_111_0, w293_111_1, w293_112, w293_113, w293_114, w293_115, w293_116, w293_119, w293_120, w293_121, w293_122, w293_123, w293_126_i, w293_126_0, w293_126_1, w293_127, w293_128, w293_129, w293_130, w293_133_i, w293_133_0, w293_133_1, w293_134, w293_135, w293_136, w293_137, w293_140, w293_143, w293_144, w293_147, w293_148_i, w293_148_0, w293_148_1, w293_149, w293_150, w293_151, w293_154_i, w293_154_0, w293_154_1, w293_155, w293_156_i, w293_156_0, w293_156_1, ↓reduceIte, hh_wr, hl_wr, b10, b11, ite_not, ne_eq, Int.reduceEq, Int.reduceLE, Int.reduceLT, Int.reduceNe, Int.reduceNeg, Int.reduceAdd, Int.reduceSub, Int.reduceMul, not_false_eq_true, not_true_eq_false, false_and, and_false, true_and, and_true, and_self, true_or, or_true, false_or, or_false, if_true, if_false, ite_true, ite_false, mj_tl_some, mj_tl_none, mj_cs0, mj_cs1, mj_cs2, mj_cs3, mj_cs4]
    exact ⟨rfl, fz.rfl', co, eA⟩
  · simp only [w293_0, w293_1, w293_4, w293_5, w293_6, w293_7, w293_8, w293_9, w293_10, w293_13, w293_14, w293_15, w293_16, w293_17, w293_18, w293_19, w293_22, w293_23, w293_24, w293_68, w293_69, w293_70, w293_71, w293_74, w293_77, w293_78, w293_81, w293_82_i, w293_82_0, w293_82_1, w293_83, w293_84, w293_85, w293_86, w293_89, w293_92, w293_93, w293_96, w293_97_i, w293_97_0, w293_97_1, w293_98, w293_99, w293_100, w293_103, w293_106, w293_107, w293_110, w293_111_i, w293_111_0, w293_111_1, w293_112, w293_113, w293_114, w293_115, w293_116, w293_119, w293_120, w293_121, w293_122, w293_123, w293_126_i, w293_126_0, w293_126_1, w293_127, w293_128, w293_129, w293_130, w293_133_i, w293_133_0, w293_133_1, w293_134, w293_135, w293_136, w293_137, w293_140, w293_143, w293_144, w293_147, w293_148_i, w293_148_0, w293_148_1, w293_149, w293_150, w293_151, w293_154_i, w293_154_0, w293_154_1, w293_155, w293_156_i, w293_156_0, w293_156_1, ↓reduceIte, hh_wr, hl_wr, b10, b11, ite_not, ne_eq, Int.reduceEq, Int.reduceLE, Int.reduceLT, Int.reduceNe, Int.reduceNeg, Int.reduceAdd, Int.reduceSub, Int.reduceMul, not_false_eq_true, not_true_eq_false, false_and, and_false, true_and, and_true, and_self, true_or, or_true, false_or, or_false, if_true, if_false, ite_true, ite_false, mj_tl_some, mj_tl_none, mj_cs0, mj_cs1, mj_cs2, mj_cs3, mj_cs4]
    exact ⟨rfl, fz.rfl', co, eA⟩
  · simp only [w293_24, w293_68, w293_69, w293_70, w293_71, ↓reduceIte, hh_wr, hl_wr, b10, b11, ite_not, ne_eq, Int.reduceEq, Int.reduceLE, Int.reduceLT, Int.reduceNe, Int.reduceNeg, Int.reduceAdd, Int.reduceSub, Int.reduceMul, not_false_eq_true, not_true_eq_false, false_and, and_false, true_and, and_true, and_self, true_or, or_true, false_or, or_false, if_true, if_false, ite_true, ite_false, mj_tl_some, mj_tl_none, mj_cs0, mj_cs1, mj_cs2, mj_cs3, mj_cs4]
    refine wc.mono (m_formW (d := d + 8) h.cs h.ai) ?_
    rintro q M1 ⟨hy, hno⟩
    rw [eA] at hy hno
    have f0 := hai.f0
    by_cases hb : fmB A a b
    · obtain ⟨rfl, f1, r1⟩ := hy hb
      have e1 : plO Ll A 2 a b c = 1 := by unfold plO; rw [if_pos rfl, if_pos hb]
      have e2 : plR Lf Ll A 2 a b c = fmA A a b := by unfold plR; rw [if_pos rfl, if_pos hb]
      rw [e1, e2]
      simp only [w293_0, w293_1, w293_4, w293_5, w293_6, w293_7, w293_8, w293_9, w293_10, w293_13, w293_14, w293_15, w293_16, w293_17, w293_18, w293_19, w293_22, w293_23, w293_24, w293_68, w293_69, w293_70, w293_71, w293_74, w293_77, w293_78, w293_81, w293_82_i, w293_82_0, w293_82_1, w293_83, w293_84, w293_85, w293_86, w293_89, w293_92, w293_93, w293_96, w293_97_i, w293_97_0, w293_97_1, w293_98, w293_99, w293_100, w293_103, w293_106, w293_107, w293_110, w293_111_i, w293_111_0, w293_111_1, w293_112, w293_113, w293_114, w293_115, w293_116, w293_119, w293_120, w293_121, w293_122, w293_123, w293_126_i, w293_126_0, w293_126_1, w293_127, w293_128, w293_129, w293_130, w293_133_i, w293_133_0, w293_133_1, w293_134, w293_135, w293_136, w293_137, w293_140, w293_143, w293_144, w293_147, w293_148_i, w293_148_0, w293_148_1, w293_149, w293_150, w293_151, w293_154_i, w293_154_0, w293_154_1, w293_155, w293_156_i, w293_156_0, w293_156_1, show ¬ A 0 < 0 by omega, ↓reduceIte, hh_wr, hl_wr, b10, b11, ite_not, ne_eq, Int.reduceEq, Int.reduceLE, Int.reduceLT, Int.reduceNe, Int.reduceNeg, Int.reduceAdd, Int.reduceSub, Int.reduceMul, not_false_eq_true, not_true_eq_false, false_and, and_false, true_and, and_true, and_self, true_or, or_true, false_or, or_false, if_true, if_false, ite_true, ite_false, mj_tl_some, mj_tl_none, mj_cs0, mj_cs1, mj_cs2, mj_cs3, mj_cs4]
      exact ⟨f1.u3, co.fz f1 (by decide), r1⟩
    · obtain ⟨rfl, rfl⟩ := hno hb
      have e1 : plO Ll A 2 a b c = 0 := by unfold plO; rw [if_pos rfl, if_neg hb]
      have e2 : plR Lf Ll A 2 a b c = A := by unfold plR; rw [if_pos rfl, if_neg hb]
      rw [e1, e2]
      simp only [w293_0, w293_1, w293_4, w293_5, w293_6, w293_7, w293_8, w293_9, w293_10, w293_13, w293_14, w293_15, w293_16, w293_17, w293_18, w293_19, w293_22, w293_23, w293_24, w293_68, w293_69, w293_70, w293_71, w293_74, w293_77, w293_78, w293_81, w293_82_i, w293_82_0, w293_82_1, w293_83, w293_84, w293_85, w293_86, w293_89, w293_92, w293_93, w293_96, w293_97_i, w293_97_0, w293_97_1, w293_98, w293_99, w293_100, w293_103, w293_106, w293_107, w293_110, w293_111_i, w293_111_0, w293_111_1, w293_112, w293_113, w293_114, w293_115, w293_116, w293_119, w293_120, w293_121, w293_122, w293_123, w293_126_i, w293_126_0, w293_126_1, w293_127, w293_128, w293_129, w293_130, w293_133_i, w293_133_0, w293_133_1, w293_134, w293_135, w293_136, w293_137, w293_140, w293_143, w293_144, w293_147, w293_148_i, w293_148_0, w293_148_1, w293_149, w293_150, w293_151, w293_154_i, w293_154_0, w293_154_1, w293_155, w293_156_i, w293_156_0, w293_156_1, ↓reduceIte, hh_wr, hl_wr, b10, b11, ite_not, ne_eq, Int.reduceEq, Int.reduceLE, Int.reduceLT, Int.reduceNe, Int.reduceNeg, Int.reduceAdd, Int.reduceSub, Int.reduceMul, not_false_eq_true, not_true_eq_false, false_and, and_false, true_and, and_true, and_self, true_or, or_true, false_or, or_false, if_true, if_false, ite_true, ite_false, mj_tl_some, mj_tl_none, mj_cs0, mj_cs1, mj_cs2, mj_cs3, mj_cs4]
      exact ⟨fz.rfl', co, eA⟩
  · simp only [w293_24, w293_83, w293_84, w293_85, w293_86, ↓reduceIte, hh_wr, hl_wr, b10, b11, ite_not, ne_eq, Int.reduceEq, Int.reduceLE, Int.reduceLT, Int.reduceNe, Int.reduceNeg, Int.reduceAdd, Int.reduceSub, Int.reduceMul, not_false_eq_true, not_true_eq_false, false_and, and_false, true_and, and_true, and_self, true_or, or_true, false_or, or_false, if_true, if_false, ite_true, ite_false, mj_tl_some, mj_tl_none, mj_cs0, mj_cs1, mj_cs2, mj_cs3, mj_cs4]
    refine wc.mono (m_person (d := d + 7) h.cs h.ai) ?_
    rintro q M1 ⟨hy, hno⟩
    rw [eA] at hy hno
    have p0 : 0 ≤ A 1 := hai.now.p0
    by_cases hb : pnB A a b
    · obtain ⟨rfl, f1, r1⟩ := hy hb
      have e1 : plO Ll A 3 a b c = 1 := by unfold plO; rw [if_neg (by decide), if_pos rfl, if_pos hb]
      have e2 : plR Lf Ll A 3 a b c = pnA A a b := by unfold plR; rw [if_neg (by decide), if_pos rfl, if_pos hb]
      rw [e1, e2]
      simp only [w293_0, w293_1, w293_4, w293_5, w293_6, w293_7, w293_8, w293_9, w293_10, w293_13, w293_14, w293_15, w293_16, w293_17, w293_18, w293_19, w293_22, w293_23, w293_24, w293_68, w293_69, w293_70, w293_71, w293_74, w293_77, w293_78, w293_81, w293_82_i, w293_82_0, w293_82_1, w293_83, w293_84, w293_85, w293_86, w293_89, w293_92, w293_93, w293_96, w293_97_i, w293_97_0, w293_97_1, w293_98, w293_99, w293_100, w293_103, w293_106, w293_107, w293_110, w293_111_i, w293_111_0, w293_111_1, w293_112, w293_113, w293_114, w293_115, w293_116, w293_119, w293_120, w293_121, w293_122, w293_123, w293_126_i, w293_126_0, w293_126_1, w293_127, w293_128, w293_129, w293_130, w293_133_i, w293_133_0, w293_133_1, w293_134, w293_135, w293_136, w293_137, w293_140, w293_143, w293_144, w293_147, w293_148_i, w293_148_0, w293_148_1, w293_149, w293_150, w293_151, w293_154_i, w293_154_0, w293_154_1, w293_155, w293_156_i, w293_156_0, w293_156_1, show ¬ A 1 < 0 by omega, ↓reduceIte, hh_wr, hl_wr, b10, b11, ite_not, ne_eq, Int.reduceEq, Int.reduceLE, Int.reduceLT, Int.reduceNe, Int.reduceNeg, Int.reduceAdd, Int.reduceSub, Int.reduceMul, not_false_eq_true, not_true_eq_false, false_and, and_false, true_and, and_true, and_self, true_or, or_true, false_or, or_false, if_true, if_false, ite_true, ite_false, mj_tl_some, mj_tl_none, mj_cs0, mj_cs1, mj_cs2, mj_cs3, mj_cs4]
      exact ⟨f1.u3, co.fz f1 (by decide), r1⟩
    · obtain ⟨rfl, rfl⟩ := hno hb
      have e1 : plO Ll A 3 a b c = 0 := by unfold plO; rw [if_neg (by decide), if_pos rfl, if_neg hb]
      have e2 : plR Lf Ll A 3 a b c = A := by unfold plR; rw [if_neg (by decide), if_pos rfl, if_neg hb]
      rw [e1, e2]
      simp only [w293_0, w293_1, w293_4, w293_5, w293_6, w293_7, w293_8, w293_9, w293_10, w293_13, w293_14, w293_15, w293_16, w293_17, w293_18, w293_19, w293_22, w293_23, w293_24, w293_68, w293_69, w293_70, w293_71, w293_74, w293_77, w293_78, w293_81, w293_82_i, w293_82_0, w293_82_1, w293_83, w293_84, w293_85, w293_86, w293_89, w293_92, w293_93, w293_96, w293_97_i, w293_97_0, w293_97_1, w293_98, w293_99, w293_100, w293_103, w293_106, w293_107, w293_110, w293_111_i, w293_111_0, w293_111_1, w293_112, w293_113, w293_114, w293_115, w293_116, w293_119, w293_120, w293_121, w293_122, w293_123, w293_126_i, w293_126_0, w293_126_1, w293_127, w293_128, w293_129, w293_130, w293_133_i, w293_133_0, w293_133_1, w293_134, w293_135, w293_136, w293_137, w293_140, w293_143, w293_144, w293_147, w293_148_i, w293_148_0, w293_148_1, w293_149, w293_150, w293_151, w293_154_i, w293_154_0, w293_154_1, w293_155, w293_156_i, w293_156_0, w293_156_1, ↓reduceIte, hh_wr, hl_wr, b10, b11, ite_not, ne_eq, Int.reduceEq, Int.reduceLE, Int.reduceLT, Int.reduceNe, Int.reduceNeg, Int.reduceAdd, Int.reduceSub, Int.reduceMul, not_false_eq_true, not_true_eq_false, false_and, and_false, true_and, and_true, and_self, true_or, or_true, false_or, or_false, if_true, if_false, ite_true, ite_false, mj_tl_some, mj_tl_none, mj_cs0, mj_cs1, mj_cs2, mj_cs3, mj_cs4]
      exact ⟨fz.rfl', co, eA⟩
  · simp only [w293_24, w293_98, w293_99, w293_100, ↓reduceIte, hh_wr, hl_wr, b10, b11, ite_not, ne_eq, Int.reduceEq, Int.reduceLE, Int.reduceLT, Int.reduceNe, Int.reduceNeg, Int.reduceAdd, Int.reduceSub, Int.reduceMul, not_false_eq_true, not_true_eq_false, false_and, and_false, true_and, and_true, and_self, true_or, or_true, false_or, or_false, if_true, if_false, ite_true, ite_false, mj_tl_some, mj_tl_none, mj_cs0, mj_cs1, mj_cs2, mj_cs3, mj_cs4]
    refine wc.mono (m_storyW (d := d + 8) h.cs h.ai) ?_
    rintro q M1 ⟨hy, hno⟩
    rw [eA] at hy hno
    have p0 := hai.s0
    by_cases hb : syB A a
    · obtain ⟨rfl, f1, r1⟩ := hy hb
      have e1 : plO Ll A 4 a b c = 1 := by unfold plO; rw [if_neg (by decide), if_neg (by decide), if_pos rfl, if_pos hb]
      have e2 : plR Lf Ll A 4 a b c = syA A a := by unfold plR; rw [if_neg (by decide), if_neg (by decide), if_pos rfl, if_pos hb]
      rw [e1, e2]
      simp only [w293_0, w293_1, w293_4, w293_5, w293_6, w293_7, w293_8, w293_9, w293_10, w293_13, w293_14, w293_15, w293_16, w293_17, w293_18, w293_19, w293_22, w293_23, w293_24, w293_68, w293_69, w293_70, w293_71, w293_74, w293_77, w293_78, w293_81, w293_82_i, w293_82_0, w293_82_1, w293_83, w293_84, w293_85, w293_86, w293_89, w293_92, w293_93, w293_96, w293_97_i, w293_97_0, w293_97_1, w293_98, w293_99, w293_100, w293_103, w293_106, w293_107, w293_110, w293_111_i, w293_111_0, w293_111_1, w293_112, w293_113, w293_114, w293_115, w293_116, w293_119, w293_120, w293_121, w293_122, w293_123, w293_126_i, w293_126_0, w293_126_1, w293_127, w293_128, w293_129, w293_130, w293_133_i, w293_133_0, w293_133_1, w293_134, w293_135, w293_136, w293_137, w293_140, w293_143, w293_144, w293_147, w293_148_i, w293_148_0, w293_148_1, w293_149, w293_150, w293_151, w293_154_i, w293_154_0, w293_154_1, w293_155, w293_156_i, w293_156_0, w293_156_1, show ¬ A 2 < 0 by omega, ↓reduceIte, hh_wr, hl_wr, b10, b11, ite_not, ne_eq, Int.reduceEq, Int.reduceLE, Int.reduceLT, Int.reduceNe, Int.reduceNeg, Int.reduceAdd, Int.reduceSub, Int.reduceMul, not_false_eq_true, not_true_eq_false, false_and, and_false, true_and, and_true, and_self, true_or, or_true, false_or, or_false, if_true, if_false, ite_true, ite_false, mj_tl_some, mj_tl_none, mj_cs0, mj_cs1, mj_cs2, mj_cs3, mj_cs4]
      exact ⟨f1.u3, co.fz f1 (by decide), r1⟩
    · obtain ⟨rfl, rfl⟩ := hno hb
      have e1 : plO Ll A 4 a b c = 0 := by unfold plO; rw [if_neg (by decide), if_neg (by decide), if_pos rfl, if_neg hb]
      have e2 : plR Lf Ll A 4 a b c = A := by unfold plR; rw [if_neg (by decide), if_neg (by decide), if_pos rfl, if_neg hb]
      rw [e1, e2]
      simp only [w293_0, w293_1, w293_4, w293_5, w293_6, w293_7, w293_8, w293_9, w293_10, w293_13, w293_14, w293_15, w293_16, w293_17, w293_18, w293_19, w293_22, w293_23, w293_24, w293_68, w293_69, w293_70, w293_71, w293_74, w293_77, w293_78, w293_81, w293_82_i, w293_82_0, w293_82_1, w293_83, w293_84, w293_85, w293_86, w293_89, w293_92, w293_93, w293_96, w293_97_i, w293_97_0, w293_97_1, w293_98, w293_99, w293_100, w293_103, w293_106, w293_107, w293_110, w293_111_i, w293_111_0, w293_111_1, w293_112, w293_113, w293_114, w293_115, w293_116, w293_119, w293_120, w293_121, w293_122, w293_123, w293_126_i, w293_126_0, w293_126_1, w293_127, w293_128, w293_129, w293_130, w293_133_i, w293_133_0, w293_133_1, w293_134, w293_135, w293_136, w293_137, w293_140, w293_143, w293_144, w293_147, w293_148_i, w293_148_0, w293_148_1, w293_149, w293_150, w293_151, w293_154_i, w293_154_0, w293_154_1, w293_155, w293_156_i, w293_156_0, w293_156_1, ↓reduceIte, hh_wr, hl_wr, b10, b11, ite_not, ne_eq, Int.reduceEq, Int.reduceLE, Int.reduceLT, Int.reduceNe, Int.reduceNeg, Int.reduceAdd, Int.reduceSub, Int.reduceMul, not_false_eq_true, not_true_eq_false, false_and, and_false, true_and, and_true, and_self, true_or, or_true, false_or, or_false, if_true, if_false, ite_true, ite_false, mj_tl_some, mj_tl_none, mj_cs0, mj_cs1, mj_cs2, mj_cs3, mj_cs4]
      exact ⟨fz.rfl', co, eA⟩
  · simp only [w293_24, w293_112, w293_113, w293_114, w293_115, w293_116, w293_119, w293_120, w293_121, w293_122, w293_123, c_1_0 h.cs, c_1_1 h.cs, c_1_2 h.cs, c_1_3 h.cs, c_1_4 h.cs, c_1_5 h.cs, c_1_6 h.cs, c_1_7 h.cs, c_1_8 h.cs, c_2_0 h.cs, c_2_1 h.cs, c_5_0 h.cs, c_5_1 h.cs, c_5_2 h.cs, c_5_3 h.cs, c_5_5 h.cs, c_5_8 h.cs, c_5_11 h.cs, c_6_1 h.cs, c_6_2 h.cs, c_6_3 h.cs, c_10_4 h.cs, c_10_5 h.cs, c_10_6 h.cs, c_10_7 h.cs, c_15_1 h.cs, c_17_1 h.cs, c_339_0 h.cs, c_341_0 h.cs, c_341_1 h.cs, c_341_2 h.cs, c_342_4 h.cs, c_342_5 h.cs, c_342_6 h.cs, c_342_7 h.cs, c_347_0 h.cs, c_347_2 h.cs, c_347_3 h.cs, c_349_0 h.cs, c_349_1 h.cs, c_349_2 h.cs, c_351_2 h.cs, c_351_10 h.cs, c_351_12 h.cs, c_354_0 h.cs, c_354_1 h.cs, c_354_2 h.cs, c_354_3 h.cs, c_354_4 h.cs, c_354_5 h.cs, c_354_6 h.cs, c_354_7 h.cs, c_354_8 h.cs, c_354_20 h.cs, c_354_25 h.cs, c_354_26 h.cs, c_354_27 h.cs, c_354_28 h.cs, c_354_32 h.cs, c_354_33 h.cs, c_354_34 h.cs, c_354_35 h.cs, c_354_38 h.cs, l_3 h.cs, l_4 h.cs, l_7 h.cs, l_8 h.cs, l_9 h.cs, l_11 h.cs, l_12 h.cs, l_13 h.cs, l_14 h.cs, l_16 h.cs, l_18 h.cs, l_19 h.cs, l_20 h.cs, l_21 h.cs, l_340 h.cs, l_343 h.cs, l_344 h.cs, l_345 h.cs, l_346 h.cs, l_348 h.cs, l_350 h.cs, l_352 h.cs, l_353 h.cs, l_355 h.cs, l_356 h.cs, l_357 h.cs, l_358 h.cs, l_359 h.cs, l_360 h.cs, l_361 h.cs, l_362 h.cs, l_363 h.cs, l_364 h.cs, l_365 h.cs, l_366 h.cs, l_367 h.cs, l_368 h.cs, l_369 h.cs, l_370 h.cs, l_371 h.cs, l_372 h.cs, l_373 h.cs, x3, ec, show (0 : Int) ≤ x + 3 by omega, show x + 3 < 2820 by omega, ↓reduceIte, hh_wr, hl_wr, b10, b11, ite_not, ne_eq, Int.reduceEq, Int.reduceLE, Int.reduceLT, Int.reduceNe, Int.reduceNeg, Int.reduceAdd, Int.reduceSub, Int.reduceMul, not_false_eq_true, not_true_eq_false, false_and, and_false, true_and, and_true, and_self, true_or, or_true, false_or, or_false, if_true, if_false, ite_true, ite_false, mj_tl_some, mj_tl_none, mj_cs0, mj_cs1, mj_cs2, mj_cs3, mj_cs4]
    refine wc.mono (m_teach (d := d + 1) h.cs h.ai (by rw [eA]; exact t2)) ?_
    rintro q M1 ⟨rfl, f1, r1⟩
    rw [eA] at r1 ⊢
    have e1 : plO Ll A 5 a b c = if tch A Ll a b c then 1 else 0 := by unfold plO; rw [if_neg (by decide), if_neg (by decide), if_neg (by decide), if_pos rfl]
    have e2 : plR Lf Ll A 5 a b c = if tch A Ll a b c then teA (kst A) a b c else A := by unfold plR; rw [if_neg (by decide), if_neg (by decide), if_neg (by decide), if_pos rfl]
    rw [e1, e2]
    simp only [w293_0, w293_1, w293_4, w293_5, w293_6, w293_7, w293_8, w293_9, w293_10, w293_13, w293_14, w293_15, w293_16, w293_17, w293_18, w293_19, w293_22, w293_23, w293_24, w293_68, w293_69, w293_70, w293_71, w293_74, w293_77, w293_78, w293_81, w293_82_i, w293_82_0, w293_82_1, w293_83, w293_84, w293_85, w293_86, w293_89, w293_92, w293_93, w293_96, w293_97_i, w293_97_0, w293_97_1, w293_98, w293_99, w293_100, w293_103, w293_106, w293_107, w293_110, w293_111_i, w293_111_0, w293_111_1, w293_112, w293_113, w293_114, w293_115, w293_116, w293_119, w293_120, w293_121, w293_122, w293_123, w293_126_i, w293_126_0, w293_126_1, w293_127, w293_128, w293_129, w293_130, w293_133_i, w293_133_0, w293_133_1, w293_134, w293_135, w293_136, w293_137, w293_140, w293_143, w293_144, w293_147, w293_148_i, w293_148_0, w293_148_1, w293_149, w293_150, w293_151, w293_154_i, w293_154_0, w293_154_1, w293_155, w293_156_i, w293_156_0, w293_156_1, ↓reduceIte, hh_wr, hl_wr, b10, b11, ite_not, ne_eq, Int.reduceEq, Int.reduceLE, Int.reduceLT, Int.reduceNe, Int.reduceNeg, Int.reduceAdd, Int.reduceSub, Int.reduceMul, not_false_eq_true, not_true_eq_false, false_and, and_false, true_and, and_true, and_self, true_or, or_true, false_or, or_false, if_true, if_false, ite_true, ite_false, mj_tl_some, mj_tl_none, mj_cs0, mj_cs1, mj_cs2, mj_cs3, mj_cs4]
    exact ⟨f1.u389, co.fz f1 (by decide), r1⟩
  · simp only [w293_24, w293_127, w293_128, w293_129, w293_130, ↓reduceIte, hh_wr, hl_wr, b10, b11, ite_not, ne_eq, Int.reduceEq, Int.reduceLE, Int.reduceLT, Int.reduceNe, Int.reduceNeg, Int.reduceAdd, Int.reduceSub, Int.reduceMul, not_false_eq_true, not_true_eq_false, false_and, and_false, true_and, and_true, and_self, true_or, or_true, false_or, or_false, if_true, if_false, ite_true, ite_false, mj_tl_some, mj_tl_none, mj_cs0, mj_cs1, mj_cs2, mj_cs3, mj_cs4]
    refine wc.mono (m_forget (d := d + 6) h.cs h.ai) ?_
    rintro q M1 ⟨rfl, f1, r1⟩
    rw [eA] at r1 ⊢
    have e1 : plO Ll A 6 a b c = if fgB A b a then 1 else 0 := by unfold plO; rw [if_neg (by decide), if_neg (by decide), if_neg (by decide), if_neg (by decide), if_pos rfl]
    have e2 : plR Lf Ll A 6 a b c = if fgB A b a then fgA (kst A) b a else A := by unfold plR; rw [if_neg (by decide), if_neg (by decide), if_neg (by decide), if_neg (by decide), if_pos rfl]
    rw [e1, e2]
    simp only [w293_0, w293_1, w293_4, w293_5, w293_6, w293_7, w293_8, w293_9, w293_10, w293_13, w293_14, w293_15, w293_16, w293_17, w293_18, w293_19, w293_22, w293_23, w293_24, w293_68, w293_69, w293_70, w293_71, w293_74, w293_77, w293_78, w293_81, w293_82_i, w293_82_0, w293_82_1, w293_83, w293_84, w293_85, w293_86, w293_89, w293_92, w293_93, w293_96, w293_97_i, w293_97_0, w293_97_1, w293_98, w293_99, w293_100, w293_103, w293_106, w293_107, w293_110, w293_111_i, w293_111_0, w293_111_1, w293_112, w293_113, w293_114, w293_115, w293_116, w293_119, w293_120, w293_121, w293_122, w293_123, w293_126_i, w293_126_0, w293_126_1, w293_127, w293_128, w293_129, w293_130, w293_133_i, w293_133_0, w293_133_1, w293_134, w293_135, w293_136, w293_137, w293_140, w293_143, w293_144, w293_147, w293_148_i, w293_148_0, w293_148_1, w293_149, w293_150, w293_151, w293_154_i, w293_154_0, w293_154_1, w293_155, w293_156_i, w293_156_0, w293_156_1, ↓reduceIte, hh_wr, hl_wr, b10, b11, ite_not, ne_eq, Int.reduceEq, Int.reduceLE, Int.reduceLT, Int.reduceNe, Int.reduceNeg, Int.reduceAdd, Int.reduceSub, Int.reduceMul, not_false_eq_true, not_true_eq_false, false_and, and_false, true_and, and_true, and_self, true_or, or_true, false_or, or_false, if_true, if_false, ite_true, ite_false, mj_tl_some, mj_tl_none, mj_cs0, mj_cs1, mj_cs2, mj_cs3, mj_cs4]
    exact ⟨f1.u389, co.fz f1 (by decide), r1⟩
  · simp only [w293_24, w293_134, w293_135, w293_136, w293_137, ↓reduceIte, hh_wr, hl_wr, b10, b11, ite_not, ne_eq, Int.reduceEq, Int.reduceLE, Int.reduceLT, Int.reduceNe, Int.reduceNeg, Int.reduceAdd, Int.reduceSub, Int.reduceMul, not_false_eq_true, not_true_eq_false, false_and, and_false, true_and, and_true, and_self, true_or, or_true, false_or, or_false, if_true, if_false, ite_true, ite_false, mj_tl_some, mj_tl_none, mj_cs0, mj_cs1, mj_cs2, mj_cs3, mj_cs4]
    refine wc.mono (m_tell (d := d + 3) h co w) ?_
    rintro q M1 ⟨rfl, f1, co1, r1⟩
    rw [eA] at r1 ⊢
    have e1 : plO Ll A 7 a b c = if tlV A b a = -1 then 0 else 1 := by unfold plO; rw [if_neg (by decide), if_neg (by decide), if_neg (by decide), if_neg (by decide), if_neg (by decide), if_pos rfl]
    have e2 : plR Lf Ll A 7 a b c = if tlV A b a = -1 then A else tlA (kst A) b a (tlV A b a) := by unfold plR; rw [if_neg (by decide), if_neg (by decide), if_neg (by decide), if_neg (by decide), if_neg (by decide), if_pos rfl]
    rw [e1, e2]
    by_cases hm : tlV A b a = -1
    · rw [if_pos hm] at r1
      simp only [w293_0, w293_1, w293_4, w293_5, w293_6, w293_7, w293_8, w293_9, w293_10, w293_13, w293_14, w293_15, w293_16, w293_17, w293_18, w293_19, w293_22, w293_23, w293_24, w293_68, w293_69, w293_70, w293_71, w293_74, w293_77, w293_78, w293_81, w293_82_i, w293_82_0, w293_82_1, w293_83, w293_84, w293_85, w293_86, w293_89, w293_92, w293_93, w293_96, w293_97_i, w293_97_0, w293_97_1, w293_98, w293_99, w293_100, w293_103, w293_106, w293_107, w293_110, w293_111_i, w293_111_0, w293_111_1, w293_112, w293_113, w293_114, w293_115, w293_116, w293_119, w293_120, w293_121, w293_122, w293_123, w293_126_i, w293_126_0, w293_126_1, w293_127, w293_128, w293_129, w293_130, w293_133_i, w293_133_0, w293_133_1, w293_134, w293_135, w293_136, w293_137, w293_140, w293_143, w293_144, w293_147, w293_148_i, w293_148_0, w293_148_1, w293_149, w293_150, w293_151, w293_154_i, w293_154_0, w293_154_1, w293_155, w293_156_i, w293_156_0, w293_156_1, hm, ↓reduceIte, hh_wr, hl_wr, b10, b11, ite_not, ne_eq, Int.reduceEq, Int.reduceLE, Int.reduceLT, Int.reduceNe, Int.reduceNeg, Int.reduceAdd, Int.reduceSub, Int.reduceMul, not_false_eq_true, not_true_eq_false, false_and, and_false, true_and, and_true, and_self, true_or, or_true, false_or, or_false, if_true, if_false, ite_true, ite_false, mj_tl_some, mj_tl_none, mj_cs0, mj_cs1, mj_cs2, mj_cs3, mj_cs4]
      exact ⟨f1, co1, r1⟩
    · rw [if_neg hm] at r1
      obtain ⟨yp, ys, yL, yle⟩ := tlV_y hm
      have lr := ll_r hai (v := A (11 + 5 * b + 1)) (by rw [yL]; exact hm)
      rw [yL] at lr
      simp only [w293_0, w293_1, w293_4, w293_5, w293_6, w293_7, w293_8, w293_9, w293_10, w293_13, w293_14, w293_15, w293_16, w293_17, w293_18, w293_19, w293_22, w293_23, w293_24, w293_68, w293_69, w293_70, w293_71, w293_74, w293_77, w293_78, w293_81, w293_82_i, w293_82_0, w293_82_1, w293_83, w293_84, w293_85, w293_86, w293_89, w293_92, w293_93, w293_96, w293_97_i, w293_97_0, w293_97_1, w293_98, w293_99, w293_100, w293_103, w293_106, w293_107, w293_110, w293_111_i, w293_111_0, w293_111_1, w293_112, w293_113, w293_114, w293_115, w293_116, w293_119, w293_120, w293_121, w293_122, w293_123, w293_126_i, w293_126_0, w293_126_1, w293_127, w293_128, w293_129, w293_130, w293_133_i, w293_133_0, w293_133_1, w293_134, w293_135, w293_136, w293_137, w293_140, w293_143, w293_144, w293_147, w293_148_i, w293_148_0, w293_148_1, w293_149, w293_150, w293_151, w293_154_i, w293_154_0, w293_154_1, w293_155, w293_156_i, w293_156_0, w293_156_1, hm, show ¬ tlV A b a < 0 by omega, ↓reduceIte, hh_wr, hl_wr, b10, b11, ite_not, ne_eq, Int.reduceEq, Int.reduceLE, Int.reduceLT, Int.reduceNe, Int.reduceNeg, Int.reduceAdd, Int.reduceSub, Int.reduceMul, not_false_eq_true, not_true_eq_false, false_and, and_false, true_and, and_true, and_self, true_or, or_true, false_or, or_false, if_true, if_false, ite_true, ite_false, mj_tl_some, mj_tl_none, mj_cs0, mj_cs1, mj_cs2, mj_cs3, mj_cs4]
      exact ⟨f1, co1, r1⟩
  · have q4 := a8 rfl
    obtain ⟨n, hn⟩ := nat_of (show 0 ≤ a by omega)
    have e1 : plO Ll A 8 a b c = if A 8 + a ≤ 9999 then 1 else 0 := by unfold plO; rw [if_neg (by decide), if_neg (by decide), if_neg (by decide), if_neg (by decide), if_neg (by decide), if_neg (by decide), if_pos rfl]
    have e2 : plR Lf Ll A 8 a b c = (yr Lf A n).1 := by unfold plR; rw [if_neg (by decide), if_neg (by decide), if_neg (by decide), if_neg (by decide), if_neg (by decide), if_neg (by decide), if_pos rfl, hn]; rfl
    rw [e1, e2]
    simp only [w293_24, w293_149, w293_150, w293_151, ↓reduceIte, hh_wr, hl_wr, b10, b11, ite_not, ne_eq, Int.reduceEq, Int.reduceLE, Int.reduceLT, Int.reduceNe, Int.reduceNeg, Int.reduceAdd, Int.reduceSub, Int.reduceMul, not_false_eq_true, not_true_eq_false, false_and, and_false, true_and, and_true, and_self, true_or, or_true, false_or, or_false, if_true, if_false, ite_true, ite_false, mj_tl_some, mj_tl_none, mj_cs0, mj_cs1, mj_cs2, mj_cs3, mj_cs4]
    rw [hn]
    refine wc.mono (m_arePassed (d := d) (n := n) h (by omega) (by rw [eA]; exact t1)) ?_
    rintro q M1 ⟨rfl, f1, r1, _⟩
    rw [eA] at r1 ⊢
    simp only [w293_0, w293_1, w293_4, w293_5, w293_6, w293_7, w293_8, w293_9, w293_10, w293_13, w293_14, w293_15, w293_16, w293_17, w293_18, w293_19, w293_22, w293_23, w293_24, w293_68, w293_69, w293_70, w293_71, w293_74, w293_77, w293_78, w293_81, w293_82_i, w293_82_0, w293_82_1, w293_83, w293_84, w293_85, w293_86, w293_89, w293_92, w293_93, w293_96, w293_97_i, w293_97_0, w293_97_1, w293_98, w293_99, w293_100, w293_103, w293_106, w293_107, w293_110, w293_111_i, w293_111_0, w293_111_1, w293_112, w293_113, w293_114, w293_115, w293_116, w293_119, w293_120, w293_121, w293_122, w293_123, w293_126_i, w293_126_0, w293_126_1, w293_127, w293_128, w293_129, w293_130, w293_133_i, w293_133_0, w293_133_1, w293_134, w293_135, w293_136, w293_137, w293_140, w293_143, w293_144, w293_147, w293_148_i, w293_148_0, w293_148_1, w293_149, w293_150, w293_151, w293_154_i, w293_154_0, w293_154_1, w293_155, w293_156_i, w293_156_0, w293_156_1, ↓reduceIte, hh_wr, hl_wr, b10, b11, ite_not, ne_eq, Int.reduceEq, Int.reduceLE, Int.reduceLT, Int.reduceNe, Int.reduceNeg, Int.reduceAdd, Int.reduceSub, Int.reduceMul, not_false_eq_true, not_true_eq_false, false_and, and_false, true_and, and_true, and_self, true_or, or_true, false_or, or_false, if_true, if_false, ite_true, ite_false, mj_tl_some, mj_tl_none, mj_cs0, mj_cs1, mj_cs2, mj_cs3, mj_cs4]
    exact ⟨f1.u389, co.fz f1 (by decide), r1⟩
theorem plR_34 {s a b c j : Int} (h : AI A) (hj : j = 3 ∨ j = 4) : plR Lf Ll A s a b c j = A j := by
  have f0 := h.f0
  have s0 := h.s0
  have p0 : 0 ≤ A 1 := h.now.p0
  have p6 : A 1 ≤ 6 := h.now.p6
  have kk : kst A j = A j := kst_k h (by omega)
  unfold plR
  by_cases c2 : s = 2
  · rw [if_pos c2]
    split
    · unfold fmA; rw [up_ne (by omega), up_ne (by omega), up_ne (by omega)]
    · rfl
  rw [if_neg c2]
  by_cases c3 : s = 3
  · rw [if_pos c3]
    split
    · exact pnA_q (by omega) (by omega)
    · rfl
  rw [if_neg c3]
  by_cases c4 : s = 4
  · rw [if_pos c4]
    split
    · unfold syA; rw [up_ne (by omega), up_ne (by omega)]
    · rfl
  rw [if_neg c4]
  by_cases c5 : s = 5
  · rw [if_pos c5]
    split
    · rename_i ht
      obtain ⟨g1, g2, g3⟩ := tch_d ht
      unfold teA; rw [up_ne (by omega), up_ne (by omega), kk]
    · rfl
  rw [if_neg c5]
  by_cases c6 : s = 6
  · rw [if_pos c6]
    split
    · rename_i ht
      obtain ⟨g1, g2⟩ := fgB_d ht
      unfold fgA; rw [up_ne (by omega), kk]
    · rfl
  rw [if_neg c6]
  by_cases c7 : s = 7
  · rw [if_pos c7]
    split
    · rfl
    · rename_i ht
      obtain ⟨g1, _⟩ := tlV_y ht
      rw [tlA_e (kst_ai h) ⟨g1.1, by omega⟩ j (by unfold nwi; omega), kk]
  rw [if_neg c7]
  by_cases c8 : s = 8
  · rw [if_pos c8]
    rcases hj with rfl | rfl
    · exact (yr_i h _).e3
    · exact (yr_i h _).e4
  rw [if_neg c8]
end Plays2
