/-! LAWS: the class weighs them, token by token -/
theorem gD_l {α : Type} {l1 l2 : List α} {i : Nat} {z : α} (h : i < l1.length) : (l1 ++ l2).getD i z = l1.getD i z := by
  rw [List.getD_eq_getElem?_getD, List.getD_eq_getElem?_getD, List.getElem?_append_left h]
theorem gD_r {α : Type} {l1 l2 : List α} {i : Nat} {z : α} (h : l1.length ≤ i) : (l1 ++ l2).getD i z = l2.getD (i - l1.length) z := by
  rw [List.getD_eq_getElem?_getD, List.getD_eq_getElem?_getD, List.getElem?_append_right h]
theorem stands_app {f : Int → Int} {b : Int} {l1 l2 : List Int} (h : stands f b (l1 ++ l2)) : stands f b l1 ∧ stands f (b + l1.length) l2 := by
  constructor
  · intro i hi
    rw [h i (by rw [List.length_append]; omega), gD_l hi]
  · intro i hi
    have := h (l1.length + i) (by rw [List.length_append]; omega)
    rw [gD_r (by omega), show l1.length + i - l1.length = i by omega] at this
    rw [← this]
    congr 1
    omega
theorem stands_cons {f : Int → Int} {b x : Int} {l : List Int} (h : stands f b (x :: l)) : f b = x ∧ stands f (b + 1) l := by
  constructor
  · have := h 0 (by simp)
    simpa using this
  · intro i hi
    have := h (i + 1) (by simp; exact hi)
    rw [List.getD_cons_succ] at this
    rw [← this]
    congr 1
    omega
section Weigh2
variable {X : mj_X} {d : Nat} {M : mj_M} {Q : Option mj_V → mj_M → Prop} {r rk fr to c p f h st at' : Int} {w1 w2 : mj_V}
theorem wg_pre {t v : Int} (hr : 1 ≤ r) (hk : hh M r 1 = rk) (hk0 : 1 ≤ rk) (h1 : at' < st) (h0 : 0 ≤ at') (h2 : at' < hl M rk) (hv : hh M rk at' = t + 64 * v) (ht : 0 ≤ t ∧ t < 64) (hv' : 0 ≤ v ∧ v ≤ 10000) : wp X d 83 17 [(23, 339), (28, r), (0, fr), (0, to), (29, 6), (24, c), (0, p), (0, f), (0, h), (0, st), (0, at'), w1, w2] [] M Q ↔ wp X d 83 48 [(23, 339), (28, r), (0, fr), (0, to), (29, 6), (24, c), (0, p), (0, f), (0, h), (0, st), (0, at'), (0, t), (0, v)] [] M Q := by
  obtain ⟨j1, j2⟩ := ji_tk ht hv'
  simp only [w83_17, w83_19, w83_21, w83_24, w83_25, w83_28, w83_30, w83_31, w83_33, w83_34, w83_36, w83_37, w83_40, w83_42, w83_43, w83_45, w83_46, hk, hv, h1, h0, h2, j1, j2, show ¬ r = 0 by omega, show ¬ rk = 0 by omega, ↓reduceIte, hh_wr, hl_wr, b10, b11, ite_not, ne_eq, Int.reduceEq, Int.reduceLE, Int.reduceLT, Int.reduceNe, Int.reduceNeg, Int.reduceAdd, Int.reduceSub, Int.reduceMul, not_false_eq_true, not_true_eq_false, false_and, and_false, true_and, and_true, and_self, true_or, or_true, false_or, or_false, if_true, if_false, ite_true, ite_false, mj_tl_some, mj_tl_none, mj_cs0, mj_cs1, mj_cs2, mj_cs3, mj_cs4]
theorem wg_num {v : Int} (hc : CS M) (h0 : 0 ≤ h) (h64 : h < 64) (ha : 0 ≤ at' ∧ at' ≤ 10000) : wp X (d + 1) 83 48 [(23, 339), (28, r), (0, fr), (0, to), (29, 6), (24, c), (0, p), (0, f), (0, h), (0, st), (0, at'), (0, 39), (0, v)] [] M Q ↔ wp X (d + 1) 83 17 [(23, 339), (28, r), (0, fr), (0, to), (29, 6), (24, c), (0, p), (0, f), (0, h + 1), (0, st), (0, at' + 1), (0, 39), (0, v)] [] (mj_wr M 340 h v) Q := by
  simp only [w83_0, w83_1, w83_3, w83_4, w83_5, w83_8, w83_9, w83_12, w83_14, w83_15, w83_19, w83_21, w83_24, w83_25, w83_28, w83_30, w83_31, w83_33, w83_34, w83_36, w83_37, w83_40, w83_42, w83_43, w83_45, w83_46, w83_48, w83_50, w83_52, w83_55, w83_57, w83_60, w83_63, w83_65, w83_67, w83_70, w83_71, w83_74, w83_76, w83_78, w83_80, w83_83, w83_85, w83_88, w83_90, w83_92, w83_94, w83_96, w83_98, w83_101, w83_102, w83_105, w83_108, w83_110, w83_112, w83_115, w83_117, w83_119, w83_120, w83_121, w83_124, w83_126, w83_129, w83_131, w83_132, w83_135, w83_136, w83_137, w83_139, w83_141, w83_144, w83_147, w83_148, w83_151, w83_153, w83_154, w83_157, w83_159, w83_161, w83_162, w83_163, w83_166, w83_169, w83_171, w83_173, w83_176, w83_178, w83_180, w83_183, w83_184, w83_187, w83_189, w83_190, w83_191, w83_193, w83_194, w83_197, w83_199, w83_200, w83_201, w83_202, w83_205, w83_208, w83_209, w83_212, w83_214, w83_216, w83_219, w83_221, w83_223, w83_226, w83_228, w83_230, w83_233, w83_234, w83_237, w83_239, w83_240, w83_241, w83_243, w83_244, w83_247, w83_249, w83_250, w83_251, w83_252, w83_255, w83_256, w83_259, w83_261, w83_262, w83_265, w83_268, w83_269, w83_272, w83_274, w83_275, w83_276, w83_278, w83_279, w83_282, w83_284, w83_285, w83_286, w83_287, w83_288, w83_291, w83_293, w83_294, w83_297, w83_298, w83_301, w83_304, w83_306, w83_307, w83_310, w83_311, w83_314, w83_315, w83_318, w83_320, w83_321, w83_322, w83_323, c_339_0 hc, l_340 hc, h0, h64, aj (x := h) (y := 1) ⟨by omega, by omega⟩, aj (x := at') (y := 1) ⟨by omega, by omega⟩, ↓reduceIte, hh_wr, hl_wr, b10, b11, ite_not, ne_eq, Int.reduceEq, Int.reduceLE, Int.reduceLT, Int.reduceNe, Int.reduceNeg, Int.reduceAdd, Int.reduceSub, Int.reduceMul, not_false_eq_true, not_true_eq_false, false_and, and_false, true_and, and_true, and_self, true_or, or_true, false_or, or_false, if_true, if_false, ite_true, ite_false, mj_tl_some, mj_tl_none, mj_cs0, mj_cs1, mj_cs2, mj_cs3, mj_cs4]
theorem wg_name {A : Int → Int} {m : Mom} {k : Nat} {v : Int} (le : LE M c A m p f) (hk : k < 8) (h0 : 0 ≤ h) (h64 : h < 64) (ha : 0 ≤ at' ∧ at' ≤ 10000) : wp X (d + 2) 83 48 [(23, 339), (28, r), (0, fr), (0, to), (29, 6), (24, c), (0, p), (0, f), (0, h), (0, st), (0, at'), (0, tkN k), (0, v)] [] M Q ↔ wp X (d + 2) 83 17 [(23, 339), (28, r), (0, fr), (0, to), (29, 6), (24, c), (0, p), (0, f), (0, h + 1), (0, st), (0, at' + 1), (0, tkN k), (0, v)] [] (mj_wr M 340 h ((envA A m p f).1 k)) Q := by
  have cn := fun Q => c_named (X := X) (d := d) (M := M) (Q := Q) le hk
  have hc := le.cs
  have hn : tkN k = 12 ∨ tkN k = 2 ∨ tkN k = 13 ∨ tkN k = 3 ∨ tkN k = 14 ∨ tkN k = 15 ∨ tkN k = 5 ∨ tkN k = 16 := by
    rcases (show k = 0 ∨ k = 1 ∨ k = 2 ∨ k = 3 ∨ k = 4 ∨ k = 5 ∨ k = 6 ∨ k = 7 by omega) with rfl | rfl | rfl | rfl | rfl | rfl | rfl | rfl <;> decide
  have hn2 : ¬ tkN k = 39 := by omega
  generalize tkN k = t at *
  simp only [w83_0, w83_1, w83_3, w83_4, w83_5, w83_8, w83_9, w83_12, w83_14, w83_15, w83_19, w83_21, w83_24, w83_25, w83_28, w83_30, w83_31, w83_33, w83_34, w83_36, w83_37, w83_40, w83_42, w83_43, w83_45, w83_46, w83_48, w83_50, w83_52, w83_55, w83_57, w83_60, w83_63, w83_65, w83_67, w83_70, w83_71, w83_74, w83_76, w83_78, w83_80, w83_83, w83_85, w83_88, w83_90, w83_92, w83_94, w83_96, w83_98, w83_101, w83_102, w83_105, w83_108, w83_110, w83_112, w83_115, w83_117, w83_119, w83_120, w83_121, w83_124, w83_126, w83_129, w83_131, w83_132, w83_135, w83_136, w83_137, w83_139, w83_141, w83_144, w83_147, w83_148, w83_151, w83_153, w83_154, w83_157, w83_159, w83_161, w83_162, w83_163, w83_166, w83_169, w83_171, w83_173, w83_176, w83_178, w83_180, w83_183, w83_184, w83_187, w83_189, w83_190, w83_191, w83_193, w83_194, w83_197, w83_199, w83_200, w83_201, w83_202, w83_205, w83_208, w83_209, w83_212, w83_214, w83_216, w83_219, w83_221, w83_223, w83_226, w83_228, w83_230, w83_233, w83_234, w83_237, w83_239, w83_240, w83_241, w83_243, w83_244, w83_247, w83_249, w83_250, w83_251, w83_252, w83_255, w83_256, w83_259, w83_261, w83_262, w83_265, w83_268, w83_269, w83_272, w83_274, w83_275, w83_276, w83_278, w83_279, w83_282, w83_284, w83_285, w83_286, w83_287, w83_288, w83_291, w83_293, w83_294, w83_297, w83_298, w83_301, w83_304, w83_306, w83_307, w83_310, w83_311, w83_314, w83_315, w83_318, w83_320, w83_321, w83_322, w83_323, c_isName, hn, hn2, cn, c_339_0 hc, l_340 hc, h0, h64, aj (x := h) (y := 1) ⟨by omega, by omega⟩, aj (x := at') (y := 1) ⟨by omega, by omega⟩, ↓reduceIte, hh_wr, hl_wr, b10, b11, ite_not, ne_eq, Int.reduceEq, Int.reduceLE, Int.reduceLT, Int.reduceNe, Int.reduceNeg, Int.reduceAdd, Int.reduceSub, Int.reduceMul, not_false_eq_true, not_true_eq_false, false_and, and_false, true_and, and_true, and_self, true_or, or_true, false_or, or_false, if_true, if_false, ite_true, ite_false, mj_tl_some, mj_tl_none, mj_cs0, mj_cs1, mj_cs2, mj_cs3, mj_cs4]
theorem wg_else {v : Int} (hv : at' + 1 ≤ v ∧ v ≤ 10000) (ha : 0 ≤ at' ∧ at' ≤ 10000) : wp X (d + 1) 83 48 [(23, 339), (28, r), (0, fr), (0, to), (29, 6), (24, c), (0, p), (0, f), (0, h), (0, st), (0, at'), (0, 21), (0, v)] [] M Q ↔ wp X (d + 1) 83 17 [(23, 339), (28, r), (0, fr), (0, to), (29, 6), (24, c), (0, p), (0, f), (0, h), (0, st), (0, v), (0, 21), (0, v)] [] M Q := by
  have e : ji_add (if at' < v - 1 then v - 1 else at') 1 = v := by
    rw [aj (by split <;> omega)]
    split <;> omega
  simp only [w83_0, w83_1, w83_3, w83_4, w83_5, w83_8, w83_9, w83_12, w83_14, w83_15, w83_19, w83_21, w83_24, w83_25, w83_28, w83_30, w83_31, w83_33, w83_34, w83_36, w83_37, w83_40, w83_42, w83_43, w83_45, w83_46, w83_48, w83_50, w83_52, w83_55, w83_57, w83_60, w83_63, w83_65, w83_67, w83_70, w83_71, w83_74, w83_76, w83_78, w83_80, w83_83, w83_85, w83_88, w83_90, w83_92, w83_94, w83_96, w83_98, w83_101, w83_102, w83_105, w83_108, w83_110, w83_112, w83_115, w83_117, w83_119, w83_120, w83_121, w83_124, w83_126, w83_129, w83_131, w83_132, w83_135, w83_136, w83_137, w83_139, w83_141, w83_144, w83_147, w83_148, w83_151, w83_153, w83_154, w83_157, w83_159, w83_161, w83_162, w83_163, w83_166, w83_169, w83_171, w83_173, w83_176, w83_178, w83_180, w83_183, w83_184, w83_187, w83_189, w83_190, w83_191, w83_193, w83_194, w83_197, w83_199, w83_200, w83_201, w83_202, w83_205, w83_208, w83_209, w83_212, w83_214, w83_216, w83_219, w83_221, w83_223, w83_226, w83_228, w83_230, w83_233, w83_234, w83_237, w83_239, w83_240, w83_241, w83_243, w83_244, w83_247, w83_249, w83_250, w83_251, w83_252, w83_255, w83_256, w83_259, w83_261, w83_262, w83_265, w83_268, w83_269, w83_272, w83_274, w83_275, w83_276, w83_278, w83_279, w83_282, w83_284, w83_285, w83_286, w83_287, w83_288, w83_291, w83_293, w83_294, w83_297, w83_298, w83_301, w83_304, w83_306, w83_307, w83_310, w83_311, w83_314, w83_315, w83_318, w83_320, w83_321, w83_322, w83_323, c_isName, c_max, sj (x := v) (y := 1) ⟨by omega, by omega⟩, e, ↓reduceIte, hh_wr, hl_wr, b10, b11, ite_not, ne_eq, Int.reduceEq, Int.reduceLE, Int.reduceLT, Int.reduceNe, Int.reduceNeg, Int.reduceAdd, Int.reduceSub, Int.reduceMul, not_false_eq_true, not_true_eq_false, false_and, and_false, true_and, and_true, and_self, true_or, or_true, false_or, or_false, if_true, if_false, ite_true, ite_false, mj_tl_some, mj_tl_none, mj_cs0, mj_cs1, mj_cs2, mj_cs3, mj_cs4]
theorem wg_then {v s : Int} (hc : CS M) (hs : hh M 340 h = s) (h0 : 0 ≤ h) (h64 : h < 64) (hv : at' + 1 ≤ v ∧ v ≤ 10000) (ha : 0 ≤ at' ∧ at' ≤ 10000) : wp X (d + 1) 83 48 [(23, 339), (28, r), (0, fr), (0, to), (29, 6), (24, c), (0, p), (0, f), (0, h + 1), (0, st), (0, at'), (0, 20), (0, v)] [] M Q ↔ wp X (d + 1) 83 17 [(23, 339), (28, r), (0, fr), (0, to), (29, 6), (24, c), (0, p), (0, f), (0, h), (0, st), (0, if s = 0 then v else at' + 1), (0, 20), (0, v)] [] M Q := by
  have e : ji_add (if at' < v - 1 then v - 1 else at') 1 = v := by
    rw [aj (by split <;> omega)]
    split <;> omega
  have e2 : ji_add (h + 1) (-1) = h := by rw [aj ⟨by omega, by omega⟩]; omega
  by_cases hz : s = 0
  · subst hz
    simp only [w83_0, w83_1, w83_3, w83_4, w83_5, w83_8, w83_9, w83_12, w83_14, w83_15, w83_19, w83_21, w83_24, w83_25, w83_28, w83_30, w83_31, w83_33, w83_34, w83_36, w83_37, w83_40, w83_42, w83_43, w83_45, w83_46, w83_48, w83_50, w83_52, w83_55, w83_57, w83_60, w83_63, w83_65, w83_67, w83_70, w83_71, w83_74, w83_76, w83_78, w83_80, w83_83, w83_85, w83_88, w83_90, w83_92, w83_94, w83_96, w83_98, w83_101, w83_102, w83_105, w83_108, w83_110, w83_112, w83_115, w83_117, w83_119, w83_120, w83_121, w83_124, w83_126, w83_129, w83_131, w83_132, w83_135, w83_136, w83_137, w83_139, w83_141, w83_144, w83_147, w83_148, w83_151, w83_153, w83_154, w83_157, w83_159, w83_161, w83_162, w83_163, w83_166, w83_169, w83_171, w83_173, w83_176, w83_178, w83_180, w83_183, w83_184, w83_187, w83_189, w83_190, w83_191, w83_193, w83_194, w83_197, w83_199, w83_200, w83_201, w83_202, w83_205, w83_208, w83_209, w83_212, w83_214, w83_216, w83_219, w83_221, w83_223, w83_226, w83_228, w83_230, w83_233, w83_234, w83_237, w83_239, w83_240, w83_241, w83_243, w83_244, w83_247, w83_249, w83_250, w83_251, w83_252, w83_255, w83_256, w83_259, w83_261, w83_262, w83_265, w83_268, w83_269, w83_272, w83_274, w83_275, w83_276, w83_278, w83_279, w83_282, w83_284, w83_285, w83_286, w83_287, w83_288, w83_291, w83_293, w83_294, w83_297, w83_298, w83_301, w83_304, w83_306, w83_307, w83_310, w83_311, w83_314, w83_315, w83_318, w83_320, w83_321, w83_322, w83_323, c_isName, c_max, c_339_0 hc, l_340 hc, hs, h0, h64, e2, sj (x := v) (y := 1) ⟨by omega, by omega⟩, e, show ¬ h + 1 < 1 by omega, ↓reduceIte, hh_wr, hl_wr, b10, b11, ite_not, ne_eq, Int.reduceEq, Int.reduceLE, Int.reduceLT, Int.reduceNe, Int.reduceNeg, Int.reduceAdd, Int.reduceSub, Int.reduceMul, not_false_eq_true, not_true_eq_false, false_and, and_false, true_and, and_true, and_self, true_or, or_true, false_or, or_false, if_true, if_false, ite_true, ite_false, mj_tl_some, mj_tl_none, mj_cs0, mj_cs1, mj_cs2, mj_cs3, mj_cs4]
  · simp only [w83_0, w83_1, w83_3, w83_4, w83_5, w83_8, w83_9, w83_12, w83_14, w83_15, w83_19, w83_21, w83_24, w83_25, w83_28, w83_30, w83_31, w83_33, w83_34, w83_36, w83_37, w83_40, w83_42, w83_43, w83_45, w83_46, w83_48, w83_50, w83_52, w83_55, w83_57, w83_60, w83_63, w83_65, w83_67, w83_70, w83_71, w83_74, w83_76, w83_78, w83_80, w83_83, w83_85, w83_88, w83_90, w83_92, w83_94, w83_96, w83_98, w83_101, w83_102, w83_105, w83_108, w83_110, w83_112, w83_115, w83_117, w83_119, w83_120, w83_121, w83_124, w83_126, w83_129, w83_131, w83_132, w83_135, w83_136, w83_137, w83_139, w83_141, w83_144, w83_147, w83_148, w83_151, w83_153, w83_154, w83_157, w83_159, w83_161, w83_162, w83_163, w83_166, w83_169, w83_171, w83_173, w83_176, w83_178, w83_180, w83_183, w83_184, w83_187, w83_189, w83_190, w83_191, w83_193, w83_194, w83_197, w83_199, w83_200, w83_201, w83_202, w83_205, w83_208, w83_209, w83_212, w83_214, w83_216, w83_219, w83_221, w83_223, w83_226, w83_228, w83_230, w83_233, w83_234, w83_237, w83_239, w83_240, w83_241, w83_243, w83_244, w83_247, w83_249, w83_250, w83_251, w83_252, w83_255, w83_256, w83_259, w83_261, w83_262, w83_265, w83_268, w83_269, w83_272, w83_274, w83_275, w83_276, w83_278, w83_279, w83_282, w83_284, w83_285, w83_286, w83_287, w83_288, w83_291, w83_293, w83_294, w83_297, w83_298, w83_301, w83_304, w83_306, w83_307, w83_310, w83_311, w83_314, w83_315, w83_318, w83_320, w83_321, w83_322, w83_323, c_isName, c_339_0 hc, l_340 hc, hs, hz, h0, h64, e2, aj (x := at') (y := 1) ⟨by omega, by omega⟩, show ¬ h + 1 < 1 by omega, ↓reduceIte, hh_wr, hl_wr, b10, b11, ite_not, ne_eq, Int.reduceEq, Int.reduceLE, Int.reduceLT, Int.reduceNe, Int.reduceNeg, Int.reduceAdd, Int.reduceSub, Int.reduceMul, not_false_eq_true, not_true_eq_false, false_and, and_false, true_and, and_true, and_self, true_or, or_true, false_or, or_false, if_true, if_false, ite_true, ite_false, mj_tl_some, mj_tl_none, mj_cs0, mj_cs1, mj_cs2, mj_cs3, mj_cs4]
theorem wg_one {E : Env} {o : Nat} {v s : Int} (hc : CS M) (ho : o = 0 ∨ o = 1 ∨ o = 3) (hs : hh M 340 h = s) (hs2 : -1000000 ≤ s ∧ s ≤ 1000000) (h0 : 0 ≤ h) (h64 : h < 64) (ha : 0 ≤ at' ∧ at' ≤ 10000) : wp X (d + 1) 83 48 [(23, 339), (28, r), (0, fr), (0, to), (29, 6), (24, c), (0, p), (0, f), (0, h + 1), (0, st), (0, at'), (0, tk1 o), (0, v)] [] M Q ↔ wp X (d + 1) 83 17 [(23, 339), (28, r), (0, fr), (0, to), (29, 6), (24, c), (0, p), (0, f), (0, h + 1), (0, st), (0, at' + 1), (0, tk1 o), (0, v)] [] (mj_wr M 340 h (v1 o E s)) Q := by
  have co := fun Q => c_ofOne (X := X) (d := d) (M := M) (Q := Q) (E := E) ho hs2
  have e2 : ji_sub (h + 1) 1 = h := by rw [sj ⟨by omega, by omega⟩]; omega
  have e3 : ¬ h + 1 < 1 := by omega
  have e4 := aj (x := at') (y := 1) ⟨by omega, by omega⟩
  rcases ho with rfl | rfl | rfl
  all_goals simp only [tk1, List.getD_cons_zero, List.getD_cons_succ] at co ⊢
  all_goals simp only [w83_0, w83_1, w83_3, w83_4, w83_5, w83_8, w83_9, w83_12, w83_14, w83_15, w83_19, w83_21, w83_24, w83_25, w83_28, w83_30, w83_31, w83_33, w83_34, w83_36, w83_37, w83_40, w83_42, w83_43, w83_45, w83_46, w83_48, w83_50, w83_52, w83_55, w83_57, w83_60, w83_63, w83_65, w83_67, w83_70, w83_71, w83_74, w83_76, w83_78, w83_80, w83_83, w83_85, w83_88, w83_90, w83_92, w83_94, w83_96, w83_98, w83_101, w83_102, w83_105, w83_108, w83_110, w83_112, w83_115, w83_117, w83_119, w83_120, w83_121, w83_124, w83_126, w83_129, w83_131, w83_132, w83_135, w83_136, w83_137, w83_139, w83_141, w83_144, w83_147, w83_148, w83_151, w83_153, w83_154, w83_157, w83_159, w83_161, w83_162, w83_163, w83_166, w83_169, w83_171, w83_173, w83_176, w83_178, w83_180, w83_183, w83_184, w83_187, w83_189, w83_190, w83_191, w83_193, w83_194, w83_197, w83_199, w83_200, w83_201, w83_202, w83_205, w83_208, w83_209, w83_212, w83_214, w83_216, w83_219, w83_221, w83_223, w83_226, w83_228, w83_230, w83_233, w83_234, w83_237, w83_239, w83_240, w83_241, w83_243, w83_244, w83_247, w83_249, w83_250, w83_251, w83_252, w83_255, w83_256, w83_259, w83_261, w83_262, w83_265, w83_268, w83_269, w83_272, w83_274, w83_275, w83_276, w83_278, w83_279, w83_282, w83_284, w83_285, w83_286, w83_287, w83_288, w83_291, w83_293, w83_294, w83_297, w83_298, w83_301, w83_304, w83_306, w83_307, w83_310, w83_311, w83_314, w83_315, w83_318, w83_320, w83_321, w83_322, w83_323, c_isName, co, c_339_0 hc, l_340 hc, hs, h0, h64, e2, e3, e4, ↓reduceIte, hh_wr, hl_wr, b10, b11, ite_not, ne_eq, Int.reduceEq, Int.reduceLE, Int.reduceLT, Int.reduceNe, Int.reduceNeg, Int.reduceAdd, Int.reduceSub, Int.reduceMul, not_false_eq_true, not_true_eq_false, false_and, and_false, true_and, and_true, and_self, true_or, or_true, false_or, or_false, if_true, if_false, ite_true, ite_false, mj_tl_some, mj_tl_none, mj_cs0, mj_cs1, mj_cs2, mj_cs3, mj_cs4]
theorem wg_known {A : Int → Int} {m : Mom} {v s : Int} (le : LE M c A m p f) (hs : hh M 340 h = s) (h0 : 0 ≤ h) (h64 : h < 64) (ha : 0 ≤ at' ∧ at' ≤ 10000) : wp X (d + 2) 83 48 [(23, 339), (28, r), (0, fr), (0, to), (29, 6), (24, c), (0, p), (0, f), (0, h + 1), (0, st), (0, at'), (0, 18), (0, v)] [] M Q ↔ wp X (d + 2) 83 17 [(23, 339), (28, r), (0, fr), (0, to), (29, 6), (24, c), (0, p), (0, f), (0, h + 1), (0, st), (0, at' + 1), (0, 18), (0, v)] [] (mj_wr M 340 h ((envA A m p f).2 s)) Q := by
  have hc := le.cs
  have hc0 : ¬ c = 0 := by have := le.ms.1; omega
  have e2 : ji_sub (h + 1) 1 = h := by rw [sj ⟨by omega, by omega⟩]; omega
  have e3 : ¬ h + 1 < 1 := by omega
  have e4 := aj (x := at') (y := 1) ⟨by omega, by omega⟩
  have kn := fun Q => c_knowersM (X := X) (d := d) (M := M) (Q := Q) (f := s) le.ms le.mr le.mi
  have e5 : pcI (if 0 ≤ s ∧ s < 8 then (kwm m s : Int) else 0) = (envA A m p f).2 s := by
    unfold envA
    simp only
    split
    · rfl
    · decide
  simp only [w83_0, w83_1, w83_3, w83_4, w83_5, w83_8, w83_9, w83_12, w83_14, w83_15, w83_19, w83_21, w83_24, w83_25, w83_28, w83_30, w83_31, w83_33, w83_34, w83_36, w83_37, w83_40, w83_42, w83_43, w83_45, w83_46, w83_48, w83_50, w83_52, w83_55, w83_57, w83_60, w83_63, w83_65, w83_67, w83_70, w83_71, w83_74, w83_76, w83_78, w83_80, w83_83, w83_85, w83_88, w83_90, w83_92, w83_94, w83_96, w83_98, w83_101, w83_102, w83_105, w83_108, w83_110, w83_112, w83_115, w83_117, w83_119, w83_120, w83_121, w83_124, w83_126, w83_129, w83_131, w83_132, w83_135, w83_136, w83_137, w83_139, w83_141, w83_144, w83_147, w83_148, w83_151, w83_153, w83_154, w83_157, w83_159, w83_161, w83_162, w83_163, w83_166, w83_169, w83_171, w83_173, w83_176, w83_178, w83_180, w83_183, w83_184, w83_187, w83_189, w83_190, w83_191, w83_193, w83_194, w83_197, w83_199, w83_200, w83_201, w83_202, w83_205, w83_208, w83_209, w83_212, w83_214, w83_216, w83_219, w83_221, w83_223, w83_226, w83_228, w83_230, w83_233, w83_234, w83_237, w83_239, w83_240, w83_241, w83_243, w83_244, w83_247, w83_249, w83_250, w83_251, w83_252, w83_255, w83_256, w83_259, w83_261, w83_262, w83_265, w83_268, w83_269, w83_272, w83_274, w83_275, w83_276, w83_278, w83_279, w83_282, w83_284, w83_285, w83_286, w83_287, w83_288, w83_291, w83_293, w83_294, w83_297, w83_298, w83_301, w83_304, w83_306, w83_307, w83_310, w83_311, w83_314, w83_315, w83_318, w83_320, w83_321, w83_322, w83_323, c_isName, kn, c_bitCount, e5, c_339_0 hc, l_340 hc, hs, hc0, h0, h64, e2, e3, e4, ↓reduceIte, hh_wr, hl_wr, b10, b11, ite_not, ne_eq, Int.reduceEq, Int.reduceLE, Int.reduceLT, Int.reduceNe, Int.reduceNeg, Int.reduceAdd, Int.reduceSub, Int.reduceMul, not_false_eq_true, not_true_eq_false, false_and, and_false, true_and, and_true, and_self, true_or, or_true, false_or, or_false, if_true, if_false, ite_true, ite_false, mj_tl_some, mj_tl_none, mj_cs0, mj_cs1, mj_cs2, mj_cs3, mj_cs4]
theorem wg_two {o : Nat} {v s u : Int} (hc : CS M) (ho : o < 12) (hs : hh M 340 h = s) (hu : hh M 340 (h + 1) = u) (hs2 : -1000000 ≤ s ∧ s ≤ 1000000) (hu2 : -1000000 ≤ u ∧ u ≤ 1000000) (hq : 10 ≤ o → (s = 0 ∨ s = 1) ∧ (u = 0 ∨ u = 1)) (h0 : 0 ≤ h) (h64 : h + 1 < 64) (ha : 0 ≤ at' ∧ at' ≤ 10000) : wp X (d + 1) 83 48 [(23, 339), (28, r), (0, fr), (0, to), (29, 6), (24, c), (0, p), (0, f), (0, h + 1 + 1), (0, st), (0, at'), (0, tk2 o), (0, v)] [] M Q ↔ wp X (d + 1) 83 17 [(23, 339), (28, r), (0, fr), (0, to), (29, 6), (24, c), (0, p), (0, f), (0, h + 1), (0, st), (0, at' + 1), (0, tk2 o), (0, v)] [] (mj_wr M 340 h (v2 o s u)) Q := by
  have co := fun Q => c_ofTwo (X := X) (d := d) (M := M) (Q := Q) ho hs2 hu2 hq
  have e1 : ji_add (h + 1 + 1) (-1) = h + 1 := by rw [aj ⟨by omega, by omega⟩]; omega
  have e2 : ji_sub (h + 1) 1 = h := by rw [sj ⟨by omega, by omega⟩]; omega
  have e3 : ¬ h + 1 + 1 < 1 := by omega
  have e5 : ¬ h + 1 + 1 ≤ 1 := by omega
  have e6 : (0 : Int) ≤ h + 1 := by omega
  have e7 : h < 64 := by omega
  have e4 := aj (x := at') (y := 1) ⟨by omega, by omega⟩
  have hn : ¬ (tk2 o = 12 ∨ tk2 o = 2 ∨ tk2 o = 13 ∨ tk2 o = 3 ∨ tk2 o = 14 ∨ tk2 o = 15 ∨ tk2 o = 5 ∨ tk2 o = 16) ∧ tk2 o ≠ 39 ∧ tk2 o ≠ 21 ∧ tk2 o ≠ 20 ∧ tk2 o ≠ 18 ∧ tk2 o ≠ 17 ∧ tk2 o ≠ 42 ∧ tk2 o ≠ 25 := by
    rcases (show o = 0 ∨ o = 1 ∨ o = 2 ∨ o = 3 ∨ o = 4 ∨ o = 5 ∨ o = 6 ∨ o = 7 ∨ o = 8 ∨ o = 9 ∨ o = 10 ∨ o = 11 by omega) with rfl | rfl | rfl | rfl | rfl | rfl | rfl | rfl | rfl | rfl | rfl | rfl <;> decide
  obtain ⟨n1, n2, n3, n4, n5, n6, n7, n8⟩ := hn
  generalize tk2 o = t at *
  simp only [w83_0, w83_1, w83_3, w83_4, w83_5, w83_8, w83_9, w83_12, w83_14, w83_15, w83_19, w83_21, w83_24, w83_25, w83_28, w83_30, w83_31, w83_33, w83_34, w83_36, w83_37, w83_40, w83_42, w83_43, w83_45, w83_46, w83_48, w83_50, w83_52, w83_55, w83_57, w83_60, w83_63, w83_65, w83_67, w83_70, w83_71, w83_74, w83_76, w83_78, w83_80, w83_83, w83_85, w83_88, w83_90, w83_92, w83_94, w83_96, w83_98, w83_101, w83_102, w83_105, w83_108, w83_110, w83_112, w83_115, w83_117, w83_119, w83_120, w83_121, w83_124, w83_126, w83_129, w83_131, w83_132, w83_135, w83_136, w83_137, w83_139, w83_141, w83_144, w83_147, w83_148, w83_151, w83_153, w83_154, w83_157, w83_159, w83_161, w83_162, w83_163, w83_166, w83_169, w83_171, w83_173, w83_176, w83_178, w83_180, w83_183, w83_184, w83_187, w83_189, w83_190, w83_191, w83_193, w83_194, w83_197, w83_199, w83_200, w83_201, w83_202, w83_205, w83_208, w83_209, w83_212, w83_214, w83_216, w83_219, w83_221, w83_223, w83_226, w83_228, w83_230, w83_233, w83_234, w83_237, w83_239, w83_240, w83_241, w83_243, w83_244, w83_247, w83_249, w83_250, w83_251, w83_252, w83_255, w83_256, w83_259, w83_261, w83_262, w83_265, w83_268, w83_269, w83_272, w83_274, w83_275, w83_276, w83_278, w83_279, w83_282, w83_284, w83_285, w83_286, w83_287, w83_288, w83_291, w83_293, w83_294, w83_297, w83_298, w83_301, w83_304, w83_306, w83_307, w83_310, w83_311, w83_314, w83_315, w83_318, w83_320, w83_321, w83_322, w83_323, c_isName, n1, n2, n3, n4, n5, n6, n7, n8, co, c_339_0 hc, l_340 hc, hs, hu, h0, h64, e1, e2, e3, e4, e5, e6, e7, ↓reduceIte, hh_wr, hl_wr, b10, b11, ite_not, ne_eq, Int.reduceEq, Int.reduceLE, Int.reduceLT, Int.reduceNe, Int.reduceNeg, Int.reduceAdd, Int.reduceSub, Int.reduceMul, not_false_eq_true, not_true_eq_false, false_and, and_false, true_and, and_true, and_self, true_or, or_true, false_or, or_false, if_true, if_false, ite_true, ite_false, mj_tl_some, mj_tl_none, mj_cs0, mj_cs1, mj_cs2, mj_cs3, mj_cs4]
theorem wg_ex {A : Int → Int} {m : Mom} {M0 : mj_M} (le : LE M0 c A m p f) (hcc : c + 4 < 340 ∨ 340 < c) (hr : 1 ≤ r) (hr3 : r ≠ 340) (hk : hh M0 r 1 = rk) (hk0 : 1 ≤ rk) (hk3 : rk ≠ 340) (hst : st ≤ hl M0 rk) (hst2 : st ≤ 10000) : ∀ (n : Nat) (b : Int) (cl : List Int) (rl : List (Int × Int)) (t : Bool) (hg : Nat) (F : Env → Int), Ex n b cl rl t hg F → ∀ (M1 : mj_M) (h : Int) (w1 w2 : mj_V), Sk 340 M0 M1 → 0 ≤ h → h + hg ≤ 64 → 0 ≤ b → b + cl.length ≤ st → stands (hh M0 rk) b cl → (∀ (M2 : mj_M) (w1 w2 : mj_V), Sk 340 M0 M2 → (∀ j, 0 ≤ j → j < h → hh M2 340 j = hh M1 340 j) → hh M2 340 h = F (envA A m p f) → wp X (d + 2) 83 17 [(23, 339), (28, r), (0, fr), (0, to), (29, 6), (24, c), (0, p), (0, f), (0, h + 1), (0, st), (0, b + cl.length), w1, w2] [] M2 Q) → wp X (d + 2) 83 17 [(23, 339), (28, r), (0, fr), (0, to), (29, 6), (24, c), (0, p), (0, f), (0, h), (0, st), (0, b), w1, w2] [] M1 Q := by
  have ok := envA_ok le.mi le.F8 le.hp le.hf le.kr le.lr
  have cz : ∀ {M1 : mj_M}, Sk 340 M0 M1 → CS M1 := fun s => le.cs.fz (s.fz (zs := [8]) (fun j => by rw [show zone 340 j = 8 from rfl]; decide)) (by decide)
  have lk : ∀ {M1 : mj_M}, Sk 340 M0 M1 → LE M1 c A m p f := fun s => le.keep (cz s) s.l (fun x j hx => s.h x j (by omega))
  have pre : ∀ {M1 : mj_M} {at' h t v : Int} {w1 w2 : mj_V}, Sk 340 M0 M1 → at' < st → 0 ≤ at' → hh M0 rk at' = t + 64 * v → (0 ≤ t ∧ t < 64) → (0 ≤ v ∧ v ≤ 10000) → (wp X (d + 2) 83 17 [(23, 339), (28, r), (0, fr), (0, to), (29, 6), (24, c), (0, p), (0, f), (0, h), (0, st), (0, at'), w1, w2] [] M1 Q ↔ wp X (d + 2) 83 48 [(23, 339), (28, r), (0, fr), (0, to), (29, 6), (24, c), (0, p), (0, f), (0, h), (0, st), (0, at'), (0, t), (0, v)] [] M1 Q) := fun s q1 q2 q3 q4 q5 => wg_pre hr ((s.h r 1 hr3).trans hk) hk0 q1 q2 (by rw [s.l]; omega) ((s.h rk _ hk3).trans q3) q4 q5
  intro n
  induction n with
  | zero => intro b cl rl t hg F hE; exact hE.elim
  | succ n ih =>
    intro b cl rl t hg F hE M1 h w1 w2 sk h0 h64 hb hbl hs K
    rcases hE with ⟨v, v0, v9, e1, e2, ht, hg1, hF⟩ | ⟨k, hk8, e1, e2, ht, hg1, hF⟩ | ⟨o, cl1, rl1, f1, ho, hto, e1, e2, hF, h1⟩ | ⟨o, cl1, cl2, rl1, rl2, f1, f2, ho, hto, e1, e2, hF, h1, hg2, hgg, h2⟩ | ⟨c1, c2, c3, r1, r2, r3, f1, f2, f3, ht, e1, e2, hF, h1, h2, h3⟩
    · subst e1; subst hF
      have g := (stands_cons hs).1
      have el : (([39 + 64 * v] : List Int).length : Int) = 1 := rfl
      rw [el] at hbl K
      rw [pre sk (by omega) hb g (by decide) ⟨v0, by omega⟩, wg_num (cz sk) h0 (by omega) ⟨hb, by omega⟩]
      exact K _ _ _ sk.wr (fun j j0 j1 => by rw [hh_wr, if_neg (by omega)]) (by rw [hh_wr, if_pos ⟨rfl, rfl⟩])
    · subst e1; subst hF
      have g := (stands_cons hs).1
      have el : (([tkN k] : List Int).length : Int) = 1 := rfl
      rw [el] at hbl K
      have tr : 0 ≤ tkN k ∧ tkN k < 64 := by
        rcases (show k = 0 ∨ k = 1 ∨ k = 2 ∨ k = 3 ∨ k = 4 ∨ k = 5 ∨ k = 6 ∨ k = 7 by omega) with rfl | rfl | rfl | rfl | rfl | rfl | rfl | rfl <;> decide
      rw [pre sk (by omega) hb (t := tkN k) (v := 0) (by rw [g]; omega) tr (by decide), wg_name (lk sk) hk8 h0 (by omega) ⟨hb, by omega⟩]
      exact K _ _ _ sk.wr (fun j j0 j1 => by rw [hh_wr, if_neg (by omega)]) (by rw [hh_wr, if_pos ⟨rfl, rfl⟩])
    · subst e1; subst hF
      obtain ⟨s1, s2⟩ := stands_app hs
      have g := (stands_cons s2).1
      have el : ((cl1 ++ [tk1 o]).length : Int) = (cl1.length : Int) + 1 := by rw [List.length_append]; simp
      rw [el] at hbl K
      have tr : 0 ≤ tk1 o ∧ tk1 o < 64 := by
        rcases (show o = 0 ∨ o = 1 ∨ o = 2 ∨ o = 3 by omega) with rfl | rfl | rfl | rfl <;> decide
      refine ih b cl1 rl1 t hg f1 h1 M1 h w1 w2 sk h0 h64 hb (by omega) s1 (fun M2 u1 u2 sk2 k1 k2 => ?_)
      have rg := (Ex_r n _ _ _ _ _ _ h1 _ ok).1
      have hg1 : h < 64 := by
        have : 0 < hg := by
          rcases Nat.eq_zero_or_pos hg with z | z
          · exfalso; subst z; exact absurd h1 (Ex_hg0 n _ _ _ _ _)
          · exact z
        omega
      rw [pre sk2 (by omega) (by omega) (t := tk1 o) (v := 0) (by rw [g]; omega) tr (by decide)]
      have fin : ∀ v, v = v1 o (envA A m p f) (f1 (envA A m p f)) → wp X (d + 2) 83 17 [(23, 339), (28, r), (0, fr), (0, to), (29, 6), (24, c), (0, p), (0, f), (0, h + 1), (0, st), (0, b + (cl1.length : Int) + 1), (0, tk1 o), (0, 0)] [] (mj_wr M2 340 h v) Q := by
        rintro v rfl
        rw [show b + (cl1.length : Int) + 1 = b + ((cl1.length : Int) + 1) by omega]
        exact K _ _ _ sk2.wr (fun j j0 j1 => by rw [hh_wr, if_neg (by omega)]; exact k1 j j0 j1) (by rw [hh_wr, if_pos ⟨rfl, rfl⟩])
      by_cases ho2 : o = 2
      · subst ho2
        have := (wg_known (X := X) (d := d) (Q := Q) (v := 0) (r := r) (fr := fr) (to := to) (st := st) (at' := b + (cl1.length : Int)) (lk sk2) k2 h0 hg1 ⟨by omega, by omega⟩).mpr (fin _ rfl)
        exact this
      · rw [wg_one (E := envA A m p f) (cz sk2) (by omega) k2 rg h0 hg1 ⟨by omega, by omega⟩]
        exact fin _ rfl
    · subst e1; subst hF; subst hgg
      obtain ⟨s1, s2⟩ := stands_app hs
      obtain ⟨s3, s4⟩ := stands_app s2
      have g := (stands_cons s4).1
      have el : ((cl1 ++ (cl2 ++ [tk2 o])).length : Int) = (cl1.length : Int) + (cl2.length : Int) + 1 := by rw [List.length_append, List.length_append]; simp; omega
      rw [el] at hbl K
      have tr : 0 ≤ tk2 o ∧ tk2 o < 64 := by
        rcases (show o = 0 ∨ o = 1 ∨ o = 2 ∨ o = 3 ∨ o = 4 ∨ o = 5 ∨ o = 6 ∨ o = 7 ∨ o = 8 ∨ o = 9 ∨ o = 10 ∨ o = 11 by omega) with rfl | rfl | rfl | rfl | rfl | rfl | rfl | rfl | rfl | rfl | rfl | rfl <;> decide
      have rg1 := Ex_r n _ _ _ _ _ _ h1 _ ok
      have rg2 := Ex_r n _ _ _ _ _ _ h2 _ ok
      refine ih b cl1 rl1 _ _ f1 h1 M1 h w1 w2 sk h0 h64 hb (by omega) s1 (fun M2 u1 u2 sk2 k1 k2 => ?_)
      refine ih (b + cl1.length) cl2 rl2 _ hg2 f2 h2 M2 (h + 1) u1 u2 sk2 (by omega) (by omega) (by omega) (by omega) s3 (fun M3 x1 x2 sk3 k3 k4 => ?_)
      have hg1 : h + 1 < 64 := by
        have : 0 < hg2 := by
          rcases Nat.eq_zero_or_pos hg2 with z | z
          · exfalso; subst z; exact absurd h2 (Ex_hg0 n _ _ _ _ _)
          · exact z
        omega
      rw [pre sk3 (by omega) (by omega) (t := tk2 o) (v := 0) (by rw [g]; omega) tr (by decide)]
      rw [wg_two (cz sk3) ho ((k3 h h0 (by omega)).trans k2) k4 rg1.1 rg2.1 (fun q => ⟨rg1.2 (by simpa using q), rg2.2 (by simpa using q)⟩) h0 hg1 ⟨by omega, by omega⟩]
      rw [show b + (cl1.length : Int) + (cl2.length : Int) + 1 = b + ((cl1.length : Int) + (cl2.length : Int) + 1) by omega]
      exact K _ _ _ sk3.wr (fun j j0 j1 => by rw [hh_wr, if_neg (by omega), k3 j j0 (by omega)]; exact k1 j j0 j1) (by rw [hh_wr, if_pos ⟨rfl, rfl⟩])
    · subst e1; subst hF
      obtain ⟨s1, s2⟩ := stands_app hs
      obtain ⟨g1, s3⟩ := stands_cons s2
      obtain ⟨s4, s5⟩ := stands_app s3
      obtain ⟨g2, s6⟩ := stands_cons s5
      have el : ((c1 ++ (20 + 64 * (b + c1.length + 1 + c2.length + 1)) :: (c2 ++ (21 + 64 * (b + c1.length + 1 + c2.length + 1 + c3.length)) :: c3)).length : Int) = (c1.length : Int) + 1 + (c2.length : Int) + 1 + (c3.length : Int) := by rw [List.length_append, List.length_cons, List.length_append, List.length_cons]; omega
      rw [el] at hbl K
      have hg1 : h < 64 := by
        have : 0 < hg := by
          rcases Nat.eq_zero_or_pos hg with z | z
          · exfalso; subst z; exact absurd h1 (Ex_hg0 n _ _ _ _ _)
          · exact z
        omega
      refine ih b c1 r1 _ _ f1 h1 M1 h w1 w2 sk h0 h64 hb (by omega) s1 (fun M2 u1 u2 sk2 k1 k2 => ?_)
      rw [pre sk2 (by omega) (by omega) g1 (by decide) ⟨by omega, by omega⟩]
      rw [wg_then (cz sk2) k2 h0 hg1 ⟨by omega, by omega⟩ ⟨by omega, by omega⟩]
      by_cases hz : f1 (envA A m p f) = 0
      · rw [if_pos hz]
        refine ih _ c3 r3 _ _ f3 h3 M2 h _ _ sk2 h0 h64 (by omega) (by omega) s6 (fun M3 x1 x2 sk3 k3 k4 => ?_)
        rw [show b + (c1.length : Int) + 1 + (c2.length : Int) + 1 + (c3.length : Int) = b + ((c1.length : Int) + 1 + (c2.length : Int) + 1 + (c3.length : Int)) by omega]
        refine K _ _ _ sk3 (fun j j0 j1 => (k3 j j0 j1).trans (k1 j j0 j1)) ?_
        rw [k4]
        exact (if_pos hz).symm
      · rw [if_neg hz]
        refine ih _ c2 r2 _ _ f2 h2 M2 h _ _ sk2 h0 h64 (by omega) (by omega) s4 (fun M3 x1 x2 sk3 k3 k4 => ?_)
        rw [pre sk3 (by omega) (by omega) g2 (by decide) ⟨by omega, by omega⟩, wg_else ⟨by omega, by omega⟩ ⟨by omega, by omega⟩]
        rw [show b + (c1.length : Int) + 1 + (c2.length : Int) + 1 + (c3.length : Int) = b + ((c1.length : Int) + 1 + (c2.length : Int) + 1 + (c3.length : Int)) by omega]
        refine K _ _ _ sk3 (fun j j0 j1 => (k3 j j0 j1).trans (k1 j j0 j1)) ?_
        rw [k4]
        exact (if_neg hz).symm
theorem c_weigh {A : Int → Int} {m : Mom} {n : Nat} {cl : List Int} {rl : List (Int × Int)} {F : Env → Int} (le : LE M c A m p f) (hcc : c + 4 < 340 ∨ 340 < c) (hr : 1 ≤ r) (hr3 : r ≠ 340) (hk : hh M r 1 = rk) (hk0 : 1 ≤ rk) (hk3 : rk ≠ 340) (hE : Ex n fr cl rl false 64 F) (h0 : 0 ≤ fr) (hto : to = fr + cl.length) (hto2 : to ≤ hl M rk) (hl3 : hl M rk ≤ 10000) (hs : stands (hh M rk) fr cl) : wc X (d + 2) 83 [(23, 339), (28, r), (0, fr), (0, to), (29, 6), (24, c), (0, p), (0, f)] M (fun q M1 => q = some (0, F (envA A m p f)) ∧ Sk 340 M M1) := by
  show wp X (d + 2) 83 0 [(23, 339), (28, r), (0, fr), (0, to), (29, 6), (24, c), (0, p), (0, f), (9, 0), (9, 0), (9, 0), (9, 0), (9, 0)] [] M _
  simp only [w83_0, w83_1, w83_3, w83_4, w83_5, w83_8, w83_9, w83_12, w83_14, w83_15, c_min, hk, hto2, show ¬ r = 0 by omega, show ¬ rk = 0 by omega, ↓reduceIte, hh_wr, hl_wr, b10, b11, ite_not, ne_eq, Int.reduceEq, Int.reduceLE, Int.reduceLT, Int.reduceNe, Int.reduceNeg, Int.reduceAdd, Int.reduceSub, Int.reduceMul, not_false_eq_true, not_true_eq_false, false_and, and_false, true_and, and_true, and_self, true_or, or_true, false_or, or_false, if_true, if_false, ite_true, ite_false, mj_tl_some, mj_tl_none, mj_cs0, mj_cs1, mj_cs2, mj_cs3, mj_cs4]
  refine wg_ex (st := to) le hcc hr hr3 hk hk0 hk3 hto2 (by omega) n fr cl rl false 64 F hE M 0 _ _ Sk.rfl' (by decide) (by decide) h0 (by omega) hs (fun M2 u1 u2 sk k1 k2 => ?_)
  have cz : CS M2 := le.cs.fz (sk.fz (zs := [8]) (fun j => by rw [show zone 340 j = 8 from rfl]; decide)) (by decide)
  simp only [w83_0, w83_1, w83_3, w83_4, w83_5, w83_8, w83_9, w83_12, w83_14, w83_15, w83_17, w83_19, w83_21, w83_24, w83_25, w83_28, w83_30, w83_31, w83_33, w83_34, w83_36, w83_37, w83_40, w83_42, w83_43, w83_45, w83_46, w83_48, w83_50, w83_52, w83_55, w83_57, w83_60, w83_63, w83_65, w83_67, w83_70, w83_71, w83_74, w83_76, w83_78, w83_80, w83_83, w83_85, w83_88, w83_90, w83_92, w83_94, w83_96, w83_98, w83_101, w83_102, w83_105, w83_108, w83_110, w83_112, w83_115, w83_117, w83_119, w83_120, w83_121, w83_124, w83_126, w83_129, w83_131, w83_132, w83_135, w83_136, w83_137, w83_139, w83_141, w83_144, w83_147, w83_148, w83_151, w83_153, w83_154, w83_157, w83_159, w83_161, w83_162, w83_163, w83_166, w83_169, w83_171, w83_173, w83_176, w83_178, w83_180, w83_183, w83_184, w83_187, w83_189, w83_190, w83_191, w83_193, w83_194, w83_197, w83_199, w83_200, w83_201, w83_202, w83_205, w83_208, w83_209, w83_212, w83_214, w83_216, w83_219, w83_221, w83_223, w83_226, w83_228, w83_230, w83_233, w83_234, w83_237, w83_239, w83_240, w83_241, w83_243, w83_244, w83_247, w83_249, w83_250, w83_251, w83_252, w83_255, w83_256, w83_259, w83_261, w83_262, w83_265, w83_268, w83_269, w83_272, w83_274, w83_275, w83_276, w83_278, w83_279, w83_282, w83_284, w83_285, w83_286, w83_287, w83_288, w83_291, w83_293, w83_294, w83_297, w83_298, w83_301, w83_304, w83_306, w83_307, w83_310, w83_311, w83_314, w83_315, w83_318, w83_320, w83_321, w83_322, w83_323, ← hto, Int.lt_irrefl, c_339_0 cz, l_340 cz, k2, Int.zero_add, show ji_sub 1 1 = 0 by decide, ↓reduceIte, hh_wr, hl_wr, b10, b11, ite_not, ne_eq, Int.reduceEq, Int.reduceLE, Int.reduceLT, Int.reduceNe, Int.reduceNeg, Int.reduceAdd, Int.reduceSub, Int.reduceMul, not_false_eq_true, not_true_eq_false, false_and, and_false, true_and, and_true, and_self, true_or, or_true, false_or, or_false, if_true, if_false, ite_true, ite_false, mj_tl_some, mj_tl_none, mj_cs0, mj_cs1, mj_cs2, mj_cs3, mj_cs4]
  exact sk
end Weigh2
