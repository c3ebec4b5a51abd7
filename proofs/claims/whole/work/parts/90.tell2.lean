/-! DOINGS: told, the reference -/
section Tell2
variable {X : mj_X} {d : Nat} {M : mj_M} {A : Int → Int} {Q : Option mj_V → mj_M → Prop}
theorem bsh_0 (B : Int → Int) : bsh B 0 = B := by
  funext j
  unfold bsh
  rw [if_neg (by omega)]
theorem bsh_up (B : Int → Int) {k : Int} (h : 0 ≤ k) : up (bsh B k) (1661 + k) (B (1661 + k + 1)) = bsh B (k + 1) := by
  funext j
  unfold up bsh
  by_cases e : j = 1661 + k
  · rw [if_pos e, if_pos (by omega), e]
  · rw [if_neg e]
    by_cases g : 1661 ≤ j ∧ j < 1661 + k
    · rw [if_pos g, if_pos (by omega)]
    · rw [if_neg g, if_neg (by omega)]
theorem m_shift {p s n : Int} {B : Int → Int} (Q : Option mj_V → mj_M → Prop) (hQ : ∀ M2, fz [3] M M2 → hh M2 355 = bsh B 29 → wp X d 285 60 [(32, 354), (0, p), (0, s), (0, n), (0, 30)] [] M2 Q) : ∀ (m : Nat) (M1 : mj_M) (k : Int), k + m = 30 → 1 ≤ k → CS M1 → fz [3] M M1 → hh M1 355 = bsh B (k - 1) → wp X d 285 23 [(32, 354), (0, p), (0, s), (0, n), (0, k)] [] M1 Q := by
  intro m
  induction m with
  | zero =>
    intro M1 k e k1 hc f r
    have : k = 30 := by omega
    subst this
    simp only [w285_23, w285_25, w285_27, ↓reduceIte, hh_wr, hl_wr, b10, b11, ite_not, ne_eq, Int.reduceEq, Int.reduceLE, Int.reduceLT, Int.reduceNe, Int.reduceNeg, Int.reduceAdd, Int.reduceSub, Int.reduceMul, not_false_eq_true, not_true_eq_false, false_and, and_false, true_and, and_true, and_self, true_or, or_true, false_or, or_false, if_true, if_false, ite_true, ite_false, mj_tl_some, mj_tl_none, mj_cs0, mj_cs1, mj_cs2, mj_cs3, mj_cs4]
    exact hQ M1 f r
  | succ m ih =>
    intro M1 k e k1 hc f r
    have a1 : ji_add 1661 k = 1661 + k := aj ⟨by omega, by omega⟩
    have a2 : ji_sub (1661 + k) 1 = 1661 + k - 1 := sj ⟨by omega, by omega⟩
    have a3 : ji_add k 1 = k + 1 := aj ⟨by omega, by omega⟩
    rw [w285_23]
    simp only [w285_25, w285_27, w285_30, w285_31, w285_34, w285_37, w285_39, w285_40, w285_41, w285_42, w285_43, w285_46, w285_49, w285_51, w285_52, w285_53, w285_54, w285_57, c_1_0 hc, c_1_1 hc, c_1_2 hc, c_1_3 hc, c_1_4 hc, c_1_5 hc, c_1_6 hc, c_1_7 hc, c_1_8 hc, c_2_0 hc, c_2_1 hc, c_5_0 hc, c_5_1 hc, c_5_2 hc, c_5_3 hc, c_5_5 hc, c_5_8 hc, c_5_11 hc, c_6_1 hc, c_6_2 hc, c_6_3 hc, c_10_4 hc, c_10_5 hc, c_10_6 hc, c_10_7 hc, c_15_1 hc, c_17_1 hc, c_339_0 hc, c_341_0 hc, c_341_1 hc, c_341_2 hc, c_342_4 hc, c_342_5 hc, c_342_6 hc, c_342_7 hc, c_347_0 hc, c_347_2 hc, c_347_3 hc, c_349_0 hc, c_349_1 hc, c_349_2 hc, c_351_2 hc, c_351_10 hc, c_351_12 hc, c_354_0 hc, c_354_1 hc, c_354_2 hc, c_354_3 hc, c_354_4 hc, c_354_5 hc, c_354_6 hc, c_354_7 hc, c_354_8 hc, c_354_20 hc, c_354_25 hc, c_354_26 hc, c_354_27 hc, c_354_28 hc, c_354_32 hc, c_354_33 hc, c_354_34 hc, c_354_35 hc, c_354_38 hc, l_3 hc, l_4 hc, l_7 hc, l_8 hc, l_9 hc, l_11 hc, l_12 hc, l_13 hc, l_14 hc, l_16 hc, l_18 hc, l_19 hc, l_20 hc, l_21 hc, l_340 hc, l_343 hc, l_344 hc, l_345 hc, l_346 hc, l_348 hc, l_350 hc, l_352 hc, l_353 hc, l_355 hc, l_356 hc, l_357 hc, l_358 hc, l_359 hc, l_360 hc, l_361 hc, l_362 hc, l_363 hc, l_364 hc, l_365 hc, l_366 hc, l_367 hc, l_368 hc, l_369 hc, l_370 hc, l_371 hc, l_372 hc, l_373 hc, a1, a2, a3, show ¬ (30 : Int) ≤ k by omega, show k < 30 by omega, show (0 : Int) ≤ 1661 + k by omega, show 1661 + k < 1691 by omega, show (0 : Int) ≤ 1661 + k - 1 by omega, show 1661 + k - 1 < 1691 by omega, ↓reduceIte, hh_wr, hl_wr, b10, b11, ite_not, ne_eq, Int.reduceEq, Int.reduceLE, Int.reduceLT, Int.reduceNe, Int.reduceNeg, Int.reduceAdd, Int.reduceSub, Int.reduceMul, not_false_eq_true, not_true_eq_false, false_and, and_false, true_and, and_true, and_self, true_or, or_true, false_or, or_false, if_true, if_false, ite_true, ite_false, mj_tl_some, mj_tl_none, mj_cs0, mj_cs1, mj_cs2, mj_cs3, mj_cs4]
    refine ih _ _ (by omega) (by omega) (hc.fz (fz.rfl'.wr (z355m (zs := [3]) (by decide) _)) (by decide)) (f.wr (z355m (by decide) _)) ?_
    rw [row_wr, r]
    have eb : bsh B (k - 1) (1661 + k) = B (1661 + (k - 1) + 1) := by
      unfold bsh
      rw [if_neg (by omega)]
      congr 1
      omega
    rw [eb, show 1661 + k - 1 = 1661 + (k - 1) by omega, bsh_up B (by omega), show k - 1 + 1 = k + 1 - 1 by omega]
theorem m_write {p s n : Int} (hc : CS M) (w : hh M 354 36 = 1) (t : 0 ≤ hh M 355 10 ∧ hh M 355 10 ≤ 30) (y : 0 ≤ hh M 355 8 ∧ hh M 355 8 ≤ 9999) (hp : 0 ≤ p ∧ p < 6) (hs : 0 ≤ s ∧ s < 4) (hn : 0 ≤ n ∧ n ≤ 99) : wc X d 285 [(32, 354), (0, p), (0, s), (0, n)] M (fun r M1 => r = none ∧ fz [3] M M1 ∧ hh M1 355 = wrA (hh M 355) p s n) := by
  show wp X d 285 0 [(32, 354), (0, p), (0, s), (0, n), (9, 0)] [] M _
  have main : ∀ (M1 : mj_M) (q : mj_V), fz [3] M M1 → hh M1 355 = wrC (hh M 355) → wp X d 285 71 [(32, 354), (0, p), (0, s), (0, n), q] [] M1 (fun r M1 => r = none ∧ fz [3] M M1 ∧ hh M1 355 = wrA (hh M 355) p s n) := by
    intro M1 q f r
    have hc1 := hc.fz f (by decide)
    have r10 : 0 ≤ hh M1 355 10 ∧ hh M1 355 10 ≤ 29 := by rw [r, wrC_10]; split <;> omega
    have r8 : hh M1 355 8 = hh M 355 8 := by rw [r]; exact wrC_o (by omega) (by omega)
    unfold wrA
    rw [← r]
    generalize hT : hh M1 355 10 = T at r10 ⊢
    generalize hY : hh M1 355 8 = Y at r8 ⊢
    rw [← r8] at y
    have a1 : ji_add 1661 T = 1661 + T := aj ⟨by omega, by omega⟩
    have a2 : ji_mul Y 6 = 6 * Y := by rw [ji_mul_eq (nn ⟨by omega, by omega⟩)]; omega
    have a3 : ji_add (6 * Y) p = 6 * Y + p := aj ⟨by omega, by omega⟩
    have a4 : ji_mul (6 * Y + p) 4 = 24 * Y + 4 * p := by rw [ji_mul_eq (nn ⟨by omega, by omega⟩)]; omega
    have a5 : ji_add (24 * Y + 4 * p) s = 24 * Y + 4 * p + s := aj ⟨by omega, by omega⟩
    have a6 : ji_mul (24 * Y + 4 * p + s) 100 = 2400 * Y + 400 * p + 100 * s := by rw [ji_mul_eq ⟨by omega, by omega⟩]; omega
    have a7 : ji_add (2400 * Y + 400 * p + 100 * s) n = 2400 * Y + 400 * p + 100 * s + n := ji_add_eq ⟨by omega, by omega⟩
    have a8 : ji_add T 1 = T + 1 := aj ⟨by omega, by omega⟩
    simp only [w285_0, w285_1, w285_4, w285_7, w285_8, w285_9, w285_12, w285_14, w285_15, w285_17, w285_20, w285_21, w285_23, w285_25, w285_27, w285_30, w285_31, w285_34, w285_37, w285_39, w285_40, w285_41, w285_42, w285_43, w285_46, w285_49, w285_51, w285_52, w285_53, w285_54, w285_57, w285_60, w285_61, w285_64, w285_66, w285_67, w285_68, w285_69, w285_70, w285_71, w285_72, w285_75, w285_78, w285_79, w285_82, w285_84, w285_85, w285_86, w285_87, w285_90, w285_92, w285_93, w285_95, w285_96, w285_97, w285_98, w285_99, w285_100, w285_101, w285_102, w285_104, w285_105, w285_106, w285_107, w285_108, w285_109, w285_112, w285_114, w285_115, w285_116, w285_117, w285_118, w285_119, c_1_0 hc1, c_1_1 hc1, c_1_2 hc1, c_1_3 hc1, c_1_4 hc1, c_1_5 hc1, c_1_6 hc1, c_1_7 hc1, c_1_8 hc1, c_2_0 hc1, c_2_1 hc1, c_5_0 hc1, c_5_1 hc1, c_5_2 hc1, c_5_3 hc1, c_5_5 hc1, c_5_8 hc1, c_5_11 hc1, c_6_1 hc1, c_6_2 hc1, c_6_3 hc1, c_10_4 hc1, c_10_5 hc1, c_10_6 hc1, c_10_7 hc1, c_15_1 hc1, c_17_1 hc1, c_339_0 hc1, c_341_0 hc1, c_341_1 hc1, c_341_2 hc1, c_342_4 hc1, c_342_5 hc1, c_342_6 hc1, c_342_7 hc1, c_347_0 hc1, c_347_2 hc1, c_347_3 hc1, c_349_0 hc1, c_349_1 hc1, c_349_2 hc1, c_351_2 hc1, c_351_10 hc1, c_351_12 hc1, c_354_0 hc1, c_354_1 hc1, c_354_2 hc1, c_354_3 hc1, c_354_4 hc1, c_354_5 hc1, c_354_6 hc1, c_354_7 hc1, c_354_8 hc1, c_354_20 hc1, c_354_25 hc1, c_354_26 hc1, c_354_27 hc1, c_354_28 hc1, c_354_32 hc1, c_354_33 hc1, c_354_34 hc1, c_354_35 hc1, c_354_38 hc1, l_3 hc1, l_4 hc1, l_7 hc1, l_8 hc1, l_9 hc1, l_11 hc1, l_12 hc1, l_13 hc1, l_14 hc1, l_16 hc1, l_18 hc1, l_19 hc1, l_20 hc1, l_21 hc1, l_340 hc1, l_343 hc1, l_344 hc1, l_345 hc1, l_346 hc1, l_348 hc1, l_350 hc1, l_352 hc1, l_353 hc1, l_355 hc1, l_356 hc1, l_357 hc1, l_358 hc1, l_359 hc1, l_360 hc1, l_361 hc1, l_362 hc1, l_363 hc1, l_364 hc1, l_365 hc1, l_366 hc1, l_367 hc1, l_368 hc1, l_369 hc1, l_370 hc1, l_371 hc1, l_372 hc1, l_373 hc1, hT, hY, a1, a2, a3, a4, a5, a6, a7, a8, show ¬ (10 : Int) = 1661 + T by omega, show (0 : Int) ≤ 1661 + T by omega, show 1661 + T < 1691 by omega, ↓reduceIte, hh_wr, hl_wr, b10, b11, ite_not, ne_eq, Int.reduceEq, Int.reduceLE, Int.reduceLT, Int.reduceNe, Int.reduceNeg, Int.reduceAdd, Int.reduceSub, Int.reduceMul, not_false_eq_true, not_true_eq_false, false_and, and_false, true_and, and_true, and_self, true_or, or_true, false_or, or_false, if_true, if_false, ite_true, ite_false, mj_tl_some, mj_tl_none, mj_cs0, mj_cs1, mj_cs2, mj_cs3, mj_cs4]
    refine ⟨(f.wr (z355m (by decide) _)).wr (z355m (by decide) _), ?_⟩
    rw [row_wr, row_wr]
  by_cases h30 : hh M 355 10 = 30
  · have e : wrC (hh M 355) = up (bsh (hh M 355) 29) 10 29 := if_pos h30
    simp only [w285_0, w285_1, w285_4, w285_8, w285_9, w285_12, w285_14, w285_15, w285_17, w285_20, w285_21, c_1_0 hc, c_1_1 hc, c_1_2 hc, c_1_3 hc, c_1_4 hc, c_1_5 hc, c_1_6 hc, c_1_7 hc, c_1_8 hc, c_2_0 hc, c_2_1 hc, c_5_0 hc, c_5_1 hc, c_5_2 hc, c_5_3 hc, c_5_5 hc, c_5_8 hc, c_5_11 hc, c_6_1 hc, c_6_2 hc, c_6_3 hc, c_10_4 hc, c_10_5 hc, c_10_6 hc, c_10_7 hc, c_15_1 hc, c_17_1 hc, c_339_0 hc, c_341_0 hc, c_341_1 hc, c_341_2 hc, c_342_4 hc, c_342_5 hc, c_342_6 hc, c_342_7 hc, c_347_0 hc, c_347_2 hc, c_347_3 hc, c_349_0 hc, c_349_1 hc, c_349_2 hc, c_351_2 hc, c_351_10 hc, c_351_12 hc, c_354_0 hc, c_354_1 hc, c_354_2 hc, c_354_3 hc, c_354_4 hc, c_354_5 hc, c_354_6 hc, c_354_7 hc, c_354_8 hc, c_354_20 hc, c_354_25 hc, c_354_26 hc, c_354_27 hc, c_354_28 hc, c_354_32 hc, c_354_33 hc, c_354_34 hc, c_354_35 hc, c_354_38 hc, l_3 hc, l_4 hc, l_7 hc, l_8 hc, l_9 hc, l_11 hc, l_12 hc, l_13 hc, l_14 hc, l_16 hc, l_18 hc, l_19 hc, l_20 hc, l_21 hc, l_340 hc, l_343 hc, l_344 hc, l_345 hc, l_346 hc, l_348 hc, l_350 hc, l_352 hc, l_353 hc, l_355 hc, l_356 hc, l_357 hc, l_358 hc, l_359 hc, l_360 hc, l_361 hc, l_362 hc, l_363 hc, l_364 hc, l_365 hc, l_366 hc, l_367 hc, l_368 hc, l_369 hc, l_370 hc, l_371 hc, l_372 hc, l_373 hc, w, h30, ↓reduceIte, hh_wr, hl_wr, b10, b11, ite_not, ne_eq, Int.reduceEq, Int.reduceLE, Int.reduceLT, Int.reduceNe, Int.reduceNeg, Int.reduceAdd, Int.reduceSub, Int.reduceMul, not_false_eq_true, not_true_eq_false, false_and, and_false, true_and, and_true, and_self, true_or, or_true, false_or, or_false, if_true, if_false, ite_true, ite_false, mj_tl_some, mj_tl_none, mj_cs0, mj_cs1, mj_cs2, mj_cs3, mj_cs4]
    refine m_shift (M := M) (B := hh M 355) _ ?_ 29 M 1 (by decide) (by decide) hc fz.rfl' (bsh_0 _).symm
    intro M2 f2 r2
    have hc2 := hc.fz f2 (by decide)
    have e10 : hh M2 355 10 = 30 := by rw [r2]; unfold bsh; rw [if_neg (by omega)]; exact h30
    simp only [w285_60, w285_61, w285_64, w285_66, w285_67, w285_68, w285_69, w285_70, c_1_0 hc2, c_1_1 hc2, c_1_2 hc2, c_1_3 hc2, c_1_4 hc2, c_1_5 hc2, c_1_6 hc2, c_1_7 hc2, c_1_8 hc2, c_2_0 hc2, c_2_1 hc2, c_5_0 hc2, c_5_1 hc2, c_5_2 hc2, c_5_3 hc2, c_5_5 hc2, c_5_8 hc2, c_5_11 hc2, c_6_1 hc2, c_6_2 hc2, c_6_3 hc2, c_10_4 hc2, c_10_5 hc2, c_10_6 hc2, c_10_7 hc2, c_15_1 hc2, c_17_1 hc2, c_339_0 hc2, c_341_0 hc2, c_341_1 hc2, c_341_2 hc2, c_342_4 hc2, c_342_5 hc2, c_342_6 hc2, c_342_7 hc2, c_347_0 hc2, c_347_2 hc2, c_347_3 hc2, c_349_0 hc2, c_349_1 hc2, c_349_2 hc2, c_351_2 hc2, c_351_10 hc2, c_351_12 hc2, c_354_0 hc2, c_354_1 hc2, c_354_2 hc2, c_354_3 hc2, c_354_4 hc2, c_354_5 hc2, c_354_6 hc2, c_354_7 hc2, c_354_8 hc2, c_354_20 hc2, c_354_25 hc2, c_354_26 hc2, c_354_27 hc2, c_354_28 hc2, c_354_32 hc2, c_354_33 hc2, c_354_34 hc2, c_354_35 hc2, c_354_38 hc2, l_3 hc2, l_4 hc2, l_7 hc2, l_8 hc2, l_9 hc2, l_11 hc2, l_12 hc2, l_13 hc2, l_14 hc2, l_16 hc2, l_18 hc2, l_19 hc2, l_20 hc2, l_21 hc2, l_340 hc2, l_343 hc2, l_344 hc2, l_345 hc2, l_346 hc2, l_348 hc2, l_350 hc2, l_352 hc2, l_353 hc2, l_355 hc2, l_356 hc2, l_357 hc2, l_358 hc2, l_359 hc2, l_360 hc2, l_361 hc2, l_362 hc2, l_363 hc2, l_364 hc2, l_365 hc2, l_366 hc2, l_367 hc2, l_368 hc2, l_369 hc2, l_370 hc2, l_371 hc2, l_372 hc2, l_373 hc2, e10, sj (x := 30) (y := 1) ⟨by decide, by decide⟩, ↓reduceIte, hh_wr, hl_wr, b10, b11, ite_not, ne_eq, Int.reduceEq, Int.reduceLE, Int.reduceLT, Int.reduceNe, Int.reduceNeg, Int.reduceAdd, Int.reduceSub, Int.reduceMul, not_false_eq_true, not_true_eq_false, false_and, and_false, true_and, and_true, and_self, true_or, or_true, false_or, or_false, if_true, if_false, ite_true, ite_false, mj_tl_some, mj_tl_none, mj_cs0, mj_cs1, mj_cs2, mj_cs3, mj_cs4]
    refine main _ _ (f2.wr (z355m (by decide) _)) ?_
    rw [row_wr, e, r2]
  · have e : wrC (hh M 355) = hh M 355 := if_neg h30
    simp only [w285_0, w285_1, w285_4, w285_8, w285_9, w285_12, w285_14, w285_15, w285_17, c_1_0 hc, c_1_1 hc, c_1_2 hc, c_1_3 hc, c_1_4 hc, c_1_5 hc, c_1_6 hc, c_1_7 hc, c_1_8 hc, c_2_0 hc, c_2_1 hc, c_5_0 hc, c_5_1 hc, c_5_2 hc, c_5_3 hc, c_5_5 hc, c_5_8 hc, c_5_11 hc, c_6_1 hc, c_6_2 hc, c_6_3 hc, c_10_4 hc, c_10_5 hc, c_10_6 hc, c_10_7 hc, c_15_1 hc, c_17_1 hc, c_339_0 hc, c_341_0 hc, c_341_1 hc, c_341_2 hc, c_342_4 hc, c_342_5 hc, c_342_6 hc, c_342_7 hc, c_347_0 hc, c_347_2 hc, c_347_3 hc, c_349_0 hc, c_349_1 hc, c_349_2 hc, c_351_2 hc, c_351_10 hc, c_351_12 hc, c_354_0 hc, c_354_1 hc, c_354_2 hc, c_354_3 hc, c_354_4 hc, c_354_5 hc, c_354_6 hc, c_354_7 hc, c_354_8 hc, c_354_20 hc, c_354_25 hc, c_354_26 hc, c_354_27 hc, c_354_28 hc, c_354_32 hc, c_354_33 hc, c_354_34 hc, c_354_35 hc, c_354_38 hc, l_3 hc, l_4 hc, l_7 hc, l_8 hc, l_9 hc, l_11 hc, l_12 hc, l_13 hc, l_14 hc, l_16 hc, l_18 hc, l_19 hc, l_20 hc, l_21 hc, l_340 hc, l_343 hc, l_344 hc, l_345 hc, l_346 hc, l_348 hc, l_350 hc, l_352 hc, l_353 hc, l_355 hc, l_356 hc, l_357 hc, l_358 hc, l_359 hc, l_360 hc, l_361 hc, l_362 hc, l_363 hc, l_364 hc, l_365 hc, l_366 hc, l_367 hc, l_368 hc, l_369 hc, l_370 hc, l_371 hc, l_372 hc, l_373 hc, w, h30, ↓reduceIte, hh_wr, hl_wr, b10, b11, ite_not, ne_eq, Int.reduceEq, Int.reduceLE, Int.reduceLT, Int.reduceNe, Int.reduceNeg, Int.reduceAdd, Int.reduceSub, Int.reduceMul, not_false_eq_true, not_true_eq_false, false_and, and_false, true_and, and_true, and_self, true_or, or_true, false_or, or_false, if_true, if_false, ite_true, ite_false, mj_tl_some, mj_tl_none, mj_cs0, mj_cs1, mj_cs2, mj_cs3, mj_cs4]
    exact main M _ fz.rfl' e.symm
theorem tlV_no {p s : Int} (h : ¬ ((0 ≤ p ∧ p < A 1) ∧ (0 ≤ s ∧ s < A 2) ∧ llV A (A (11 + 5 * p + 1)) ≠ -1 ∧ llV A (A (11 + 5 * p + 1)) ≤ A (11 + 5 * p + 2))) : tlV A p s = -1 := if_neg h
theorem m_canTell {p s : Int} (h : RW M) (co : Cok M) : wc X (d + 5) 283 [(32, 354), (0, p), (0, s)] M (fun r M1 => r = some (0, if tlV (hh M 355) p s = -1 then 0 else 1) ∧ fz [8, 9] M M1 ∧ Cok M1) := by
  show wp X (d + 5) 283 0 [(32, 354), (0, p), (0, s)] [] M _
  have p6 : hh M 355 1 ≤ 6 := h.ai.now.p6
  by_cases hp : 0 ≤ p ∧ p < hh M 355 1
  · by_cases hs : 0 ≤ s ∧ s < hh M 355 2
    · have g1 := fun Q => m_get (X := X) (d := d + 4) (M := M) (Q := Q) (p := p) (w := 1) h.cs ⟨hp.1, by omega⟩ (by decide)
      simp only [w283_0, w283_1, w283_2, w283_5, w283_8, w283_9, w283_10, w283_13, w283_16, w283_17, w283_18, w283_19, w283_20, w283_23, m_isPersonA h.cs h.ai, m_isStoryA h.cs h.ai, hp, hs, g1, ↓reduceIte, hh_wr, hl_wr, b10, b11, ite_not, ne_eq, Int.reduceEq, Int.reduceLE, Int.reduceLT, Int.reduceNe, Int.reduceNeg, Int.reduceAdd, Int.reduceSub, Int.reduceMul, not_false_eq_true, not_true_eq_false, false_and, and_false, true_and, and_true, and_self, true_or, or_true, false_or, or_false, if_true, if_false, ite_true, ite_false, mj_tl_some, mj_tl_none, mj_cs0, mj_cs1, mj_cs2, mj_cs3, mj_cs4]
      refine wc.mono (m_lengthBy (d := d) h co) ?_
      rintro r M1 ⟨rfl, f1, co1, _⟩
      have e5 := fz89_355 f1
      have h1 := rw_s89 h f1
      have g2 := fun Q => m_get (X := X) (d := d + 4) (M := M1) (Q := Q) (p := p) (w := 1) h1.cs ⟨hp.1, by omega⟩ (by decide)
      rw [e5] at g2
      generalize hL : llV (hh M 355) (hh M 355 (11 + 5 * p + 1)) = L
      by_cases hm : L = -1
      · rw [tlV_no (fun g => g.2.2.1 (hL.trans hm))]
        simp only [w283_0, w283_1, w283_2, w283_5, w283_8, w283_9, w283_10, w283_13, w283_16, w283_17, w283_18, w283_19, w283_20, w283_23, w283_26, w283_27, w283_30, w283_31, w283_32, w283_33, w283_34, w283_37, w283_40, w283_41, w283_42, w283_43, w283_46, w283_49, w283_50, w283_53, w283_54_i, w283_54_0, w283_54_1, hm, ↓reduceIte, hh_wr, hl_wr, b10, b11, ite_not, ne_eq, Int.reduceEq, Int.reduceLE, Int.reduceLT, Int.reduceNe, Int.reduceNeg, Int.reduceAdd, Int.reduceSub, Int.reduceMul, not_false_eq_true, not_true_eq_false, false_and, and_false, true_and, and_true, and_self, true_or, or_true, false_or, or_false, if_true, if_false, ite_true, ite_false, mj_tl_some, mj_tl_none, mj_cs0, mj_cs1, mj_cs2, mj_cs3, mj_cs4]
        exact ⟨f1, co1⟩
      · simp only [w283_26, w283_27, w283_30, w283_31, w283_32, w283_33, w283_34, w283_37, hm, g2, ↓reduceIte, hh_wr, hl_wr, b10, b11, ite_not, ne_eq, Int.reduceEq, Int.reduceLE, Int.reduceLT, Int.reduceNe, Int.reduceNeg, Int.reduceAdd, Int.reduceSub, Int.reduceMul, not_false_eq_true, not_true_eq_false, false_and, and_false, true_and, and_true, and_self, true_or, or_true, false_or, or_false, if_true, if_false, ite_true, ite_false, mj_tl_some, mj_tl_none, mj_cs0, mj_cs1, mj_cs2, mj_cs3, mj_cs4]
        refine wc.mono (m_lengthBy (d := d) h1 co1) ?_
        rintro r M2 ⟨rfl, f2, co2, _⟩
        rw [e5, hL]
        have e52 := (fz89_355 f2).trans e5
        have h2 := rw_s89 h1 f2
        have g3 := fun Q => m_get (X := X) (d := d + 4) (M := M2) (Q := Q) (p := p) (w := 2) h2.cs ⟨hp.1, by omega⟩ (by decide)
        rw [e52] at g3
        by_cases hle : L ≤ hh M 355 (11 + 5 * p + 2)
        · have et : tlV (hh M 355) p s = L := by unfold tlV; rw [hL]; exact if_pos ⟨hp, hs, hm, hle⟩
          rw [et]
          simp only [w283_0, w283_1, w283_2, w283_5, w283_8, w283_9, w283_10, w283_13, w283_16, w283_17, w283_18, w283_19, w283_20, w283_23, w283_26, w283_27, w283_30, w283_31, w283_32, w283_33, w283_34, w283_37, w283_40, w283_41, w283_42, w283_43, w283_46, w283_49, w283_50, w283_53, w283_54_i, w283_54_0, w283_54_1, hm, hle, g3, Int.not_lt.mpr hle, ↓reduceIte, hh_wr, hl_wr, b10, b11, ite_not, ne_eq, Int.reduceEq, Int.reduceLE, Int.reduceLT, Int.reduceNe, Int.reduceNeg, Int.reduceAdd, Int.reduceSub, Int.reduceMul, not_false_eq_true, not_true_eq_false, false_and, and_false, true_and, and_true, and_self, true_or, or_true, false_or, or_false, if_true, if_false, ite_true, ite_false, mj_tl_some, mj_tl_none, mj_cs0, mj_cs1, mj_cs2, mj_cs3, mj_cs4]
          exact ⟨f1.tr f2, co2⟩
        · rw [tlV_no (fun g => hle (by rw [← hL]; exact g.2.2.2))]
          simp only [w283_0, w283_1, w283_2, w283_5, w283_8, w283_9, w283_10, w283_13, w283_16, w283_17, w283_18, w283_19, w283_20, w283_23, w283_26, w283_27, w283_30, w283_31, w283_32, w283_33, w283_34, w283_37, w283_40, w283_41, w283_42, w283_43, w283_46, w283_49, w283_50, w283_53, w283_54_i, w283_54_0, w283_54_1, hle, g3, Int.not_le.mp hle, ↓reduceIte, hh_wr, hl_wr, b10, b11, ite_not, ne_eq, Int.reduceEq, Int.reduceLE, Int.reduceLT, Int.reduceNe, Int.reduceNeg, Int.reduceAdd, Int.reduceSub, Int.reduceMul, not_false_eq_true, not_true_eq_false, false_and, and_false, true_and, and_true, and_self, true_or, or_true, false_or, or_false, if_true, if_false, ite_true, ite_false, mj_tl_some, mj_tl_none, mj_cs0, mj_cs1, mj_cs2, mj_cs3, mj_cs4]
          exact ⟨f1.tr f2, co2⟩
    · rw [tlV_no (fun g => hs g.2.1)]
      simp only [w283_0, w283_1, w283_2, w283_5, w283_8, w283_9, w283_10, w283_13, w283_16, w283_17, w283_18, w283_19, w283_20, w283_23, w283_26, w283_27, w283_30, w283_31, w283_32, w283_33, w283_34, w283_37, w283_40, w283_41, w283_42, w283_43, w283_46, w283_49, w283_50, w283_53, w283_54_i, w283_54_0, w283_54_1, m_isPersonA h.cs h.ai, m_isStoryA h.cs h.ai, hp, hs, ↓reduceIte, hh_wr, hl_wr, b10, b11, ite_not, ne_eq, Int.reduceEq, Int.reduceLE, Int.reduceLT, Int.reduceNe, Int.reduceNeg, Int.reduceAdd, Int.reduceSub, Int.reduceMul, not_false_eq_true, not_true_eq_false, false_and, and_false, true_and, and_true, and_self, true_or, or_true, false_or, or_false, if_true, if_false, ite_true, ite_false, mj_tl_some, mj_tl_none, mj_cs0, mj_cs1, mj_cs2, mj_cs3, mj_cs4]
      exact ⟨fz.rfl', co⟩
  · rw [tlV_no (fun g => hp g.1)]
    simp only [w283_0, w283_1, w283_2, w283_5, w283_8, w283_9, w283_10, w283_13, w283_16, w283_17, w283_18, w283_19, w283_20, w283_23, w283_26, w283_27, w283_30, w283_31, w283_32, w283_33, w283_34, w283_37, w283_40, w283_41, w283_42, w283_43, w283_46, w283_49, w283_50, w283_53, w283_54_i, w283_54_0, w283_54_1, m_isPersonA h.cs h.ai, hp, ↓reduceIte, hh_wr, hl_wr, b10, b11, ite_not, ne_eq, Int.reduceEq, Int.reduceLE, Int.reduceLT, Int.reduceNe, Int.reduceNeg, Int.reduceAdd, Int.reduceSub, Int.reduceMul, not_false_eq_true, not_true_eq_false, false_and, and_false, true_and, and_true, and_self, true_or, or_true, false_or, or_false, if_true, if_false, ite_true, ite_false, mj_tl_some, mj_tl_none, mj_cs0, mj_cs1, mj_cs2, mj_cs3, mj_cs4]
    exact ⟨fz.rfl', co⟩
theorem m_tellNow {p s L : Int} (h : RW M) (co : Cok M) (w : hh M 354 36 = 1) (hp : 0 ≤ p ∧ p < hh M 355 1) (hs : 0 ≤ s ∧ s < hh M 355 2) (hL : llV (hh M 355) (hh M 355 (11 + 5 * p + 1)) = L) (hm : L ≠ -1) (hle : L ≤ hh M 355 (11 + 5 * p + 2)) : wc X (d + 5) 284 [(32, 354), (0, p), (0, s)] M (fun r M1 => r = some (0, L) ∧ fz [3, 8, 9] M M1 ∧ Cok M1 ∧ hh M1 355 = tlA (hh M 355) p s L) := by
  show wp X (d + 5) 284 0 [(32, 354), (0, p), (0, s), (9, 0)] [] M _
  have p6 : hh M 355 1 ≤ 6 := h.ai.now.p6
  have s4 : hh M 355 2 ≤ 4 := h.ai.s4
  have hp6 : 0 ≤ p ∧ p < 6 := ⟨hp.1, by omega⟩
  have lr := ll_r h.ai (v := hh M 355 (11 + 5 * p + 1)) (by rw [hL]; exact hm)
  rw [hL] at lr
  have br : 0 ≤ hh M 355 (11 + 5 * p + 2) ∧ hh M 355 (11 + 5 * p + 2) ≤ 99 := h.ai.now.b p hp.1 hp.2
  have g1 := fun Q => m_get (X := X) (d := d + 4) (M := M) (Q := Q) (p := p) (w := 1) h.cs hp6 (by decide)
  simp only [w284_0, w284_1, w284_2, w284_3, w284_4, w284_7, g1, ↓reduceIte, hh_wr, hl_wr, b10, b11, ite_not, ne_eq, Int.reduceEq, Int.reduceLE, Int.reduceLT, Int.reduceNe, Int.reduceNeg, Int.reduceAdd, Int.reduceSub, Int.reduceMul, not_false_eq_true, not_true_eq_false, false_and, and_false, true_and, and_true, and_self, true_or, or_true, false_or, or_false, if_true, if_false, ite_true, ite_false, mj_tl_some, mj_tl_none, mj_cs0, mj_cs1, mj_cs2, mj_cs3, mj_cs4]
  refine wc.mono (m_lengthBy (d := d) h co) ?_
  rintro r M1 ⟨rfl, f1, co1, _⟩
  rw [hL]
  have e5 := fz89_355 f1
  have h1 := rw_s89 h f1
  have g2 := fun Q => m_get (X := X) (d := d + 4) (M := M1) (Q := Q) (p := p) (w := 2) h1.cs hp6 (by decide)
  have p2 := fun Q => m_put (X := X) (d := d + 4) (M := M1) (Q := Q) (p := p) (w := 2) (v := hh M 355 (11 + 5 * p + 2) - L) h1.cs hp6 (by decide)
  rw [e5] at g2
  simp only [w284_10, w284_11, w284_12, w284_13, w284_14, w284_15, w284_16, w284_17, w284_20, w284_21, w284_22, w284_25, w284_26, w284_27, w284_28, w284_29, g2, sj (x := hh M 355 (11 + 5 * p + 2)) (y := L) ⟨by omega, by omega⟩, p2, ↓reduceIte, hh_wr, hl_wr, b10, b11, ite_not, ne_eq, Int.reduceEq, Int.reduceLE, Int.reduceLT, Int.reduceNe, Int.reduceNeg, Int.reduceAdd, Int.reduceSub, Int.reduceMul, not_false_eq_true, not_true_eq_false, false_and, and_false, true_and, and_true, and_self, true_or, or_true, false_or, or_false, if_true, if_false, ite_true, ite_false, mj_tl_some, mj_tl_none, mj_cs0, mj_cs1, mj_cs2, mj_cs3, mj_cs4]
  have f2 : fz [3] M1 (mj_wr M1 355 (11 + 5 * p + 2) (hh M 355 (11 + 5 * p + 2) - L)) := fz.rfl'.wr (z355m (by decide) _)
  have hc2 := h1.cs.fz f2 (by decide)
  have r2 : hh (mj_wr M1 355 (11 + 5 * p + 2) (hh M 355 (11 + 5 * p + 2) - L)) 355 = up (hh M 355) (11 + 5 * p + 2) (hh M 355 (11 + 5 * p + 2) - L) := by rw [row_wr, e5]
  have w2 : hh (mj_wr M1 355 (11 + 5 * p + 2) (hh M 355 (11 + 5 * p + 2) - L)) 354 36 = 1 := by
    rw [f2.h 354 36 (by decide), f1.h 354 36 (by decide)]; exact w
  generalize mj_wr M1 355 (11 + 5 * p + 2) (hh M 355 (11 + 5 * p + 2) - L) = M2 at f2 hc2 r2 w2 ⊢
  have t0 : 0 ≤ hh M 355 10 := h.ai.now.t0
  have t3 : hh M 355 10 ≤ 30 := h.ai.now.t3
  have y0 : 0 ≤ hh M 355 8 := h.ai.now.y0
  have y9 : hh M 355 8 ≤ 9999 := h.ai.now.y9
  refine wc.mono (m_write (d := d + 4) hc2 w2 (by rw [r2, up_ne (by omega)]; exact ⟨t0, t3⟩) (by rw [r2, up_ne (by omega)]; exact ⟨y0, y9⟩) hp6 (s := s) ⟨hs.1, by omega⟩ (n := L) ⟨lr.1, by omega⟩) ?_
  rintro r M3 ⟨rfl, f3, r3⟩
  simp only [w284_0, w284_1, w284_2, w284_3, w284_4, w284_7, w284_10, w284_11, w284_12, w284_13, w284_14, w284_15, w284_16, w284_17, w284_20, w284_21, w284_22, w284_25, w284_26, w284_27, w284_28, w284_29, w284_32, w284_33, ↓reduceIte, hh_wr, hl_wr, b10, b11, ite_not, ne_eq, Int.reduceEq, Int.reduceLE, Int.reduceLT, Int.reduceNe, Int.reduceNeg, Int.reduceAdd, Int.reduceSub, Int.reduceMul, not_false_eq_true, not_true_eq_false, false_and, and_false, true_and, and_true, and_self, true_or, or_true, false_or, or_false, if_true, if_false, ite_true, ite_false, mj_tl_some, mj_tl_none, mj_cs0, mj_cs1, mj_cs2, mj_cs3, mj_cs4]
  refine ⟨(f1.mono (fun z hz => by simp at hz ⊢; omega)).tr ((f2.tr f3).mono (fun z hz => by simp at hz ⊢; omega)), (co1.fz f2 (by decide)).fz f3 (by decide), ?_⟩
  rw [r3, r2]
  rfl
theorem tlV_y {p s : Int} (h : tlV A p s ≠ -1) : (0 ≤ p ∧ p < A 1) ∧ (0 ≤ s ∧ s < A 2) ∧ llV A (A (11 + 5 * p + 1)) = tlV A p s ∧ tlV A p s ≤ A (11 + 5 * p + 2) := by
  unfold tlV at h ⊢
  split at h
  · rename_i g
    rw [if_pos g]
    exact ⟨g.1, g.2.1, rfl, g.2.2.2⟩
  · exact absurd rfl h
theorem m_tell {p s : Int} (h : RW M) (co : Cok M) (w : hh M 354 36 = 1) : wc X (d + 6) 282 [(32, 354), (0, p), (0, s)] M (fun r M1 => r = some (0, tlV (hh M 355) p s) ∧ fz [3, 8, 9] M M1 ∧ Cok M1 ∧ hh M1 355 = if tlV (hh M 355) p s = -1 then hh M 355 else tlA (kst (hh M 355)) p s (tlV (hh M 355) p s)) := by
  show wp X (d + 6) 282 0 [(32, 354), (0, p), (0, s)] [] M _
  simp only [w282_0, w282_1, w282_2, w282_3, ↓reduceIte, hh_wr, hl_wr, b10, b11, ite_not, ne_eq, Int.reduceEq, Int.reduceLE, Int.reduceLT, Int.reduceNe, Int.reduceNeg, Int.reduceAdd, Int.reduceSub, Int.reduceMul, not_false_eq_true, not_true_eq_false, false_and, and_false, true_and, and_true, and_self, true_or, or_true, false_or, or_false, if_true, if_false, ite_true, ite_false, mj_tl_some, mj_tl_none, mj_cs0, mj_cs1, mj_cs2, mj_cs3, mj_cs4]
  refine wc.mono (m_canTell (d := d) h co) ?_
  rintro r M1 ⟨rfl, f1, co1⟩
  have e5 := fz89_355 f1
  have h1 := rw_s89 h f1
  have f1' : fz [3, 8, 9] M M1 := f1.mono (fun z hz => by simp at hz ⊢; omega)
  by_cases hm : tlV (hh M 355) p s = -1
  · simp only [w282_0, w282_1, w282_2, w282_3, w282_6, w282_9, w282_10, w282_11, w282_12, w282_15, w282_16, w282_17, w282_18, w282_21, hm, ↓reduceIte, hh_wr, hl_wr, b10, b11, ite_not, ne_eq, Int.reduceEq, Int.reduceLE, Int.reduceLT, Int.reduceNe, Int.reduceNeg, Int.reduceAdd, Int.reduceSub, Int.reduceMul, not_false_eq_true, not_true_eq_false, false_and, and_false, true_and, and_true, and_self, true_or, or_true, false_or, or_false, if_true, if_false, ite_true, ite_false, mj_tl_some, mj_tl_none, mj_cs0, mj_cs1, mj_cs2, mj_cs3, mj_cs4]
    exact ⟨f1', co1, e5⟩
  · obtain ⟨hp, hs, hL, hle⟩ := tlV_y hm
    simp only [w282_6, w282_11, w282_12, hm, ↓reduceIte, hh_wr, hl_wr, b10, b11, ite_not, ne_eq, Int.reduceEq, Int.reduceLE, Int.reduceLT, Int.reduceNe, Int.reduceNeg, Int.reduceAdd, Int.reduceSub, Int.reduceMul, not_false_eq_true, not_true_eq_false, false_and, and_false, true_and, and_true, and_self, true_or, or_true, false_or, or_false, if_true, if_false, ite_true, ite_false, mj_tl_some, mj_tl_none, mj_cs0, mj_cs1, mj_cs2, mj_cs3, mj_cs4]
    refine wc.mono (m_keepStep (d := d + 4) h1.cs h1.ai.n5) ?_
    rintro r M2 ⟨rfl, f2, r2⟩
    rw [e5] at r2
    have k := fun j hj => kst_k (j := j) h.ai hj
    have p6 : hh M 355 1 ≤ 6 := h.ai.now.p6
    have h2 : RW M2 := ⟨h1.cs.fz f2 (by decide), by rw [r2]; exact kst_ai h.ai, h1.tb.fz f2 (by decide)⟩
    have w2 : hh M2 354 36 = 1 := by rw [f2.h 354 36 (by decide), f1.h 354 36 (by decide)]; exact w
    simp only [w282_15, w282_16, w282_17, w282_18, ↓reduceIte, hh_wr, hl_wr, b10, b11, ite_not, ne_eq, Int.reduceEq, Int.reduceLE, Int.reduceLT, Int.reduceNe, Int.reduceNeg, Int.reduceAdd, Int.reduceSub, Int.reduceMul, not_false_eq_true, not_true_eq_false, false_and, and_false, true_and, and_true, and_self, true_or, or_true, false_or, or_false, if_true, if_false, ite_true, ite_false, mj_tl_some, mj_tl_none, mj_cs0, mj_cs1, mj_cs2, mj_cs3, mj_cs4]
    have f8 := h.ai.f8
    refine wc.mono (m_tellNow (d := d) (p := p) (s := s) (L := tlV (hh M 355) p s) h2 (co1.fz f2 (by decide)) w2 (by rw [r2, k 1 (by omega)]; exact hp) (by rw [r2, k 2 (by omega)]; exact hs) (by rw [r2, k (11 + 5 * p + 1) (by omega), ll_congr (fun j hj => k j (by omega)) h.ai.f8]; exact hL) hm (by rw [r2, k (11 + 5 * p + 2) (by omega)]; exact hle)) ?_
    rintro r M3 ⟨rfl, f3, co3, r3⟩
    simp only [w282_0, w282_1, w282_2, w282_3, w282_6, w282_9, w282_10, w282_11, w282_12, w282_15, w282_16, w282_17, w282_18, w282_21, ↓reduceIte, hh_wr, hl_wr, b10, b11, ite_not, ne_eq, Int.reduceEq, Int.reduceLE, Int.reduceLT, Int.reduceNe, Int.reduceNeg, Int.reduceAdd, Int.reduceSub, Int.reduceMul, not_false_eq_true, not_true_eq_false, false_and, and_false, true_and, and_true, and_self, true_or, or_true, false_or, or_false, if_true, if_false, ite_true, ite_false, mj_tl_some, mj_tl_none, mj_cs0, mj_cs1, mj_cs2, mj_cs3, mj_cs4]
    exact ⟨f1'.tr ((f2.mono (fun z hz => by simp at hz ⊢; omega)).tr f3), co3, by rw [r3, r2]⟩
theorem tlA_3 {p s n : Int} (ai : AI A) (hp : 0 ≤ p ∧ p < 6) : tlA A p s n 3 = A 3 := by
  have t0 : 0 ≤ A 10 := ai.now.t0
  have t3 : A 10 ≤ 30 := ai.now.t3
  unfold tlA wrA
  generalize hB : up A (11 + 5 * p + 2) (A (11 + 5 * p + 2) - n) = B
  have e10 : B 10 = A 10 := by rw [← hB]; exact up_ne (by omega)
  have := wrC_10 B
  have : 0 ≤ wrC B 10 ∧ wrC B 10 ≤ 29 := by rw [this]; split <;> omega
  rw [up_ne (by omega), up_ne (by omega), wrC_o (by omega) (by omega), ← hB, up_ne (by omega)]
theorem st10 : St10 RR (d + 60) := by
  intro X M p s h i1 i2
  unfold LS2
  show wp X (d + 60) 94 0 [(31, 1), (0, p), (0, s)] [] M _
  simp only [w94_0, w94_1, w94_4, w94_5, w94_6, w94_7, c_1_0 h.cs, c_1_1 h.cs, c_1_2 h.cs, c_1_3 h.cs, c_1_4 h.cs, c_1_5 h.cs, c_1_6 h.cs, c_1_7 h.cs, c_1_8 h.cs, c_2_0 h.cs, c_2_1 h.cs, c_5_0 h.cs, c_5_1 h.cs, c_5_2 h.cs, c_5_3 h.cs, c_5_5 h.cs, c_5_8 h.cs, c_5_11 h.cs, c_6_1 h.cs, c_6_2 h.cs, c_6_3 h.cs, c_10_4 h.cs, c_10_5 h.cs, c_10_6 h.cs, c_10_7 h.cs, c_15_1 h.cs, c_17_1 h.cs, c_339_0 h.cs, c_341_0 h.cs, c_341_1 h.cs, c_341_2 h.cs, c_342_4 h.cs, c_342_5 h.cs, c_342_6 h.cs, c_342_7 h.cs, c_347_0 h.cs, c_347_2 h.cs, c_347_3 h.cs, c_349_0 h.cs, c_349_1 h.cs, c_349_2 h.cs, c_351_2 h.cs, c_351_10 h.cs, c_351_12 h.cs, c_354_0 h.cs, c_354_1 h.cs, c_354_2 h.cs, c_354_3 h.cs, c_354_4 h.cs, c_354_5 h.cs, c_354_6 h.cs, c_354_7 h.cs, c_354_8 h.cs, c_354_20 h.cs, c_354_25 h.cs, c_354_26 h.cs, c_354_27 h.cs, c_354_28 h.cs, c_354_32 h.cs, c_354_33 h.cs, c_354_34 h.cs, c_354_35 h.cs, c_354_38 h.cs, l_3 h.cs, l_4 h.cs, l_7 h.cs, l_8 h.cs, l_9 h.cs, l_11 h.cs, l_12 h.cs, l_13 h.cs, l_14 h.cs, l_16 h.cs, l_18 h.cs, l_19 h.cs, l_20 h.cs, l_21 h.cs, l_340 h.cs, l_343 h.cs, l_344 h.cs, l_345 h.cs, l_346 h.cs, l_348 h.cs, l_350 h.cs, l_352 h.cs, l_353 h.cs, l_355 h.cs, l_356 h.cs, l_357 h.cs, l_358 h.cs, l_359 h.cs, l_360 h.cs, l_361 h.cs, l_362 h.cs, l_363 h.cs, l_364 h.cs, l_365 h.cs, l_366 h.cs, l_367 h.cs, l_368 h.cs, l_369 h.cs, l_370 h.cs, l_371 h.cs, l_372 h.cs, l_373 h.cs, h.gnf, h.gP, h.gy, h.gx, h.gt, h.gns, h.gnt, h.gru, h.gnp, h.gnd, h.gne, ↓reduceIte, hh_wr, hl_wr, b10, b11, ite_not, ne_eq, Int.reduceEq, Int.reduceLE, Int.reduceLT, Int.reduceNe, Int.reduceNeg, Int.reduceAdd, Int.reduceSub, Int.reduceMul, not_false_eq_true, not_true_eq_false, false_and, and_false, true_and, and_true, and_self, true_or, or_true, false_or, or_false, if_true, if_false, ite_true, ite_false, mj_tl_some, mj_tl_none, mj_cs0, mj_cs1, mj_cs2, mj_cs3, mj_cs4]
  refine wc.mono (c_tells (d := d + 54) h.cw (Or.inl rfl)) ?_
  rintro r M1 ⟨rfl, h1, c1, _⟩
  have e5 : hh M1 355 = hh M 355 := c1.f.row z_355 (by decide)
  simp only [w94_0, w94_1, w94_4, w94_5, w94_6, w94_7, w94_10, ↓reduceIte, hh_wr, hl_wr, b10, b11, ite_not, ne_eq, Int.reduceEq, Int.reduceLE, Int.reduceLT, Int.reduceNe, Int.reduceNeg, Int.reduceAdd, Int.reduceSub, Int.reduceMul, not_false_eq_true, not_true_eq_false, false_and, and_false, true_and, and_true, and_self, true_or, or_true, false_or, or_false, if_true, if_false, ite_true, ite_false, mj_tl_some, mj_tl_none, mj_cs0, mj_cs1, mj_cs2, mj_cs3, mj_cs4]
  have rw1 : RW M1 := ⟨h1.cs, by rw [e5]; exact h.ai, h.tb.fz c1.f (by decide)⟩
  refine wc.mono (m_tell (d := d + 54) rw1 (h.co.fz c1.f (by decide)) (by rw [c1.f.h 354 36 (by decide)]; exact h.tp.w)) ?_
  rintro r M2 ⟨rfl, f2, co2, r2⟩
  rw [e5] at r2 ⊢
  refine ⟨_, rfl, rfl, h.fin c1 h1 f2 ?_ ?_ co2⟩
  · rw [r2]; simp only [if_true]
  · have p6 := h.P6
    by_cases hm : tlV (hh M 355) p s = -1
    · rw [if_pos hm]
    · obtain ⟨hp, hs, hL, hle⟩ := tlV_y hm
      rw [if_neg hm]
      simp only [if_true]
      rw [tlA_3 (kst_ai h.ai) ⟨hp.1, by omega⟩, kst_k h.ai (by omega)]
end Tell2
