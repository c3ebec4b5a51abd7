/-! TEXT: the reference's text -/
section RText
variable {X : mj_X} {e : Nat} {M : mj_M} {T : Int → Int} {L a n w k q j : Int} {S : Int → Int → Int} {Lf Ll : Option LD} {Q : Option mj_V → mj_M → Prop}
theorem m_readT (h : RX M T L) (hj : hh M 355 3 = j) (j0 : 0 ≤ j ∧ j < 4) (hq : ∀ M2, RC M2 T L (705 * j) 0 0 0 0 → Fi (705 * j) M M2 → LpT X e M2 Q) : wc X (e + 12) 209 [(32, 354)] M Q := by
  show wp X (e + 12) 209 0 [(32, 354), (9, 0)] [] M _
  have m7 : ji_mul 705 j = 705 * j := ji_mul_eq (nn ⟨by omega, by omega⟩)
  have l0 := h.tz.l0
  simp only [w209_0, w209_1, w209_4, w209_5, w209_8, w209_9, w209_10, w209_11, w209_14, w209_15, w209_18, w209_19, w209_22, w209_23, w209_24, w209_25, w209_26, w209_29, w209_30, w209_31, w209_34, w209_35, w209_36, w209_39, w209_40, c_1_0 h.cs, c_1_1 h.cs, c_1_2 h.cs, c_1_3 h.cs, c_1_4 h.cs, c_1_5 h.cs, c_1_6 h.cs, c_1_7 h.cs, c_1_8 h.cs, c_2_0 h.cs, c_2_1 h.cs, c_5_0 h.cs, c_5_1 h.cs, c_5_2 h.cs, c_5_3 h.cs, c_5_5 h.cs, c_5_8 h.cs, c_5_11 h.cs, c_6_1 h.cs, c_6_2 h.cs, c_6_3 h.cs, c_10_4 h.cs, c_10_5 h.cs, c_10_6 h.cs, c_10_7 h.cs, c_15_1 h.cs, c_17_1 h.cs, c_339_0 h.cs, c_341_0 h.cs, c_341_1 h.cs, c_341_2 h.cs, c_342_4 h.cs, c_342_5 h.cs, c_342_6 h.cs, c_342_7 h.cs, c_347_0 h.cs, c_347_2 h.cs, c_347_3 h.cs, c_349_0 h.cs, c_349_1 h.cs, c_349_2 h.cs, c_351_2 h.cs, c_351_10 h.cs, c_351_12 h.cs, c_354_0 h.cs, c_354_1 h.cs, c_354_2 h.cs, c_354_3 h.cs, c_354_4 h.cs, c_354_5 h.cs, c_354_6 h.cs, c_354_7 h.cs, c_354_8 h.cs, c_354_20 h.cs, c_354_25 h.cs, c_354_26 h.cs, c_354_27 h.cs, c_354_28 h.cs, c_354_32 h.cs, c_354_33 h.cs, c_354_34 h.cs, c_354_35 h.cs, c_354_38 h.cs, l_3 h.cs, l_4 h.cs, l_7 h.cs, l_8 h.cs, l_9 h.cs, l_11 h.cs, l_12 h.cs, l_13 h.cs, l_14 h.cs, l_16 h.cs, l_18 h.cs, l_19 h.cs, l_20 h.cs, l_21 h.cs, l_340 h.cs, l_343 h.cs, l_344 h.cs, l_345 h.cs, l_346 h.cs, l_348 h.cs, l_350 h.cs, l_352 h.cs, l_353 h.cs, l_355 h.cs, l_356 h.cs, l_357 h.cs, l_358 h.cs, l_359 h.cs, l_360 h.cs, l_361 h.cs, l_362 h.cs, l_363 h.cs, l_364 h.cs, l_365 h.cs, l_366 h.cs, l_367 h.cs, l_368 h.cs, l_369 h.cs, l_370 h.cs, l_371 h.cs, l_372 h.cs, l_373 h.cs, hj, m7, show (0 : Int) ≤ 705 * j by omega, show 705 * j < 2820 by omega, ↓reduceIte, hh_wr, hl_wr, b10, b11, ite_not, ne_eq, Int.reduceEq, Int.reduceLE, Int.reduceLT, Int.reduceNe, Int.reduceNeg, Int.reduceAdd, Int.reduceSub, Int.reduceMul, not_false_eq_true, not_true_eq_false, false_and, and_false, true_and, and_true, and_self, true_or, or_true, false_or, or_false, if_true, if_false, ite_true, ite_false, mj_tl_some, mj_tl_none, mj_cs0, mj_cs1, mj_cs2, mj_cs3, mj_cs4]
  generalize hM1 : mj_wr (mj_wr (mj_wr (mj_wr (mj_wr M 354 17 (705 * j)) 357 (705 * j) 0) 354 18 0) 354 24 0) 354 12 0 = M1
  have r1 : Rr M M1 := by
    subst hM1
    exact ((((Rr.rfl'.w1 (by decide)).w2 (Or.inr rfl)).w1 (by decide)).w1 (by decide)).w1 (by decide)
  have v17 : hh M1 354 17 = 705 * j := by subst hM1; rfl
  have v18 : hh M1 354 18 = 0 := by subst hM1; rfl
  have v24 : hh M1 354 24 = 0 := by subst hM1; rfl
  have v12 : hh M1 354 12 = 0 := by subst hM1; rfl
  have vn : hh M1 357 (705 * j) = 0 := by subst hM1; simp only [hh_wr, ↓reduceIte, hh_wr, hl_wr, b10, b11, ite_not, ne_eq, Int.reduceEq, Int.reduceLE, Int.reduceLT, Int.reduceNe, Int.reduceNeg, Int.reduceAdd, Int.reduceSub, Int.reduceMul, not_false_eq_true, not_true_eq_false, false_and, and_false, true_and, and_true, and_self, true_or, or_true, false_or, or_false, if_true, if_false, ite_true, ite_false, mj_tl_some, mj_tl_none, mj_cs0, mj_cs1, mj_cs2, mj_cs3, mj_cs4]
  have vt : ∀ i, i ≠ 705 * j → hh M1 357 i = hh M 357 i := fun i hi => by subst hM1; simp only [hh_wr, hi, ↓reduceIte, hh_wr, hl_wr, b10, b11, ite_not, ne_eq, Int.reduceEq, Int.reduceLE, Int.reduceLT, Int.reduceNe, Int.reduceNeg, Int.reduceAdd, Int.reduceSub, Int.reduceMul, not_false_eq_true, not_true_eq_false, false_and, and_false, true_and, and_true, and_self, true_or, or_true, false_or, or_false, if_true, if_false, ite_true, ite_false, mj_tl_some, mj_tl_none, mj_cs0, mj_cs1, mj_cs2, mj_cs3, mj_cs4]
  clear hM1
  refine wc.mono (m_nextToken (d := e + 10) (h.rr r1) v12 (Int.le_refl _) l0) ?_
  rintro r M2 ⟨rfl, k2, rl2⟩
  rw [mj_tl_none]
  refine hq M2 ⟨rl2, ?_, ?_, ?_, ?_, by decide, by decide, ⟨by omega, by omega⟩, by decide⟩ ⟨r1.tr k2.rr, fun i hi => ?_⟩ _
  · rw [k2.h _ _ (by decide)]; exact v17
  · rw [k2.h _ _ (by decide)]; exact v18
  · rw [k2.h _ _ (by decide)]; exact v24
  · rw [k2.h _ _ (by omega)]; exact vn
  · rw [k2.h _ _ (by omega)]; exact vt i (by omega)
theorem m_read_ok (h : RX M T L) (hj : hh M 355 3 = j) (j0 : 0 ≤ j ∧ j < 4) (g : GT X e T L (705 * j) a n w S Lf Ll) (h40 : tK T L a = 40) : wc X (e + 12) 209 [(32, 354)] M (fun r M1 => r = some (0, 0) ∧ RC M1 T L (705 * j) a n w (onv Lf Ll) ∧ RD M1 (705 * j) n S ∧ LRr M1 (705 * j) Lf ∧ LRr M1 (705 * j) Ll ∧ Fi (705 * j) M M1) :=
  m_readT h hj j0 (fun M2 rc2 f2 => g M2 _ rc2 (fun M3 rc3 rd3 lf3 ll3 f3 => lt_end rc3.rl h40 ⟨rfl, rc3, rd3, lf3, ll3, f2.tr f3⟩))
theorem m_read_bad (h : RX M T L) (hj : hh M 355 3 = j) (j0 : 0 ≤ j ∧ j < 4) (g : BT X e T L (705 * j) k q) : wc X (e + 12) 209 [(32, 354)] M (fun r M1 => r = some (0, k) ∧ hh M1 354 13 = q ∧ Fi (705 * j) M M1) :=
  m_readT h hj j0 (fun M2 rc2 f2 => g M2 _ rc2 (fun M3 e3 f3 => ⟨rfl, e3, f2.tr f3⟩))
theorem m_text_ok (h : RX M T L) (hj : hh M 355 3 = j) (j0 : 0 ≤ j ∧ j < 4) (g : GT X e T L (705 * j) a n w S Lf Ll) (h40 : tK T L a = 40) : wc X (e + 13) 208 [(32, 354)] M (fun r M1 => r = some (0, j) ∧ ∃ M2, RC M2 T L (705 * j) a n w (onv Lf Ll) ∧ RD M2 (705 * j) n S ∧ LRr M2 (705 * j) Lf ∧ LRr M2 (705 * j) Ll ∧ Fi (705 * j) M M2 ∧ M1 = mj_wr (mj_wr (mj_wr (mj_wr M2 354 10 0) 354 11 (-1)) 354 9 0) 355 3 (j + 1)) := by
  show wp X (e + 13) 208 0 [(32, 354)] [] M _
  simp only [w208_0, w208_1, w208_4, w208_5, w208_6, w208_7, w208_10, w208_11, w208_12, w208_13, w208_14, c_1_0 h.cs, c_1_1 h.cs, c_1_2 h.cs, c_1_3 h.cs, c_1_4 h.cs, c_1_5 h.cs, c_1_6 h.cs, c_1_7 h.cs, c_1_8 h.cs, c_2_0 h.cs, c_2_1 h.cs, c_5_0 h.cs, c_5_1 h.cs, c_5_2 h.cs, c_5_3 h.cs, c_5_5 h.cs, c_5_8 h.cs, c_5_11 h.cs, c_6_1 h.cs, c_6_2 h.cs, c_6_3 h.cs, c_10_4 h.cs, c_10_5 h.cs, c_10_6 h.cs, c_10_7 h.cs, c_15_1 h.cs, c_17_1 h.cs, c_339_0 h.cs, c_341_0 h.cs, c_341_1 h.cs, c_341_2 h.cs, c_342_4 h.cs, c_342_5 h.cs, c_342_6 h.cs, c_342_7 h.cs, c_347_0 h.cs, c_347_2 h.cs, c_347_3 h.cs, c_349_0 h.cs, c_349_1 h.cs, c_349_2 h.cs, c_351_2 h.cs, c_351_10 h.cs, c_351_12 h.cs, c_354_0 h.cs, c_354_1 h.cs, c_354_2 h.cs, c_354_3 h.cs, c_354_4 h.cs, c_354_5 h.cs, c_354_6 h.cs, c_354_7 h.cs, c_354_8 h.cs, c_354_20 h.cs, c_354_25 h.cs, c_354_26 h.cs, c_354_27 h.cs, c_354_28 h.cs, c_354_32 h.cs, c_354_33 h.cs, c_354_34 h.cs, c_354_35 h.cs, c_354_38 h.cs, l_3 h.cs, l_4 h.cs, l_7 h.cs, l_8 h.cs, l_9 h.cs, l_11 h.cs, l_12 h.cs, l_13 h.cs, l_14 h.cs, l_16 h.cs, l_18 h.cs, l_19 h.cs, l_20 h.cs, l_21 h.cs, l_340 h.cs, l_343 h.cs, l_344 h.cs, l_345 h.cs, l_346 h.cs, l_348 h.cs, l_350 h.cs, l_352 h.cs, l_353 h.cs, l_355 h.cs, l_356 h.cs, l_357 h.cs, l_358 h.cs, l_359 h.cs, l_360 h.cs, l_361 h.cs, l_362 h.cs, l_363 h.cs, l_364 h.cs, l_365 h.cs, l_366 h.cs, l_367 h.cs, l_368 h.cs, l_369 h.cs, l_370 h.cs, l_371 h.cs, l_372 h.cs, l_373 h.cs, hj, show ¬ j = 4 by omega, ↓reduceIte, hh_wr, hl_wr, b10, b11, ite_not, ne_eq, Int.reduceEq, Int.reduceLE, Int.reduceLT, Int.reduceNe, Int.reduceNeg, Int.reduceAdd, Int.reduceSub, Int.reduceMul, not_false_eq_true, not_true_eq_false, false_and, and_false, true_and, and_true, and_self, true_or, or_true, false_or, or_false, if_true, if_false, ite_true, ite_false, mj_tl_some, mj_tl_none, mj_cs0, mj_cs1, mj_cs2, mj_cs3, mj_cs4]
  refine wc.mono (m_read_ok h hj j0 g h40) ?_
  rintro r M2 ⟨rfl, rc, rd, lf, ll, fi⟩
  have c2 := rc.rl.x.cs
  have j2 : hh M2 355 3 = j := (fi.r.h _ _ (by decide) (by decide) (by decide)).trans hj
  have a1 : ji_add j 1 = j + 1 := aj ⟨by omega, by omega⟩
  have s1 : ji_sub (j + 1) 1 = j := by rw [sj ⟨by omega, by omega⟩]; omega
  simp only [w208_17, w208_20, w208_21, w208_22, w208_25, w208_28, w208_29, w208_32, w208_33, w208_36, w208_39, w208_40, w208_41, w208_44, w208_45, w208_48, w208_51, w208_52, w208_53, w208_54, w208_57, w208_58, w208_59, w208_60, w208_61, w208_62, w208_63, w208_64, w208_67, w208_68, w208_69, w208_70, w208_71, c_1_0 c2, c_1_1 c2, c_1_2 c2, c_1_3 c2, c_1_4 c2, c_1_5 c2, c_1_6 c2, c_1_7 c2, c_1_8 c2, c_2_0 c2, c_2_1 c2, c_5_0 c2, c_5_1 c2, c_5_2 c2, c_5_3 c2, c_5_5 c2, c_5_8 c2, c_5_11 c2, c_6_1 c2, c_6_2 c2, c_6_3 c2, c_10_4 c2, c_10_5 c2, c_10_6 c2, c_10_7 c2, c_15_1 c2, c_17_1 c2, c_339_0 c2, c_341_0 c2, c_341_1 c2, c_341_2 c2, c_342_4 c2, c_342_5 c2, c_342_6 c2, c_342_7 c2, c_347_0 c2, c_347_2 c2, c_347_3 c2, c_349_0 c2, c_349_1 c2, c_349_2 c2, c_351_2 c2, c_351_10 c2, c_351_12 c2, c_354_0 c2, c_354_1 c2, c_354_2 c2, c_354_3 c2, c_354_4 c2, c_354_5 c2, c_354_6 c2, c_354_7 c2, c_354_8 c2, c_354_20 c2, c_354_25 c2, c_354_26 c2, c_354_27 c2, c_354_28 c2, c_354_32 c2, c_354_33 c2, c_354_34 c2, c_354_35 c2, c_354_38 c2, l_3 c2, l_4 c2, l_7 c2, l_8 c2, l_9 c2, l_11 c2, l_12 c2, l_13 c2, l_14 c2, l_16 c2, l_18 c2, l_19 c2, l_20 c2, l_21 c2, l_340 c2, l_343 c2, l_344 c2, l_345 c2, l_346 c2, l_348 c2, l_350 c2, l_352 c2, l_353 c2, l_355 c2, l_356 c2, l_357 c2, l_358 c2, l_359 c2, l_360 c2, l_361 c2, l_362 c2, l_363 c2, l_364 c2, l_365 c2, l_366 c2, l_367 c2, l_368 c2, l_369 c2, l_370 c2, l_371 c2, l_372 c2, l_373 c2, j2, a1, s1, ↓reduceIte, hh_wr, hl_wr, b10, b11, ite_not, ne_eq, Int.reduceEq, Int.reduceLE, Int.reduceLT, Int.reduceNe, Int.reduceNeg, Int.reduceAdd, Int.reduceSub, Int.reduceMul, not_false_eq_true, not_true_eq_false, false_and, and_false, true_and, and_true, and_self, true_or, or_true, false_or, or_false, if_true, if_false, ite_true, ite_false, mj_tl_some, mj_tl_none, mj_cs0, mj_cs1, mj_cs2, mj_cs3, mj_cs4]
  exact ⟨M2, rc, rd, lf, ll, fi, rfl⟩
theorem m_text_bad (h : RX M T L) (hj : hh M 355 3 = j) (j0 : 0 ≤ j ∧ j < 4) (g : BT X e T L (705 * j) k q) (k0 : k ≠ 0) : wc X (e + 13) 208 [(32, 354)] M (fun r M1 => r = some (0, -1) ∧ ∃ M2, Fi (705 * j) M M2 ∧ M1 = mj_wr (mj_wr (mj_wr M2 354 10 k) 354 11 q) 354 9 0) := by
  show wp X (e + 13) 208 0 [(32, 354)] [] M _
  simp only [w208_0, w208_1, w208_4, w208_5, w208_6, w208_7, w208_10, w208_11, w208_12, w208_13, w208_14, c_1_0 h.cs, c_1_1 h.cs, c_1_2 h.cs, c_1_3 h.cs, c_1_4 h.cs, c_1_5 h.cs, c_1_6 h.cs, c_1_7 h.cs, c_1_8 h.cs, c_2_0 h.cs, c_2_1 h.cs, c_5_0 h.cs, c_5_1 h.cs, c_5_2 h.cs, c_5_3 h.cs, c_5_5 h.cs, c_5_8 h.cs, c_5_11 h.cs, c_6_1 h.cs, c_6_2 h.cs, c_6_3 h.cs, c_10_4 h.cs, c_10_5 h.cs, c_10_6 h.cs, c_10_7 h.cs, c_15_1 h.cs, c_17_1 h.cs, c_339_0 h.cs, c_341_0 h.cs, c_341_1 h.cs, c_341_2 h.cs, c_342_4 h.cs, c_342_5 h.cs, c_342_6 h.cs, c_342_7 h.cs, c_347_0 h.cs, c_347_2 h.cs, c_347_3 h.cs, c_349_0 h.cs, c_349_1 h.cs, c_349_2 h.cs, c_351_2 h.cs, c_351_10 h.cs, c_351_12 h.cs, c_354_0 h.cs, c_354_1 h.cs, c_354_2 h.cs, c_354_3 h.cs, c_354_4 h.cs, c_354_5 h.cs, c_354_6 h.cs, c_354_7 h.cs, c_354_8 h.cs, c_354_20 h.cs, c_354_25 h.cs, c_354_26 h.cs, c_354_27 h.cs, c_354_28 h.cs, c_354_32 h.cs, c_354_33 h.cs, c_354_34 h.cs, c_354_35 h.cs, c_354_38 h.cs, l_3 h.cs, l_4 h.cs, l_7 h.cs, l_8 h.cs, l_9 h.cs, l_11 h.cs, l_12 h.cs, l_13 h.cs, l_14 h.cs, l_16 h.cs, l_18 h.cs, l_19 h.cs, l_20 h.cs, l_21 h.cs, l_340 h.cs, l_343 h.cs, l_344 h.cs, l_345 h.cs, l_346 h.cs, l_348 h.cs, l_350 h.cs, l_352 h.cs, l_353 h.cs, l_355 h.cs, l_356 h.cs, l_357 h.cs, l_358 h.cs, l_359 h.cs, l_360 h.cs, l_361 h.cs, l_362 h.cs, l_363 h.cs, l_364 h.cs, l_365 h.cs, l_366 h.cs, l_367 h.cs, l_368 h.cs, l_369 h.cs, l_370 h.cs, l_371 h.cs, l_372 h.cs, l_373 h.cs, hj, show ¬ j = 4 by omega, ↓reduceIte, hh_wr, hl_wr, b10, b11, ite_not, ne_eq, Int.reduceEq, Int.reduceLE, Int.reduceLT, Int.reduceNe, Int.reduceNeg, Int.reduceAdd, Int.reduceSub, Int.reduceMul, not_false_eq_true, not_true_eq_false, false_and, and_false, true_and, and_true, and_self, true_or, or_true, false_or, or_false, if_true, if_false, ite_true, ite_false, mj_tl_some, mj_tl_none, mj_cs0, mj_cs1, mj_cs2, mj_cs3, mj_cs4]
  refine wc.mono (m_read_bad h hj j0 g) ?_
  rintro r M2 ⟨rfl, e13, fi⟩
  simp only [w208_17, w208_20, w208_21, w208_22, w208_25, w208_28, w208_29, w208_32, w208_33, w208_36, w208_39, w208_40, w208_41, w208_44, w208_45, w208_48, w208_51, w208_52, w208_53, w208_54, w208_57, w208_58, w208_59, w208_60, w208_61, w208_62, w208_63, w208_64, w208_67, w208_68, w208_69, w208_70, w208_71, k0, e13, ↓reduceIte, hh_wr, hl_wr, b10, b11, ite_not, ne_eq, Int.reduceEq, Int.reduceLE, Int.reduceLT, Int.reduceNe, Int.reduceNeg, Int.reduceAdd, Int.reduceSub, Int.reduceMul, not_false_eq_true, not_true_eq_false, false_and, and_false, true_and, and_true, and_self, true_or, or_true, false_or, or_false, if_true, if_false, ite_true, ite_false, mj_tl_some, mj_tl_none, mj_cs0, mj_cs1, mj_cs2, mj_cs3, mj_cs4]
  exact ⟨M2, fi, rfl⟩
end RText
/-! TEXT: the relation holds again -/
section RRt
variable {M M4 : mj_M}
theorem LawR.keep2 {r rk j s fo : Int} (h : LawR M r rk j s fo) (n24 : hh M 357 (705 * j) ≤ 24) (k1 : ∀ i, 705 * j ≤ i → i < 705 * j + 705 → hh M4 357 i = hh M 357 i) (k2 : ∀ i, hh M4 r i = hh M r i) (k3 : ∀ i, hh M4 rk i = hh M rk i) (k4 : hl M4 rk = hl M rk) : LawR M4 r rk j s fo := by
  have e0 : hh M4 357 (705 * j) = hh M 357 (705 * j) := k1 _ (by omega) (by omega)
  have e3 : hh M4 rk = hh M rk := funext k3
  rcases h with ⟨h1, h2⟩ | ⟨k, hk, h1, h2, n, cl, rl, f, x1, x2, x3, x4, x5, x6, x7, x8, x9⟩
  · refine Or.inl ⟨(k2 _).trans h1, fun k a b => ?_⟩
    rw [e0] at b
    rw [k1 _ (by omega) (by omega)]
    exact h2 k a b
  · refine Or.inr ⟨k, by rw [e0]; exact hk, by rw [k1 _ (by omega) (by omega)]; exact h1, fun i a b => by rw [k1 _ (by omega) (by omega)]; exact h2 i a b, n, cl, rl, f, ?_⟩
    rw [k2, k2, e3, k4, k1 (705 * j + 1 + 4 * k + 1) (by omega) (by omega), k1 (705 * j + 1 + 4 * k + 2) (by omega) (by omega)]
    refine ⟨x1, x2, x3, x4, x5, x6, x7, x8, fun i hi => ?_⟩
    rw [k1 _ (by omega) (by omega), k1 _ (by omega) (by omega)]
    exact x9 i hi
theorem TR.keep2 {r j : Int} (h : TR M r j) (k1 : ∀ i, 705 * j ≤ i → i < 705 * j + 705 → hh M4 357 i = hh M 357 i) (k2 : ∀ x i, 373 < x → x ≤ nx M → hh M4 x i = hh M x i ∧ hl M4 x = hl M x) (k3 : nx M ≤ nx M4) : TR M4 r j := by
  have n24 := h.n24
  have e0 : hh M4 357 (705 * j) = hh M 357 (705 * j) := k1 _ (by omega) (by omega)
  have kr : ∀ i, hh M4 r i = hh M r i := fun i => (k2 r i h.r1 h.r2).1
  have kk : ∀ i, hh M4 (hh M r 1) i = hh M (hh M r 1) i := fun i => (k2 _ i h.k1 h.k2).1
  have kc : ∀ i, hh M4 (hh M r 6) i = hh M (hh M r 6) i := fun i => (k2 _ i h.c1 h.c2).1
  have e5 := (k2 _ 0 h.k1 h.k2).2
  have e4 := (k2 _ 0 h.c1 h.c2).2
  have hf := h.fa.keep2 n24 k1 kr kk e5
  have hg := h.le.keep2 n24 k1 kr kk e5
  have q2 := h.r2; have q4 := h.k2; have q6 := h.c2
  refine ⟨h.r1, by omega, by rw [kr]; exact h.k1, by rw [kr]; omega, by rw [kr, e5]; exact h.k3, by rw [kr]; exact h.c1, by rw [kr]; omega, by rw [e0]; exact h.n0, by rw [e0]; exact h.n24, by rw [kr, e0]; exact h.nc, by rw [kr, e4, e0]; exact h.lc, fun k a b => ?_, by rw [kr]; exact hf, by rw [kr]; exact hg⟩
  rw [e0] at b
  have := h.cl k a b
  rw [kr, kc, kc, kc, kc, k1 (705 * j + 1 + 4 * k) (by omega) (by omega), k1 (705 * j + 1 + 4 * k + 1) (by omega) (by omega), k1 (705 * j + 1 + 4 * k + 2) (by omega) (by omega), k1 (705 * j + 1 + 4 * k + 3) (by omega) (by omega)]
  exact this
set_option maxRecDepth 20000 in
theorem cs_373 : cs_l.all (fun q => decide (q.1 ≤ 373)) = true := by decide +kernel
set_option maxRecDepth 20000 in
theorem ls_373 : ls_l.all (fun q => decide (q.1 ≤ 373)) = true := by decide +kernel
theorem rr_tx {j : Int} (h : RR M) (hj : hh M 355 3 = j) (hy : ∀ x i, x ≤ 373 → zone x i ≠ 1 → zone x i ≠ 3 → zone x i ≠ 5 → zone x i ≠ 6 → zone x i ≠ 8 → hh M4 x i = hh M x i) (hl4 : ∀ x, x ≤ nx M → hl M4 x = hl M x) (big : ∀ x i, 373 < x → x ≤ nx M → hh M4 x i = hh M x i) (tx : ∀ i, ¬ (705 * j ≤ i ∧ i < 705 * j + 705) → hh M4 357 i = hh M 357 i) (n4 : nx M ≤ nx M4) (wr : WR M4 5 (hh M4 355)) (ai : AI (hh M4 355)) (le : hh M4 356 3 ≤ hh M4 355 3) (t5 : ∀ i, 0 ≤ i → i < hh M4 355 3 → TR M4 (hh M4 20 i) i) (tp : Tp M4) : RR M4 := by
  have nx0 := h.nx
  have e6 : hh M4 356 = hh M 356 := funext fun i => hy 356 i (by decide) (by rw [z_356]; decide) (by rw [z_356]; decide) (by rw [z_356]; decide) (by rw [z_356]; decide) (by rw [z_356]; decide)
  have w172 : ∀ x i, 172 ≤ x → x ≤ 338 → x ≠ 176 → hh M4 x i = hh M x i := fun x i a b c => by
    have z := zone_172 (x := x) (j := i) a b
    have z2 := wz_or (y := x - 172) (j := i) (by omega)
    refine hy x i (by omega) ?_ ?_ ?_ ?_ ?_ <;> (rw [z]; rcases z2 with z2 | z2 <;> rw [z2] <;> decide)
  refine ⟨⟨fun q hq => ?_, fun q hq => ?_⟩, by omega, wr, ?_, ai, by rw [e6]; exact h.bi, le, t5, ?_, ⟨fun i a b => ?_, fun i a b => ?_, fun i a b => ?_, fun i a b => ?_, fun i a b => ?_, fun i a b => ?_, fun i a b => ?_⟩, tp, h.co.keep (fun i a b => ?_)⟩
  · have z := List.all_eq_true.mp cs_z q hq
    have l := of_decide_eq_true (List.all_eq_true.mp cs_373 q hq)
    have z0 := eq_of_beq z
    rw [hy _ _ l (by rw [z0]; decide) (by rw [z0]; decide) (by rw [z0]; decide) (by rw [z0]; decide) (by rw [z0]; decide)]
    exact h.cs.1 q hq
  · have l := of_decide_eq_true (List.all_eq_true.mp ls_373 q hq)
    rw [hl4 _ (by omega)]
    exact h.cs.2 q hq
  · rw [e6]
    exact h.wi.keep (fun x i a b c => w172 x i a (by omega) (by omega))
  · rw [e6]
    intro i a b
    have h3 := h.le
    rw [w172 187 i (by decide) (by decide) (by decide)]
    exact (h.ti i a b).keep2 (fun y y0 y1 => tx y (by omega)) (fun x y x0 x1 => ⟨big x y x0 x1, hl4 x x1⟩) n4
  all_goals try (rw [hy _ _ (by decide) (by rw [z_tab (by decide)]; decide) (by rw [z_tab (by decide)]; decide) (by rw [z_tab (by decide)]; decide) (by rw [z_tab (by decide)]; decide) (by rw [z_tab (by decide)]; decide)])
  · exact h.tb.d i a b
  · exact h.tb.p i a b
  · exact h.tb.d' i a b
  · exact h.tb.p' i a b
  · exact h.tb.k i a b
  · exact h.tb.l i a b
  · exact h.tb.g i a b
  · rcases (show i = 29 ∨ i = 30 ∨ i = 31 by omega) with rfl | rfl | rfl
    all_goals exact hy _ _ (by decide) (by decide) (by decide) (by decide) (by decide) (by decide)
end RRt
