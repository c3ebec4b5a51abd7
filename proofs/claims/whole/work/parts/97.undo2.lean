/-! A STEP BACK: the reference -/
def unG (A : Int → Int) (c p b : Int) : Int → Int := fun j => if j = 5 then A 5 - 1 else if 8 ≤ j ∧ j < 8 + c then A (94 + 52 * (A 5 - 1) + j) else if 11 ≤ j ∧ j < 11 + 5 * p ∧ (j - 11) % 5 < 3 ∧ (j - 11) / 5 < A (101 + 52 * (A 5 - 1)) then A (105 + 52 * (A 5 - 1) + 3 * ((j - 11) / 5) + (j - 11) % 5) else if 1661 ≤ j ∧ j < 1661 + b then A (123 + 52 * (A 5 - 1) + (j - 1661)) else A j
section UndoG
variable {A : Int → Int}
theorem unG_0 : up A 5 (A 5 - 1) = unG A 0 0 0 := by
  funext j
  unfold up unG
  by_cases e : j = 5
  · rw [if_pos e, if_pos e]
  · rw [if_neg e, if_neg e, if_neg (by omega), if_neg (by omega), if_neg (by omega)]
theorem unG_q {c p b j : Int} (hc : c ≤ 3) (hp : p ≤ 6) (h : (j ≠ 5 ∧ j < 8) ∨ (11 ≤ j ∧ j ≤ 40 ∧ 3 ≤ (j - 11) % 5) ∨ (41 ≤ j ∧ j ≤ 1660)) : unG A c p b j = A j := by
  unfold unG
  rw [if_neg (by omega), if_neg (by omega), if_neg (by omega), if_neg (by omega)]
theorem unG_f {c p b j : Int} (hc : c ≤ 3) (hp : 0 ≤ p) (h : 11 + 5 * p ≤ j ∧ j ≤ 40) : unG A c p b j = A j ∨ b ≠ 0 := by
  by_cases e : b = 0
  · left
    unfold unG
    rw [if_neg (by omega), if_neg (by omega), if_neg (by omega), if_neg (by omega)]
  · exact Or.inr e
theorem unG_c {c : Int} (hc : 0 ≤ c ∧ c < 3) : up (unG A c 0 0) (8 + c) (A (102 + 52 * (A 5 - 1) + c)) = unG A (c + 1) 0 0 := by
  funext j
  unfold up unG
  by_cases e : j = 8 + c
  · rw [if_pos e, if_neg (by omega), if_pos (by omega), e]; exact congrArg A (by omega)
  · rw [if_neg e]
    by_cases e5 : j = 5
    · rw [if_pos e5, if_pos e5]
    · rw [if_neg e5, if_neg e5]
      by_cases g : 8 ≤ j ∧ j < 8 + c
      · rw [if_pos g, if_pos (by omega)]
      · rw [if_neg g, if_neg (by omega), if_neg (by omega), if_neg (by omega)]
theorem unG_p {p : Int} (hp : 0 ≤ p ∧ p < 6) (hP : p < A (101 + 52 * (A 5 - 1))) : up (up (up (unG A 3 p 0) (11 + 5 * p + 0) (A (105 + 52 * (A 5 - 1) + 3 * p + 0))) (11 + 5 * p + 1) (A (105 + 52 * (A 5 - 1) + 3 * p + 1))) (11 + 5 * p + 2) (A (105 + 52 * (A 5 - 1) + 3 * p + 2)) = unG A 3 (p + 1) 0 := by
  funext j
  by_cases e : 11 + 5 * p ≤ j ∧ j < 11 + 5 * p + 3
  · have r : unG A 3 (p + 1) 0 j = A (105 + 52 * (A 5 - 1) + 3 * p + (j - 11 - 5 * p)) := by
      have e1 : (j - 11) / 5 = p := by omega
      have e2 : (j - 11) % 5 = j - 11 - 5 * p := by omega
      unfold unG
      rw [if_neg (by omega), if_neg (by omega), e1, e2, if_pos ⟨by omega, by omega, by omega, hP⟩]
    rw [r]
    rcases (show j = 11 + 5 * p + 0 ∨ j = 11 + 5 * p + 1 ∨ j = 11 + 5 * p + 2 by omega) with rfl | rfl | rfl
    · rw [up_ne (by omega), up_ne (by omega), up_eq]; exact congrArg A (by omega)
    · rw [up_ne (by omega), up_eq]; exact congrArg A (by omega)
    · rw [up_eq]; exact congrArg A (by omega)
  · rw [up_ne (by omega), up_ne (by omega), up_ne (by omega)]
    unfold unG
    by_cases e5 : j = 5
    · rw [if_pos e5, if_pos e5]
    · rw [if_neg e5, if_neg e5]
      by_cases g : 8 ≤ j ∧ j < 8 + 3
      · rw [if_pos g, if_pos g]
      · rw [if_neg g, if_neg g]
        by_cases g2 : 11 ≤ j ∧ j < 11 + 5 * p ∧ (j - 11) % 5 < 3 ∧ (j - 11) / 5 < A (101 + 52 * (A 5 - 1))
        · rw [if_pos g2, if_pos ⟨g2.1, by omega, g2.2.2⟩]
        · have g2' : ¬ (11 ≤ j ∧ j < 11 + 5 * (p + 1) ∧ (j - 11) % 5 < 3 ∧ (j - 11) / 5 < A (101 + 52 * (A 5 - 1))) := fun q => g2 ⟨q.1, by have := q.2.2.1; have := q.2.1; omega, q.2.2⟩
          rw [if_neg g2, if_neg g2']
theorem unG_s {p : Int} (hp : 0 ≤ p ∧ p < 6) (hP : A (101 + 52 * (A 5 - 1)) ≤ p) : unG A 3 p 0 = unG A 3 (p + 1) 0 := by
  funext j
  unfold unG
  by_cases e5 : j = 5
  · rw [if_pos e5, if_pos e5]
  · rw [if_neg e5, if_neg e5]
    by_cases g : 8 ≤ j ∧ j < 8 + 3
    · rw [if_pos g, if_pos g]
    · rw [if_neg g, if_neg g]
      by_cases g2 : 11 ≤ j ∧ j < 11 + 5 * p ∧ (j - 11) % 5 < 3 ∧ (j - 11) / 5 < A (101 + 52 * (A 5 - 1))
      · rw [if_pos g2, if_pos ⟨g2.1, by omega, g2.2.2⟩]
      · have g2' : ¬ (11 ≤ j ∧ j < 11 + 5 * (p + 1) ∧ (j - 11) % 5 < 3 ∧ (j - 11) / 5 < A (101 + 52 * (A 5 - 1))) := fun q => g2 ⟨q.1, by have := q.2.2.2; have := q.2.1; omega, q.2.2⟩
        rw [if_neg g2, if_neg g2']
theorem unG_b {p b : Int} (hp : p ≤ 6) (hb : 0 ≤ b) : up (unG A 3 p b) (1661 + b) (A (123 + 52 * (A 5 - 1) + b)) = unG A 3 p (b + 1) := by
  funext j
  unfold up unG
  by_cases e : j = 1661 + b
  · rw [if_pos e, if_neg (by omega), if_neg (by omega), if_neg (by omega), if_pos (by omega), e]; exact congrArg A (by omega)
  · rw [if_neg e]
    by_cases e5 : j = 5
    · rw [if_pos e5, if_pos e5]
    · rw [if_neg e5, if_neg e5]
      by_cases g : 8 ≤ j ∧ j < 8 + 3
      · rw [if_pos g, if_pos g]
      · rw [if_neg g, if_neg g]
        by_cases g2 : 11 ≤ j ∧ j < 11 + 5 * p ∧ (j - 11) % 5 < 3 ∧ (j - 11) / 5 < A (101 + 52 * (A 5 - 1))
        · rw [if_pos g2, if_pos g2]
        · rw [if_neg g2, if_neg g2]
          by_cases g3 : 1661 ≤ j ∧ j < 1661 + b
          · rw [if_pos g3, if_pos (by omega)]
          · rw [if_neg g3, if_neg (by omega)]
theorem unG_e {p : Int} (hp : p ≤ 6) (hP : A (101 + 52 * (A 5 - 1)) ≤ p) : unG A 3 p 30 = unA A := by
  funext j
  unfold unG unA
  by_cases e5 : j = 5
  · rw [if_pos e5, if_pos e5]
  · rw [if_neg e5, if_neg e5]
    by_cases g : 8 ≤ j ∧ j < 8 + 3
    · have g' : 8 ≤ j ∧ j ≤ 10 := by omega
      rw [if_pos g, if_pos g']
    · have g' : ¬ (8 ≤ j ∧ j ≤ 10) := by omega
      rw [if_neg g, if_neg g']
      by_cases g2 : 11 ≤ j ∧ j < 11 + 5 * p ∧ (j - 11) % 5 < 3 ∧ (j - 11) / 5 < A (101 + 52 * (A 5 - 1))
      · rw [if_pos g2, if_pos ⟨g2.1, by omega, g2.2.2⟩]
      · have g2' : ¬ (11 ≤ j ∧ j ≤ 40 ∧ (j - 11) % 5 < 3 ∧ (j - 11) / 5 < A (101 + 52 * (A 5 - 1))) := fun q => g2 ⟨q.1, by have := q.2.2.2; omega, q.2.2⟩
        rw [if_neg g2, if_neg g2']
        by_cases g3 : 1661 ≤ j ∧ j < 1661 + 30
        · have g3' : 1661 ≤ j ∧ j ≤ 1690 := by omega
          rw [if_pos g3, if_pos g3']
        · have g3' : ¬ (1661 ≤ j ∧ j ≤ 1690) := by omega
          rw [if_neg g3, if_neg g3']
end UndoG
section Undo2
variable {X : mj_X} {d : Nat} {M : mj_M} {A : Int → Int}
theorem m_un1 {s : Int} {w3 : mj_V} (hi : 1 ≤ A 5 ∧ A 5 ≤ 30) (hs : s = 101 + 52 * (A 5 - 1)) (Q : Option mj_V → mj_M → Prop) (hQ : ∀ M2, fz [3] M M2 → hh M2 355 = unG A 3 0 0 → wp X d 258 66 [(32, 354), (0, s), (0, 3), w3] [] M2 Q) : ∀ (m : Nat) (M1 : mj_M) (k : Int), k + m = 3 → 0 ≤ k → CS M1 → fz [3] M M1 → hh M1 355 = unG A k 0 0 → wp X d 258 36 [(32, 354), (0, s), (0, k), w3] [] M1 Q := by
  intro m
  induction m with
  | zero =>
    intro M1 k e k1 hc f r
    have : k = 3 := by omega
    subst this
    simp only [w258_36, w258_37, w258_38, ↓reduceIte, hh_wr, hl_wr, b10, b11, ite_not, ne_eq, Int.reduceEq, Int.reduceLE, Int.reduceLT, Int.reduceNe, Int.reduceNeg, Int.reduceAdd, Int.reduceSub, Int.reduceMul, not_false_eq_true, not_true_eq_false, false_and, and_false, true_and, and_true, and_self, true_or, or_true, false_or, or_false, if_true, if_false, ite_true, ite_false, mj_tl_some, mj_tl_none, mj_cs0, mj_cs1, mj_cs2, mj_cs3, mj_cs4]
    exact hQ M1 f r
  | succ m ih =>
    intro M1 k e k1 hc f r
    have a1 : ji_add 8 k = 8 + k := aj ⟨by omega, by omega⟩
    have a2 : ji_add s 1 = s + 1 := aj ⟨by omega, by omega⟩
    have a3 : ji_add (s + 1) k = s + 1 + k := aj ⟨by omega, by omega⟩
    have a4 : ji_add k 1 = k + 1 := aj ⟨by omega, by omega⟩
    have rd : hh M1 355 (s + 1 + k) = A (102 + 52 * (A 5 - 1) + k) := by
      rw [r, unG_q (by omega) (by omega) (by omega)]; exact congrArg A (by omega)
    rw [w258_36]
    simp only [w258_37, w258_38, w258_41, w258_42, w258_45, w258_47, w258_48, w258_49, w258_50, w258_53, w258_54, w258_55, w258_56, w258_57, w258_58, w258_59, w258_60, w258_63, c_1_0 hc, c_1_1 hc, c_1_2 hc, c_1_3 hc, c_1_4 hc, c_1_5 hc, c_1_6 hc, c_1_7 hc, c_1_8 hc, c_2_0 hc, c_2_1 hc, c_5_0 hc, c_5_1 hc, c_5_2 hc, c_5_3 hc, c_5_5 hc, c_5_8 hc, c_5_11 hc, c_6_1 hc, c_6_2 hc, c_6_3 hc, c_10_4 hc, c_10_5 hc, c_10_6 hc, c_10_7 hc, c_15_1 hc, c_17_1 hc, c_339_0 hc, c_341_0 hc, c_341_1 hc, c_341_2 hc, c_342_4 hc, c_342_5 hc, c_342_6 hc, c_342_7 hc, c_347_0 hc, c_347_2 hc, c_347_3 hc, c_349_0 hc, c_349_1 hc, c_349_2 hc, c_351_2 hc, c_351_10 hc, c_351_12 hc, c_354_0 hc, c_354_1 hc, c_354_2 hc, c_354_3 hc, c_354_4 hc, c_354_5 hc, c_354_6 hc, c_354_7 hc, c_354_8 hc, c_354_20 hc, c_354_25 hc, c_354_26 hc, c_354_27 hc, c_354_28 hc, c_354_32 hc, c_354_33 hc, c_354_34 hc, c_354_35 hc, c_354_38 hc, l_3 hc, l_4 hc, l_7 hc, l_8 hc, l_9 hc, l_11 hc, l_12 hc, l_13 hc, l_14 hc, l_16 hc, l_18 hc, l_19 hc, l_20 hc, l_21 hc, l_340 hc, l_343 hc, l_344 hc, l_345 hc, l_346 hc, l_348 hc, l_350 hc, l_352 hc, l_353 hc, l_355 hc, l_356 hc, l_357 hc, l_358 hc, l_359 hc, l_360 hc, l_361 hc, l_362 hc, l_363 hc, l_364 hc, l_365 hc, l_366 hc, l_367 hc, l_368 hc, l_369 hc, l_370 hc, l_371 hc, l_372 hc, l_373 hc, a1, a2, a3, a4, rd, show ¬ (3 : Int) ≤ k by omega, show k < 3 by omega, show (0 : Int) ≤ s + 1 + k by omega, show s + 1 + k < 1691 by omega, show (0 : Int) ≤ 8 + k by omega, show 8 + k < 1691 by omega, ↓reduceIte, hh_wr, hl_wr, b10, b11, ite_not, ne_eq, Int.reduceEq, Int.reduceLE, Int.reduceLT, Int.reduceNe, Int.reduceNeg, Int.reduceAdd, Int.reduceSub, Int.reduceMul, not_false_eq_true, not_true_eq_false, false_and, and_false, true_and, and_true, and_self, true_or, or_true, false_or, or_false, if_true, if_false, ite_true, ite_false, mj_tl_some, mj_tl_none, mj_cs0, mj_cs1, mj_cs2, mj_cs3, mj_cs4]
    have f2 : fz [3] M1 (mj_wr M1 355 (8 + k) (A (102 + 52 * (A 5 - 1) + k))) := fz.rfl'.wr (z355m (by decide) _)
    refine ih _ _ (by omega) (by omega) (hc.fz f2 (by decide)) (f.tr f2) ?_
    rw [row_wr, r, unG_c ⟨by omega, by omega⟩]
theorem m_un3 {s : Int} {w3 : mj_V} {P : Int} (hP : P ≤ 6) (hi : 1 ≤ A 5 ∧ A 5 ≤ 30) (hs : s = 101 + 52 * (A 5 - 1)) (Q : Option mj_V → mj_M → Prop) (hQ : ∀ M2, fz [3] M M2 → hh M2 355 = unG A 3 P 30 → wp X d 258 177 [(32, 354), (0, s), (0, 30), w3] [] M2 Q) : ∀ (m : Nat) (M1 : mj_M) (k : Int), k + m = 30 → 0 ≤ k → CS M1 → fz [3] M M1 → hh M1 355 = unG A 3 P k → wp X d 258 144 [(32, 354), (0, s), (0, k), w3] [] M1 Q := by
  intro m
  induction m with
  | zero =>
    intro M1 k e k1 hc f r
    have : k = 30 := by omega
    subst this
    simp only [w258_144, w258_145, w258_147, ↓reduceIte, hh_wr, hl_wr, b10, b11, ite_not, ne_eq, Int.reduceEq, Int.reduceLE, Int.reduceLT, Int.reduceNe, Int.reduceNeg, Int.reduceAdd, Int.reduceSub, Int.reduceMul, not_false_eq_true, not_true_eq_false, false_and, and_false, true_and, and_true, and_self, true_or, or_true, false_or, or_false, if_true, if_false, ite_true, ite_false, mj_tl_some, mj_tl_none, mj_cs0, mj_cs1, mj_cs2, mj_cs3, mj_cs4]
    exact hQ M1 f r
  | succ m ih =>
    intro M1 k e k1 hc f r
    have a1 : ji_add 1661 k = 1661 + k := aj ⟨by omega, by omega⟩
    have a2 : ji_add s 22 = s + 22 := aj ⟨by omega, by omega⟩
    have a3 : ji_add (s + 22) k = s + 22 + k := aj ⟨by omega, by omega⟩
    have a4 : ji_add k 1 = k + 1 := aj ⟨by omega, by omega⟩
    have rd : hh M1 355 (s + 22 + k) = A (123 + 52 * (A 5 - 1) + k) := by
      rw [r, unG_q (by omega) (by omega) (by omega)]; exact congrArg A (by omega)
    rw [w258_144]
    simp only [w258_145, w258_147, w258_150, w258_151, w258_154, w258_157, w258_158, w258_159, w258_160, w258_163, w258_164, w258_166, w258_167, w258_168, w258_169, w258_170, w258_171, w258_174, c_1_0 hc, c_1_1 hc, c_1_2 hc, c_1_3 hc, c_1_4 hc, c_1_5 hc, c_1_6 hc, c_1_7 hc, c_1_8 hc, c_2_0 hc, c_2_1 hc, c_5_0 hc, c_5_1 hc, c_5_2 hc, c_5_3 hc, c_5_5 hc, c_5_8 hc, c_5_11 hc, c_6_1 hc, c_6_2 hc, c_6_3 hc, c_10_4 hc, c_10_5 hc, c_10_6 hc, c_10_7 hc, c_15_1 hc, c_17_1 hc, c_339_0 hc, c_341_0 hc, c_341_1 hc, c_341_2 hc, c_342_4 hc, c_342_5 hc, c_342_6 hc, c_342_7 hc, c_347_0 hc, c_347_2 hc, c_347_3 hc, c_349_0 hc, c_349_1 hc, c_349_2 hc, c_351_2 hc, c_351_10 hc, c_351_12 hc, c_354_0 hc, c_354_1 hc, c_354_2 hc, c_354_3 hc, c_354_4 hc, c_354_5 hc, c_354_6 hc, c_354_7 hc, c_354_8 hc, c_354_20 hc, c_354_25 hc, c_354_26 hc, c_354_27 hc, c_354_28 hc, c_354_32 hc, c_354_33 hc, c_354_34 hc, c_354_35 hc, c_354_38 hc, l_3 hc, l_4 hc, l_7 hc, l_8 hc, l_9 hc, l_11 hc, l_12 hc, l_13 hc, l_14 hc, l_16 hc, l_18 hc, l_19 hc, l_20 hc, l_21 hc, l_340 hc, l_343 hc, l_344 hc, l_345 hc, l_346 hc, l_348 hc, l_350 hc, l_352 hc, l_353 hc, l_355 hc, l_356 hc, l_357 hc, l_358 hc, l_359 hc, l_360 hc, l_361 hc, l_362 hc, l_363 hc, l_364 hc, l_365 hc, l_366 hc, l_367 hc, l_368 hc, l_369 hc, l_370 hc, l_371 hc, l_372 hc, l_373 hc, a1, a2, a3, a4, rd, show ¬ (30 : Int) ≤ k by omega, show k < 30 by omega, show (0 : Int) ≤ s + 22 + k by omega, show s + 22 + k < 1691 by omega, show (0 : Int) ≤ 1661 + k by omega, show 1661 + k < 1691 by omega, ↓reduceIte, hh_wr, hl_wr, b10, b11, ite_not, ne_eq, Int.reduceEq, Int.reduceLE, Int.reduceLT, Int.reduceNe, Int.reduceNeg, Int.reduceAdd, Int.reduceSub, Int.reduceMul, not_false_eq_true, not_true_eq_false, false_and, and_false, true_and, and_true, and_self, true_or, or_true, false_or, or_false, if_true, if_false, ite_true, ite_false, mj_tl_some, mj_tl_none, mj_cs0, mj_cs1, mj_cs2, mj_cs3, mj_cs4]
    have f2 : fz [3] M1 (mj_wr M1 355 (1661 + k) (A (123 + 52 * (A 5 - 1) + k))) := fz.rfl'.wr (z355m (by decide) _)
    refine ih _ _ (by omega) (by omega) (hc.fz f2 (by decide)) (f.tr f2) ?_
    rw [row_wr, r, unG_b hP (by omega)]
theorem m_un2 {s : Int} {w3 : mj_V} (ai : AI A) (hi : 1 ≤ A 5) (hs : s = 101 + 52 * (A 5 - 1)) (Q : Option mj_V → mj_M → Prop) (hQ : ∀ M2 w, fz [3] M M2 → hh M2 355 = unG A 3 (A 1) 0 → wp X (d + 2) 258 142 [(32, 354), (0, s), (0, A 1), w] [] M2 Q) : ∀ (m : Nat) (M1 : mj_M) (p : Int) (w : mj_V), p + m = A 1 → 0 ≤ p → CS M1 → fz [3] M M1 → hh M1 355 = unG A 3 p 0 → wp X (d + 2) 258 68 [(32, 354), (0, s), (0, p), w] [] M1 Q := by
  have n3 := ai.n3
  have p6 : A 1 ≤ 6 := ai.now.p6
  have lt := ms_le ai (A 5 - 1) (by omega) (by omega)
  have hPs : (ms A (A 5 - 1)).P = A (101 + 52 * (A 5 - 1)) := rfl
  have s0 : 0 ≤ A (101 + 52 * (A 5 - 1)) := (ai.sp (A 5 - 1) (by omega) (by omega)).p0
  rw [hPs] at lt
  intro m
  induction m with
  | zero =>
    intro M1 p w e p0 hc f r
    have ep : p = A 1 := by omega
    subst ep
    have r1 : hh M1 355 1 = A 1 := by rw [r]; exact unG_q (by omega) (by omega) (by omega)
    rw [w258_68]
    simp only [w258_69, w258_70, w258_73, w258_74, w258_75, c_1_0 hc, c_1_1 hc, c_1_2 hc, c_1_3 hc, c_1_4 hc, c_1_5 hc, c_1_6 hc, c_1_7 hc, c_1_8 hc, c_2_0 hc, c_2_1 hc, c_5_0 hc, c_5_1 hc, c_5_2 hc, c_5_3 hc, c_5_5 hc, c_5_8 hc, c_5_11 hc, c_6_1 hc, c_6_2 hc, c_6_3 hc, c_10_4 hc, c_10_5 hc, c_10_6 hc, c_10_7 hc, c_15_1 hc, c_17_1 hc, c_339_0 hc, c_341_0 hc, c_341_1 hc, c_341_2 hc, c_342_4 hc, c_342_5 hc, c_342_6 hc, c_342_7 hc, c_347_0 hc, c_347_2 hc, c_347_3 hc, c_349_0 hc, c_349_1 hc, c_349_2 hc, c_351_2 hc, c_351_10 hc, c_351_12 hc, c_354_0 hc, c_354_1 hc, c_354_2 hc, c_354_3 hc, c_354_4 hc, c_354_5 hc, c_354_6 hc, c_354_7 hc, c_354_8 hc, c_354_20 hc, c_354_25 hc, c_354_26 hc, c_354_27 hc, c_354_28 hc, c_354_32 hc, c_354_33 hc, c_354_34 hc, c_354_35 hc, c_354_38 hc, l_3 hc, l_4 hc, l_7 hc, l_8 hc, l_9 hc, l_11 hc, l_12 hc, l_13 hc, l_14 hc, l_16 hc, l_18 hc, l_19 hc, l_20 hc, l_21 hc, l_340 hc, l_343 hc, l_344 hc, l_345 hc, l_346 hc, l_348 hc, l_350 hc, l_352 hc, l_353 hc, l_355 hc, l_356 hc, l_357 hc, l_358 hc, l_359 hc, l_360 hc, l_361 hc, l_362 hc, l_363 hc, l_364 hc, l_365 hc, l_366 hc, l_367 hc, l_368 hc, l_369 hc, l_370 hc, l_371 hc, l_372 hc, l_373 hc, r1, Int.le_refl, Int.lt_irrefl, ↓reduceIte, hh_wr, hl_wr, b10, b11, ite_not, ne_eq, Int.reduceEq, Int.reduceLE, Int.reduceLT, Int.reduceNe, Int.reduceNeg, Int.reduceAdd, Int.reduceSub, Int.reduceMul, not_false_eq_true, not_true_eq_false, false_and, and_false, true_and, and_true, and_self, true_or, or_true, false_or, or_false, if_true, if_false, ite_true, ite_false, mj_tl_some, mj_tl_none, mj_cs0, mj_cs1, mj_cs2, mj_cs3, mj_cs4]
    exact hQ M1 w f r
  | succ m ih =>
    intro M1 p w e p0 hc f r
    have hp6 : 0 ≤ p ∧ p < 6 := ⟨p0, by omega⟩
    have r1 : hh M1 355 1 = A 1 := by rw [r]; exact unG_q (by omega) (by omega) (by omega)
    have rs : hh M1 355 s = A (101 + 52 * (A 5 - 1)) := by rw [r, hs]; exact unG_q (by omega) (by omega) (by omega)
    have a1 : ji_add p 1 = p + 1 := aj ⟨by omega, by omega⟩
    rw [w258_68]
    by_cases hP : p < A (101 + 52 * (A 5 - 1))
    · have step : ∀ (M2 : mj_M) (k : Int) (Q : Option mj_V → mj_M → Prop), CS M2 → 0 ≤ k ∧ k < 3 → hh M2 355 s = A (101 + 52 * (A 5 - 1)) → hh M2 355 (105 + 52 * (A 5 - 1) + 3 * p + k) = A (105 + 52 * (A 5 - 1) + 3 * p + k) → wp X (d + 2) 258 95 [(32, 354), (0, s), (0, p), (0, k + 1)] [] (mj_wr M2 355 (11 + 5 * p + k) (A (105 + 52 * (A 5 - 1) + 3 * p + k))) Q → wp X (d + 2) 258 95 [(32, 354), (0, s), (0, p), (0, k)] [] M2 Q := by
        intro M2 k Q hc2 hk g1 g2 hq
        have b1 : ji_add s 4 = s + 4 := aj ⟨by omega, by omega⟩
        have b2 : ji_mul 3 p = 3 * p := ji_mul_eq (nn ⟨by omega, by omega⟩)
        have b3 : ji_add (s + 4) (3 * p) = s + 4 + 3 * p := aj ⟨by omega, by omega⟩
        have b4 : ji_add (s + 4 + 3 * p) k = s + 4 + 3 * p + k := aj ⟨by omega, by omega⟩
        have b5 : ji_add k 1 = k + 1 := aj ⟨by omega, by omega⟩
        have g3 : hh M2 355 (s + 4 + 3 * p + k) = A (105 + 52 * (A 5 - 1) + 3 * p + k) := by rw [show s + 4 + 3 * p + k = 105 + 52 * (A 5 - 1) + 3 * p + k by omega]; exact g2
        have pu := fun Q => m_put (X := X) (d := d + 1) (M := M2) (Q := Q) (p := p) (w := k) (v := A (105 + 52 * (A 5 - 1) + 3 * p + k)) hc2 hp6 ⟨hk.1, by omega⟩
        rw [w258_95]
        simp only [w258_96, w258_97, w258_100, w258_101, w258_102, w258_105, w258_106, w258_107, w258_110, w258_111, w258_112, w258_113, w258_114, w258_117, w258_118, w258_119, w258_120, w258_121, w258_122, w258_123, w258_124, w258_125, w258_126, w258_127, w258_130, w258_133, c_1_0 hc2, c_1_1 hc2, c_1_2 hc2, c_1_3 hc2, c_1_4 hc2, c_1_5 hc2, c_1_6 hc2, c_1_7 hc2, c_1_8 hc2, c_2_0 hc2, c_2_1 hc2, c_5_0 hc2, c_5_1 hc2, c_5_2 hc2, c_5_3 hc2, c_5_5 hc2, c_5_8 hc2, c_5_11 hc2, c_6_1 hc2, c_6_2 hc2, c_6_3 hc2, c_10_4 hc2, c_10_5 hc2, c_10_6 hc2, c_10_7 hc2, c_15_1 hc2, c_17_1 hc2, c_339_0 hc2, c_341_0 hc2, c_341_1 hc2, c_341_2 hc2, c_342_4 hc2, c_342_5 hc2, c_342_6 hc2, c_342_7 hc2, c_347_0 hc2, c_347_2 hc2, c_347_3 hc2, c_349_0 hc2, c_349_1 hc2, c_349_2 hc2, c_351_2 hc2, c_351_10 hc2, c_351_12 hc2, c_354_0 hc2, c_354_1 hc2, c_354_2 hc2, c_354_3 hc2, c_354_4 hc2, c_354_5 hc2, c_354_6 hc2, c_354_7 hc2, c_354_8 hc2, c_354_20 hc2, c_354_25 hc2, c_354_26 hc2, c_354_27 hc2, c_354_28 hc2, c_354_32 hc2, c_354_33 hc2, c_354_34 hc2, c_354_35 hc2, c_354_38 hc2, l_3 hc2, l_4 hc2, l_7 hc2, l_8 hc2, l_9 hc2, l_11 hc2, l_12 hc2, l_13 hc2, l_14 hc2, l_16 hc2, l_18 hc2, l_19 hc2, l_20 hc2, l_21 hc2, l_340 hc2, l_343 hc2, l_344 hc2, l_345 hc2, l_346 hc2, l_348 hc2, l_350 hc2, l_352 hc2, l_353 hc2, l_355 hc2, l_356 hc2, l_357 hc2, l_358 hc2, l_359 hc2, l_360 hc2, l_361 hc2, l_362 hc2, l_363 hc2, l_364 hc2, l_365 hc2, l_366 hc2, l_367 hc2, l_368 hc2, l_369 hc2, l_370 hc2, l_371 hc2, l_372 hc2, l_373 hc2, g1, g3, b1, b2, b3, b4, b5, pu, hP, show ¬ (3 : Int) ≤ k by omega, hk.2, show ¬ A (101 + 52 * (A 5 - 1)) ≤ p by omega, show (0 : Int) ≤ s by omega, show s < 1691 by omega, show (0 : Int) ≤ s + 4 + 3 * p + k by omega, show s + 4 + 3 * p + k < 1691 by omega, ↓reduceIte, hh_wr, hl_wr, b10, b11, ite_not, ne_eq, Int.reduceEq, Int.reduceLE, Int.reduceLT, Int.reduceNe, Int.reduceNeg, Int.reduceAdd, Int.reduceSub, Int.reduceMul, not_false_eq_true, not_true_eq_false, false_and, and_false, true_and, and_true, and_self, true_or, or_true, false_or, or_false, if_true, if_false, ite_true, ite_false, mj_tl_some, mj_tl_none, mj_cs0, mj_cs1, mj_cs2, mj_cs3, mj_cs4]
        exact hq
      simp only [w258_69, w258_70, w258_73, w258_74, w258_75, w258_78, w258_79, w258_80, w258_83, w258_84, w258_85, w258_93, w258_94, c_1_0 hc, c_1_1 hc, c_1_2 hc, c_1_3 hc, c_1_4 hc, c_1_5 hc, c_1_6 hc, c_1_7 hc, c_1_8 hc, c_2_0 hc, c_2_1 hc, c_5_0 hc, c_5_1 hc, c_5_2 hc, c_5_3 hc, c_5_5 hc, c_5_8 hc, c_5_11 hc, c_6_1 hc, c_6_2 hc, c_6_3 hc, c_10_4 hc, c_10_5 hc, c_10_6 hc, c_10_7 hc, c_15_1 hc, c_17_1 hc, c_339_0 hc, c_341_0 hc, c_341_1 hc, c_341_2 hc, c_342_4 hc, c_342_5 hc, c_342_6 hc, c_342_7 hc, c_347_0 hc, c_347_2 hc, c_347_3 hc, c_349_0 hc, c_349_1 hc, c_349_2 hc, c_351_2 hc, c_351_10 hc, c_351_12 hc, c_354_0 hc, c_354_1 hc, c_354_2 hc, c_354_3 hc, c_354_4 hc, c_354_5 hc, c_354_6 hc, c_354_7 hc, c_354_8 hc, c_354_20 hc, c_354_25 hc, c_354_26 hc, c_354_27 hc, c_354_28 hc, c_354_32 hc, c_354_33 hc, c_354_34 hc, c_354_35 hc, c_354_38 hc, l_3 hc, l_4 hc, l_7 hc, l_8 hc, l_9 hc, l_11 hc, l_12 hc, l_13 hc, l_14 hc, l_16 hc, l_18 hc, l_19 hc, l_20 hc, l_21 hc, l_340 hc, l_343 hc, l_344 hc, l_345 hc, l_346 hc, l_348 hc, l_350 hc, l_352 hc, l_353 hc, l_355 hc, l_356 hc, l_357 hc, l_358 hc, l_359 hc, l_360 hc, l_361 hc, l_362 hc, l_363 hc, l_364 hc, l_365 hc, l_366 hc, l_367 hc, l_368 hc, l_369 hc, l_370 hc, l_371 hc, l_372 hc, l_373 hc, r1, rs, hP, show ¬ A 1 ≤ p by omega, show p < A 1 by omega, show (0 : Int) ≤ s by omega, show s < 1691 by omega, ↓reduceIte, hh_wr, hl_wr, b10, b11, ite_not, ne_eq, Int.reduceEq, Int.reduceLE, Int.reduceLT, Int.reduceNe, Int.reduceNeg, Int.reduceAdd, Int.reduceSub, Int.reduceMul, not_false_eq_true, not_true_eq_false, false_and, and_false, true_and, and_true, and_self, true_or, or_true, false_or, or_false, if_true, if_false, ite_true, ite_false, mj_tl_some, mj_tl_none, mj_cs0, mj_cs1, mj_cs2, mj_cs3, mj_cs4]
      have rd : ∀ j, 41 ≤ j → j ≤ 1660 → hh M1 355 j = A j := fun j a c => by rw [r]; exact unG_q (by omega) (by omega) (by omega)
      have hc2 := cs355 (i := 11 + 5 * p + 0) (v := A (105 + 52 * (A 5 - 1) + 3 * p + 0)) hc
      have hc3 := cs355 (i := 11 + 5 * p + 1) (v := A (105 + 52 * (A 5 - 1) + 3 * p + 1)) hc2
      have hc4 := cs355 (i := 11 + 5 * p + 2) (v := A (105 + 52 * (A 5 - 1) + 3 * p + 2)) hc3
      refine step M1 0 _ hc (by decide) rs (rd _ (by omega) (by omega)) ?_
      refine step _ 1 _ hc2 (by decide) (by rw [row_wr, up_ne (by omega)]; exact rs) (by rw [row_wr, up_ne (by omega)]; exact rd _ (by omega) (by omega)) ?_
      refine step _ 2 _ hc3 (by decide) (by rw [row_wr, up_ne (by omega), row_wr, up_ne (by omega)]; exact rs) (by rw [row_wr, up_ne (by omega), row_wr, up_ne (by omega)]; exact rd _ (by omega) (by omega)) ?_
      have f2 : fz [3] M (mj_wr (mj_wr (mj_wr M1 355 (11 + 5 * p + 0) (A (105 + 52 * (A 5 - 1) + 3 * p + 0))) 355 (11 + 5 * p + 1) (A (105 + 52 * (A 5 - 1) + 3 * p + 1))) 355 (11 + 5 * p + 2) (A (105 + 52 * (A 5 - 1) + 3 * p + 2))) := ((f.wr (z355m (by decide) _)).wr (z355m (by decide) _)).wr (z355m (by decide) _)
      have r2 : hh (mj_wr (mj_wr (mj_wr M1 355 (11 + 5 * p + 0) (A (105 + 52 * (A 5 - 1) + 3 * p + 0))) 355 (11 + 5 * p + 1) (A (105 + 52 * (A 5 - 1) + 3 * p + 1))) 355 (11 + 5 * p + 2) (A (105 + 52 * (A 5 - 1) + 3 * p + 2))) 355 = unG A 3 (p + 1) 0 := by rw [row_wr, row_wr, row_wr, r, unG_p hp6 hP]
      generalize mj_wr (mj_wr (mj_wr M1 355 (11 + 5 * p + 0) (A (105 + 52 * (A 5 - 1) + 3 * p + 0))) 355 (11 + 5 * p + 1) (A (105 + 52 * (A 5 - 1) + 3 * p + 1))) 355 (11 + 5 * p + 2) (A (105 + 52 * (A 5 - 1) + 3 * p + 2)) = M5 at f2 r2 hc4 ⊢
      rw [w258_95]
      simp only [w258_96, w258_97, w258_136, w258_139, a1, ↓reduceIte, hh_wr, hl_wr, b10, b11, ite_not, ne_eq, Int.reduceEq, Int.reduceLE, Int.reduceLT, Int.reduceNe, Int.reduceNeg, Int.reduceAdd, Int.reduceSub, Int.reduceMul, not_false_eq_true, not_true_eq_false, false_and, and_false, true_and, and_true, and_self, true_or, or_true, false_or, or_false, if_true, if_false, ite_true, ite_false, mj_tl_some, mj_tl_none, mj_cs0, mj_cs1, mj_cs2, mj_cs3, mj_cs4]
      exact ih M5 (p + 1) _ (by omega) (by omega) hc4 f2 r2
    · have hP' : A (101 + 52 * (A 5 - 1)) ≤ p := Int.not_lt.mp hP
      have tl : told A (mn A) p := by
        have := ai.ti (A 5 - 1) (by omega) (by omega) p hP'
        unfold mnx at this
        rw [if_neg (by omega)] at this
        exact this (show p < A 1 by omega)
      have q0 : ∀ k, 0 ≤ k → k < 5 → hh M1 355 (11 + 5 * p + k) = A (11 + 5 * p + k) := fun k k0 k5 => by
        rw [r]; exact (unG_f (by omega) p0 (by omega)).resolve_right (fun g => g rfl)
      have v0 : A (11 + 5 * p + 0) = A (11 + 5 * p + 3) := tl.1.trans (congrArg A (by omega))
      have v1 : A (11 + 5 * p + 1) = A (11 + 5 * p + 4) := tl.2.1.trans (congrArg A (by omega))
      have v2 : A (11 + 5 * p + 2) = 20 := tl.2.2
      have bg := fun Q => m_begin (X := X) (d := d) (M := M1) (Q := Q) (p := p) hc hp6
      have f2 : fz [3] M (mj_wr (mj_wr (mj_wr M1 355 (11 + 5 * p + 0) (hh M1 355 (11 + 5 * p + 3))) 355 (11 + 5 * p + 1) (hh M1 355 (11 + 5 * p + 4))) 355 (11 + 5 * p + 2) 20) := ((f.wr (z355m (by decide) _)).wr (z355m (by decide) _)).wr (z355m (by decide) _)
      have hc2 := cs355 (i := 11 + 5 * p + 2) (v := 20) (cs355 (i := 11 + 5 * p + 1) (v := hh M1 355 (11 + 5 * p + 4)) (cs355 (i := 11 + 5 * p + 0) (v := hh M1 355 (11 + 5 * p + 3)) hc))
      have r2 : hh (mj_wr (mj_wr (mj_wr M1 355 (11 + 5 * p + 0) (hh M1 355 (11 + 5 * p + 3))) 355 (11 + 5 * p + 1) (hh M1 355 (11 + 5 * p + 4))) 355 (11 + 5 * p + 2) 20) 355 = unG A 3 (p + 1) 0 := by
        rw [row_wr, row_wr, row_wr, ← unG_s hp6 hP', ← r, q0 3 (by decide) (by decide), q0 4 (by decide) (by decide)]
        funext j
        unfold up
        by_cases e2 : j = 11 + 5 * p + 2
        · rw [if_pos e2, e2, q0 2 (by decide) (by decide), v2]
        · rw [if_neg e2]
          by_cases e1 : j = 11 + 5 * p + 1
          · rw [if_pos e1, e1, q0 1 (by decide) (by decide), v1]
          · rw [if_neg e1]
            by_cases e0 : j = 11 + 5 * p + 0
            · rw [if_pos e0, e0, q0 0 (by decide) (by decide), v0]
            · rw [if_neg e0]
      simp only [w258_69, w258_70, w258_73, w258_74, w258_75, w258_78, w258_79, w258_80, w258_83, w258_84, w258_85, w258_88, w258_89, w258_90, c_1_0 hc, c_1_1 hc, c_1_2 hc, c_1_3 hc, c_1_4 hc, c_1_5 hc, c_1_6 hc, c_1_7 hc, c_1_8 hc, c_2_0 hc, c_2_1 hc, c_5_0 hc, c_5_1 hc, c_5_2 hc, c_5_3 hc, c_5_5 hc, c_5_8 hc, c_5_11 hc, c_6_1 hc, c_6_2 hc, c_6_3 hc, c_10_4 hc, c_10_5 hc, c_10_6 hc, c_10_7 hc, c_15_1 hc, c_17_1 hc, c_339_0 hc, c_341_0 hc, c_341_1 hc, c_341_2 hc, c_342_4 hc, c_342_5 hc, c_342_6 hc, c_342_7 hc, c_347_0 hc, c_347_2 hc, c_347_3 hc, c_349_0 hc, c_349_1 hc, c_349_2 hc, c_351_2 hc, c_351_10 hc, c_351_12 hc, c_354_0 hc, c_354_1 hc, c_354_2 hc, c_354_3 hc, c_354_4 hc, c_354_5 hc, c_354_6 hc, c_354_7 hc, c_354_8 hc, c_354_20 hc, c_354_25 hc, c_354_26 hc, c_354_27 hc, c_354_28 hc, c_354_32 hc, c_354_33 hc, c_354_34 hc, c_354_35 hc, c_354_38 hc, l_3 hc, l_4 hc, l_7 hc, l_8 hc, l_9 hc, l_11 hc, l_12 hc, l_13 hc, l_14 hc, l_16 hc, l_18 hc, l_19 hc, l_20 hc, l_21 hc, l_340 hc, l_343 hc, l_344 hc, l_345 hc, l_346 hc, l_348 hc, l_350 hc, l_352 hc, l_353 hc, l_355 hc, l_356 hc, l_357 hc, l_358 hc, l_359 hc, l_360 hc, l_361 hc, l_362 hc, l_363 hc, l_364 hc, l_365 hc, l_366 hc, l_367 hc, l_368 hc, l_369 hc, l_370 hc, l_371 hc, l_372 hc, l_373 hc, r1, rs, hP, bg, show ¬ A 1 ≤ p by omega, show p < A 1 by omega, show (0 : Int) ≤ s by omega, show s < 1691 by omega, ↓reduceIte, hh_wr, hl_wr, b10, b11, ite_not, ne_eq, Int.reduceEq, Int.reduceLE, Int.reduceLT, Int.reduceNe, Int.reduceNeg, Int.reduceAdd, Int.reduceSub, Int.reduceMul, not_false_eq_true, not_true_eq_false, false_and, and_false, true_and, and_true, and_self, true_or, or_true, false_or, or_false, if_true, if_false, ite_true, ite_false, mj_tl_some, mj_tl_none, mj_cs0, mj_cs1, mj_cs2, mj_cs3, mj_cs4]
      generalize mj_wr (mj_wr (mj_wr M1 355 (11 + 5 * p + 0) (hh M1 355 (11 + 5 * p + 3))) 355 (11 + 5 * p + 1) (hh M1 355 (11 + 5 * p + 4))) 355 (11 + 5 * p + 2) 20 = M5 at f2 r2 hc2 ⊢
      have rs5 : hh M5 355 s = A (101 + 52 * (A 5 - 1)) := by rw [r2, hs]; exact unG_q (by omega) (by omega) (by omega)
      simp only [w258_93, w258_94, w258_95, w258_96, w258_97, w258_100, w258_101, w258_102, w258_105, w258_106, w258_107, w258_136, w258_139, c_1_0 hc2, c_1_1 hc2, c_1_2 hc2, c_1_3 hc2, c_1_4 hc2, c_1_5 hc2, c_1_6 hc2, c_1_7 hc2, c_1_8 hc2, c_2_0 hc2, c_2_1 hc2, c_5_0 hc2, c_5_1 hc2, c_5_2 hc2, c_5_3 hc2, c_5_5 hc2, c_5_8 hc2, c_5_11 hc2, c_6_1 hc2, c_6_2 hc2, c_6_3 hc2, c_10_4 hc2, c_10_5 hc2, c_10_6 hc2, c_10_7 hc2, c_15_1 hc2, c_17_1 hc2, c_339_0 hc2, c_341_0 hc2, c_341_1 hc2, c_341_2 hc2, c_342_4 hc2, c_342_5 hc2, c_342_6 hc2, c_342_7 hc2, c_347_0 hc2, c_347_2 hc2, c_347_3 hc2, c_349_0 hc2, c_349_1 hc2, c_349_2 hc2, c_351_2 hc2, c_351_10 hc2, c_351_12 hc2, c_354_0 hc2, c_354_1 hc2, c_354_2 hc2, c_354_3 hc2, c_354_4 hc2, c_354_5 hc2, c_354_6 hc2, c_354_7 hc2, c_354_8 hc2, c_354_20 hc2, c_354_25 hc2, c_354_26 hc2, c_354_27 hc2, c_354_28 hc2, c_354_32 hc2, c_354_33 hc2, c_354_34 hc2, c_354_35 hc2, c_354_38 hc2, l_3 hc2, l_4 hc2, l_7 hc2, l_8 hc2, l_9 hc2, l_11 hc2, l_12 hc2, l_13 hc2, l_14 hc2, l_16 hc2, l_18 hc2, l_19 hc2, l_20 hc2, l_21 hc2, l_340 hc2, l_343 hc2, l_344 hc2, l_345 hc2, l_346 hc2, l_348 hc2, l_350 hc2, l_352 hc2, l_353 hc2, l_355 hc2, l_356 hc2, l_357 hc2, l_358 hc2, l_359 hc2, l_360 hc2, l_361 hc2, l_362 hc2, l_363 hc2, l_364 hc2, l_365 hc2, l_366 hc2, l_367 hc2, l_368 hc2, l_369 hc2, l_370 hc2, l_371 hc2, l_372 hc2, l_373 hc2, rs5, a1, hP, hP', show (0 : Int) ≤ s by omega, show s < 1691 by omega, ↓reduceIte, hh_wr, hl_wr, b10, b11, ite_not, ne_eq, Int.reduceEq, Int.reduceLE, Int.reduceLT, Int.reduceNe, Int.reduceNeg, Int.reduceAdd, Int.reduceSub, Int.reduceMul, not_false_eq_true, not_true_eq_false, false_and, and_false, true_and, and_true, and_self, true_or, or_true, false_or, or_false, if_true, if_false, ite_true, ite_false, mj_tl_some, mj_tl_none, mj_cs0, mj_cs1, mj_cs2, mj_cs3, mj_cs4]
      exact ih M5 (p + 1) _ (by omega) (by omega) hc2 f2 r2
theorem m_undo (hc : CS M) (ai : AI (hh M 355)) (h1 : 1 ≤ hh M 355 5) : wc X (d + 2) 258 [(32, 354)] M (fun q M1 => q = some (0, hh M 355 5 - 1) ∧ fz [3] M M1 ∧ hh M1 355 = unA (hh M 355)) := by
  show wp X (d + 2) 258 0 [(32, 354), (9, 0), (9, 0), (9, 0)] [] M _
  generalize hA : hh M 355 = A at ai h1 ⊢
  have n3 := ai.n3
  have p0 : 0 ≤ A 1 := ai.now.p0
  have p6 : A 1 ≤ 6 := ai.now.p6
  have lt : A (101 + 52 * (A 5 - 1)) ≤ A 1 := ms_le ai (A 5 - 1) (by omega) (by omega)
  simp only [w258_0, w258_1, w258_4, w258_5, w258_6, w258_11, w258_12, w258_15, w258_16, w258_17, w258_18, w258_19, w258_20, c_1_0 hc, c_1_1 hc, c_1_2 hc, c_1_3 hc, c_1_4 hc, c_1_5 hc, c_1_6 hc, c_1_7 hc, c_1_8 hc, c_2_0 hc, c_2_1 hc, c_5_0 hc, c_5_1 hc, c_5_2 hc, c_5_3 hc, c_5_5 hc, c_5_8 hc, c_5_11 hc, c_6_1 hc, c_6_2 hc, c_6_3 hc, c_10_4 hc, c_10_5 hc, c_10_6 hc, c_10_7 hc, c_15_1 hc, c_17_1 hc, c_339_0 hc, c_341_0 hc, c_341_1 hc, c_341_2 hc, c_342_4 hc, c_342_5 hc, c_342_6 hc, c_342_7 hc, c_347_0 hc, c_347_2 hc, c_347_3 hc, c_349_0 hc, c_349_1 hc, c_349_2 hc, c_351_2 hc, c_351_10 hc, c_351_12 hc, c_354_0 hc, c_354_1 hc, c_354_2 hc, c_354_3 hc, c_354_4 hc, c_354_5 hc, c_354_6 hc, c_354_7 hc, c_354_8 hc, c_354_20 hc, c_354_25 hc, c_354_26 hc, c_354_27 hc, c_354_28 hc, c_354_32 hc, c_354_33 hc, c_354_34 hc, c_354_35 hc, c_354_38 hc, l_3 hc, l_4 hc, l_7 hc, l_8 hc, l_9 hc, l_11 hc, l_12 hc, l_13 hc, l_14 hc, l_16 hc, l_18 hc, l_19 hc, l_20 hc, l_21 hc, l_340 hc, l_343 hc, l_344 hc, l_345 hc, l_346 hc, l_348 hc, l_350 hc, l_352 hc, l_353 hc, l_355 hc, l_356 hc, l_357 hc, l_358 hc, l_359 hc, l_360 hc, l_361 hc, l_362 hc, l_363 hc, l_364 hc, l_365 hc, l_366 hc, l_367 hc, l_368 hc, l_369 hc, l_370 hc, l_371 hc, l_372 hc, l_373 hc, hA, sj (x := A 5) (y := 1) ⟨by omega, by omega⟩, show ¬ A 5 = 0 by omega, ↓reduceIte, hh_wr, hl_wr, b10, b11, ite_not, ne_eq, Int.reduceEq, Int.reduceLE, Int.reduceLT, Int.reduceNe, Int.reduceNeg, Int.reduceAdd, Int.reduceSub, Int.reduceMul, not_false_eq_true, not_true_eq_false, false_and, and_false, true_and, and_true, and_self, true_or, or_true, false_or, or_false, if_true, if_false, ite_true, ite_false, mj_tl_some, mj_tl_none, mj_cs0, mj_cs1, mj_cs2, mj_cs3, mj_cs4]
  have f1 : fz [3] M (mj_wr M 355 5 (A 5 - 1)) := fz.rfl'.wr (z355m (by decide) _)
  have r1 : hh (mj_wr M 355 5 (A 5 - 1)) 355 = unG A 0 0 0 := by rw [row_wr, hA, unG_0]
  have r15 : hh (mj_wr M 355 5 (A 5 - 1)) 355 5 = A 5 - 1 := by rw [row_wr, up_eq]
  generalize mj_wr M 355 5 (A 5 - 1) = M1 at f1 r1 r15 ⊢
  have hc1 := hc.fz f1 (by decide)
  simp only [w258_21, w258_23, w258_25, w258_26, w258_29, w258_30, w258_31, w258_32, w258_33, w258_34, w258_35, c_1_0 hc1, c_1_1 hc1, c_1_2 hc1, c_1_3 hc1, c_1_4 hc1, c_1_5 hc1, c_1_6 hc1, c_1_7 hc1, c_1_8 hc1, c_2_0 hc1, c_2_1 hc1, c_5_0 hc1, c_5_1 hc1, c_5_2 hc1, c_5_3 hc1, c_5_5 hc1, c_5_8 hc1, c_5_11 hc1, c_6_1 hc1, c_6_2 hc1, c_6_3 hc1, c_10_4 hc1, c_10_5 hc1, c_10_6 hc1, c_10_7 hc1, c_15_1 hc1, c_17_1 hc1, c_339_0 hc1, c_341_0 hc1, c_341_1 hc1, c_341_2 hc1, c_342_4 hc1, c_342_5 hc1, c_342_6 hc1, c_342_7 hc1, c_347_0 hc1, c_347_2 hc1, c_347_3 hc1, c_349_0 hc1, c_349_1 hc1, c_349_2 hc1, c_351_2 hc1, c_351_10 hc1, c_351_12 hc1, c_354_0 hc1, c_354_1 hc1, c_354_2 hc1, c_354_3 hc1, c_354_4 hc1, c_354_5 hc1, c_354_6 hc1, c_354_7 hc1, c_354_8 hc1, c_354_20 hc1, c_354_25 hc1, c_354_26 hc1, c_354_27 hc1, c_354_28 hc1, c_354_32 hc1, c_354_33 hc1, c_354_34 hc1, c_354_35 hc1, c_354_38 hc1, l_3 hc1, l_4 hc1, l_7 hc1, l_8 hc1, l_9 hc1, l_11 hc1, l_12 hc1, l_13 hc1, l_14 hc1, l_16 hc1, l_18 hc1, l_19 hc1, l_20 hc1, l_21 hc1, l_340 hc1, l_343 hc1, l_344 hc1, l_345 hc1, l_346 hc1, l_348 hc1, l_350 hc1, l_352 hc1, l_353 hc1, l_355 hc1, l_356 hc1, l_357 hc1, l_358 hc1, l_359 hc1, l_360 hc1, l_361 hc1, l_362 hc1, l_363 hc1, l_364 hc1, l_365 hc1, l_366 hc1, l_367 hc1, l_368 hc1, l_369 hc1, l_370 hc1, l_371 hc1, l_372 hc1, l_373 hc1, r15, m52 (o := A 5 - 1) ⟨by omega, by omega⟩, aj (x := 101) (y := 52 * (A 5 - 1)) ⟨by omega, by omega⟩, ↓reduceIte, hh_wr, hl_wr, b10, b11, ite_not, ne_eq, Int.reduceEq, Int.reduceLE, Int.reduceLT, Int.reduceNe, Int.reduceNeg, Int.reduceAdd, Int.reduceSub, Int.reduceMul, not_false_eq_true, not_true_eq_false, false_and, and_false, true_and, and_true, and_self, true_or, or_true, false_or, or_false, if_true, if_false, ite_true, ite_false, mj_tl_some, mj_tl_none, mj_cs0, mj_cs1, mj_cs2, mj_cs3, mj_cs4]
  refine m_un1 (M := M) (A := A) ⟨h1, n3⟩ rfl _ ?_ 3 M1 0 (by decide) (by decide) hc1 f1 r1
  intro M2 f2 r2
  have hc2 := hc.fz f2 (by decide)
  simp only [w258_66, w258_67, ↓reduceIte, hh_wr, hl_wr, b10, b11, ite_not, ne_eq, Int.reduceEq, Int.reduceLE, Int.reduceLT, Int.reduceNe, Int.reduceNeg, Int.reduceAdd, Int.reduceSub, Int.reduceMul, not_false_eq_true, not_true_eq_false, false_and, and_false, true_and, and_true, and_self, true_or, or_true, false_or, or_false, if_true, if_false, ite_true, ite_false, mj_tl_some, mj_tl_none, mj_cs0, mj_cs1, mj_cs2, mj_cs3, mj_cs4]
  refine m_un2 (M := M) (A := A) (w3 := (9, 0)) ai h1 rfl _ ?_ (A 1).toNat M2 0 _ (by omega) (by decide) hc2 f2 r2
  intro M3 w f3 r3
  have hc3 := hc.fz f3 (by decide)
  simp only [w258_142, w258_143, ↓reduceIte, hh_wr, hl_wr, b10, b11, ite_not, ne_eq, Int.reduceEq, Int.reduceLE, Int.reduceLT, Int.reduceNe, Int.reduceNeg, Int.reduceAdd, Int.reduceSub, Int.reduceMul, not_false_eq_true, not_true_eq_false, false_and, and_false, true_and, and_true, and_self, true_or, or_true, false_or, or_false, if_true, if_false, ite_true, ite_false, mj_tl_some, mj_tl_none, mj_cs0, mj_cs1, mj_cs2, mj_cs3, mj_cs4]
  refine m_un3 (M := M) (A := A) (P := A 1) p6 ⟨h1, n3⟩ rfl _ ?_ 30 M3 0 (by decide) (by decide) hc3 f3 r3
  intro M4 f4 r4
  have hc4 := hc.fz f4 (by decide)
  rw [unG_e p6 lt] at r4
  have r45 : hh M4 355 5 = A 5 - 1 := by rw [r4]; exact un_5
  simp only [w258_0, w258_1, w258_4, w258_5, w258_6, w258_9, w258_10, w258_11, w258_12, w258_15, w258_16, w258_17, w258_18, w258_19, w258_20, w258_21, w258_23, w258_25, w258_26, w258_29, w258_30, w258_31, w258_32, w258_33, w258_34, w258_35, w258_36, w258_37, w258_38, w258_41, w258_42, w258_45, w258_47, w258_48, w258_49, w258_50, w258_53, w258_54, w258_55, w258_56, w258_57, w258_58, w258_59, w258_60, w258_63, w258_66, w258_67, w258_68, w258_69, w258_70, w258_73, w258_74, w258_75, w258_78, w258_79, w258_80, w258_83, w258_84, w258_85, w258_88, w258_89, w258_90, w258_93, w258_94, w258_95, w258_96, w258_97, w258_100, w258_101, w258_102, w258_105, w258_106, w258_107, w258_110, w258_111, w258_112, w258_113, w258_114, w258_117, w258_118, w258_119, w258_120, w258_121, w258_122, w258_123, w258_124, w258_125, w258_126, w258_127, w258_130, w258_133, w258_136, w258_139, w258_142, w258_143, w258_144, w258_145, w258_147, w258_150, w258_151, w258_154, w258_157, w258_158, w258_159, w258_160, w258_163, w258_164, w258_166, w258_167, w258_168, w258_169, w258_170, w258_171, w258_174, w258_177, w258_178, w258_181, w258_182, w258_183, c_1_0 hc4, c_1_1 hc4, c_1_2 hc4, c_1_3 hc4, c_1_4 hc4, c_1_5 hc4, c_1_6 hc4, c_1_7 hc4, c_1_8 hc4, c_2_0 hc4, c_2_1 hc4, c_5_0 hc4, c_5_1 hc4, c_5_2 hc4, c_5_3 hc4, c_5_5 hc4, c_5_8 hc4, c_5_11 hc4, c_6_1 hc4, c_6_2 hc4, c_6_3 hc4, c_10_4 hc4, c_10_5 hc4, c_10_6 hc4, c_10_7 hc4, c_15_1 hc4, c_17_1 hc4, c_339_0 hc4, c_341_0 hc4, c_341_1 hc4, c_341_2 hc4, c_342_4 hc4, c_342_5 hc4, c_342_6 hc4, c_342_7 hc4, c_347_0 hc4, c_347_2 hc4, c_347_3 hc4, c_349_0 hc4, c_349_1 hc4, c_349_2 hc4, c_351_2 hc4, c_351_10 hc4, c_351_12 hc4, c_354_0 hc4, c_354_1 hc4, c_354_2 hc4, c_354_3 hc4, c_354_4 hc4, c_354_5 hc4, c_354_6 hc4, c_354_7 hc4, c_354_8 hc4, c_354_20 hc4, c_354_25 hc4, c_354_26 hc4, c_354_27 hc4, c_354_28 hc4, c_354_32 hc4, c_354_33 hc4, c_354_34 hc4, c_354_35 hc4, c_354_38 hc4, l_3 hc4, l_4 hc4, l_7 hc4, l_8 hc4, l_9 hc4, l_11 hc4, l_12 hc4, l_13 hc4, l_14 hc4, l_16 hc4, l_18 hc4, l_19 hc4, l_20 hc4, l_21 hc4, l_340 hc4, l_343 hc4, l_344 hc4, l_345 hc4, l_346 hc4, l_348 hc4, l_350 hc4, l_352 hc4, l_353 hc4, l_355 hc4, l_356 hc4, l_357 hc4, l_358 hc4, l_359 hc4, l_360 hc4, l_361 hc4, l_362 hc4, l_363 hc4, l_364 hc4, l_365 hc4, l_366 hc4, l_367 hc4, l_368 hc4, l_369 hc4, l_370 hc4, l_371 hc4, l_372 hc4, l_373 hc4, r45, ↓reduceIte, hh_wr, hl_wr, b10, b11, ite_not, ne_eq, Int.reduceEq, Int.reduceLE, Int.reduceLT, Int.reduceNe, Int.reduceNeg, Int.reduceAdd, Int.reduceSub, Int.reduceMul, not_false_eq_true, not_true_eq_false, false_and, and_false, true_and, and_true, and_self, true_or, or_true, false_or, or_false, if_true, if_false, ite_true, ite_false, mj_tl_some, mj_tl_none, mj_cs0, mj_cs1, mj_cs2, mj_cs3, mj_cs4]
  exact ⟨f4, r4⟩
theorem st14 : St14 RR (d + 60) := by
  intro X M h
  unfold LS2
  have n0 := h.ai.n0
  have np : hh M 5 9 = hh M 355 5 := h.wr.np
  show wp X (d + 60) 113 0 [(31, 1)] [] M _
  simp only [w113_0, w113_1, w113_4, c_1_0 h.cs, c_1_1 h.cs, c_1_2 h.cs, c_1_3 h.cs, c_1_4 h.cs, c_1_5 h.cs, c_1_6 h.cs, c_1_7 h.cs, c_1_8 h.cs, c_2_0 h.cs, c_2_1 h.cs, c_5_0 h.cs, c_5_1 h.cs, c_5_2 h.cs, c_5_3 h.cs, c_5_5 h.cs, c_5_8 h.cs, c_5_11 h.cs, c_6_1 h.cs, c_6_2 h.cs, c_6_3 h.cs, c_10_4 h.cs, c_10_5 h.cs, c_10_6 h.cs, c_10_7 h.cs, c_15_1 h.cs, c_17_1 h.cs, c_339_0 h.cs, c_341_0 h.cs, c_341_1 h.cs, c_341_2 h.cs, c_342_4 h.cs, c_342_5 h.cs, c_342_6 h.cs, c_342_7 h.cs, c_347_0 h.cs, c_347_2 h.cs, c_347_3 h.cs, c_349_0 h.cs, c_349_1 h.cs, c_349_2 h.cs, c_351_2 h.cs, c_351_10 h.cs, c_351_12 h.cs, c_354_0 h.cs, c_354_1 h.cs, c_354_2 h.cs, c_354_3 h.cs, c_354_4 h.cs, c_354_5 h.cs, c_354_6 h.cs, c_354_7 h.cs, c_354_8 h.cs, c_354_20 h.cs, c_354_25 h.cs, c_354_26 h.cs, c_354_27 h.cs, c_354_28 h.cs, c_354_32 h.cs, c_354_33 h.cs, c_354_34 h.cs, c_354_35 h.cs, c_354_38 h.cs, l_3 h.cs, l_4 h.cs, l_7 h.cs, l_8 h.cs, l_9 h.cs, l_11 h.cs, l_12 h.cs, l_13 h.cs, l_14 h.cs, l_16 h.cs, l_18 h.cs, l_19 h.cs, l_20 h.cs, l_21 h.cs, l_340 h.cs, l_343 h.cs, l_344 h.cs, l_345 h.cs, l_346 h.cs, l_348 h.cs, l_350 h.cs, l_352 h.cs, l_353 h.cs, l_355 h.cs, l_356 h.cs, l_357 h.cs, l_358 h.cs, l_359 h.cs, l_360 h.cs, l_361 h.cs, l_362 h.cs, l_363 h.cs, l_364 h.cs, l_365 h.cs, l_366 h.cs, l_367 h.cs, l_368 h.cs, l_369 h.cs, l_370 h.cs, l_371 h.cs, l_372 h.cs, l_373 h.cs, h.gnf, h.gP, h.gy, h.gx, h.gt, h.gns, h.gnt, h.gru, h.gnp, h.gnd, h.gne, ↓reduceIte, hh_wr, hl_wr, b10, b11, ite_not, ne_eq, Int.reduceEq, Int.reduceLE, Int.reduceLT, Int.reduceNe, Int.reduceNeg, Int.reduceAdd, Int.reduceSub, Int.reduceMul, not_false_eq_true, not_true_eq_false, false_and, and_false, true_and, and_true, and_self, true_or, or_true, false_or, or_false, if_true, if_false, ite_true, ite_false, mj_tl_some, mj_tl_none, mj_cs0, mj_cs1, mj_cs2, mj_cs3, mj_cs4]
  by_cases h1 : 1 ≤ hh M 355 5
  · refine wc.mono (c_undo (d := d + 58) h.cw h1) ?_
    rintro q M1 ⟨rfl, cw1, c1⟩
    have e5 : hh M1 355 = hh M 355 := c1.f.row z_355 (by decide)
    simp only [w113_0, w113_1, w113_4, w113_7, ↓reduceIte, hh_wr, hl_wr, b10, b11, ite_not, ne_eq, Int.reduceEq, Int.reduceLE, Int.reduceLT, Int.reduceNe, Int.reduceNeg, Int.reduceAdd, Int.reduceSub, Int.reduceMul, not_false_eq_true, not_true_eq_false, false_and, and_false, true_and, and_true, and_self, true_or, or_true, false_or, or_false, if_true, if_false, ite_true, ite_false, mj_tl_some, mj_tl_none, mj_cs0, mj_cs1, mj_cs2, mj_cs3, mj_cs4]
    refine wc.mono (m_undo (d := d + 58) cw1.cs (by rw [e5]; exact h.ai) (by rw [e5]; exact h1)) ?_
    rintro q M2 ⟨rfl, f2, r2⟩
    rw [e5] at r2 ⊢
    exact ⟨_, rfl, rfl, h.fin c1 cw1 (f2.mono (fun z hz => by simp at hz ⊢; omega)) r2 (un_q (by omega)) ((h.co.fz c1.f (by decide)).fz f2 (by decide))⟩
  · have h0 : hh M 355 5 = 0 := by omega
    show wp X (d + 59) 114 0 [(30, 5)] [] M _
    simp only [w114_0, w114_1, w114_4, w114_5, w114_8, w114_9, w114_10, w114_11, w114_12, w114_15, w114_16, w114_17, w114_20, w114_21, w114_24, w114_25, w114_28, w114_29, w114_32, w114_33, w114_36, w114_37, w114_39, w114_40_6, w114_40_7, w114_41, w114_44, w114_45, w114_48, np, h0, ↓reduceIte, hh_wr, hl_wr, b10, b11, ite_not, ne_eq, Int.reduceEq, Int.reduceLE, Int.reduceLT, Int.reduceNe, Int.reduceNeg, Int.reduceAdd, Int.reduceSub, Int.reduceMul, not_false_eq_true, not_true_eq_false, false_and, and_false, true_and, and_true, and_self, true_or, or_true, false_or, or_false, if_true, if_false, ite_true, ite_false, mj_tl_some, mj_tl_none, mj_cs0, mj_cs1, mj_cs2, mj_cs3, mj_cs4]
    simp only [w113_0, w113_1, w113_4, w113_7, ↓reduceIte, hh_wr, hl_wr, b10, b11, ite_not, ne_eq, Int.reduceEq, Int.reduceLE, Int.reduceLT, Int.reduceNe, Int.reduceNeg, Int.reduceAdd, Int.reduceSub, Int.reduceMul, not_false_eq_true, not_true_eq_false, false_and, and_false, true_and, and_true, and_self, true_or, or_true, false_or, or_false, if_true, if_false, ite_true, ite_false, mj_tl_some, mj_tl_none, mj_cs0, mj_cs1, mj_cs2, mj_cs3, mj_cs4]
    show wp X (d + 60) 258 0 [(32, 354), (9, 0), (9, 0), (9, 0)] [] M _
    simp only [w258_0, w258_1, w258_4, w258_5, w258_6, w258_9, w258_10, w258_11, w258_12, w258_15, w258_16, w258_17, w258_18, w258_19, w258_20, w258_21, w258_23, w258_25, w258_26, w258_29, w258_30, w258_31, w258_32, w258_33, w258_34, w258_35, w258_36, w258_37, w258_38, w258_41, w258_42, w258_45, w258_47, w258_48, w258_49, w258_50, w258_53, w258_54, w258_55, w258_56, w258_57, w258_58, w258_59, w258_60, w258_63, w258_66, w258_67, w258_68, w258_69, w258_70, w258_73, w258_74, w258_75, w258_78, w258_79, w258_80, w258_83, w258_84, w258_85, w258_88, w258_89, w258_90, w258_93, w258_94, w258_95, w258_96, w258_97, w258_100, w258_101, w258_102, w258_105, w258_106, w258_107, w258_110, w258_111, w258_112, w258_113, w258_114, w258_117, w258_118, w258_119, w258_120, w258_121, w258_122, w258_123, w258_124, w258_125, w258_126, w258_127, w258_130, w258_133, w258_136, w258_139, w258_142, w258_143, w258_144, w258_145, w258_147, w258_150, w258_151, w258_154, w258_157, w258_158, w258_159, w258_160, w258_163, w258_164, w258_166, w258_167, w258_168, w258_169, w258_170, w258_171, w258_174, w258_177, w258_178, w258_181, w258_182, w258_183, c_1_0 h.cs, c_1_1 h.cs, c_1_2 h.cs, c_1_3 h.cs, c_1_4 h.cs, c_1_5 h.cs, c_1_6 h.cs, c_1_7 h.cs, c_1_8 h.cs, c_2_0 h.cs, c_2_1 h.cs, c_5_0 h.cs, c_5_1 h.cs, c_5_2 h.cs, c_5_3 h.cs, c_5_5 h.cs, c_5_8 h.cs, c_5_11 h.cs, c_6_1 h.cs, c_6_2 h.cs, c_6_3 h.cs, c_10_4 h.cs, c_10_5 h.cs, c_10_6 h.cs, c_10_7 h.cs, c_15_1 h.cs, c_17_1 h.cs, c_339_0 h.cs, c_341_0 h.cs, c_341_1 h.cs, c_341_2 h.cs, c_342_4 h.cs, c_342_5 h.cs, c_342_6 h.cs, c_342_7 h.cs, c_347_0 h.cs, c_347_2 h.cs, c_347_3 h.cs, c_349_0 h.cs, c_349_1 h.cs, c_349_2 h.cs, c_351_2 h.cs, c_351_10 h.cs, c_351_12 h.cs, c_354_0 h.cs, c_354_1 h.cs, c_354_2 h.cs, c_354_3 h.cs, c_354_4 h.cs, c_354_5 h.cs, c_354_6 h.cs, c_354_7 h.cs, c_354_8 h.cs, c_354_20 h.cs, c_354_25 h.cs, c_354_26 h.cs, c_354_27 h.cs, c_354_28 h.cs, c_354_32 h.cs, c_354_33 h.cs, c_354_34 h.cs, c_354_35 h.cs, c_354_38 h.cs, l_3 h.cs, l_4 h.cs, l_7 h.cs, l_8 h.cs, l_9 h.cs, l_11 h.cs, l_12 h.cs, l_13 h.cs, l_14 h.cs, l_16 h.cs, l_18 h.cs, l_19 h.cs, l_20 h.cs, l_21 h.cs, l_340 h.cs, l_343 h.cs, l_344 h.cs, l_345 h.cs, l_346 h.cs, l_348 h.cs, l_350 h.cs, l_352 h.cs, l_353 h.cs, l_355 h.cs, l_356 h.cs, l_357 h.cs, l_358 h.cs, l_359 h.cs, l_360 h.cs, l_361 h.cs, l_362 h.cs, l_363 h.cs, l_364 h.cs, l_365 h.cs, l_366 h.cs, l_367 h.cs, l_368 h.cs, l_369 h.cs, l_370 h.cs, l_371 h.cs, l_372 h.cs, l_373 h.cs, h0, ↓reduceIte, hh_wr, hl_wr, b10, b11, ite_not, ne_eq, Int.reduceEq, Int.reduceLE, Int.reduceLT, Int.reduceNe, Int.reduceNeg, Int.reduceAdd, Int.reduceSub, Int.reduceMul, not_false_eq_true, not_true_eq_false, false_and, and_false, true_and, and_true, and_self, true_or, or_true, false_or, or_false, if_true, if_false, ite_true, ite_false, mj_tl_some, mj_tl_none, mj_cs0, mj_cs1, mj_cs2, mj_cs3, mj_cs4]
    exact ⟨_, rfl, rfl, Pst.id h⟩
end Undo2
