/-! PLAYED -/
def plW (M : mj_M) (t : Int) (Lf Ll : Option (Env → Int)) (A : Int → Int) : Nat → Int → Int := it (fun i B => plR Lf Ll B (hh M 357 (705 * t + 1 + 4 * (i : Int))) (hh M 357 (705 * t + 1 + 4 * (i : Int) + 1)) (hh M 357 (705 * t + 1 + 4 * (i : Int) + 2)) (hh M 357 (705 * t + 1 + 4 * (i : Int) + 3))) A
def plK (M : mj_M) (t : Int) (Lf Ll : Option (Env → Int)) (A : Int → Int) (i : Nat) : Int := plO Ll (plW M t Lf Ll A i) (hh M 357 (705 * t + 1 + 4 * (i : Int))) (hh M 357 (705 * t + 1 + 4 * (i : Int) + 1)) (hh M 357 (705 * t + 1 + 4 * (i : Int) + 2)) (hh M 357 (705 * t + 1 + 4 * (i : Int) + 3))
def plI (A B : Int → Int) : Prop := AI B ∧ B 3 = A 3 ∧ B 4 = A 4
section Played
variable {X : mj_X} {d : Nat} {M : mj_M} {A : Int → Int} {Lf Ll : Option (Env → Int)}
theorem z_357' {M1 : mj_M} {zs : List Nat} (f : fz zs M M1) (h5 : 5 ∉ zs) (j : Int) : hh M1 357 j = hh M 357 j := f.h _ _ (by rw [z_357]; exact h5)
theorem c_playL {r t : Int} (N : Nat) (h : CW M A) (tr : TR M r t) (hN : hh M 357 (705 * t) = (N : Int)) (t1 : TxL M (rul M) (A 4) 0 2 Lf) (t2 : TxL M (rul M) (A 4) 1 4 Ll) (Q : Option mj_V → mj_M → Prop) (hQ0 : ∀ M1, CW M1 (plW M t Lf Ll A N) → Cf M M1 → (∀ i, i ≤ N → plI A (plW M t Lf Ll A i)) → (∀ i, i < N → plK M t Lf Ll A i ≠ 0) → Q (some (0, -1)) M1) (hQ1 : ∀ (m : Nat) M1, m < N → CW M1 (plW M t Lf Ll A (m + 1)) → Cf M M1 → (∀ i, i ≤ m + 1 → plI A (plW M t Lf Ll A i)) → (∀ i, i < m → plK M t Lf Ll A i ≠ 0) → plK M t Lf Ll A m = 0 → Q (some (0, (m : Int))) M1) : ∀ (m k : Nat) (M1 : mj_M), k + m = N → CW M1 (plW M t Lf Ll A k) → Cf M M1 → (∀ i, i ≤ k → plI A (plW M t Lf Ll A i)) → (∀ i, i < k → plK M t Lf Ll A i ≠ 0) → wp X (d + 9) 108 18 [(31, 1), (0, t), (28, r), (0, (k : Int))] [] M1 Q := by
  have n24 := tr.n24
  have r1 := tr.r1
  intro m
  induction m with
  | zero =>
    intro k M1 e h1 c1 I O
    have : k = N := by omega
    subst this
    have tr1 := tr.fz c1.f (by decide)
    have g0 : hh M1 r 0 = (k : Int) := tr1.nc.trans ((z_357' c1.f (by decide) _).trans hN)
    rw [w108_18]
    simp only [w108_0, w108_1, w108_4, w108_5, w108_8, w108_9, w108_10, w108_13, w108_15, w108_16, w108_17, w108_19, w108_20, w108_23, w108_26, w108_27, w108_30, w108_31, w108_32, w108_35, w108_38, w108_39, w108_40, w108_43, w108_46, w108_47, g0, show ((k : Int)) ≤ (k : Int) from Int.le_refl _, Int.lt_irrefl, show ¬ r = 0 by omega, ↓reduceIte, hh_wr, hl_wr, b10, b11, ite_not, ne_eq, Int.reduceEq, Int.reduceLE, Int.reduceLT, Int.reduceNe, Int.reduceNeg, Int.reduceAdd, Int.reduceSub, Int.reduceMul, not_false_eq_true, not_true_eq_false, false_and, and_false, true_and, and_true, and_self, true_or, or_true, false_or, or_false, if_true, if_false, ite_true, ite_false, mj_tl_some, mj_tl_none, mj_cs0, mj_cs1, mj_cs2, mj_cs3, mj_cs4]
    exact hQ0 M1 h1 c1 I O
  | succ m ih =>
    intro k M1 e h1 c1 I O
    have tr1 := tr.fz c1.f (by decide)
    have z := z_357' c1.f (by decide)
    have g0 : hh M1 r 0 = (N : Int) := tr1.nc.trans ((z _).trans hN)
    obtain ⟨ai, i3, i4⟩ := I k (Nat.le_refl _)
    have ru := h.ru h1 c1 i3 i4
    rw [w108_18]
    simp only [w108_19, w108_20, w108_23, w108_26, w108_27, w108_30, w108_31, w108_32, c_1_0 h1.cs, c_1_1 h1.cs, c_1_2 h1.cs, c_1_3 h1.cs, c_1_4 h1.cs, c_1_5 h1.cs, c_1_6 h1.cs, c_1_7 h1.cs, c_1_8 h1.cs, c_2_0 h1.cs, c_2_1 h1.cs, c_5_0 h1.cs, c_5_1 h1.cs, c_5_2 h1.cs, c_5_3 h1.cs, c_5_5 h1.cs, c_5_8 h1.cs, c_5_11 h1.cs, c_6_1 h1.cs, c_6_2 h1.cs, c_6_3 h1.cs, c_10_4 h1.cs, c_10_5 h1.cs, c_10_6 h1.cs, c_10_7 h1.cs, c_15_1 h1.cs, c_17_1 h1.cs, c_339_0 h1.cs, c_341_0 h1.cs, c_341_1 h1.cs, c_341_2 h1.cs, c_342_4 h1.cs, c_342_5 h1.cs, c_342_6 h1.cs, c_342_7 h1.cs, c_347_0 h1.cs, c_347_2 h1.cs, c_347_3 h1.cs, c_349_0 h1.cs, c_349_1 h1.cs, c_349_2 h1.cs, c_351_2 h1.cs, c_351_10 h1.cs, c_351_12 h1.cs, c_354_0 h1.cs, c_354_1 h1.cs, c_354_2 h1.cs, c_354_3 h1.cs, c_354_4 h1.cs, c_354_5 h1.cs, c_354_6 h1.cs, c_354_7 h1.cs, c_354_8 h1.cs, c_354_20 h1.cs, c_354_25 h1.cs, c_354_26 h1.cs, c_354_27 h1.cs, c_354_28 h1.cs, c_354_32 h1.cs, c_354_33 h1.cs, c_354_34 h1.cs, c_354_35 h1.cs, c_354_38 h1.cs, l_3 h1.cs, l_4 h1.cs, l_7 h1.cs, l_8 h1.cs, l_9 h1.cs, l_11 h1.cs, l_12 h1.cs, l_13 h1.cs, l_14 h1.cs, l_16 h1.cs, l_18 h1.cs, l_19 h1.cs, l_20 h1.cs, l_21 h1.cs, l_340 h1.cs, l_343 h1.cs, l_344 h1.cs, l_345 h1.cs, l_346 h1.cs, l_348 h1.cs, l_350 h1.cs, l_352 h1.cs, l_353 h1.cs, l_355 h1.cs, l_356 h1.cs, l_357 h1.cs, l_358 h1.cs, l_359 h1.cs, l_360 h1.cs, l_361 h1.cs, l_362 h1.cs, l_363 h1.cs, l_364 h1.cs, l_365 h1.cs, l_366 h1.cs, l_367 h1.cs, l_368 h1.cs, l_369 h1.cs, l_370 h1.cs, l_371 h1.cs, l_372 h1.cs, l_373 h1.cs, h1.gnf, h1.gP, h1.gy, h1.gx, h1.gt, h1.gns, h1.gnt, h1.gru, h1.gnp, h1.gnd, h1.gne, g0, show ¬ (N : Int) ≤ (k : Int) by omega, show (k : Int) < (N : Int) by omega, show ¬ r = 0 by omega, ↓reduceIte, hh_wr, hl_wr, b10, b11, ite_not, ne_eq, Int.reduceEq, Int.reduceLE, Int.reduceLT, Int.reduceNe, Int.reduceNeg, Int.reduceAdd, Int.reduceSub, Int.reduceMul, not_false_eq_true, not_true_eq_false, false_and, and_false, true_and, and_true, and_self, true_or, or_true, false_or, or_false, if_true, if_false, ite_true, ite_false, mj_tl_some, mj_tl_none, mj_cs0, mj_cs1, mj_cs2, mj_cs3, mj_cs4]
    refine wc.mono (c_plays (d := d) (Lf := Lf) (Ll := Ll) (j := t) h1 tr1 (by rw [ru, i4]; exact t1.fz c1.f (by decide)) (by rw [ru, i4]; exact t2.fz c1.f (by decide)) ⟨by omega, by rw [z, hN]; omega⟩ (z _) (z _) (z _) (z _)) ?_
    rintro q M2 ⟨rfl, h2, c2⟩
    have h2' : CW M2 (plW M t Lf Ll A (k + 1)) := h2
    have c12 := c1.tr c2
    have I2 : ∀ i, i ≤ k + 1 → plI A (plW M t Lf Ll A i) := by
      intro i hi
      by_cases e1 : i = k + 1
      · subst e1
        exact ⟨h2'.ai, (plR_34 ai (Or.inl rfl)).trans i3, (plR_34 ai (Or.inr rfl)).trans i4⟩
      · exact I i (by omega)
    have ek : plO Ll (plW M t Lf Ll A k) (hh M 357 (705 * t + 1 + 4 * (k : Int))) (hh M 357 (705 * t + 1 + 4 * (k : Int) + 1)) (hh M 357 (705 * t + 1 + 4 * (k : Int) + 2)) (hh M 357 (705 * t + 1 + 4 * (k : Int) + 3)) = plK M t Lf Ll A k := rfl
    rw [ek]
    by_cases h0 : plK M t Lf Ll A k = 0
    · simp only [w108_35, w108_38, w108_39, h0, ↓reduceIte, hh_wr, hl_wr, b10, b11, ite_not, ne_eq, Int.reduceEq, Int.reduceLE, Int.reduceLT, Int.reduceNe, Int.reduceNeg, Int.reduceAdd, Int.reduceSub, Int.reduceMul, not_false_eq_true, not_true_eq_false, false_and, and_false, true_and, and_true, and_self, true_or, or_true, false_or, or_false, if_true, if_false, ite_true, ite_false, mj_tl_some, mj_tl_none, mj_cs0, mj_cs1, mj_cs2, mj_cs3, mj_cs4]
      exact hQ1 k M2 (by omega) h2' c12 I2 O h0
    · simp only [w108_35, w108_40, w108_43, h0, aj (x := (k : Int)) (y := 1) ⟨by omega, by omega⟩, ↓reduceIte, hh_wr, hl_wr, b10, b11, ite_not, ne_eq, Int.reduceEq, Int.reduceLE, Int.reduceLT, Int.reduceNe, Int.reduceNeg, Int.reduceAdd, Int.reduceSub, Int.reduceMul, not_false_eq_true, not_true_eq_false, false_and, and_false, true_and, and_true, and_self, true_or, or_true, false_or, or_false, if_true, if_false, ite_true, ite_false, mj_tl_some, mj_tl_none, mj_cs0, mj_cs1, mj_cs2, mj_cs3, mj_cs4]
      refine ih (k + 1) M2 (by omega) h2' c12 I2 (fun i hi => ?_)
      by_cases e1 : i = k
      · rw [e1]; exact h0
      · exact O i (by omega)
theorem m_playL {r t : Int} (N : Nat) (h : RW M) (co : Cok M) (w : hh M 354 36 = 1) (eA : hh M 355 = A) (ht : 0 ≤ t ∧ t < 4) (hN : hh M 357 (705 * t) = (N : Int)) (tr : TR M r t) {r' : Int} (t1 : TxL M r' (A 4) 0 2 Lf) (t2 : TxL M r' (A 4) 1 4 Ll) (I : ∀ k, k ≤ N → (∀ i, i < k → plK M t Lf Ll A i ≠ 0) → plI A (plW M t Lf Ll A k)) (Q : Option mj_V → mj_M → Prop) (hQ0 : ∀ M1, fz [3, 8, 9] M M1 → Cok M1 → hh M1 355 = plW M t Lf Ll A N → (∀ i, i < N → plK M t Lf Ll A i ≠ 0) → Q (some (0, -1)) M1) (hQ1 : ∀ (m : Nat) M1, m < N → fz [3, 8, 9] M M1 → Cok M1 → hh M1 355 = plW M t Lf Ll A (m + 1) → (∀ i, i < m → plK M t Lf Ll A i ≠ 0) → plK M t Lf Ll A m = 0 → Q (some (0, (m : Int))) M1) : ∀ (m k : Nat) (M1 : mj_M), k + m = N → fz [3, 8, 9] M M1 → Cok M1 → hh M1 355 = plW M t Lf Ll A k → (∀ i, i < k → plK M t Lf Ll A i ≠ 0) → wp X (d + 11) 292 21 [(32, 354), (0, t), (0, (k : Int))] [] M1 Q := by
  have n24 := tr.n24
  have mt : ji_mul 705 t = 705 * t := ji_mul_eq (nn ⟨by omega, by omega⟩)
  intro m
  induction m with
  | zero =>
    intro k M1 e f1 co1 r1 O
    have : k = N := by omega
    subst this
    have hc1 := h.cs.fz f1 (by decide)
    have g0 : hh M1 357 (705 * t) = (k : Int) := (z_357' f1 (by decide) _).trans hN
    rw [w292_21]
    simp only [w292_0, w292_1, w292_2, w292_3, w292_6, w292_7, w292_8, w292_9, w292_10, w292_13, w292_16, w292_18, w292_19, w292_20, w292_22, w292_23, w292_26, w292_29, w292_30, w292_31, w292_32, w292_35, w292_36, w292_39, w292_40, w292_41, w292_42, w292_43, w292_44, w292_45, w292_46, w292_47, w292_50, w292_53, w292_54, w292_55, w292_58, w292_61, w292_62, c_1_0 hc1, c_1_1 hc1, c_1_2 hc1, c_1_3 hc1, c_1_4 hc1, c_1_5 hc1, c_1_6 hc1, c_1_7 hc1, c_1_8 hc1, c_2_0 hc1, c_2_1 hc1, c_5_0 hc1, c_5_1 hc1, c_5_2 hc1, c_5_3 hc1, c_5_5 hc1, c_5_8 hc1, c_5_11 hc1, c_6_1 hc1, c_6_2 hc1, c_6_3 hc1, c_10_4 hc1, c_10_5 hc1, c_10_6 hc1, c_10_7 hc1, c_15_1 hc1, c_17_1 hc1, c_339_0 hc1, c_341_0 hc1, c_341_1 hc1, c_341_2 hc1, c_342_4 hc1, c_342_5 hc1, c_342_6 hc1, c_342_7 hc1, c_347_0 hc1, c_347_2 hc1, c_347_3 hc1, c_349_0 hc1, c_349_1 hc1, c_349_2 hc1, c_351_2 hc1, c_351_10 hc1, c_351_12 hc1, c_354_0 hc1, c_354_1 hc1, c_354_2 hc1, c_354_3 hc1, c_354_4 hc1, c_354_5 hc1, c_354_6 hc1, c_354_7 hc1, c_354_8 hc1, c_354_20 hc1, c_354_25 hc1, c_354_26 hc1, c_354_27 hc1, c_354_28 hc1, c_354_32 hc1, c_354_33 hc1, c_354_34 hc1, c_354_35 hc1, c_354_38 hc1, l_3 hc1, l_4 hc1, l_7 hc1, l_8 hc1, l_9 hc1, l_11 hc1, l_12 hc1, l_13 hc1, l_14 hc1, l_16 hc1, l_18 hc1, l_19 hc1, l_20 hc1, l_21 hc1, l_340 hc1, l_343 hc1, l_344 hc1, l_345 hc1, l_346 hc1, l_348 hc1, l_350 hc1, l_352 hc1, l_353 hc1, l_355 hc1, l_356 hc1, l_357 hc1, l_358 hc1, l_359 hc1, l_360 hc1, l_361 hc1, l_362 hc1, l_363 hc1, l_364 hc1, l_365 hc1, l_366 hc1, l_367 hc1, l_368 hc1, l_369 hc1, l_370 hc1, l_371 hc1, l_372 hc1, l_373 hc1, g0, mt, show ((k : Int)) ≤ (k : Int) from Int.le_refl _, Int.lt_irrefl, show (0 : Int) ≤ 705 * t by omega, show 705 * t < 2820 by omega, ↓reduceIte, hh_wr, hl_wr, b10, b11, ite_not, ne_eq, Int.reduceEq, Int.reduceLE, Int.reduceLT, Int.reduceNe, Int.reduceNeg, Int.reduceAdd, Int.reduceSub, Int.reduceMul, not_false_eq_true, not_true_eq_false, false_and, and_false, true_and, and_true, and_self, true_or, or_true, false_or, or_false, if_true, if_false, ite_true, ite_false, mj_tl_some, mj_tl_none, mj_cs0, mj_cs1, mj_cs2, mj_cs3, mj_cs4]
    exact hQ0 M1 f1 co1 r1 O
  | succ m ih =>
    intro k M1 e f1 co1 r1 O
    have hc1 := h.cs.fz f1 (by decide)
    have z := z_357' f1 (by decide)
    have g0 : hh M1 357 (705 * t) = (N : Int) := (z _).trans hN
    obtain ⟨ai, i3, i4⟩ := I k (by omega) O
    obtain ⟨s8, _, a8, _⟩ := tr.cl (k : Int) (by omega) (by omega)
    have a1 : ji_add (705 * t) 1 = 705 * t + 1 := aj ⟨by omega, by omega⟩
    have a2 : ji_mul 4 (k : Int) = 4 * (k : Int) := ji_mul_eq (nn ⟨by omega, by omega⟩)
    have a3 : ji_add (705 * t + 1) (4 * (k : Int)) = 705 * t + 1 + 4 * (k : Int) := aj ⟨by omega, by omega⟩
    rw [w292_21]
    simp only [w292_22, w292_23, w292_26, w292_29, w292_30, w292_31, w292_32, w292_35, w292_36, w292_39, w292_40, w292_41, w292_42, w292_43, w292_44, w292_45, w292_46, w292_47, c_1_0 hc1, c_1_1 hc1, c_1_2 hc1, c_1_3 hc1, c_1_4 hc1, c_1_5 hc1, c_1_6 hc1, c_1_7 hc1, c_1_8 hc1, c_2_0 hc1, c_2_1 hc1, c_5_0 hc1, c_5_1 hc1, c_5_2 hc1, c_5_3 hc1, c_5_5 hc1, c_5_8 hc1, c_5_11 hc1, c_6_1 hc1, c_6_2 hc1, c_6_3 hc1, c_10_4 hc1, c_10_5 hc1, c_10_6 hc1, c_10_7 hc1, c_15_1 hc1, c_17_1 hc1, c_339_0 hc1, c_341_0 hc1, c_341_1 hc1, c_341_2 hc1, c_342_4 hc1, c_342_5 hc1, c_342_6 hc1, c_342_7 hc1, c_347_0 hc1, c_347_2 hc1, c_347_3 hc1, c_349_0 hc1, c_349_1 hc1, c_349_2 hc1, c_351_2 hc1, c_351_10 hc1, c_351_12 hc1, c_354_0 hc1, c_354_1 hc1, c_354_2 hc1, c_354_3 hc1, c_354_4 hc1, c_354_5 hc1, c_354_6 hc1, c_354_7 hc1, c_354_8 hc1, c_354_20 hc1, c_354_25 hc1, c_354_26 hc1, c_354_27 hc1, c_354_28 hc1, c_354_32 hc1, c_354_33 hc1, c_354_34 hc1, c_354_35 hc1, c_354_38 hc1, l_3 hc1, l_4 hc1, l_7 hc1, l_8 hc1, l_9 hc1, l_11 hc1, l_12 hc1, l_13 hc1, l_14 hc1, l_16 hc1, l_18 hc1, l_19 hc1, l_20 hc1, l_21 hc1, l_340 hc1, l_343 hc1, l_344 hc1, l_345 hc1, l_346 hc1, l_348 hc1, l_350 hc1, l_352 hc1, l_353 hc1, l_355 hc1, l_356 hc1, l_357 hc1, l_358 hc1, l_359 hc1, l_360 hc1, l_361 hc1, l_362 hc1, l_363 hc1, l_364 hc1, l_365 hc1, l_366 hc1, l_367 hc1, l_368 hc1, l_369 hc1, l_370 hc1, l_371 hc1, l_372 hc1, l_373 hc1, g0, mt, a1, a2, a3, show ¬ (N : Int) ≤ (k : Int) by omega, show (k : Int) < (N : Int) by omega, show (0 : Int) ≤ 705 * t by omega, show 705 * t < 2820 by omega, ↓reduceIte, hh_wr, hl_wr, b10, b11, ite_not, ne_eq, Int.reduceEq, Int.reduceLE, Int.reduceLT, Int.reduceNe, Int.reduceNeg, Int.reduceAdd, Int.reduceSub, Int.reduceMul, not_false_eq_true, not_true_eq_false, false_and, and_false, true_and, and_true, and_self, true_or, or_true, false_or, or_false, if_true, if_false, ite_true, ite_false, mj_tl_some, mj_tl_none, mj_cs0, mj_cs1, mj_cs2, mj_cs3, mj_cs4]
    have rw1 : RW M1 := ⟨hc1, by rw [r1]; exact ai, h.tb.fz f1 (by decide)⟩
    refine wc.mono (m_isPlayed (d := d) (Lf := Lf) (Ll := Ll) (r := r') rw1 co1 (by rw [f1.h 354 36 (by decide)]; exact w) r1 (by rw [i4]; exact t1.fz f1 (by decide)) (by rw [i4]; exact t2.fz f1 (by decide)) ⟨by omega, by omega⟩ (z _) (z _) (z _) (z _) s8 (fun g => (a8 (by omega)).2.2.2 g)) ?_
    rintro q M2 ⟨rfl, f2, co2, r2⟩
    have r2' : hh M2 355 = plW M t Lf Ll A (k + 1) := r2
    have ek : plO Ll (plW M t Lf Ll A k) (hh M 357 (705 * t + 1 + 4 * (k : Int))) (hh M 357 (705 * t + 1 + 4 * (k : Int) + 1)) (hh M 357 (705 * t + 1 + 4 * (k : Int) + 2)) (hh M 357 (705 * t + 1 + 4 * (k : Int) + 3)) = plK M t Lf Ll A k := rfl
    rw [ek]
    by_cases h0 : plK M t Lf Ll A k = 0
    · simp only [w292_50, w292_53, w292_54, h0, ↓reduceIte, hh_wr, hl_wr, b10, b11, ite_not, ne_eq, Int.reduceEq, Int.reduceLE, Int.reduceLT, Int.reduceNe, Int.reduceNeg, Int.reduceAdd, Int.reduceSub, Int.reduceMul, not_false_eq_true, not_true_eq_false, false_and, and_false, true_and, and_true, and_self, true_or, or_true, false_or, or_false, if_true, if_false, ite_true, ite_false, mj_tl_some, mj_tl_none, mj_cs0, mj_cs1, mj_cs2, mj_cs3, mj_cs4]
      exact hQ1 k M2 (by omega) (f1.tr f2) co2 r2' O h0
    · simp only [w292_50, w292_55, w292_58, h0, aj (x := (k : Int)) (y := 1) ⟨by omega, by omega⟩, ↓reduceIte, hh_wr, hl_wr, b10, b11, ite_not, ne_eq, Int.reduceEq, Int.reduceLE, Int.reduceLT, Int.reduceNe, Int.reduceNeg, Int.reduceAdd, Int.reduceSub, Int.reduceMul, not_false_eq_true, not_true_eq_false, false_and, and_false, true_and, and_true, and_self, true_or, or_true, false_or, or_false, if_true, if_false, ite_true, ite_false, mj_tl_some, mj_tl_none, mj_cs0, mj_cs1, mj_cs2, mj_cs3, mj_cs4]
      refine ih (k + 1) M2 (by omega) (f1.tr f2) co2 r2' (fun i hi => ?_)
      by_cases e1 : i = k
      · rw [e1]; exact h0
      · exact O i (by omega)
theorem st12 : St12 RR (d + 60) := by
  intro X M t h i1
  obtain ⟨Lf, Ll, t1, t2⟩ := h.lw
  have t4 := h.T4
  have t0 := h.ai.t0
  unfold LS2
  show wp X (d + 60) 108 0 [(31, 1), (0, t), (9, 0), (9, 0)] [] M _
  have gnt : hh M 5 6 = hh M 355 3 := h.wr.nt
  have tx := fun Q => c_textOf (X := X) (d := d + 58) (M := M) (Q := Q) (j := t) h.cs (by rw [gnt]; exact h.ai.t4)
  rw [gnt] at tx
  have sb : ji_sub (hh M 355 3) 1 = hh M 355 3 - 1 := sj ⟨by omega, by omega⟩
  by_cases ht : 0 ≤ t ∧ t < hh M 355 3
  · have tr := h.t5 t ht.1 ht.2
    have r1 := tr.r1
    have n24 := tr.n24
    obtain ⟨N, hN⟩ := nat_of tr.n0
    simp only [w108_0, w108_1, w108_4, w108_5, w108_8, w108_9, w108_10, w108_16, w108_17, c_1_0 h.cs, c_1_1 h.cs, c_1_2 h.cs, c_1_3 h.cs, c_1_4 h.cs, c_1_5 h.cs, c_1_6 h.cs, c_1_7 h.cs, c_1_8 h.cs, c_2_0 h.cs, c_2_1 h.cs, c_5_0 h.cs, c_5_1 h.cs, c_5_2 h.cs, c_5_3 h.cs, c_5_5 h.cs, c_5_8 h.cs, c_5_11 h.cs, c_6_1 h.cs, c_6_2 h.cs, c_6_3 h.cs, c_10_4 h.cs, c_10_5 h.cs, c_10_6 h.cs, c_10_7 h.cs, c_15_1 h.cs, c_17_1 h.cs, c_339_0 h.cs, c_341_0 h.cs, c_341_1 h.cs, c_341_2 h.cs, c_342_4 h.cs, c_342_5 h.cs, c_342_6 h.cs, c_342_7 h.cs, c_347_0 h.cs, c_347_2 h.cs, c_347_3 h.cs, c_349_0 h.cs, c_349_1 h.cs, c_349_2 h.cs, c_351_2 h.cs, c_351_10 h.cs, c_351_12 h.cs, c_354_0 h.cs, c_354_1 h.cs, c_354_2 h.cs, c_354_3 h.cs, c_354_4 h.cs, c_354_5 h.cs, c_354_6 h.cs, c_354_7 h.cs, c_354_8 h.cs, c_354_20 h.cs, c_354_25 h.cs, c_354_26 h.cs, c_354_27 h.cs, c_354_28 h.cs, c_354_32 h.cs, c_354_33 h.cs, c_354_34 h.cs, c_354_35 h.cs, c_354_38 h.cs, l_3 h.cs, l_4 h.cs, l_7 h.cs, l_8 h.cs, l_9 h.cs, l_11 h.cs, l_12 h.cs, l_13 h.cs, l_14 h.cs, l_16 h.cs, l_18 h.cs, l_19 h.cs, l_20 h.cs, l_21 h.cs, l_340 h.cs, l_343 h.cs, l_344 h.cs, l_345 h.cs, l_346 h.cs, l_348 h.cs, l_350 h.cs, l_352 h.cs, l_353 h.cs, l_355 h.cs, l_356 h.cs, l_357 h.cs, l_358 h.cs, l_359 h.cs, l_360 h.cs, l_361 h.cs, l_362 h.cs, l_363 h.cs, l_364 h.cs, l_365 h.cs, l_366 h.cs, l_367 h.cs, l_368 h.cs, l_369 h.cs, l_370 h.cs, l_371 h.cs, l_372 h.cs, l_373 h.cs, h.gnf, h.gP, h.gy, h.gx, h.gt, h.gns, h.gnt, h.gru, h.gnp, h.gnd, h.gne, tx, ht, show ¬ hh M 20 t = 0 by omega, ↓reduceIte, hh_wr, hl_wr, b10, b11, ite_not, ne_eq, Int.reduceEq, Int.reduceLE, Int.reduceLT, Int.reduceNe, Int.reduceNeg, Int.reduceAdd, Int.reduceSub, Int.reduceMul, not_false_eq_true, not_true_eq_false, false_and, and_false, true_and, and_true, and_self, true_or, or_true, false_or, or_false, if_true, if_false, ite_true, ite_false, mj_tl_some, mj_tl_none, mj_cs0, mj_cs1, mj_cs2, mj_cs3, mj_cs4]
    have mm : ∀ (M1 : mj_M) (B : Int → Int) (v : Int), CW M1 B → Cf M M1 → B 3 = hh M 355 3 → (∀ k, k ≤ N → (∀ i, i < k → plK M t Lf Ll (hh M 355) i ≠ 0) → plI (hh M 355) (plW M t Lf Ll (hh M 355) k)) → ((v = -1 ∧ B = plW M t Lf Ll (hh M 355) N ∧ ∀ i, i < N → plK M t Lf Ll (hh M 355) i ≠ 0) ∨ ∃ m : Nat, m < N ∧ v = (m : Int) ∧ B = plW M t Lf Ll (hh M 355) (m + 1) ∧ (∀ i, i < m → plK M t Lf Ll (hh M 355) i ≠ 0) ∧ plK M t Lf Ll (hh M 355) m = 0) → wc X (d + 60) 292 [(32, 354), (0, t)] M1 (fun r2 M2 => ∃ x, some ((0 : Nat), v) = some (0, x) ∧ r2 = some (0, x) ∧ Pst RR M M2) := by
      intro M1 B v h1 c1 b3 I hv
      have e5 : hh M1 355 = hh M 355 := c1.f.row z_355 (by decide)
      have z := z_357' c1.f (by decide)
      have eW : ∀ k, plW M1 t Lf Ll (hh M 355) k = plW M t Lf Ll (hh M 355) k := by
        intro k
        unfold plW
        simp only [z]
      have eK : ∀ k, plK M1 t Lf Ll (hh M 355) k = plK M t Lf Ll (hh M 355) k := by
        intro k
        unfold plK
        rw [eW, z, z, z, z]
      have rw1 : RW M1 := ⟨h1.cs, by rw [e5]; exact h.ai, h.tb.fz c1.f (by decide)⟩
      have co1 := h.co.fz c1.f (by decide)
      show wp X (d + 60) 292 0 [(32, 354), (0, t), (9, 0)] [] M1 _
      simp only [w292_0, w292_1, w292_2, w292_3, w292_6, w292_7, w292_8, w292_9, w292_10, w292_13, w292_19, w292_20, c_1_0 h1.cs, c_1_1 h1.cs, c_1_2 h1.cs, c_1_3 h1.cs, c_1_4 h1.cs, c_1_5 h1.cs, c_1_6 h1.cs, c_1_7 h1.cs, c_1_8 h1.cs, c_2_0 h1.cs, c_2_1 h1.cs, c_5_0 h1.cs, c_5_1 h1.cs, c_5_2 h1.cs, c_5_3 h1.cs, c_5_5 h1.cs, c_5_8 h1.cs, c_5_11 h1.cs, c_6_1 h1.cs, c_6_2 h1.cs, c_6_3 h1.cs, c_10_4 h1.cs, c_10_5 h1.cs, c_10_6 h1.cs, c_10_7 h1.cs, c_15_1 h1.cs, c_17_1 h1.cs, c_339_0 h1.cs, c_341_0 h1.cs, c_341_1 h1.cs, c_341_2 h1.cs, c_342_4 h1.cs, c_342_5 h1.cs, c_342_6 h1.cs, c_342_7 h1.cs, c_347_0 h1.cs, c_347_2 h1.cs, c_347_3 h1.cs, c_349_0 h1.cs, c_349_1 h1.cs, c_349_2 h1.cs, c_351_2 h1.cs, c_351_10 h1.cs, c_351_12 h1.cs, c_354_0 h1.cs, c_354_1 h1.cs, c_354_2 h1.cs, c_354_3 h1.cs, c_354_4 h1.cs, c_354_5 h1.cs, c_354_6 h1.cs, c_354_7 h1.cs, c_354_8 h1.cs, c_354_20 h1.cs, c_354_25 h1.cs, c_354_26 h1.cs, c_354_27 h1.cs, c_354_28 h1.cs, c_354_32 h1.cs, c_354_33 h1.cs, c_354_34 h1.cs, c_354_35 h1.cs, c_354_38 h1.cs, l_3 h1.cs, l_4 h1.cs, l_7 h1.cs, l_8 h1.cs, l_9 h1.cs, l_11 h1.cs, l_12 h1.cs, l_13 h1.cs, l_14 h1.cs, l_16 h1.cs, l_18 h1.cs, l_19 h1.cs, l_20 h1.cs, l_21 h1.cs, l_340 h1.cs, l_343 h1.cs, l_344 h1.cs, l_345 h1.cs, l_346 h1.cs, l_348 h1.cs, l_350 h1.cs, l_352 h1.cs, l_353 h1.cs, l_355 h1.cs, l_356 h1.cs, l_357 h1.cs, l_358 h1.cs, l_359 h1.cs, l_360 h1.cs, l_361 h1.cs, l_362 h1.cs, l_363 h1.cs, l_364 h1.cs, l_365 h1.cs, l_366 h1.cs, l_367 h1.cs, l_368 h1.cs, l_369 h1.cs, l_370 h1.cs, l_371 h1.cs, l_372 h1.cs, l_373 h1.cs, s_isIn, e5, sb, show 0 ≤ t ∧ t ≤ hh M 355 3 - 1 by omega, ↓reduceIte, hh_wr, hl_wr, b10, b11, ite_not, ne_eq, Int.reduceEq, Int.reduceLE, Int.reduceLT, Int.reduceNe, Int.reduceNeg, Int.reduceAdd, Int.reduceSub, Int.reduceMul, not_false_eq_true, not_true_eq_false, false_and, and_false, true_and, and_true, and_self, true_or, or_true, false_or, or_false, if_true, if_false, ite_true, ite_false, mj_tl_some, mj_tl_none, mj_cs0, mj_cs1, mj_cs2, mj_cs3, mj_cs4]
      refine m_playL (M := M1) (d := d + 49) (A := hh M 355) (Lf := Lf) (Ll := Ll) (r := hh M 20 t) (r' := rul M) N rw1 co1 (by rw [c1.f.h 354 36 (by decide)]; exact h.tp.w) e5 ⟨ht.1, by omega⟩ (by rw [z]; exact hN) (tr.fz c1.f (by decide)) (t1.fz c1.f (by decide)) (t2.fz c1.f (by decide)) (fun k hk O => by rw [eW]; exact I k hk (fun i hi => by rw [← eK]; exact O i hi)) _ ?_ ?_ N 0 M1 (by omega) fz.rfl' co1 e5 (fun i hi => absurd hi (by omega))
      · intro M2 f2 co2 r2 O
        rw [eW] at r2
        rcases hv with ⟨rfl, eb, _⟩ | ⟨m, hm, _, _, _, h0⟩
        · exact ⟨_, rfl, rfl, h.fin c1 h1 f2 (by rw [r2, eb]) b3 co2⟩
        · exact absurd h0 (by rw [← eK]; exact O m hm)
      · intro m' M2 hm' f2 co2 r2 O h0'
        rw [eW] at r2
        rw [eK] at h0'
        rcases hv with ⟨_, _, O2⟩ | ⟨m, hm, ev, eb, O2, h0⟩
        · exact absurd h0' (O2 m' hm')
        · have em : m' = m := by
            rcases Nat.lt_trichotomy m' m with g | g | g
            · exact absurd h0' (O2 m' g)
            · exact g
            · exact absurd h0 (by rw [← eK]; exact O m g)
          subst em
          exact ⟨v, rfl, by rw [ev], h.fin c1 h1 f2 (by rw [r2, eb]) b3 co2⟩
    refine c_playL (M := M) (d := d + 51) (A := hh M 355) (Lf := Lf) (Ll := Ll) N h.cw tr hN t1 t2 _ ?_ ?_ N 0 M (by omega) h.cw Cf.rfl' (fun i hi => ?_) (fun i hi => absurd hi (by omega))
    · intro M1 h1 c1 I O
      exact mm M1 _ (-1) h1 c1 (I N (Nat.le_refl _)).2.1 (fun k hk _ => I k hk) (Or.inl ⟨rfl, rfl, O⟩)
    · intro m M1 hm h1 c1 I O h0
      refine mm M1 _ (m : Int) h1 c1 (I (m + 1) (Nat.le_refl _)).2.1 (fun k hk O2 => I k ?_) (Or.inr ⟨m, hm, rfl, rfl, O, h0⟩)
      by_cases g : k ≤ m + 1
      · exact g
      · exact absurd h0 (O2 m (by omega))
    · have : i = 0 := by omega
      subst this
      exact ⟨h.ai, rfl, rfl⟩
  · simp only [w108_0, w108_1, w108_4, w108_5, w108_8, w108_9, w108_10, w108_13, w108_15, w108_16, w108_17, w108_18, w108_19, w108_20, w108_23, w108_26, w108_27, w108_30, w108_31, w108_32, w108_35, w108_38, w108_39, w108_40, w108_43, w108_46, w108_47, c_1_0 h.cs, c_1_1 h.cs, c_1_2 h.cs, c_1_3 h.cs, c_1_4 h.cs, c_1_5 h.cs, c_1_6 h.cs, c_1_7 h.cs, c_1_8 h.cs, c_2_0 h.cs, c_2_1 h.cs, c_5_0 h.cs, c_5_1 h.cs, c_5_2 h.cs, c_5_3 h.cs, c_5_5 h.cs, c_5_8 h.cs, c_5_11 h.cs, c_6_1 h.cs, c_6_2 h.cs, c_6_3 h.cs, c_10_4 h.cs, c_10_5 h.cs, c_10_6 h.cs, c_10_7 h.cs, c_15_1 h.cs, c_17_1 h.cs, c_339_0 h.cs, c_341_0 h.cs, c_341_1 h.cs, c_341_2 h.cs, c_342_4 h.cs, c_342_5 h.cs, c_342_6 h.cs, c_342_7 h.cs, c_347_0 h.cs, c_347_2 h.cs, c_347_3 h.cs, c_349_0 h.cs, c_349_1 h.cs, c_349_2 h.cs, c_351_2 h.cs, c_351_10 h.cs, c_351_12 h.cs, c_354_0 h.cs, c_354_1 h.cs, c_354_2 h.cs, c_354_3 h.cs, c_354_4 h.cs, c_354_5 h.cs, c_354_6 h.cs, c_354_7 h.cs, c_354_8 h.cs, c_354_20 h.cs, c_354_25 h.cs, c_354_26 h.cs, c_354_27 h.cs, c_354_28 h.cs, c_354_32 h.cs, c_354_33 h.cs, c_354_34 h.cs, c_354_35 h.cs, c_354_38 h.cs, l_3 h.cs, l_4 h.cs, l_7 h.cs, l_8 h.cs, l_9 h.cs, l_11 h.cs, l_12 h.cs, l_13 h.cs, l_14 h.cs, l_16 h.cs, l_18 h.cs, l_19 h.cs, l_20 h.cs, l_21 h.cs, l_340 h.cs, l_343 h.cs, l_344 h.cs, l_345 h.cs, l_346 h.cs, l_348 h.cs, l_350 h.cs, l_352 h.cs, l_353 h.cs, l_355 h.cs, l_356 h.cs, l_357 h.cs, l_358 h.cs, l_359 h.cs, l_360 h.cs, l_361 h.cs, l_362 h.cs, l_363 h.cs, l_364 h.cs, l_365 h.cs, l_366 h.cs, l_367 h.cs, l_368 h.cs, l_369 h.cs, l_370 h.cs, l_371 h.cs, l_372 h.cs, l_373 h.cs, h.gnf, h.gP, h.gy, h.gx, h.gt, h.gns, h.gnt, h.gru, h.gnp, h.gnd, h.gne, tx, ht, ↓reduceIte, hh_wr, hl_wr, b10, b11, ite_not, ne_eq, Int.reduceEq, Int.reduceLE, Int.reduceLT, Int.reduceNe, Int.reduceNeg, Int.reduceAdd, Int.reduceSub, Int.reduceMul, not_false_eq_true, not_true_eq_false, false_and, and_false, true_and, and_true, and_self, true_or, or_true, false_or, or_false, if_true, if_false, ite_true, ite_false, mj_tl_some, mj_tl_none, mj_cs0, mj_cs1, mj_cs2, mj_cs3, mj_cs4]
    show wp X (d + 60) 292 0 [(32, 354), (0, t), (9, 0)] [] M _
    simp only [w292_0, w292_1, w292_2, w292_3, w292_6, w292_7, w292_8, w292_9, w292_10, w292_13, w292_16, w292_18, w292_19, w292_20, w292_21, w292_22, w292_23, w292_26, w292_29, w292_30, w292_31, w292_32, w292_35, w292_36, w292_39, w292_40, w292_41, w292_42, w292_43, w292_44, w292_45, w292_46, w292_47, w292_50, w292_53, w292_54, w292_55, w292_58, w292_61, w292_62, c_1_0 h.cs, c_1_1 h.cs, c_1_2 h.cs, c_1_3 h.cs, c_1_4 h.cs, c_1_5 h.cs, c_1_6 h.cs, c_1_7 h.cs, c_1_8 h.cs, c_2_0 h.cs, c_2_1 h.cs, c_5_0 h.cs, c_5_1 h.cs, c_5_2 h.cs, c_5_3 h.cs, c_5_5 h.cs, c_5_8 h.cs, c_5_11 h.cs, c_6_1 h.cs, c_6_2 h.cs, c_6_3 h.cs, c_10_4 h.cs, c_10_5 h.cs, c_10_6 h.cs, c_10_7 h.cs, c_15_1 h.cs, c_17_1 h.cs, c_339_0 h.cs, c_341_0 h.cs, c_341_1 h.cs, c_341_2 h.cs, c_342_4 h.cs, c_342_5 h.cs, c_342_6 h.cs, c_342_7 h.cs, c_347_0 h.cs, c_347_2 h.cs, c_347_3 h.cs, c_349_0 h.cs, c_349_1 h.cs, c_349_2 h.cs, c_351_2 h.cs, c_351_10 h.cs, c_351_12 h.cs, c_354_0 h.cs, c_354_1 h.cs, c_354_2 h.cs, c_354_3 h.cs, c_354_4 h.cs, c_354_5 h.cs, c_354_6 h.cs, c_354_7 h.cs, c_354_8 h.cs, c_354_20 h.cs, c_354_25 h.cs, c_354_26 h.cs, c_354_27 h.cs, c_354_28 h.cs, c_354_32 h.cs, c_354_33 h.cs, c_354_34 h.cs, c_354_35 h.cs, c_354_38 h.cs, l_3 h.cs, l_4 h.cs, l_7 h.cs, l_8 h.cs, l_9 h.cs, l_11 h.cs, l_12 h.cs, l_13 h.cs, l_14 h.cs, l_16 h.cs, l_18 h.cs, l_19 h.cs, l_20 h.cs, l_21 h.cs, l_340 h.cs, l_343 h.cs, l_344 h.cs, l_345 h.cs, l_346 h.cs, l_348 h.cs, l_350 h.cs, l_352 h.cs, l_353 h.cs, l_355 h.cs, l_356 h.cs, l_357 h.cs, l_358 h.cs, l_359 h.cs, l_360 h.cs, l_361 h.cs, l_362 h.cs, l_363 h.cs, l_364 h.cs, l_365 h.cs, l_366 h.cs, l_367 h.cs, l_368 h.cs, l_369 h.cs, l_370 h.cs, l_371 h.cs, l_372 h.cs, l_373 h.cs, s_isIn, sb, show ¬ (0 ≤ t ∧ t ≤ hh M 355 3 - 1) by omega, ↓reduceIte, hh_wr, hl_wr, b10, b11, ite_not, ne_eq, Int.reduceEq, Int.reduceLE, Int.reduceLT, Int.reduceNe, Int.reduceNeg, Int.reduceAdd, Int.reduceSub, Int.reduceMul, not_false_eq_true, not_true_eq_false, false_and, and_false, true_and, and_true, and_self, true_or, or_true, false_or, or_false, if_true, if_false, ite_true, ite_false, mj_tl_some, mj_tl_none, mj_cs0, mj_cs1, mj_cs2, mj_cs3, mj_cs4]
    exact ⟨_, rfl, rfl, Pst.id h⟩
end Played
