/-! YEARS -/
section YearP
variable {A B : Int → Int} {L : Option (Env → Int)}
theorem ps_go (h : AN A) : Go A (psts L A (A 1).toNat).1 ∧ 0 ≤ (psts L A (A 1).toNat).2 ∧ (psts L A (A 1).toNat).2 ≤ 48 := by
  have p0 : 0 ≤ A 1 := h.mi.p0
  have p6 : A 1 ≤ 6 := h.mi.p6
  obtain ⟨g, a, b⟩ := Go.ps (L := L) h (A 1).toNat (by omega)
  exact ⟨g, a, by omega⟩
theorem ps_e (h : AN A) : nwE A (psA L A).1 := (ps_go h).1.e.up (Or.inl (by omega))
theorem ps_8 (h : AN A) : (psA L A).1 8 = A 8 + 1 := by
  have : (psA L A).1 8 = (psts L A (A 1).toNat).1 8 + 1 := show up (psts L A (A 1).toNat).1 8 ((psts L A (A 1).toNat).1 8 + 1) 8 = _ from up_eq
  rw [this, (ps_go h).1.y]
theorem ps_c (h : AN A) : 0 ≤ (psA L A).2 ∧ (psA L A).2 ≤ 48 := (ps_go h).2
theorem ps_mi (h : AN A) (hy : A 8 < 9999) : MI (A 0) (mn (psA L A).1) := by
  have g := (ps_go (L := L) h).1
  have y0 : 0 ≤ A 8 := h.mi.y0
  have := MI_y (F := A 0) (A := (psts L A (A 1).toNat).1) (v := (psts L A (A 1).toNat).1 8 + 1) (by rw [← g.f]; exact g.an.mi) (by rw [g.y]; omega)
  exact this
theorem ps_ai (h : AI A) (hs : stp A) (hy : A 8 < 9999) : AI (psA L A).1 := h.nw hs (ps_e h.an) (ps_mi h.an hy)
def yrS (L : Option (Env → Int)) (_ : Nat) (s : (Int → Int) × Int) : (Int → Int) × Int := if s.1 8 = 9999 then s else ((psA L (kst s.1)).1, s.2 + (psA L (kst s.1)).2)
def yr (L : Option (Env → Int)) (A : Int → Int) : Nat → (Int → Int) × Int := it (yrS L) (A, 0)
def YI (A : Int → Int) (s : (Int → Int) × Int) (n : Nat) : Prop := (AI s.1) ∧ (s.1 3 = A 3) ∧ (s.1 4 = A 4) ∧ (s.1 8 = if A 8 + n ≤ 9999 then A 8 + n else 9999) ∧ (0 ≤ s.2 ∧ s.2 ≤ 48 * n)
theorem YI.ai {A : Int → Int} {s : (Int → Int) × Int} {n : Nat} (h : YI A s n) : AI s.1 := h.1
theorem YI.e3 {A : Int → Int} {s : (Int → Int) × Int} {n : Nat} (h : YI A s n) : s.1 3 = A 3 := h.2.1
theorem YI.e4 {A : Int → Int} {s : (Int → Int) × Int} {n : Nat} (h : YI A s n) : s.1 4 = A 4 := h.2.2.1
theorem YI.y {A : Int → Int} {s : (Int → Int) × Int} {n : Nat} (h : YI A s n) : s.1 8 = if A 8 + n ≤ 9999 then A 8 + n else 9999 := h.2.2.2.1
theorem YI.c {A : Int → Int} {s : (Int → Int) × Int} {n : Nat} (h : YI A s n) : 0 ≤ s.2 ∧ s.2 ≤ 48 * n := h.2.2.2.2
theorem yr_i (h : AI A) : ∀ n : Nat, YI A (yr L A n) n := by
  intro n
  induction n with
  | zero =>
    have y9 : A 8 ≤ 9999 := h.now.y9
    refine ⟨h, rfl, rfl, ?_, ?_⟩
    · rw [if_pos (by omega)]; show A 8 = A 8 + ((0 : Nat) : Int); omega
    · show (0 : Int) ≤ 0 ∧ (0 : Int) ≤ 48 * ((0 : Nat) : Int); omega
  | succ n ih =>
    have e : yr L A (n + 1) = yrS L n (yr L A n) := rfl
    have y9 : (yr L A n).1 8 ≤ 9999 := ih.ai.now.y9
    have iy := ih.y
    have ic := ih.c
    rw [e]
    unfold yrS
    by_cases h9 : (yr L A n).1 8 = 9999
    · rw [if_pos h9]
      refine ⟨ih.ai, ih.e3, ih.e4, ?_, by omega⟩
      rw [h9]
      rw [h9] at iy
      split at iy <;> split <;> omega
    · rw [if_neg h9]
      have k := fun j hj => kst_k (j := j) ih.ai hj
      have ka := kst_ai ih.ai
      have y8 : kst (yr L A n).1 8 < 9999 := by rw [k 8 (by omega)]; omega
      have pe := ps_e (L := L) ka.an
      have pc := ps_c (L := L) ka.an
      refine ⟨ps_ai ka (kst_stp ih.ai) y8, ?_, ?_, ?_, by omega⟩
      · rw [pe 3 (by unfold nwi; omega), k 3 (by omega)]; exact ih.e3
      · rw [pe 4 (by unfold nwi; omega), k 4 (by omega)]; exact ih.e4
      · rw [ps_8 ka.an, k 8 (by omega)]
        split at iy <;> split <;> omega
theorem yr_cap {n : Nat} (h : (yr L A n).1 8 = 9999) : ∀ m : Nat, yr L A (n + m) = yr L A n
  | 0 => rfl
  | m + 1 => by
    have e : yr L A (n + (m + 1)) = yrS L (n + m) (yr L A (n + m)) := rfl
    rw [e, yr_cap h m]
    exact if_pos h
end YearP
section Year
variable {X : mj_X} {d : Nat} {M : mj_M} {A B : Int → Int} {L : Option (Env → Int)}
theorem c_pass1 {j : Int} (h : CW M B) (hs : stp B) (hy : B 8 < 9999) (t : TxL M (rul M) j 0 2 L) : wc X (d + 4) 105 [(22, 341), (24, 10)] M (fun q M1 => q = some (0, (psA L B).2) ∧ CW M1 (psA L B).1 ∧ Cf M M1) := by
  refine wc.mono (c_passYear (d := d) (c := 10) (Or.inl rfl) h.pc (by rw [h.gnt]; exact h.ai.t4) hy t) ?_
  rintro q M1 ⟨rfl, pc, fc⟩
  exact ⟨rfl, h.nw hs fc (ps_e h.ai.an) pc.mr (ps_mi h.ai.an hy), Cf.fc fc⟩
theorem c_passYears {n : Nat} (h : CW M A) (hn : n ≤ 99) (t : TxL M (rul M) (A 4) 0 2 L) : wc X (d + 5) 104 [(22, 341), (0, (n : Int))] M (fun q M1 => q = some (0, (yr L A n).2) ∧ CW M1 (yr L A n).1 ∧ Cf M M1) := by
  show wp X (d + 5) 104 0 [(22, 341), (0, (n : Int)), (9, 0), (9, 0)] [] M _
  simp only [w104_0, w104_1, w104_2, w104_3, ↓reduceIte, hh_wr, hl_wr, b10, b11, ite_not, ne_eq, Int.reduceEq, Int.reduceLE, Int.reduceLT, Int.reduceNe, Int.reduceNeg, Int.reduceAdd, Int.reduceSub, Int.reduceMul, not_false_eq_true, not_true_eq_false, false_and, and_false, true_and, and_true, and_self, true_or, or_true, false_or, or_false, if_true, if_false, ite_true, ite_false, mj_tl_some, mj_tl_none, mj_cs0, mj_cs1, mj_cs2, mj_cs3, mj_cs4]
  have key : ∀ (m k : Nat) (M1 : mj_M), k + m = n → CW M1 (yr L A k).1 → Cf M M1 → wp X (d + 5) 104 4 [(22, 341), (0, (n : Int)), (0, (yr L A k).2), (0, (k : Int))] [] M1 (fun q M1 => q = some (0, (yr L A n).2) ∧ CW M1 (yr L A n).1 ∧ Cf M M1) := by
    intro m
    induction m with
    | zero =>
      intro k M1 e h1 c1
      have : k = n := by omega
      subst this
      rw [w104_4]
      simp only [w104_0, w104_1, w104_2, w104_3, w104_5, w104_6, w104_9, w104_10, w104_13, w104_16, w104_19, w104_22, w104_25, w104_26, w104_29, w104_32, w104_33, w104_34, w104_35, w104_38, w104_41, w104_44, w104_45, w104_46, w104_49, w104_52, w104_53, show ((k : Int)) ≤ (k : Int) from Int.le_refl _, Int.lt_irrefl, ↓reduceIte, hh_wr, hl_wr, b10, b11, ite_not, ne_eq, Int.reduceEq, Int.reduceLE, Int.reduceLT, Int.reduceNe, Int.reduceNeg, Int.reduceAdd, Int.reduceSub, Int.reduceMul, not_false_eq_true, not_true_eq_false, false_and, and_false, true_and, and_true, and_self, true_or, or_true, false_or, or_false, if_true, if_false, ite_true, ite_false, mj_tl_some, mj_tl_none, mj_cs0, mj_cs1, mj_cs2, mj_cs3, mj_cs4]
      exact ⟨h1, c1⟩
    | succ m ih =>
      intro k M1 e h1 c1
      have yi := yr_i (L := L) h.ai k
      have ylt : (yr L A k).1 8 ≤ 9999 := yi.ai.now.y9
      rw [w104_4]
      by_cases h9 : (yr L A k).1 8 = 9999
      · have ec : yr L A n = yr L A k := by rw [← e]; exact yr_cap h9 _
        rw [ec]
        simp only [w104_0, w104_1, w104_2, w104_3, w104_5, w104_6, w104_9, w104_10, w104_13, w104_16, w104_19, w104_22, w104_25, w104_26, w104_29, w104_32, w104_33, w104_34, w104_35, w104_38, w104_41, w104_44, w104_45, w104_46, w104_49, w104_52, w104_53, c_1_0 h1.cs, c_1_1 h1.cs, c_1_2 h1.cs, c_1_3 h1.cs, c_1_4 h1.cs, c_1_5 h1.cs, c_1_6 h1.cs, c_1_7 h1.cs, c_1_8 h1.cs, c_2_0 h1.cs, c_2_1 h1.cs, c_5_0 h1.cs, c_5_1 h1.cs, c_5_2 h1.cs, c_5_3 h1.cs, c_5_5 h1.cs, c_5_8 h1.cs, c_5_11 h1.cs, c_6_1 h1.cs, c_6_2 h1.cs, c_6_3 h1.cs, c_10_4 h1.cs, c_10_5 h1.cs, c_10_6 h1.cs, c_10_7 h1.cs, c_15_1 h1.cs, c_17_1 h1.cs, c_339_0 h1.cs, c_341_0 h1.cs, c_341_1 h1.cs, c_341_2 h1.cs, c_342_4 h1.cs, c_342_5 h1.cs, c_342_6 h1.cs, c_342_7 h1.cs, c_347_0 h1.cs, c_347_2 h1.cs, c_347_3 h1.cs, c_349_0 h1.cs, c_349_1 h1.cs, c_349_2 h1.cs, c_351_2 h1.cs, c_351_10 h1.cs, c_351_12 h1.cs, c_354_0 h1.cs, c_354_1 h1.cs, c_354_2 h1.cs, c_354_3 h1.cs, c_354_4 h1.cs, c_354_5 h1.cs, c_354_6 h1.cs, c_354_7 h1.cs, c_354_8 h1.cs, c_354_20 h1.cs, c_354_25 h1.cs, c_354_26 h1.cs, c_354_27 h1.cs, c_354_28 h1.cs, c_354_32 h1.cs, c_354_33 h1.cs, c_354_34 h1.cs, c_354_35 h1.cs, c_354_38 h1.cs, l_3 h1.cs, l_4 h1.cs, l_7 h1.cs, l_8 h1.cs, l_9 h1.cs, l_11 h1.cs, l_12 h1.cs, l_13 h1.cs, l_14 h1.cs, l_16 h1.cs, l_18 h1.cs, l_19 h1.cs, l_20 h1.cs, l_21 h1.cs, l_340 h1.cs, l_343 h1.cs, l_344 h1.cs, l_345 h1.cs, l_346 h1.cs, l_348 h1.cs, l_350 h1.cs, l_352 h1.cs, l_353 h1.cs, l_355 h1.cs, l_356 h1.cs, l_357 h1.cs, l_358 h1.cs, l_359 h1.cs, l_360 h1.cs, l_361 h1.cs, l_362 h1.cs, l_363 h1.cs, l_364 h1.cs, l_365 h1.cs, l_366 h1.cs, l_367 h1.cs, l_368 h1.cs, l_369 h1.cs, l_370 h1.cs, l_371 h1.cs, l_372 h1.cs, l_373 h1.cs, h1.gnf, h1.gP, h1.gy, h1.gx, h1.gt, h1.gns, h1.gnt, h1.gru, h1.gnp, h1.gnd, h1.gne, h9, show ¬ (n : Int) ≤ (k : Int) by omega, show (k : Int) < (n : Int) by omega, ↓reduceIte, hh_wr, hl_wr, b10, b11, ite_not, ne_eq, Int.reduceEq, Int.reduceLE, Int.reduceLT, Int.reduceNe, Int.reduceNeg, Int.reduceAdd, Int.reduceSub, Int.reduceMul, not_false_eq_true, not_true_eq_false, false_and, and_false, true_and, and_true, and_self, true_or, or_true, false_or, or_false, if_true, if_false, ite_true, ite_false, mj_tl_some, mj_tl_none, mj_cs0, mj_cs1, mj_cs2, mj_cs3, mj_cs4]
        exact ⟨h1, c1⟩
      · simp only [w104_5, w104_6, w104_9, w104_10, w104_13, w104_16, w104_19, w104_22, w104_25, w104_26, w104_29, c_1_0 h1.cs, c_1_1 h1.cs, c_1_2 h1.cs, c_1_3 h1.cs, c_1_4 h1.cs, c_1_5 h1.cs, c_1_6 h1.cs, c_1_7 h1.cs, c_1_8 h1.cs, c_2_0 h1.cs, c_2_1 h1.cs, c_5_0 h1.cs, c_5_1 h1.cs, c_5_2 h1.cs, c_5_3 h1.cs, c_5_5 h1.cs, c_5_8 h1.cs, c_5_11 h1.cs, c_6_1 h1.cs, c_6_2 h1.cs, c_6_3 h1.cs, c_10_4 h1.cs, c_10_5 h1.cs, c_10_6 h1.cs, c_10_7 h1.cs, c_15_1 h1.cs, c_17_1 h1.cs, c_339_0 h1.cs, c_341_0 h1.cs, c_341_1 h1.cs, c_341_2 h1.cs, c_342_4 h1.cs, c_342_5 h1.cs, c_342_6 h1.cs, c_342_7 h1.cs, c_347_0 h1.cs, c_347_2 h1.cs, c_347_3 h1.cs, c_349_0 h1.cs, c_349_1 h1.cs, c_349_2 h1.cs, c_351_2 h1.cs, c_351_10 h1.cs, c_351_12 h1.cs, c_354_0 h1.cs, c_354_1 h1.cs, c_354_2 h1.cs, c_354_3 h1.cs, c_354_4 h1.cs, c_354_5 h1.cs, c_354_6 h1.cs, c_354_7 h1.cs, c_354_8 h1.cs, c_354_20 h1.cs, c_354_25 h1.cs, c_354_26 h1.cs, c_354_27 h1.cs, c_354_28 h1.cs, c_354_32 h1.cs, c_354_33 h1.cs, c_354_34 h1.cs, c_354_35 h1.cs, c_354_38 h1.cs, l_3 h1.cs, l_4 h1.cs, l_7 h1.cs, l_8 h1.cs, l_9 h1.cs, l_11 h1.cs, l_12 h1.cs, l_13 h1.cs, l_14 h1.cs, l_16 h1.cs, l_18 h1.cs, l_19 h1.cs, l_20 h1.cs, l_21 h1.cs, l_340 h1.cs, l_343 h1.cs, l_344 h1.cs, l_345 h1.cs, l_346 h1.cs, l_348 h1.cs, l_350 h1.cs, l_352 h1.cs, l_353 h1.cs, l_355 h1.cs, l_356 h1.cs, l_357 h1.cs, l_358 h1.cs, l_359 h1.cs, l_360 h1.cs, l_361 h1.cs, l_362 h1.cs, l_363 h1.cs, l_364 h1.cs, l_365 h1.cs, l_366 h1.cs, l_367 h1.cs, l_368 h1.cs, l_369 h1.cs, l_370 h1.cs, l_371 h1.cs, l_372 h1.cs, l_373 h1.cs, h1.gnf, h1.gP, h1.gy, h1.gx, h1.gt, h1.gns, h1.gnt, h1.gru, h1.gnp, h1.gnd, h1.gne, show ¬ (9999 : Int) ≤ (yr L A k).1 8 by omega, show (yr L A k).1 8 < 9999 by omega, show ¬ (n : Int) ≤ (k : Int) by omega, show (k : Int) < (n : Int) by omega, ↓reduceIte, hh_wr, hl_wr, b10, b11, ite_not, ne_eq, Int.reduceEq, Int.reduceLE, Int.reduceLT, Int.reduceNe, Int.reduceNeg, Int.reduceAdd, Int.reduceSub, Int.reduceMul, not_false_eq_true, not_true_eq_false, false_and, and_false, true_and, and_true, and_self, true_or, or_true, false_or, or_false, if_true, if_false, ite_true, ite_false, mj_tl_some, mj_tl_none, mj_cs0, mj_cs1, mj_cs2, mj_cs3, mj_cs4]
        refine wc.mono (c_addStep (d := d + 2) h1) ?_
        rintro q M2 ⟨rfl, h2, c2⟩
        have kk := fun j hj => kst_k (j := j) yi.ai hj
        have c12 := c1.tr c2
        have t2 : TxL M2 (rul M2) (A 4) 0 2 L := by
          rw [h.ru h2 c12 (by rw [kk 3 (by omega)]; exact yi.e3) (by rw [kk 4 (by omega)]; exact yi.e4)]
          exact t.fz c12.f (by decide)
        simp only [w104_32, w104_33, w104_34, w104_35, w104_38, w104_41, c_1_0 h2.cs, c_1_1 h2.cs, c_1_2 h2.cs, c_1_3 h2.cs, c_1_4 h2.cs, c_1_5 h2.cs, c_1_6 h2.cs, c_1_7 h2.cs, c_1_8 h2.cs, c_2_0 h2.cs, c_2_1 h2.cs, c_5_0 h2.cs, c_5_1 h2.cs, c_5_2 h2.cs, c_5_3 h2.cs, c_5_5 h2.cs, c_5_8 h2.cs, c_5_11 h2.cs, c_6_1 h2.cs, c_6_2 h2.cs, c_6_3 h2.cs, c_10_4 h2.cs, c_10_5 h2.cs, c_10_6 h2.cs, c_10_7 h2.cs, c_15_1 h2.cs, c_17_1 h2.cs, c_339_0 h2.cs, c_341_0 h2.cs, c_341_1 h2.cs, c_341_2 h2.cs, c_342_4 h2.cs, c_342_5 h2.cs, c_342_6 h2.cs, c_342_7 h2.cs, c_347_0 h2.cs, c_347_2 h2.cs, c_347_3 h2.cs, c_349_0 h2.cs, c_349_1 h2.cs, c_349_2 h2.cs, c_351_2 h2.cs, c_351_10 h2.cs, c_351_12 h2.cs, c_354_0 h2.cs, c_354_1 h2.cs, c_354_2 h2.cs, c_354_3 h2.cs, c_354_4 h2.cs, c_354_5 h2.cs, c_354_6 h2.cs, c_354_7 h2.cs, c_354_8 h2.cs, c_354_20 h2.cs, c_354_25 h2.cs, c_354_26 h2.cs, c_354_27 h2.cs, c_354_28 h2.cs, c_354_32 h2.cs, c_354_33 h2.cs, c_354_34 h2.cs, c_354_35 h2.cs, c_354_38 h2.cs, l_3 h2.cs, l_4 h2.cs, l_7 h2.cs, l_8 h2.cs, l_9 h2.cs, l_11 h2.cs, l_12 h2.cs, l_13 h2.cs, l_14 h2.cs, l_16 h2.cs, l_18 h2.cs, l_19 h2.cs, l_20 h2.cs, l_21 h2.cs, l_340 h2.cs, l_343 h2.cs, l_344 h2.cs, l_345 h2.cs, l_346 h2.cs, l_348 h2.cs, l_350 h2.cs, l_352 h2.cs, l_353 h2.cs, l_355 h2.cs, l_356 h2.cs, l_357 h2.cs, l_358 h2.cs, l_359 h2.cs, l_360 h2.cs, l_361 h2.cs, l_362 h2.cs, l_363 h2.cs, l_364 h2.cs, l_365 h2.cs, l_366 h2.cs, l_367 h2.cs, l_368 h2.cs, l_369 h2.cs, l_370 h2.cs, l_371 h2.cs, l_372 h2.cs, l_373 h2.cs, h2.gnf, h2.gP, h2.gy, h2.gx, h2.gt, h2.gns, h2.gnt, h2.gru, h2.gnp, h2.gnd, h2.gne, ↓reduceIte, hh_wr, hl_wr, b10, b11, ite_not, ne_eq, Int.reduceEq, Int.reduceLE, Int.reduceLT, Int.reduceNe, Int.reduceNeg, Int.reduceAdd, Int.reduceSub, Int.reduceMul, not_false_eq_true, not_true_eq_false, false_and, and_false, true_and, and_true, and_self, true_or, or_true, false_or, or_false, if_true, if_false, ite_true, ite_false, mj_tl_some, mj_tl_none, mj_cs0, mj_cs1, mj_cs2, mj_cs3, mj_cs4]
        refine wc.mono (c_pass1 (d := d) h2 (kst_stp yi.ai) (by rw [kk 8 (by omega)]; omega) t2) ?_
        rintro q M3 ⟨rfl, h3, c3⟩
        have e1 : yr L A (k + 1) = ((psA L (kst (yr L A k).1)).1, (yr L A k).2 + (psA L (kst (yr L A k).1)).2) := by
          show yrS L k (yr L A k) = _
          exact if_neg h9
        have yc := yi.c
        have pc := ps_c (L := L) (kst_ai yi.ai).an
        have := ih (k + 1) M3 (by omega) (by rw [e1]; exact h3) (c12.tr c3)
        rw [e1] at this
        simp only [w104_44, w104_45, w104_46, w104_49, aj (x := (yr L A k).2) (y := (psA L (kst (yr L A k).1)).2) ⟨by omega, by omega⟩, aj (x := (k : Int)) (y := 1) ⟨by omega, by omega⟩, ↓reduceIte, hh_wr, hl_wr, b10, b11, ite_not, ne_eq, Int.reduceEq, Int.reduceLE, Int.reduceLT, Int.reduceNe, Int.reduceNeg, Int.reduceAdd, Int.reduceSub, Int.reduceMul, not_false_eq_true, not_true_eq_false, false_and, and_false, true_and, and_true, and_self, true_or, or_true, false_or, or_false, if_true, if_false, ite_true, ite_false, mj_tl_some, mj_tl_none, mj_cs0, mj_cs1, mj_cs2, mj_cs3, mj_cs4]
        exact this
  exact key n 0 M (by omega) h Cf.rfl'
theorem m_arePassed {r : Int} {n : Nat} (h : RW M) (hn : n ≤ 99) (t : TxL M r (hh M 355 4) 0 2 L) : wc X (d + 9) 287 [(32, 354), (0, (n : Int))] M (fun q M1 => q = some (0, if hh M 355 8 + n ≤ 9999 then 1 else 0) ∧ fz [3, 8] M M1 ∧ hh M1 355 = (yr L (hh M 355) n).1 ∧ hh M1 354 37 = (yr L (hh M 355) n).2) := by
  show wp X (d + 9) 287 0 [(32, 354), (0, (n : Int)), (9, 0)] [] M _
  simp only [w287_0, w287_1, w287_2, w287_5, w287_6, ↓reduceIte, hh_wr, hl_wr, b10, b11, ite_not, ne_eq, Int.reduceEq, Int.reduceLE, Int.reduceLT, Int.reduceNe, Int.reduceNeg, Int.reduceAdd, Int.reduceSub, Int.reduceMul, not_false_eq_true, not_true_eq_false, false_and, and_false, true_and, and_true, and_self, true_or, or_true, false_or, or_false, if_true, if_false, ite_true, ite_false, mj_tl_some, mj_tl_none, mj_cs0, mj_cs1, mj_cs2, mj_cs3, mj_cs4]
  have key : ∀ (m k : Nat) (M1 : mj_M), k + m = n → hh M 355 8 + k ≤ 9999 → fz [3, 8] M M1 → hh M1 355 = (yr L (hh M 355) k).1 → hh M1 354 37 = (yr L (hh M 355) k).2 → wp X (d + 9) 287 7 [(32, 354), (0, (n : Int)), (0, (k : Int))] [] M1 (fun q M1 => q = some (0, if hh M 355 8 + n ≤ 9999 then 1 else 0) ∧ fz [3, 8] M M1 ∧ hh M1 355 = (yr L (hh M 355) n).1 ∧ hh M1 354 37 = (yr L (hh M 355) n).2) := by
    intro m
    induction m with
    | zero =>
      intro k M1 e hk f1 r1 g1
      have : k = n := by omega
      subst this
      rw [w287_7]
      simp only [w287_0, w287_1, w287_2, w287_5, w287_6, w287_8, w287_9, w287_12, w287_13, w287_16, w287_18, w287_19, w287_22, w287_25, w287_26_i, w287_26_0, w287_26_1, w287_27, w287_28, w287_31, w287_32, w287_35, w287_38, w287_41, w287_42_i, w287_42_0, w287_42_1, show ((k : Int)) ≤ (k : Int) from Int.le_refl _, hk, Int.lt_irrefl, ↓reduceIte, hh_wr, hl_wr, b10, b11, ite_not, ne_eq, Int.reduceEq, Int.reduceLE, Int.reduceLT, Int.reduceNe, Int.reduceNeg, Int.reduceAdd, Int.reduceSub, Int.reduceMul, not_false_eq_true, not_true_eq_false, false_and, and_false, true_and, and_true, and_self, true_or, or_true, false_or, or_false, if_true, if_false, ite_true, ite_false, mj_tl_some, mj_tl_none, mj_cs0, mj_cs1, mj_cs2, mj_cs3, mj_cs4]
      exact ⟨f1, r1, g1⟩
    | succ m ih =>
      intro k M1 e hk f1 r1 g1
      have yi := yr_i (L := L) h.ai k
      have ylt : (yr L (hh M 355) k).1 8 ≤ 9999 := yi.ai.now.y9
      have hy := yi.y
      rw [if_pos hk] at hy
      have hc1 := h.cs.fz f1 (by decide)
      have y1 : hh M1 355 8 = hh M 355 8 + k := by rw [r1]; exact hy
      rw [w287_7]
      by_cases h9 : hh M 355 8 + k = 9999
      · have ec : yr L (hh M 355) n = yr L (hh M 355) k := by rw [← e]; exact yr_cap (hy.trans h9) _
        rw [ec]
        simp only [w287_0, w287_1, w287_2, w287_5, w287_6, w287_8, w287_9, w287_12, w287_13, w287_16, w287_18, w287_19, w287_22, w287_25, w287_26_i, w287_26_0, w287_26_1, w287_27, w287_28, w287_31, w287_32, w287_35, w287_38, w287_41, w287_42_i, w287_42_0, w287_42_1, c_1_0 hc1, c_1_1 hc1, c_1_2 hc1, c_1_3 hc1, c_1_4 hc1, c_1_5 hc1, c_1_6 hc1, c_1_7 hc1, c_1_8 hc1, c_2_0 hc1, c_2_1 hc1, c_5_0 hc1, c_5_1 hc1, c_5_2 hc1, c_5_3 hc1, c_5_5 hc1, c_5_8 hc1, c_5_11 hc1, c_6_1 hc1, c_6_2 hc1, c_6_3 hc1, c_10_4 hc1, c_10_5 hc1, c_10_6 hc1, c_10_7 hc1, c_15_1 hc1, c_17_1 hc1, c_339_0 hc1, c_341_0 hc1, c_341_1 hc1, c_341_2 hc1, c_342_4 hc1, c_342_5 hc1, c_342_6 hc1, c_342_7 hc1, c_347_0 hc1, c_347_2 hc1, c_347_3 hc1, c_349_0 hc1, c_349_1 hc1, c_349_2 hc1, c_351_2 hc1, c_351_10 hc1, c_351_12 hc1, c_354_0 hc1, c_354_1 hc1, c_354_2 hc1, c_354_3 hc1, c_354_4 hc1, c_354_5 hc1, c_354_6 hc1, c_354_7 hc1, c_354_8 hc1, c_354_20 hc1, c_354_25 hc1, c_354_26 hc1, c_354_27 hc1, c_354_28 hc1, c_354_32 hc1, c_354_33 hc1, c_354_34 hc1, c_354_35 hc1, c_354_38 hc1, l_3 hc1, l_4 hc1, l_7 hc1, l_8 hc1, l_9 hc1, l_11 hc1, l_12 hc1, l_13 hc1, l_14 hc1, l_16 hc1, l_18 hc1, l_19 hc1, l_20 hc1, l_21 hc1, l_340 hc1, l_343 hc1, l_344 hc1, l_345 hc1, l_346 hc1, l_348 hc1, l_350 hc1, l_352 hc1, l_353 hc1, l_355 hc1, l_356 hc1, l_357 hc1, l_358 hc1, l_359 hc1, l_360 hc1, l_361 hc1, l_362 hc1, l_363 hc1, l_364 hc1, l_365 hc1, l_366 hc1, l_367 hc1, l_368 hc1, l_369 hc1, l_370 hc1, l_371 hc1, l_372 hc1, l_373 hc1, y1, h9, show ¬ (n : Int) ≤ (k : Int) by omega, show (k : Int) < (n : Int) by omega, show ¬ hh M 355 8 + (n : Int) ≤ 9999 by omega, ↓reduceIte, hh_wr, hl_wr, b10, b11, ite_not, ne_eq, Int.reduceEq, Int.reduceLE, Int.reduceLT, Int.reduceNe, Int.reduceNeg, Int.reduceAdd, Int.reduceSub, Int.reduceMul, not_false_eq_true, not_true_eq_false, false_and, and_false, true_and, and_true, and_self, true_or, or_true, false_or, or_false, if_true, if_false, ite_true, ite_false, mj_tl_some, mj_tl_none, mj_cs0, mj_cs1, mj_cs2, mj_cs3, mj_cs4]
        exact ⟨f1, r1, g1⟩
      · simp only [w287_8, w287_9, w287_12, w287_13, w287_16, w287_18, w287_19, w287_22, w287_27, w287_28, c_1_0 hc1, c_1_1 hc1, c_1_2 hc1, c_1_3 hc1, c_1_4 hc1, c_1_5 hc1, c_1_6 hc1, c_1_7 hc1, c_1_8 hc1, c_2_0 hc1, c_2_1 hc1, c_5_0 hc1, c_5_1 hc1, c_5_2 hc1, c_5_3 hc1, c_5_5 hc1, c_5_8 hc1, c_5_11 hc1, c_6_1 hc1, c_6_2 hc1, c_6_3 hc1, c_10_4 hc1, c_10_5 hc1, c_10_6 hc1, c_10_7 hc1, c_15_1 hc1, c_17_1 hc1, c_339_0 hc1, c_341_0 hc1, c_341_1 hc1, c_341_2 hc1, c_342_4 hc1, c_342_5 hc1, c_342_6 hc1, c_342_7 hc1, c_347_0 hc1, c_347_2 hc1, c_347_3 hc1, c_349_0 hc1, c_349_1 hc1, c_349_2 hc1, c_351_2 hc1, c_351_10 hc1, c_351_12 hc1, c_354_0 hc1, c_354_1 hc1, c_354_2 hc1, c_354_3 hc1, c_354_4 hc1, c_354_5 hc1, c_354_6 hc1, c_354_7 hc1, c_354_8 hc1, c_354_20 hc1, c_354_25 hc1, c_354_26 hc1, c_354_27 hc1, c_354_28 hc1, c_354_32 hc1, c_354_33 hc1, c_354_34 hc1, c_354_35 hc1, c_354_38 hc1, l_3 hc1, l_4 hc1, l_7 hc1, l_8 hc1, l_9 hc1, l_11 hc1, l_12 hc1, l_13 hc1, l_14 hc1, l_16 hc1, l_18 hc1, l_19 hc1, l_20 hc1, l_21 hc1, l_340 hc1, l_343 hc1, l_344 hc1, l_345 hc1, l_346 hc1, l_348 hc1, l_350 hc1, l_352 hc1, l_353 hc1, l_355 hc1, l_356 hc1, l_357 hc1, l_358 hc1, l_359 hc1, l_360 hc1, l_361 hc1, l_362 hc1, l_363 hc1, l_364 hc1, l_365 hc1, l_366 hc1, l_367 hc1, l_368 hc1, l_369 hc1, l_370 hc1, l_371 hc1, l_372 hc1, l_373 hc1, y1, h9, show ¬ (n : Int) ≤ (k : Int) by omega, show (k : Int) < (n : Int) by omega, ↓reduceIte, hh_wr, hl_wr, b10, b11, ite_not, ne_eq, Int.reduceEq, Int.reduceLE, Int.reduceLT, Int.reduceNe, Int.reduceNeg, Int.reduceAdd, Int.reduceSub, Int.reduceMul, not_false_eq_true, not_true_eq_false, false_and, and_false, true_and, and_true, and_self, true_or, or_true, false_or, or_false, if_true, if_false, ite_true, ite_false, mj_tl_some, mj_tl_none, mj_cs0, mj_cs1, mj_cs2, mj_cs3, mj_cs4]
        refine wc.mono (m_keepStep (d := d + 7) hc1 (by rw [r1]; exact yi.ai.n5)) ?_
        rintro q M2 ⟨rfl, f2, r2⟩
        rw [r1] at r2
        have kk := fun j hj => kst_k (j := j) yi.ai hj
        have ka := kst_ai yi.ai
        have f2' : fz [3, 8] M1 M2 := f2.mono (fun z hz => by simp at hz ⊢; omega)
        have f12 := f1.tr f2'
        have t2 : TxL M2 r (hh M2 355 4) 0 2 L := by
          rw [r2, kk 4 (by omega), yi.e4]
          exact t.fz f12 (by decide)
        have g2 : hh M2 354 37 = (yr L (hh M 355) k).2 := (f2.h 354 37 (by decide)).trans g1
        simp only [w287_31, w287_32, ↓reduceIte, hh_wr, hl_wr, b10, b11, ite_not, ne_eq, Int.reduceEq, Int.reduceLE, Int.reduceLT, Int.reduceNe, Int.reduceNeg, Int.reduceAdd, Int.reduceSub, Int.reduceMul, not_false_eq_true, not_true_eq_false, false_and, and_false, true_and, and_true, and_self, true_or, or_true, false_or, or_false, if_true, if_false, ite_true, ite_false, mj_tl_some, mj_tl_none, mj_cs0, mj_cs1, mj_cs2, mj_cs3, mj_cs4]
        refine wc.mono (m_pass (d := d) (hc1.fz f2 (by decide)) (by rw [r2]; exact ka.an) (by rw [r2, kk 8 (by omega)]; omega) t2) ?_
        rintro q M3 ⟨rfl, f3, r3, g3⟩
        rw [r2] at r3 g3
        have yc := yi.c
        have e1 : yr L (hh M 355) (k + 1) = ((psA L (kst (yr L (hh M 355) k).1)).1, (yr L (hh M 355) k).2 + (psA L (kst (yr L (hh M 355) k).1)).2) := by
          show yrS L k (yr L (hh M 355) k) = _
          exact if_neg (by omega)
        simp only [w287_35, w287_38, aj (x := (k : Int)) (y := 1) ⟨by omega, by omega⟩, ↓reduceIte, hh_wr, hl_wr, b10, b11, ite_not, ne_eq, Int.reduceEq, Int.reduceLE, Int.reduceLT, Int.reduceNe, Int.reduceNeg, Int.reduceAdd, Int.reduceSub, Int.reduceMul, not_false_eq_true, not_true_eq_false, false_and, and_false, true_and, and_true, and_self, true_or, or_true, false_or, or_false, if_true, if_false, ite_true, ite_false, mj_tl_some, mj_tl_none, mj_cs0, mj_cs1, mj_cs2, mj_cs3, mj_cs4]
        refine ih (k + 1) M3 (by omega) (by omega) (f12.tr f3) (by rw [e1]; exact r3) ?_
        rw [g2] at g3
        rw [e1]
        exact g3 ⟨by omega, by omega⟩
  have y9 : hh M 355 8 ≤ 9999 := h.ai.now.y9
  have f0 : fz [3, 8] M (mj_wr M 354 37 0) := fz.rfl'.wr (by decide)
  refine key n 0 _ (by omega) (by omega) f0 ?_ ?_
  · funext j; rw [hh_wr, if_neg (by omega)]; rfl
  · rw [hh_wr, if_pos ⟨rfl, rfl⟩]; rfl
theorem st11 : St11 RR (d + 60) := by
  intro X M n h i1
  obtain ⟨L, _, t, _⟩ := h.lw
  unfold LS2
  have gy := h.gy
  have y0 : 0 ≤ hh M 355 8 := h.ai.now.y0
  have y9 : hh M 355 8 ≤ 9999 := h.ai.now.y9
  show wp X (d + 60) 103 0 [(31, 1), (0, n)] [] M _
  by_cases hn : 1 ≤ n ∧ n ≤ 60
  · have a1 : ji_add (hh M 355 8) n = hh M 355 8 + n := aj ⟨by omega, by omega⟩
    by_cases h9 : hh M 355 8 + n ≤ 9999
    · obtain ⟨m, rfl⟩ := nat_of (show 0 ≤ n by omega)
      simp only [w103_0, w103_1, w103_2, w103_5, w103_6, w103_8, w103_11, w103_12, w103_15, w103_18, w103_21, w103_22, w103_23, w103_26, w103_31, w103_32, w103_35, w103_36, c_1_0 h.cs, c_1_1 h.cs, c_1_2 h.cs, c_1_3 h.cs, c_1_4 h.cs, c_1_5 h.cs, c_1_6 h.cs, c_1_7 h.cs, c_1_8 h.cs, c_2_0 h.cs, c_2_1 h.cs, c_5_0 h.cs, c_5_1 h.cs, c_5_2 h.cs, c_5_3 h.cs, c_5_5 h.cs, c_5_8 h.cs, c_5_11 h.cs, c_6_1 h.cs, c_6_2 h.cs, c_6_3 h.cs, c_10_4 h.cs, c_10_5 h.cs, c_10_6 h.cs, c_10_7 h.cs, c_15_1 h.cs, c_17_1 h.cs, c_339_0 h.cs, c_341_0 h.cs, c_341_1 h.cs, c_341_2 h.cs, c_342_4 h.cs, c_342_5 h.cs, c_342_6 h.cs, c_342_7 h.cs, c_347_0 h.cs, c_347_2 h.cs, c_347_3 h.cs, c_349_0 h.cs, c_349_1 h.cs, c_349_2 h.cs, c_351_2 h.cs, c_351_10 h.cs, c_351_12 h.cs, c_354_0 h.cs, c_354_1 h.cs, c_354_2 h.cs, c_354_3 h.cs, c_354_4 h.cs, c_354_5 h.cs, c_354_6 h.cs, c_354_7 h.cs, c_354_8 h.cs, c_354_20 h.cs, c_354_25 h.cs, c_354_26 h.cs, c_354_27 h.cs, c_354_28 h.cs, c_354_32 h.cs, c_354_33 h.cs, c_354_34 h.cs, c_354_35 h.cs, c_354_38 h.cs, l_3 h.cs, l_4 h.cs, l_7 h.cs, l_8 h.cs, l_9 h.cs, l_11 h.cs, l_12 h.cs, l_13 h.cs, l_14 h.cs, l_16 h.cs, l_18 h.cs, l_19 h.cs, l_20 h.cs, l_21 h.cs, l_340 h.cs, l_343 h.cs, l_344 h.cs, l_345 h.cs, l_346 h.cs, l_348 h.cs, l_350 h.cs, l_352 h.cs, l_353 h.cs, l_355 h.cs, l_356 h.cs, l_357 h.cs, l_358 h.cs, l_359 h.cs, l_360 h.cs, l_361 h.cs, l_362 h.cs, l_363 h.cs, l_364 h.cs, l_365 h.cs, l_366 h.cs, l_367 h.cs, l_368 h.cs, l_369 h.cs, l_370 h.cs, l_371 h.cs, l_372 h.cs, l_373 h.cs, h.gnf, h.gP, h.gy, h.gx, h.gt, h.gns, h.gnt, h.gru, h.gnp, h.gnd, h.gne, a1, show ¬ (m : Int) < 1 by omega, show ¬ (60 : Int) < (m : Int) by omega, show (1 : Int) ≤ (m : Int) by omega, show (m : Int) ≤ 60 by omega, h9, ↓reduceIte, hh_wr, hl_wr, b10, b11, ite_not, ne_eq, Int.reduceEq, Int.reduceLE, Int.reduceLT, Int.reduceNe, Int.reduceNeg, Int.reduceAdd, Int.reduceSub, Int.reduceMul, not_false_eq_true, not_true_eq_false, false_and, and_false, true_and, and_true, and_self, true_or, or_true, false_or, or_false, if_true, if_false, ite_true, ite_false, mj_tl_some, mj_tl_none, mj_cs0, mj_cs1, mj_cs2, mj_cs3, mj_cs4]
      refine wc.mono (c_passYears (d := d + 54) h.cw (by omega) t) ?_
      rintro q M1 ⟨rfl, h1, c1⟩
      have e5 : hh M1 355 = hh M 355 := c1.f.row z_355 (by decide)
      simp only [w103_0, w103_1, w103_2, w103_5, w103_6, w103_8, w103_11, w103_12, w103_15, w103_18, w103_21, w103_22, w103_23, w103_26, w103_29, w103_30, w103_31, w103_32, w103_35, w103_36, w103_39, ↓reduceIte, hh_wr, hl_wr, b10, b11, ite_not, ne_eq, Int.reduceEq, Int.reduceLE, Int.reduceLT, Int.reduceNe, Int.reduceNeg, Int.reduceAdd, Int.reduceSub, Int.reduceMul, not_false_eq_true, not_true_eq_false, false_and, and_false, true_and, and_true, and_self, true_or, or_true, false_or, or_false, if_true, if_false, ite_true, ite_false, mj_tl_some, mj_tl_none, mj_cs0, mj_cs1, mj_cs2, mj_cs3, mj_cs4]
      have rw1 : RW M1 := ⟨h1.cs, by rw [e5]; exact h.ai, h.tb.fz c1.f (by decide)⟩
      show wp X (d + 60) 286 0 [(32, 354), (0, (m : Int))] [] M1 _
      simp only [w286_0, w286_1, w286_2, w286_4, w286_7, w286_10, w286_11, w286_14, w286_16, w286_17, w286_18, w286_19, w286_22, w286_25, w286_26, w286_27, c_1_0 h1.cs, c_1_1 h1.cs, c_1_2 h1.cs, c_1_3 h1.cs, c_1_4 h1.cs, c_1_5 h1.cs, c_1_6 h1.cs, c_1_7 h1.cs, c_1_8 h1.cs, c_2_0 h1.cs, c_2_1 h1.cs, c_5_0 h1.cs, c_5_1 h1.cs, c_5_2 h1.cs, c_5_3 h1.cs, c_5_5 h1.cs, c_5_8 h1.cs, c_5_11 h1.cs, c_6_1 h1.cs, c_6_2 h1.cs, c_6_3 h1.cs, c_10_4 h1.cs, c_10_5 h1.cs, c_10_6 h1.cs, c_10_7 h1.cs, c_15_1 h1.cs, c_17_1 h1.cs, c_339_0 h1.cs, c_341_0 h1.cs, c_341_1 h1.cs, c_341_2 h1.cs, c_342_4 h1.cs, c_342_5 h1.cs, c_342_6 h1.cs, c_342_7 h1.cs, c_347_0 h1.cs, c_347_2 h1.cs, c_347_3 h1.cs, c_349_0 h1.cs, c_349_1 h1.cs, c_349_2 h1.cs, c_351_2 h1.cs, c_351_10 h1.cs, c_351_12 h1.cs, c_354_0 h1.cs, c_354_1 h1.cs, c_354_2 h1.cs, c_354_3 h1.cs, c_354_4 h1.cs, c_354_5 h1.cs, c_354_6 h1.cs, c_354_7 h1.cs, c_354_8 h1.cs, c_354_20 h1.cs, c_354_25 h1.cs, c_354_26 h1.cs, c_354_27 h1.cs, c_354_28 h1.cs, c_354_32 h1.cs, c_354_33 h1.cs, c_354_34 h1.cs, c_354_35 h1.cs, c_354_38 h1.cs, l_3 h1.cs, l_4 h1.cs, l_7 h1.cs, l_8 h1.cs, l_9 h1.cs, l_11 h1.cs, l_12 h1.cs, l_13 h1.cs, l_14 h1.cs, l_16 h1.cs, l_18 h1.cs, l_19 h1.cs, l_20 h1.cs, l_21 h1.cs, l_340 h1.cs, l_343 h1.cs, l_344 h1.cs, l_345 h1.cs, l_346 h1.cs, l_348 h1.cs, l_350 h1.cs, l_352 h1.cs, l_353 h1.cs, l_355 h1.cs, l_356 h1.cs, l_357 h1.cs, l_358 h1.cs, l_359 h1.cs, l_360 h1.cs, l_361 h1.cs, l_362 h1.cs, l_363 h1.cs, l_364 h1.cs, l_365 h1.cs, l_366 h1.cs, l_367 h1.cs, l_368 h1.cs, l_369 h1.cs, l_370 h1.cs, l_371 h1.cs, l_372 h1.cs, l_373 h1.cs, s_isIn, e5, a1, h9, hn, show ¬ (9999 : Int) < hh M 355 8 + (m : Int) by omega, ↓reduceIte, hh_wr, hl_wr, b10, b11, ite_not, ne_eq, Int.reduceEq, Int.reduceLE, Int.reduceLT, Int.reduceNe, Int.reduceNeg, Int.reduceAdd, Int.reduceSub, Int.reduceMul, not_false_eq_true, not_true_eq_false, false_and, and_false, true_and, and_true, and_self, true_or, or_true, false_or, or_false, if_true, if_false, ite_true, ite_false, mj_tl_some, mj_tl_none, mj_cs0, mj_cs1, mj_cs2, mj_cs3, mj_cs4]
      refine wc.mono (m_arePassed (d := d + 50) (n := m) rw1 (by omega) (by rw [e5]; exact t.fz c1.f (by decide))) ?_
      rintro q M2 ⟨rfl, f2, r2, g2⟩
      rw [e5] at r2 g2
      simp only [w286_0, w286_1, w286_2, w286_4, w286_7, w286_10, w286_11, w286_14, w286_16, w286_17, w286_18, w286_19, w286_22, w286_25, w286_26, w286_27, w286_30, w286_33, w286_34, w286_37, w286_40, w286_41, e5, h9, g2, ↓reduceIte, hh_wr, hl_wr, b10, b11, ite_not, ne_eq, Int.reduceEq, Int.reduceLE, Int.reduceLT, Int.reduceNe, Int.reduceNeg, Int.reduceAdd, Int.reduceSub, Int.reduceMul, not_false_eq_true, not_true_eq_false, false_and, and_false, true_and, and_true, and_self, true_or, or_true, false_or, or_false, if_true, if_false, ite_true, ite_false, mj_tl_some, mj_tl_none, mj_cs0, mj_cs1, mj_cs2, mj_cs3, mj_cs4]
      refine ⟨_, rfl, rfl, h.fin c1 h1 (f2.mono (fun z hz => by simp at hz ⊢; omega)) r2 (yr_i h.ai m).e3 ((h.co.fz c1.f (by decide)).fz f2 (by decide))⟩
    · simp only [w103_0, w103_1, w103_2, w103_5, w103_6, w103_8, w103_11, w103_12, w103_15, w103_18, w103_21, w103_22, w103_23, w103_26, w103_29, w103_30, w103_31, w103_32, w103_35, w103_36, w103_39, c_1_0 h.cs, c_1_1 h.cs, c_1_2 h.cs, c_1_3 h.cs, c_1_4 h.cs, c_1_5 h.cs, c_1_6 h.cs, c_1_7 h.cs, c_1_8 h.cs, c_2_0 h.cs, c_2_1 h.cs, c_5_0 h.cs, c_5_1 h.cs, c_5_2 h.cs, c_5_3 h.cs, c_5_5 h.cs, c_5_8 h.cs, c_5_11 h.cs, c_6_1 h.cs, c_6_2 h.cs, c_6_3 h.cs, c_10_4 h.cs, c_10_5 h.cs, c_10_6 h.cs, c_10_7 h.cs, c_15_1 h.cs, c_17_1 h.cs, c_339_0 h.cs, c_341_0 h.cs, c_341_1 h.cs, c_341_2 h.cs, c_342_4 h.cs, c_342_5 h.cs, c_342_6 h.cs, c_342_7 h.cs, c_347_0 h.cs, c_347_2 h.cs, c_347_3 h.cs, c_349_0 h.cs, c_349_1 h.cs, c_349_2 h.cs, c_351_2 h.cs, c_351_10 h.cs, c_351_12 h.cs, c_354_0 h.cs, c_354_1 h.cs, c_354_2 h.cs, c_354_3 h.cs, c_354_4 h.cs, c_354_5 h.cs, c_354_6 h.cs, c_354_7 h.cs, c_354_8 h.cs, c_354_20 h.cs, c_354_25 h.cs, c_354_26 h.cs, c_354_27 h.cs, c_354_28 h.cs, c_354_32 h.cs, c_354_33 h.cs, c_354_34 h.cs, c_354_35 h.cs, c_354_38 h.cs, l_3 h.cs, l_4 h.cs, l_7 h.cs, l_8 h.cs, l_9 h.cs, l_11 h.cs, l_12 h.cs, l_13 h.cs, l_14 h.cs, l_16 h.cs, l_18 h.cs, l_19 h.cs, l_20 h.cs, l_21 h.cs, l_340 h.cs, l_343 h.cs, l_344 h.cs, l_345 h.cs, l_346 h.cs, l_348 h.cs, l_350 h.cs, l_352 h.cs, l_353 h.cs, l_355 h.cs, l_356 h.cs, l_357 h.cs, l_358 h.cs, l_359 h.cs, l_360 h.cs, l_361 h.cs, l_362 h.cs, l_363 h.cs, l_364 h.cs, l_365 h.cs, l_366 h.cs, l_367 h.cs, l_368 h.cs, l_369 h.cs, l_370 h.cs, l_371 h.cs, l_372 h.cs, l_373 h.cs, h.gnf, h.gP, h.gy, h.gx, h.gt, h.gns, h.gnt, h.gru, h.gnp, h.gnd, h.gne, a1, show ¬ n < 1 by omega, show ¬ (60 : Int) < n by omega, show (1 : Int) ≤ n by omega, show n ≤ 60 by omega, h9, ↓reduceIte, hh_wr, hl_wr, b10, b11, ite_not, ne_eq, Int.reduceEq, Int.reduceLE, Int.reduceLT, Int.reduceNe, Int.reduceNeg, Int.reduceAdd, Int.reduceSub, Int.reduceMul, not_false_eq_true, not_true_eq_false, false_and, and_false, true_and, and_true, and_self, true_or, or_true, false_or, or_false, if_true, if_false, ite_true, ite_false, mj_tl_some, mj_tl_none, mj_cs0, mj_cs1, mj_cs2, mj_cs3, mj_cs4]
      show wp X (d + 60) 286 0 [(32, 354), (0, n)] [] M _
      simp only [w286_0, w286_1, w286_2, w286_4, w286_7, w286_10, w286_11, w286_14, w286_16, w286_17, w286_18, w286_19, w286_22, w286_25, w286_26, w286_27, w286_30, w286_33, w286_34, w286_37, w286_40, w286_41, c_1_0 h.cs, c_1_1 h.cs, c_1_2 h.cs, c_1_3 h.cs, c_1_4 h.cs, c_1_5 h.cs, c_1_6 h.cs, c_1_7 h.cs, c_1_8 h.cs, c_2_0 h.cs, c_2_1 h.cs, c_5_0 h.cs, c_5_1 h.cs, c_5_2 h.cs, c_5_3 h.cs, c_5_5 h.cs, c_5_8 h.cs, c_5_11 h.cs, c_6_1 h.cs, c_6_2 h.cs, c_6_3 h.cs, c_10_4 h.cs, c_10_5 h.cs, c_10_6 h.cs, c_10_7 h.cs, c_15_1 h.cs, c_17_1 h.cs, c_339_0 h.cs, c_341_0 h.cs, c_341_1 h.cs, c_341_2 h.cs, c_342_4 h.cs, c_342_5 h.cs, c_342_6 h.cs, c_342_7 h.cs, c_347_0 h.cs, c_347_2 h.cs, c_347_3 h.cs, c_349_0 h.cs, c_349_1 h.cs, c_349_2 h.cs, c_351_2 h.cs, c_351_10 h.cs, c_351_12 h.cs, c_354_0 h.cs, c_354_1 h.cs, c_354_2 h.cs, c_354_3 h.cs, c_354_4 h.cs, c_354_5 h.cs, c_354_6 h.cs, c_354_7 h.cs, c_354_8 h.cs, c_354_20 h.cs, c_354_25 h.cs, c_354_26 h.cs, c_354_27 h.cs, c_354_28 h.cs, c_354_32 h.cs, c_354_33 h.cs, c_354_34 h.cs, c_354_35 h.cs, c_354_38 h.cs, l_3 h.cs, l_4 h.cs, l_7 h.cs, l_8 h.cs, l_9 h.cs, l_11 h.cs, l_12 h.cs, l_13 h.cs, l_14 h.cs, l_16 h.cs, l_18 h.cs, l_19 h.cs, l_20 h.cs, l_21 h.cs, l_340 h.cs, l_343 h.cs, l_344 h.cs, l_345 h.cs, l_346 h.cs, l_348 h.cs, l_350 h.cs, l_352 h.cs, l_353 h.cs, l_355 h.cs, l_356 h.cs, l_357 h.cs, l_358 h.cs, l_359 h.cs, l_360 h.cs, l_361 h.cs, l_362 h.cs, l_363 h.cs, l_364 h.cs, l_365 h.cs, l_366 h.cs, l_367 h.cs, l_368 h.cs, l_369 h.cs, l_370 h.cs, l_371 h.cs, l_372 h.cs, l_373 h.cs, s_isIn, a1, h9, hn, show (9999 : Int) < hh M 355 8 + n by omega, ↓reduceIte, hh_wr, hl_wr, b10, b11, ite_not, ne_eq, Int.reduceEq, Int.reduceLE, Int.reduceLT, Int.reduceNe, Int.reduceNeg, Int.reduceAdd, Int.reduceSub, Int.reduceMul, not_false_eq_true, not_true_eq_false, false_and, and_false, true_and, and_true, and_self, true_or, or_true, false_or, or_false, if_true, if_false, ite_true, ite_false, mj_tl_some, mj_tl_none, mj_cs0, mj_cs1, mj_cs2, mj_cs3, mj_cs4]
      exact ⟨_, rfl, rfl, Pst.id h⟩
  · by_cases hl : n < 1
    · simp only [w103_0, w103_1, w103_2, w103_5, w103_6, w103_8, w103_11, w103_12, w103_15, w103_18, w103_21, w103_22, w103_23, w103_26, w103_29, w103_30, w103_31, w103_32, w103_35, w103_36, w103_39, hl, show ¬ (1 : Int) ≤ n by omega, ↓reduceIte, hh_wr, hl_wr, b10, b11, ite_not, ne_eq, Int.reduceEq, Int.reduceLE, Int.reduceLT, Int.reduceNe, Int.reduceNeg, Int.reduceAdd, Int.reduceSub, Int.reduceMul, not_false_eq_true, not_true_eq_false, false_and, and_false, true_and, and_true, and_self, true_or, or_true, false_or, or_false, if_true, if_false, ite_true, ite_false, mj_tl_some, mj_tl_none, mj_cs0, mj_cs1, mj_cs2, mj_cs3, mj_cs4]
      show wp X (d + 60) 286 0 [(32, 354), (0, n)] [] M _
      simp only [w286_0, w286_1, w286_2, w286_4, w286_7, w286_10, w286_11, w286_14, w286_16, w286_17, w286_18, w286_19, w286_22, w286_25, w286_26, w286_27, w286_30, w286_33, w286_34, w286_37, w286_40, w286_41, s_isIn, hn, ↓reduceIte, hh_wr, hl_wr, b10, b11, ite_not, ne_eq, Int.reduceEq, Int.reduceLE, Int.reduceLT, Int.reduceNe, Int.reduceNeg, Int.reduceAdd, Int.reduceSub, Int.reduceMul, not_false_eq_true, not_true_eq_false, false_and, and_false, true_and, and_true, and_self, true_or, or_true, false_or, or_false, if_true, if_false, ite_true, ite_false, mj_tl_some, mj_tl_none, mj_cs0, mj_cs1, mj_cs2, mj_cs3, mj_cs4]
      exact ⟨_, rfl, rfl, Pst.id h⟩
    · simp only [w103_0, w103_1, w103_2, w103_5, w103_6, w103_8, w103_11, w103_12, w103_15, w103_18, w103_21, w103_22, w103_23, w103_26, w103_29, w103_30, w103_31, w103_32, w103_35, w103_36, w103_39, hl, show (1 : Int) ≤ n by omega, show (60 : Int) < n by omega, show ¬ n ≤ 60 by omega, ↓reduceIte, hh_wr, hl_wr, b10, b11, ite_not, ne_eq, Int.reduceEq, Int.reduceLE, Int.reduceLT, Int.reduceNe, Int.reduceNeg, Int.reduceAdd, Int.reduceSub, Int.reduceMul, not_false_eq_true, not_true_eq_false, false_and, and_false, true_and, and_true, and_self, true_or, or_true, false_or, or_false, if_true, if_false, ite_true, ite_false, mj_tl_some, mj_tl_none, mj_cs0, mj_cs1, mj_cs2, mj_cs3, mj_cs4]
      show wp X (d + 60) 286 0 [(32, 354), (0, n)] [] M _
      simp only [w286_0, w286_1, w286_2, w286_4, w286_7, w286_10, w286_11, w286_14, w286_16, w286_17, w286_18, w286_19, w286_22, w286_25, w286_26, w286_27, w286_30, w286_33, w286_34, w286_37, w286_40, w286_41, s_isIn, hn, ↓reduceIte, hh_wr, hl_wr, b10, b11, ite_not, ne_eq, Int.reduceEq, Int.reduceLE, Int.reduceLT, Int.reduceNe, Int.reduceNeg, Int.reduceAdd, Int.reduceSub, Int.reduceMul, not_false_eq_true, not_true_eq_false, false_and, and_false, true_and, and_true, and_self, true_or, or_true, false_or, or_false, if_true, if_false, ite_true, ite_false, mj_tl_some, mj_tl_none, mj_cs0, mj_cs1, mj_cs2, mj_cs3, mj_cs4]
      exact ⟨_, rfl, rfl, Pst.id h⟩
end Year
