/-! LEAST: the class's way -/
theorem it_foldl {α : Type} (f : α → Int → α) (b : α) (l : List Int) : ∀ n, n ≤ l.length → it (fun i b => f b (l.getD i 0)) b n = (l.take n).foldl f b
  | 0, _ => by simp [it]
  | n + 1, h => by
    have ih := it_foldl f b l n (by omega)
    have e : it (fun i b => f b (l.getD i 0)) b (n + 1) = f (it (fun i b => f b (l.getD i 0)) b n) (l.getD n 0) := rfl
    rw [e, ih, List.take_add_one, List.foldl_append]
    have e2 : l[n]? = some (l.getD n 0) := by
      rw [List.getD_eq_getElem?_getD, List.getElem?_eq_getElem (by omega)]
      rfl
    rw [e2]
    rfl
def bwS (c : Int → Int) (b w : Int) : Int := if cst c w ≠ -1 ∧ (b = -1 ∨ cst c w < b) then cst c w else b
def bwN (c : Int → Int) : Nat → Int := it (fun i b => bwS c b (wyL.getD i 0)) (-1)
theorem bwN_40 (c : Int → Int) : bwN c 40 = bw c := by
  unfold bwN
  rw [it_foldl (bwS c) (-1) wyL 40 (by decide)]
  rfl
theorem ways_eq : mj_ways = wyL := by decide +kernel
theorem wy_r (i : Nat) : 0 ≤ wyL.getD i 0 ∧ wyL.getD i 0 ≤ 99999 := lst_rng (by decide) (by decide +kernel) i
theorem z9 (j : Int) : zone 9 j ∈ [8] := by rw [show zone 9 j = 8 from rfl]; decide
/-- how long, by how many (-1: no way) -/
def llV (A : Int → Int) (v : Int) : Int := if bw (coF A v) = -1 then -1 else bw (coF A v) / 100
def fsV (A : Int → Int) (v : Int) : Int := if bw (coF A v) = -1 then -1 else bw (coF A v) % 100
theorem coF_hc {A : Int → Int} (ai : AI A) (v : Int) : ∀ k, 0 ≤ k → k ≤ 4 → 0 ≤ coF A v k ∧ coF A v k ≤ 9 := fun k _ _ => coF_r ai v k
theorem bl_bw {A : Int → Int} (ai : AI A) (v : Int) : blA A v = 1 ↔ bw (coF A v) ≠ -1 := (bw_bl (coF_hc ai v)).symm
section Least2
variable {X : mj_X} {d : Nat} {M : mj_M} {A : Int → Int} {Q : Option mj_V → mj_M → Prop}
theorem c_fill9 (hc : CS M) : wc X d 100 [(3, 9), (0, 0)] M (fun q M1 => q = none ∧ Sk 9 M M1 ∧ ∀ k : Nat, k < 5 → hh M1 9 (k : Int) = 0) := by
  show wp X d 100 0 [(3, 9), (0, 0), (9, 0), (9, 0)] [] M _
  simp only [w100_0, w100_1, w100_2, w100_3, w100_4, l_9 hc, ↓reduceIte, hh_wr, hl_wr, b10, b11, ite_not, ne_eq, Int.reduceEq, Int.reduceLE, Int.reduceLT, Int.reduceNe, Int.reduceNeg, Int.reduceAdd, Int.reduceSub, Int.reduceMul, not_false_eq_true, not_true_eq_false, false_and, and_false, true_and, and_true, and_self, true_or, or_true, false_or, or_false, if_true, if_false, ite_true, ite_false, mj_tl_some, mj_tl_none, mj_cs0, mj_cs1, mj_cs2, mj_cs3, mj_cs4]
  refine loop1 (S := fun k M1 => wp X d 100 5 [(3, 9), (0, 0), (0, (k : Int)), (0, 5)] [] M1 (fun q M1 => q = none ∧ Sk 9 M M1 ∧ ∀ k : Nat, k < 5 → hh M1 9 (k : Int) = 0)) (I := fun k M1 => Sk 9 M M1 ∧ ∀ i : Nat, i < k → hh M1 9 (i : Int) = 0) (P := 5) ?_ ?_ M ⟨Sk.rfl', fun i hi => by omega⟩
  · rintro k M1 hk ⟨s1, h1⟩ ih
    have l9 : hl M1 9 = 5 := (s1.l 9).trans (l_9 hc)
    rw [w100_5]
    simp only [w100_0, w100_1, w100_2, w100_3, w100_4, w100_6, w100_7, w100_10, w100_11, w100_12, w100_13, w100_14, w100_17, w100_20, l9, show (k : Int) < 5 by omega, show (0 : Int) ≤ (k : Int) by omega, jp1 (p := k) (by omega), ↓reduceIte, hh_wr, hl_wr, b10, b11, ite_not, ne_eq, Int.reduceEq, Int.reduceLE, Int.reduceLT, Int.reduceNe, Int.reduceNeg, Int.reduceAdd, Int.reduceSub, Int.reduceMul, not_false_eq_true, not_true_eq_false, false_and, and_false, true_and, and_true, and_self, true_or, or_true, false_or, or_false, if_true, if_false, ite_true, ite_false, mj_tl_some, mj_tl_none, mj_cs0, mj_cs1, mj_cs2, mj_cs3, mj_cs4]
    refine ih _ ⟨s1.wr, fun i hi => ?_⟩
    rw [hh_wr]
    by_cases e : i = k
    · subst e; rw [if_pos ⟨rfl, rfl⟩]
    · rw [if_neg (by omega)]; exact h1 i (by omega)
  · rintro M1 ⟨s1, h1⟩
    simp only [w100_0, w100_1, w100_2, w100_3, w100_4, w100_5, w100_6, w100_7, w100_10, w100_11, w100_12, w100_13, w100_14, w100_17, w100_20, ct5, ↓reduceIte, hh_wr, hl_wr, b10, b11, ite_not, ne_eq, Int.reduceEq, Int.reduceLE, Int.reduceLT, Int.reduceNe, Int.reduceNeg, Int.reduceAdd, Int.reduceSub, Int.reduceMul, not_false_eq_true, not_true_eq_false, false_and, and_false, true_and, and_true, and_self, true_or, or_true, false_or, or_false, if_true, if_false, ite_true, ite_false, mj_tl_some, mj_tl_none, mj_cs0, mj_cs1, mj_cs2, mj_cs3, mj_cs4]
    exact ⟨s1, h1⟩
theorem c_findPrices {v : Int} (h : CW M A) : wc X (d + 1) 99 [(29, 6), (0, v)] M (fun q M1 => q = none ∧ Sk 9 M M1 ∧ ∀ k : Nat, k < 5 → hh M1 9 (k : Int) = coF A v (k : Int)) := by
  obtain ⟨F, hF⟩ := nat_of h.ai.f0
  have f8 := h.ai.f8
  have eF : (A 0).toNat = F := by omega
  show wp X (d + 1) 99 0 [(29, 6), (0, v), (9, 0), (9, 0), (9, 0)] [] M _
  simp only [w99_0, w99_1, w99_4, w99_5, c_1_0 h.cs, c_1_1 h.cs, c_1_2 h.cs, c_1_3 h.cs, c_1_4 h.cs, c_1_5 h.cs, c_1_6 h.cs, c_1_7 h.cs, c_1_8 h.cs, c_2_0 h.cs, c_2_1 h.cs, c_5_0 h.cs, c_5_1 h.cs, c_5_2 h.cs, c_5_3 h.cs, c_5_5 h.cs, c_5_8 h.cs, c_5_11 h.cs, c_6_1 h.cs, c_6_2 h.cs, c_6_3 h.cs, c_10_4 h.cs, c_10_5 h.cs, c_10_6 h.cs, c_10_7 h.cs, c_15_1 h.cs, c_17_1 h.cs, c_339_0 h.cs, c_341_0 h.cs, c_341_1 h.cs, c_341_2 h.cs, c_342_4 h.cs, c_342_5 h.cs, c_342_6 h.cs, c_342_7 h.cs, c_347_0 h.cs, c_347_2 h.cs, c_347_3 h.cs, c_349_0 h.cs, c_349_1 h.cs, c_349_2 h.cs, c_351_2 h.cs, c_351_10 h.cs, c_351_12 h.cs, c_354_0 h.cs, c_354_1 h.cs, c_354_2 h.cs, c_354_3 h.cs, c_354_4 h.cs, c_354_5 h.cs, c_354_6 h.cs, c_354_7 h.cs, c_354_8 h.cs, c_354_20 h.cs, c_354_25 h.cs, c_354_26 h.cs, c_354_27 h.cs, c_354_28 h.cs, c_354_32 h.cs, c_354_33 h.cs, c_354_34 h.cs, c_354_35 h.cs, c_354_38 h.cs, l_3 h.cs, l_4 h.cs, l_7 h.cs, l_8 h.cs, l_9 h.cs, l_11 h.cs, l_12 h.cs, l_13 h.cs, l_14 h.cs, l_16 h.cs, l_18 h.cs, l_19 h.cs, l_20 h.cs, l_21 h.cs, l_340 h.cs, l_343 h.cs, l_344 h.cs, l_345 h.cs, l_346 h.cs, l_348 h.cs, l_350 h.cs, l_352 h.cs, l_353 h.cs, l_355 h.cs, l_356 h.cs, l_357 h.cs, l_358 h.cs, l_359 h.cs, l_360 h.cs, l_361 h.cs, l_362 h.cs, l_363 h.cs, l_364 h.cs, l_365 h.cs, l_366 h.cs, l_367 h.cs, l_368 h.cs, l_369 h.cs, l_370 h.cs, l_371 h.cs, l_372 h.cs, l_373 h.cs, h.gnf, h.gP, h.gy, h.gx, h.gt, h.gns, h.gnt, h.gru, h.gnp, h.gnd, h.gne, ↓reduceIte, hh_wr, hl_wr, b10, b11, ite_not, ne_eq, Int.reduceEq, Int.reduceLE, Int.reduceLT, Int.reduceNe, Int.reduceNeg, Int.reduceAdd, Int.reduceSub, Int.reduceMul, not_false_eq_true, not_true_eq_false, false_and, and_false, true_and, and_true, and_self, true_or, or_true, false_or, or_false, if_true, if_false, ite_true, ite_false, mj_tl_some, mj_tl_none, mj_cs0, mj_cs1, mj_cs2, mj_cs3, mj_cs4]
  refine wc.mono (c_fill9 h.cs) ?_
  rintro q M0 ⟨rfl, s0, z0⟩
  simp only [w99_8, w99_9, ↓reduceIte, hh_wr, hl_wr, b10, b11, ite_not, ne_eq, Int.reduceEq, Int.reduceLE, Int.reduceLT, Int.reduceNe, Int.reduceNeg, Int.reduceAdd, Int.reduceSub, Int.reduceMul, not_false_eq_true, not_true_eq_false, false_and, and_false, true_and, and_true, and_self, true_or, or_true, false_or, or_false, if_true, if_false, ite_true, ite_false, mj_tl_some, mj_tl_none, mj_cs0, mj_cs1, mj_cs2, mj_cs3, mj_cs4]
  unfold coF
  rw [eF]
  refine loop1 (S := fun f (s : mj_M × mj_V × mj_V) => wp X (d + 1) 99 10 [(29, 6), (0, v), (0, (f : Int)), s.2.1, s.2.2] [] s.1 (fun q M1 => q = none ∧ Sk 9 M M1 ∧ ∀ k : Nat, k < 5 → hh M1 9 (k : Int) = co A v (k : Int) F)) (I := fun f s => Sk 9 M s.1 ∧ ∀ k : Nat, k < 5 → hh s.1 9 (k : Int) = co A v (k : Int) f) (P := F) ?_ ?_ (M0, (9, 0), (9, 0)) ⟨s0, z0⟩
  · rintro f ⟨M1, w1, w2⟩ hf ⟨s1, i1⟩ ih
    simp only at s1 i1
    have h1 := h.s8 (s1.fz z9)
    have fk := h.ai.fk (f : Int) (by omega) (by omega)
    have gk := h1.gfk (i := (f : Int)) ⟨by omega, by omega⟩
    have gl := h1.gfl (i := (f : Int)) ⟨by omega, by omega⟩
    rw [show 42 + 2 * (f : Int) = 41 + 2 * (f : Int) + 1 by omega] at gl
    obtain ⟨j, hj⟩ := nat_of fk.1
    have hj5 : j < 5 := by omega
    have ij := i1 j hj5
    have ec : ∀ k : Nat, co A v (k : Int) (f + 1) = coS A v (k : Int) f (co A v (k : Int) f) := fun k => rfl
    have keep : (∀ k : Nat, k < 5 → co A v (k : Int) (f + 1) = co A v (k : Int) f) → ∀ w1 w2, wp X (d + 1) 99 10 [(29, 6), (0, v), (0, ((f + 1 : Nat) : Int)), w1, w2] [] M1 (fun q M1 => q = none ∧ Sk 9 M M1 ∧ ∀ k : Nat, k < 5 → hh M1 9 (k : Int) = co A v (k : Int) F) := fun he w1 w2 => ih (M1, w1, w2) ⟨s1, fun k hk => by rw [he k hk]; exact i1 k hk⟩
    have set : (hasB v f = true ∧ (co A v (j : Int) f = 0 ∨ A (41 + 2 * (f : Int) + 1) < co A v (j : Int) f)) → ∀ w1 w2, wp X (d + 1) 99 10 [(29, 6), (0, v), (0, ((f + 1 : Nat) : Int)), w1, w2] [] (mj_wr M1 9 (j : Int) (A (41 + 2 * (f : Int) + 1))) (fun q M1 => q = none ∧ Sk 9 M M1 ∧ ∀ k : Nat, k < 5 → hh M1 9 (k : Int) = co A v (k : Int) F) := by
      intro hc w1 w2
      refine ih (_, w1, w2) ⟨s1.wr, fun k hk => ?_⟩
      show hh (mj_wr M1 9 (j : Int) (A (41 + 2 * (f : Int) + 1))) 9 (k : Int) = co A v (k : Int) (f + 1)
      rw [hh_wr, ec k]
      unfold coS
      by_cases e : k = j
      · subst e
        rw [if_pos ⟨rfl, rfl⟩, if_pos ⟨hc.1, hj, hc.2⟩]
      · rw [if_neg (by omega), if_neg (fun q => e (by have := q.2.1; omega))]
        exact i1 k hk
    rw [w99_10]
    have e1 : ¬ (j : Int) < 0 := by omega
    have e2 : (j : Int) < 5 := by omega
    have e3 : (0 : Int) ≤ (j : Int) := by omega
    by_cases hb : ji_and (ji_shr v (f : Int)) 1 = 1
    · have hb' : hasB v f = true := decide_eq_true hb
      by_cases hz : co A v (j : Int) f = 0
      · simp only [w99_0, w99_1, w99_4, w99_5, w99_8, w99_9, w99_11, w99_12, w99_15, w99_18, w99_19, w99_22, w99_23, w99_24, w99_25, w99_26, w99_27, w99_28, w99_29, w99_30, w99_31, w99_34, w99_35, w99_38, w99_39, w99_40, w99_43, w99_44, w99_47, w99_48, w99_50, w99_52, w99_55, w99_56, w99_59, w99_60, w99_61, w99_64, w99_65, w99_68, w99_69, w99_70, w99_71, w99_74, w99_75, w99_76, w99_79, w99_80, w99_83, w99_84, w99_85, w99_88, w99_89, w99_90, w99_91, w99_94, w99_97, c_1_0 h1.cs, c_1_1 h1.cs, c_1_2 h1.cs, c_1_3 h1.cs, c_1_4 h1.cs, c_1_5 h1.cs, c_1_6 h1.cs, c_1_7 h1.cs, c_1_8 h1.cs, c_2_0 h1.cs, c_2_1 h1.cs, c_5_0 h1.cs, c_5_1 h1.cs, c_5_2 h1.cs, c_5_3 h1.cs, c_5_5 h1.cs, c_5_8 h1.cs, c_5_11 h1.cs, c_6_1 h1.cs, c_6_2 h1.cs, c_6_3 h1.cs, c_10_4 h1.cs, c_10_5 h1.cs, c_10_6 h1.cs, c_10_7 h1.cs, c_15_1 h1.cs, c_17_1 h1.cs, c_339_0 h1.cs, c_341_0 h1.cs, c_341_1 h1.cs, c_341_2 h1.cs, c_342_4 h1.cs, c_342_5 h1.cs, c_342_6 h1.cs, c_342_7 h1.cs, c_347_0 h1.cs, c_347_2 h1.cs, c_347_3 h1.cs, c_349_0 h1.cs, c_349_1 h1.cs, c_349_2 h1.cs, c_351_2 h1.cs, c_351_10 h1.cs, c_351_12 h1.cs, c_354_0 h1.cs, c_354_1 h1.cs, c_354_2 h1.cs, c_354_3 h1.cs, c_354_4 h1.cs, c_354_5 h1.cs, c_354_6 h1.cs, c_354_7 h1.cs, c_354_8 h1.cs, c_354_20 h1.cs, c_354_25 h1.cs, c_354_26 h1.cs, c_354_27 h1.cs, c_354_28 h1.cs, c_354_32 h1.cs, c_354_33 h1.cs, c_354_34 h1.cs, c_354_35 h1.cs, c_354_38 h1.cs, l_3 h1.cs, l_4 h1.cs, l_7 h1.cs, l_8 h1.cs, l_9 h1.cs, l_11 h1.cs, l_12 h1.cs, l_13 h1.cs, l_14 h1.cs, l_16 h1.cs, l_18 h1.cs, l_19 h1.cs, l_20 h1.cs, l_21 h1.cs, l_340 h1.cs, l_343 h1.cs, l_344 h1.cs, l_345 h1.cs, l_346 h1.cs, l_348 h1.cs, l_350 h1.cs, l_352 h1.cs, l_353 h1.cs, l_355 h1.cs, l_356 h1.cs, l_357 h1.cs, l_358 h1.cs, l_359 h1.cs, l_360 h1.cs, l_361 h1.cs, l_362 h1.cs, l_363 h1.cs, l_364 h1.cs, l_365 h1.cs, l_366 h1.cs, l_367 h1.cs, l_368 h1.cs, l_369 h1.cs, l_370 h1.cs, l_371 h1.cs, l_372 h1.cs, l_373 h1.cs, h1.gnf, h1.gP, h1.gy, h1.gx, h1.gt, h1.gns, h1.gnt, h1.gru, h1.gnp, h1.gnd, h1.gne, hF, gk, gl, hj, hb, ij, hz, e1, e2, e3, show (f : Int) < (F : Int) by omega, show (0 : Int) ≤ (f : Int) by omega, show (f : Int) < 8 by omega, jp1 (p := f) (by omega), ↓reduceIte, hh_wr, hl_wr, b10, b11, ite_not, ne_eq, Int.reduceEq, Int.reduceLE, Int.reduceLT, Int.reduceNe, Int.reduceNeg, Int.reduceAdd, Int.reduceSub, Int.reduceMul, not_false_eq_true, not_true_eq_false, false_and, and_false, true_and, and_true, and_self, true_or, or_true, false_or, or_false, if_true, if_false, ite_true, ite_false, mj_tl_some, mj_tl_none, mj_cs0, mj_cs1, mj_cs2, mj_cs3, mj_cs4]
        exact set ⟨hb', Or.inl hz⟩ _ _
      · by_cases hlt : A (41 + 2 * (f : Int) + 1) < co A v (j : Int) f
        · simp only [w99_0, w99_1, w99_4, w99_5, w99_8, w99_9, w99_11, w99_12, w99_15, w99_18, w99_19, w99_22, w99_23, w99_24, w99_25, w99_26, w99_27, w99_28, w99_29, w99_30, w99_31, w99_34, w99_35, w99_38, w99_39, w99_40, w99_43, w99_44, w99_47, w99_48, w99_50, w99_52, w99_55, w99_56, w99_59, w99_60, w99_61, w99_64, w99_65, w99_68, w99_69, w99_70, w99_71, w99_74, w99_75, w99_76, w99_79, w99_80, w99_83, w99_84, w99_85, w99_88, w99_89, w99_90, w99_91, w99_94, w99_97, c_1_0 h1.cs, c_1_1 h1.cs, c_1_2 h1.cs, c_1_3 h1.cs, c_1_4 h1.cs, c_1_5 h1.cs, c_1_6 h1.cs, c_1_7 h1.cs, c_1_8 h1.cs, c_2_0 h1.cs, c_2_1 h1.cs, c_5_0 h1.cs, c_5_1 h1.cs, c_5_2 h1.cs, c_5_3 h1.cs, c_5_5 h1.cs, c_5_8 h1.cs, c_5_11 h1.cs, c_6_1 h1.cs, c_6_2 h1.cs, c_6_3 h1.cs, c_10_4 h1.cs, c_10_5 h1.cs, c_10_6 h1.cs, c_10_7 h1.cs, c_15_1 h1.cs, c_17_1 h1.cs, c_339_0 h1.cs, c_341_0 h1.cs, c_341_1 h1.cs, c_341_2 h1.cs, c_342_4 h1.cs, c_342_5 h1.cs, c_342_6 h1.cs, c_342_7 h1.cs, c_347_0 h1.cs, c_347_2 h1.cs, c_347_3 h1.cs, c_349_0 h1.cs, c_349_1 h1.cs, c_349_2 h1.cs, c_351_2 h1.cs, c_351_10 h1.cs, c_351_12 h1.cs, c_354_0 h1.cs, c_354_1 h1.cs, c_354_2 h1.cs, c_354_3 h1.cs, c_354_4 h1.cs, c_354_5 h1.cs, c_354_6 h1.cs, c_354_7 h1.cs, c_354_8 h1.cs, c_354_20 h1.cs, c_354_25 h1.cs, c_354_26 h1.cs, c_354_27 h1.cs, c_354_28 h1.cs, c_354_32 h1.cs, c_354_33 h1.cs, c_354_34 h1.cs, c_354_35 h1.cs, c_354_38 h1.cs, l_3 h1.cs, l_4 h1.cs, l_7 h1.cs, l_8 h1.cs, l_9 h1.cs, l_11 h1.cs, l_12 h1.cs, l_13 h1.cs, l_14 h1.cs, l_16 h1.cs, l_18 h1.cs, l_19 h1.cs, l_20 h1.cs, l_21 h1.cs, l_340 h1.cs, l_343 h1.cs, l_344 h1.cs, l_345 h1.cs, l_346 h1.cs, l_348 h1.cs, l_350 h1.cs, l_352 h1.cs, l_353 h1.cs, l_355 h1.cs, l_356 h1.cs, l_357 h1.cs, l_358 h1.cs, l_359 h1.cs, l_360 h1.cs, l_361 h1.cs, l_362 h1.cs, l_363 h1.cs, l_364 h1.cs, l_365 h1.cs, l_366 h1.cs, l_367 h1.cs, l_368 h1.cs, l_369 h1.cs, l_370 h1.cs, l_371 h1.cs, l_372 h1.cs, l_373 h1.cs, h1.gnf, h1.gP, h1.gy, h1.gx, h1.gt, h1.gns, h1.gnt, h1.gru, h1.gnp, h1.gnd, h1.gne, hF, gk, gl, hj, hb, ij, hz, hlt, e1, e2, e3, show (f : Int) < (F : Int) by omega, show (0 : Int) ≤ (f : Int) by omega, show (f : Int) < 8 by omega, jp1 (p := f) (by omega), ↓reduceIte, hh_wr, hl_wr, b10, b11, ite_not, ne_eq, Int.reduceEq, Int.reduceLE, Int.reduceLT, Int.reduceNe, Int.reduceNeg, Int.reduceAdd, Int.reduceSub, Int.reduceMul, not_false_eq_true, not_true_eq_false, false_and, and_false, true_and, and_true, and_self, true_or, or_true, false_or, or_false, if_true, if_false, ite_true, ite_false, mj_tl_some, mj_tl_none, mj_cs0, mj_cs1, mj_cs2, mj_cs3, mj_cs4]
          exact set ⟨hb', Or.inr hlt⟩ _ _
        · simp only [w99_0, w99_1, w99_4, w99_5, w99_8, w99_9, w99_11, w99_12, w99_15, w99_18, w99_19, w99_22, w99_23, w99_24, w99_25, w99_26, w99_27, w99_28, w99_29, w99_30, w99_31, w99_34, w99_35, w99_38, w99_39, w99_40, w99_43, w99_44, w99_47, w99_48, w99_50, w99_52, w99_55, w99_56, w99_59, w99_60, w99_61, w99_64, w99_65, w99_68, w99_69, w99_70, w99_71, w99_74, w99_75, w99_76, w99_79, w99_80, w99_83, w99_84, w99_85, w99_88, w99_89, w99_90, w99_91, w99_94, w99_97, c_1_0 h1.cs, c_1_1 h1.cs, c_1_2 h1.cs, c_1_3 h1.cs, c_1_4 h1.cs, c_1_5 h1.cs, c_1_6 h1.cs, c_1_7 h1.cs, c_1_8 h1.cs, c_2_0 h1.cs, c_2_1 h1.cs, c_5_0 h1.cs, c_5_1 h1.cs, c_5_2 h1.cs, c_5_3 h1.cs, c_5_5 h1.cs, c_5_8 h1.cs, c_5_11 h1.cs, c_6_1 h1.cs, c_6_2 h1.cs, c_6_3 h1.cs, c_10_4 h1.cs, c_10_5 h1.cs, c_10_6 h1.cs, c_10_7 h1.cs, c_15_1 h1.cs, c_17_1 h1.cs, c_339_0 h1.cs, c_341_0 h1.cs, c_341_1 h1.cs, c_341_2 h1.cs, c_342_4 h1.cs, c_342_5 h1.cs, c_342_6 h1.cs, c_342_7 h1.cs, c_347_0 h1.cs, c_347_2 h1.cs, c_347_3 h1.cs, c_349_0 h1.cs, c_349_1 h1.cs, c_349_2 h1.cs, c_351_2 h1.cs, c_351_10 h1.cs, c_351_12 h1.cs, c_354_0 h1.cs, c_354_1 h1.cs, c_354_2 h1.cs, c_354_3 h1.cs, c_354_4 h1.cs, c_354_5 h1.cs, c_354_6 h1.cs, c_354_7 h1.cs, c_354_8 h1.cs, c_354_20 h1.cs, c_354_25 h1.cs, c_354_26 h1.cs, c_354_27 h1.cs, c_354_28 h1.cs, c_354_32 h1.cs, c_354_33 h1.cs, c_354_34 h1.cs, c_354_35 h1.cs, c_354_38 h1.cs, l_3 h1.cs, l_4 h1.cs, l_7 h1.cs, l_8 h1.cs, l_9 h1.cs, l_11 h1.cs, l_12 h1.cs, l_13 h1.cs, l_14 h1.cs, l_16 h1.cs, l_18 h1.cs, l_19 h1.cs, l_20 h1.cs, l_21 h1.cs, l_340 h1.cs, l_343 h1.cs, l_344 h1.cs, l_345 h1.cs, l_346 h1.cs, l_348 h1.cs, l_350 h1.cs, l_352 h1.cs, l_353 h1.cs, l_355 h1.cs, l_356 h1.cs, l_357 h1.cs, l_358 h1.cs, l_359 h1.cs, l_360 h1.cs, l_361 h1.cs, l_362 h1.cs, l_363 h1.cs, l_364 h1.cs, l_365 h1.cs, l_366 h1.cs, l_367 h1.cs, l_368 h1.cs, l_369 h1.cs, l_370 h1.cs, l_371 h1.cs, l_372 h1.cs, l_373 h1.cs, h1.gnf, h1.gP, h1.gy, h1.gx, h1.gt, h1.gns, h1.gnt, h1.gru, h1.gnp, h1.gnd, h1.gne, hF, gk, gl, hj, hb, ij, hz, hlt, e1, e2, e3, show (f : Int) < (F : Int) by omega, show (0 : Int) ≤ (f : Int) by omega, show (f : Int) < 8 by omega, jp1 (p := f) (by omega), ↓reduceIte, hh_wr, hl_wr, b10, b11, ite_not, ne_eq, Int.reduceEq, Int.reduceLE, Int.reduceLT, Int.reduceNe, Int.reduceNeg, Int.reduceAdd, Int.reduceSub, Int.reduceMul, not_false_eq_true, not_true_eq_false, false_and, and_false, true_and, and_true, and_self, true_or, or_true, false_or, or_false, if_true, if_false, ite_true, ite_false, mj_tl_some, mj_tl_none, mj_cs0, mj_cs1, mj_cs2, mj_cs3, mj_cs4]
          refine keep (fun k hk => ?_) _ _
          rw [ec k]
          unfold coS
          refine if_neg (fun q => ?_)
          have : k = j := by have := q.2.1; omega
          subst this
          rcases q.2.2 with g | g
          · exact hz g
          · exact hlt g
    · simp only [w99_0, w99_1, w99_4, w99_5, w99_8, w99_9, w99_11, w99_12, w99_15, w99_18, w99_19, w99_22, w99_23, w99_24, w99_25, w99_26, w99_27, w99_28, w99_29, w99_30, w99_31, w99_34, w99_35, w99_38, w99_39, w99_40, w99_43, w99_44, w99_47, w99_48, w99_50, w99_52, w99_55, w99_56, w99_59, w99_60, w99_61, w99_64, w99_65, w99_68, w99_69, w99_70, w99_71, w99_74, w99_75, w99_76, w99_79, w99_80, w99_83, w99_84, w99_85, w99_88, w99_89, w99_90, w99_91, w99_94, w99_97, c_1_0 h1.cs, c_1_1 h1.cs, c_1_2 h1.cs, c_1_3 h1.cs, c_1_4 h1.cs, c_1_5 h1.cs, c_1_6 h1.cs, c_1_7 h1.cs, c_1_8 h1.cs, c_2_0 h1.cs, c_2_1 h1.cs, c_5_0 h1.cs, c_5_1 h1.cs, c_5_2 h1.cs, c_5_3 h1.cs, c_5_5 h1.cs, c_5_8 h1.cs, c_5_11 h1.cs, c_6_1 h1.cs, c_6_2 h1.cs, c_6_3 h1.cs, c_10_4 h1.cs, c_10_5 h1.cs, c_10_6 h1.cs, c_10_7 h1.cs, c_15_1 h1.cs, c_17_1 h1.cs, c_339_0 h1.cs, c_341_0 h1.cs, c_341_1 h1.cs, c_341_2 h1.cs, c_342_4 h1.cs, c_342_5 h1.cs, c_342_6 h1.cs, c_342_7 h1.cs, c_347_0 h1.cs, c_347_2 h1.cs, c_347_3 h1.cs, c_349_0 h1.cs, c_349_1 h1.cs, c_349_2 h1.cs, c_351_2 h1.cs, c_351_10 h1.cs, c_351_12 h1.cs, c_354_0 h1.cs, c_354_1 h1.cs, c_354_2 h1.cs, c_354_3 h1.cs, c_354_4 h1.cs, c_354_5 h1.cs, c_354_6 h1.cs, c_354_7 h1.cs, c_354_8 h1.cs, c_354_20 h1.cs, c_354_25 h1.cs, c_354_26 h1.cs, c_354_27 h1.cs, c_354_28 h1.cs, c_354_32 h1.cs, c_354_33 h1.cs, c_354_34 h1.cs, c_354_35 h1.cs, c_354_38 h1.cs, l_3 h1.cs, l_4 h1.cs, l_7 h1.cs, l_8 h1.cs, l_9 h1.cs, l_11 h1.cs, l_12 h1.cs, l_13 h1.cs, l_14 h1.cs, l_16 h1.cs, l_18 h1.cs, l_19 h1.cs, l_20 h1.cs, l_21 h1.cs, l_340 h1.cs, l_343 h1.cs, l_344 h1.cs, l_345 h1.cs, l_346 h1.cs, l_348 h1.cs, l_350 h1.cs, l_352 h1.cs, l_353 h1.cs, l_355 h1.cs, l_356 h1.cs, l_357 h1.cs, l_358 h1.cs, l_359 h1.cs, l_360 h1.cs, l_361 h1.cs, l_362 h1.cs, l_363 h1.cs, l_364 h1.cs, l_365 h1.cs, l_366 h1.cs, l_367 h1.cs, l_368 h1.cs, l_369 h1.cs, l_370 h1.cs, l_371 h1.cs, l_372 h1.cs, l_373 h1.cs, h1.gnf, h1.gP, h1.gy, h1.gx, h1.gt, h1.gns, h1.gnt, h1.gru, h1.gnp, h1.gnd, h1.gne, hF, gk, hj, hb, show (f : Int) < (F : Int) by omega, show (0 : Int) ≤ (f : Int) by omega, show (f : Int) < 8 by omega, jp1 (p := f) (by omega), ↓reduceIte, hh_wr, hl_wr, b10, b11, ite_not, ne_eq, Int.reduceEq, Int.reduceLE, Int.reduceLT, Int.reduceNe, Int.reduceNeg, Int.reduceAdd, Int.reduceSub, Int.reduceMul, not_false_eq_true, not_true_eq_false, false_and, and_false, true_and, and_true, and_self, true_or, or_true, false_or, or_false, if_true, if_false, ite_true, ite_false, mj_tl_some, mj_tl_none, mj_cs0, mj_cs1, mj_cs2, mj_cs3, mj_cs4]
      refine keep (fun k hk => ?_) _ _
      rw [ec k]
      unfold coS
      exact if_neg (fun q => hb (of_decide_eq_true q.1))
  · rintro ⟨M1, w1, w2⟩ ⟨s1, i1⟩
    simp only at s1 i1
    have h1 := h.s8 (s1.fz z9)
    simp only [w99_0, w99_1, w99_4, w99_5, w99_8, w99_9, w99_10, w99_11, w99_12, w99_15, w99_18, w99_19, w99_22, w99_23, w99_24, w99_25, w99_26, w99_27, w99_28, w99_29, w99_30, w99_31, w99_34, w99_35, w99_38, w99_39, w99_40, w99_43, w99_44, w99_47, w99_48, w99_50, w99_52, w99_55, w99_56, w99_59, w99_60, w99_61, w99_64, w99_65, w99_68, w99_69, w99_70, w99_71, w99_74, w99_75, w99_76, w99_79, w99_80, w99_83, w99_84, w99_85, w99_88, w99_89, w99_90, w99_91, w99_94, w99_97, c_1_0 h1.cs, c_1_1 h1.cs, c_1_2 h1.cs, c_1_3 h1.cs, c_1_4 h1.cs, c_1_5 h1.cs, c_1_6 h1.cs, c_1_7 h1.cs, c_1_8 h1.cs, c_2_0 h1.cs, c_2_1 h1.cs, c_5_0 h1.cs, c_5_1 h1.cs, c_5_2 h1.cs, c_5_3 h1.cs, c_5_5 h1.cs, c_5_8 h1.cs, c_5_11 h1.cs, c_6_1 h1.cs, c_6_2 h1.cs, c_6_3 h1.cs, c_10_4 h1.cs, c_10_5 h1.cs, c_10_6 h1.cs, c_10_7 h1.cs, c_15_1 h1.cs, c_17_1 h1.cs, c_339_0 h1.cs, c_341_0 h1.cs, c_341_1 h1.cs, c_341_2 h1.cs, c_342_4 h1.cs, c_342_5 h1.cs, c_342_6 h1.cs, c_342_7 h1.cs, c_347_0 h1.cs, c_347_2 h1.cs, c_347_3 h1.cs, c_349_0 h1.cs, c_349_1 h1.cs, c_349_2 h1.cs, c_351_2 h1.cs, c_351_10 h1.cs, c_351_12 h1.cs, c_354_0 h1.cs, c_354_1 h1.cs, c_354_2 h1.cs, c_354_3 h1.cs, c_354_4 h1.cs, c_354_5 h1.cs, c_354_6 h1.cs, c_354_7 h1.cs, c_354_8 h1.cs, c_354_20 h1.cs, c_354_25 h1.cs, c_354_26 h1.cs, c_354_27 h1.cs, c_354_28 h1.cs, c_354_32 h1.cs, c_354_33 h1.cs, c_354_34 h1.cs, c_354_35 h1.cs, c_354_38 h1.cs, l_3 h1.cs, l_4 h1.cs, l_7 h1.cs, l_8 h1.cs, l_9 h1.cs, l_11 h1.cs, l_12 h1.cs, l_13 h1.cs, l_14 h1.cs, l_16 h1.cs, l_18 h1.cs, l_19 h1.cs, l_20 h1.cs, l_21 h1.cs, l_340 h1.cs, l_343 h1.cs, l_344 h1.cs, l_345 h1.cs, l_346 h1.cs, l_348 h1.cs, l_350 h1.cs, l_352 h1.cs, l_353 h1.cs, l_355 h1.cs, l_356 h1.cs, l_357 h1.cs, l_358 h1.cs, l_359 h1.cs, l_360 h1.cs, l_361 h1.cs, l_362 h1.cs, l_363 h1.cs, l_364 h1.cs, l_365 h1.cs, l_366 h1.cs, l_367 h1.cs, l_368 h1.cs, l_369 h1.cs, l_370 h1.cs, l_371 h1.cs, l_372 h1.cs, l_373 h1.cs, h1.gnf, h1.gP, h1.gy, h1.gx, h1.gt, h1.gns, h1.gnt, h1.gru, h1.gnp, h1.gnd, h1.gne, hF, Int.lt_irrefl, ↓reduceIte, hh_wr, hl_wr, b10, b11, ite_not, ne_eq, Int.reduceEq, Int.reduceLE, Int.reduceLT, Int.reduceNe, Int.reduceNeg, Int.reduceAdd, Int.reduceSub, Int.reduceMul, not_false_eq_true, not_true_eq_false, false_and, and_false, true_and, and_true, and_self, true_or, or_true, false_or, or_false, if_true, if_false, ite_true, ite_false, mj_tl_some, mj_tl_none, mj_cs0, mj_cs1, mj_cs2, mj_cs3, mj_cs4]
    exact ⟨s1, i1⟩
theorem mulr {x y : Int} (hx : 0 ≤ x ∧ x ≤ 9) (hy : 0 ≤ y ∧ y ≤ 901) : ji_mul x y = x * y ∧ 0 ≤ x * y ∧ x * y ≤ 8109 := by
  have h1 := Int.mul_nonneg hx.1 hy.1
  have h2 : x * y ≤ 9 * y := Int.mul_le_mul_of_nonneg_right hx.2 hy.1
  exact ⟨ji_mul_eq (nn ⟨by omega, by omega⟩), h1, by omega⟩
theorem cost_step {c : Int → Int} {w0 g t o : Int} {w5 : mj_V} (hc : CS M) (hp : hh M 9 o = c o) (hr : 0 ≤ c o ∧ c o ≤ 9) (ho : 0 ≤ o ∧ o ≤ 4) (hg : 0 ≤ g ∧ g ≤ 99999) (ht : 0 ≤ t ∧ t ≤ 100000) : wp X d 101 7 [(29, 6), (0, w0), (0, g), (0, t), (0, o), w5] [] M Q ↔ if 0 < g % 10 ∧ c o = 0 then Q (some (0, -1)) M else wp X d 101 7 [(29, 6), (0, w0), (0, g / 10), (0, t + g % 10 * (100 * c o + 1)), (0, o - 1), (0, g % 10)] [] M Q := by
  have e9 : ji_add o (-1) = o - 1 := aj ⟨by omega, by omega⟩
  have e10 : ¬ o < 0 := by omega
  have e11 : o < 5 := by omega
  have n1 : g % 10 ≤ 0 → ¬ (0 < g % 10 ∧ c o = 0) := fun q => by omega
  have n2 : ¬ g % 10 ≤ 0 → 0 < g % 10 := fun q => by omega
  have e1 : ji_rem g 10 = g % 10 := ji_rem_nn ⟨by omega, by omega⟩ ⟨by decide, by decide⟩ hg.1
  have e2 : ji_div g 10 = g / 10 := ji_div_nn ⟨by omega, by omega⟩ ⟨by decide, by decide⟩ hg.1
  have e3 : ji_mul 100 (c o) = 100 * c o := ji_mul_eq (nn ⟨by omega, by omega⟩)
  have e4 : ji_add (100 * c o) 1 = 100 * c o + 1 := aj ⟨by omega, by omega⟩
  obtain ⟨e5, e6, e7⟩ := mulr (x := g % 10) (y := 100 * c o + 1) ⟨by omega, by omega⟩ ⟨by omega, by omega⟩
  have e8 : ji_add t (g % 10 * (100 * c o + 1)) = t + g % 10 * (100 * c o + 1) := by
    generalize g % 10 * (100 * c o + 1) = z at e6 e7 ⊢
    exact aj ⟨by omega, by omega⟩
  rw [w101_7]
  by_cases h0 : g % 10 ≤ 0
  · rw [if_neg (n1 h0)]
    simp only [w101_0, w101_1, w101_2, w101_3, w101_4, w101_5, w101_9, w101_12, w101_13, w101_15, w101_16, w101_18, w101_20, w101_23, w101_24, w101_27, w101_29, w101_30, w101_33, w101_34, w101_35, w101_36, w101_38, w101_40, w101_41, w101_44, w101_46, w101_47, w101_48, w101_49, w101_50, w101_51, w101_52, w101_53, w101_54, w101_56, w101_57, w101_58, w101_61, w101_64, w101_65, c_1_0 hc, c_1_1 hc, c_1_2 hc, c_1_3 hc, c_1_4 hc, c_1_5 hc, c_1_6 hc, c_1_7 hc, c_1_8 hc, c_2_0 hc, c_2_1 hc, c_5_0 hc, c_5_1 hc, c_5_2 hc, c_5_3 hc, c_5_5 hc, c_5_8 hc, c_5_11 hc, c_6_1 hc, c_6_2 hc, c_6_3 hc, c_10_4 hc, c_10_5 hc, c_10_6 hc, c_10_7 hc, c_15_1 hc, c_17_1 hc, c_339_0 hc, c_341_0 hc, c_341_1 hc, c_341_2 hc, c_342_4 hc, c_342_5 hc, c_342_6 hc, c_342_7 hc, c_347_0 hc, c_347_2 hc, c_347_3 hc, c_349_0 hc, c_349_1 hc, c_349_2 hc, c_351_2 hc, c_351_10 hc, c_351_12 hc, c_354_0 hc, c_354_1 hc, c_354_2 hc, c_354_3 hc, c_354_4 hc, c_354_5 hc, c_354_6 hc, c_354_7 hc, c_354_8 hc, c_354_20 hc, c_354_25 hc, c_354_26 hc, c_354_27 hc, c_354_28 hc, c_354_32 hc, c_354_33 hc, c_354_34 hc, c_354_35 hc, c_354_38 hc, l_3 hc, l_4 hc, l_7 hc, l_8 hc, l_9 hc, l_11 hc, l_12 hc, l_13 hc, l_14 hc, l_16 hc, l_18 hc, l_19 hc, l_20 hc, l_21 hc, l_340 hc, l_343 hc, l_344 hc, l_345 hc, l_346 hc, l_348 hc, l_350 hc, l_352 hc, l_353 hc, l_355 hc, l_356 hc, l_357 hc, l_358 hc, l_359 hc, l_360 hc, l_361 hc, l_362 hc, l_363 hc, l_364 hc, l_365 hc, l_366 hc, l_367 hc, l_368 hc, l_369 hc, l_370 hc, l_371 hc, l_372 hc, l_373 hc, hp, h0, ho.1, e1, e2, e3, e4, e5, e8, e9, e10, e11, ↓reduceIte, hh_wr, hl_wr, b10, b11, ite_not, ne_eq, Int.reduceEq, Int.reduceLE, Int.reduceLT, Int.reduceNe, Int.reduceNeg, Int.reduceAdd, Int.reduceSub, Int.reduceMul, not_false_eq_true, not_true_eq_false, false_and, and_false, true_and, and_true, and_self, true_or, or_true, false_or, or_false, if_true, if_false, ite_true, ite_false, mj_tl_some, mj_tl_none, mj_cs0, mj_cs1, mj_cs2, mj_cs3, mj_cs4]
  · by_cases hz : c o = 0
    · rw [if_pos ⟨n2 h0, hz⟩]
      simp only [w101_0, w101_1, w101_2, w101_3, w101_4, w101_5, w101_9, w101_12, w101_13, w101_15, w101_16, w101_18, w101_20, w101_23, w101_24, w101_27, w101_29, w101_30, w101_33, w101_34, w101_35, w101_36, w101_38, w101_40, w101_41, w101_44, w101_46, w101_47, w101_48, w101_49, w101_50, w101_51, w101_52, w101_53, w101_54, w101_56, w101_57, w101_58, w101_61, w101_64, w101_65, c_1_0 hc, c_1_1 hc, c_1_2 hc, c_1_3 hc, c_1_4 hc, c_1_5 hc, c_1_6 hc, c_1_7 hc, c_1_8 hc, c_2_0 hc, c_2_1 hc, c_5_0 hc, c_5_1 hc, c_5_2 hc, c_5_3 hc, c_5_5 hc, c_5_8 hc, c_5_11 hc, c_6_1 hc, c_6_2 hc, c_6_3 hc, c_10_4 hc, c_10_5 hc, c_10_6 hc, c_10_7 hc, c_15_1 hc, c_17_1 hc, c_339_0 hc, c_341_0 hc, c_341_1 hc, c_341_2 hc, c_342_4 hc, c_342_5 hc, c_342_6 hc, c_342_7 hc, c_347_0 hc, c_347_2 hc, c_347_3 hc, c_349_0 hc, c_349_1 hc, c_349_2 hc, c_351_2 hc, c_351_10 hc, c_351_12 hc, c_354_0 hc, c_354_1 hc, c_354_2 hc, c_354_3 hc, c_354_4 hc, c_354_5 hc, c_354_6 hc, c_354_7 hc, c_354_8 hc, c_354_20 hc, c_354_25 hc, c_354_26 hc, c_354_27 hc, c_354_28 hc, c_354_32 hc, c_354_33 hc, c_354_34 hc, c_354_35 hc, c_354_38 hc, l_3 hc, l_4 hc, l_7 hc, l_8 hc, l_9 hc, l_11 hc, l_12 hc, l_13 hc, l_14 hc, l_16 hc, l_18 hc, l_19 hc, l_20 hc, l_21 hc, l_340 hc, l_343 hc, l_344 hc, l_345 hc, l_346 hc, l_348 hc, l_350 hc, l_352 hc, l_353 hc, l_355 hc, l_356 hc, l_357 hc, l_358 hc, l_359 hc, l_360 hc, l_361 hc, l_362 hc, l_363 hc, l_364 hc, l_365 hc, l_366 hc, l_367 hc, l_368 hc, l_369 hc, l_370 hc, l_371 hc, l_372 hc, l_373 hc, hp, h0, hz, ho.1, e1, e10, e11, ↓reduceIte, hh_wr, hl_wr, b10, b11, ite_not, ne_eq, Int.reduceEq, Int.reduceLE, Int.reduceLT, Int.reduceNe, Int.reduceNeg, Int.reduceAdd, Int.reduceSub, Int.reduceMul, not_false_eq_true, not_true_eq_false, false_and, and_false, true_and, and_true, and_self, true_or, or_true, false_or, or_false, if_true, if_false, ite_true, ite_false, mj_tl_some, mj_tl_none, mj_cs0, mj_cs1, mj_cs2, mj_cs3, mj_cs4]
    · rw [if_neg (fun q => hz q.2)]
      simp only [w101_0, w101_1, w101_2, w101_3, w101_4, w101_5, w101_9, w101_12, w101_13, w101_15, w101_16, w101_18, w101_20, w101_23, w101_24, w101_27, w101_29, w101_30, w101_33, w101_34, w101_35, w101_36, w101_38, w101_40, w101_41, w101_44, w101_46, w101_47, w101_48, w101_49, w101_50, w101_51, w101_52, w101_53, w101_54, w101_56, w101_57, w101_58, w101_61, w101_64, w101_65, c_1_0 hc, c_1_1 hc, c_1_2 hc, c_1_3 hc, c_1_4 hc, c_1_5 hc, c_1_6 hc, c_1_7 hc, c_1_8 hc, c_2_0 hc, c_2_1 hc, c_5_0 hc, c_5_1 hc, c_5_2 hc, c_5_3 hc, c_5_5 hc, c_5_8 hc, c_5_11 hc, c_6_1 hc, c_6_2 hc, c_6_3 hc, c_10_4 hc, c_10_5 hc, c_10_6 hc, c_10_7 hc, c_15_1 hc, c_17_1 hc, c_339_0 hc, c_341_0 hc, c_341_1 hc, c_341_2 hc, c_342_4 hc, c_342_5 hc, c_342_6 hc, c_342_7 hc, c_347_0 hc, c_347_2 hc, c_347_3 hc, c_349_0 hc, c_349_1 hc, c_349_2 hc, c_351_2 hc, c_351_10 hc, c_351_12 hc, c_354_0 hc, c_354_1 hc, c_354_2 hc, c_354_3 hc, c_354_4 hc, c_354_5 hc, c_354_6 hc, c_354_7 hc, c_354_8 hc, c_354_20 hc, c_354_25 hc, c_354_26 hc, c_354_27 hc, c_354_28 hc, c_354_32 hc, c_354_33 hc, c_354_34 hc, c_354_35 hc, c_354_38 hc, l_3 hc, l_4 hc, l_7 hc, l_8 hc, l_9 hc, l_11 hc, l_12 hc, l_13 hc, l_14 hc, l_16 hc, l_18 hc, l_19 hc, l_20 hc, l_21 hc, l_340 hc, l_343 hc, l_344 hc, l_345 hc, l_346 hc, l_348 hc, l_350 hc, l_352 hc, l_353 hc, l_355 hc, l_356 hc, l_357 hc, l_358 hc, l_359 hc, l_360 hc, l_361 hc, l_362 hc, l_363 hc, l_364 hc, l_365 hc, l_366 hc, l_367 hc, l_368 hc, l_369 hc, l_370 hc, l_371 hc, l_372 hc, l_373 hc, hp, h0, hz, ho.1, e1, e2, e3, e4, e5, e8, e9, e10, e11, ↓reduceIte, hh_wr, hl_wr, b10, b11, ite_not, ne_eq, Int.reduceEq, Int.reduceLE, Int.reduceLT, Int.reduceNe, Int.reduceNeg, Int.reduceAdd, Int.reduceSub, Int.reduceMul, not_false_eq_true, not_true_eq_false, false_and, and_false, true_and, and_true, and_self, true_or, or_true, false_or, or_false, if_true, if_false, ite_true, ite_false, mj_tl_some, mj_tl_none, mj_cs0, mj_cs1, mj_cs2, mj_cs3, mj_cs4]
theorem c_costOf {c : Int → Int} {w : Int} (hc : CS M) (hp : ∀ k : Nat, k < 5 → hh M 9 (k : Int) = c (k : Int)) (hr : ∀ k, 0 ≤ k → k ≤ 4 → 0 ≤ c k ∧ c k ≤ 9) (hw : 0 ≤ w ∧ w ≤ 99999) : wc X d 101 [(29, 6), (0, w)] M Q ↔ Q (some (0, cst c w)) M := by
  show wp X d 101 0 [(29, 6), (0, w), (9, 0), (9, 0), (9, 0), (9, 0)] [] M Q ↔ _
  have c0 := hr 0 (by decide) (by decide)
  have c1 := hr 1 (by decide) (by decide)
  have c2 := hr 2 (by decide) (by decide)
  have c3 := hr 3 (by decide) (by decide)
  have c4 := hr 4 (by decide) (by decide)
  have p0 : hh M 9 0 = c 0 := hp 0 (by decide)
  have p1 : hh M 9 1 = c 1 := hp 1 (by decide)
  have p2 : hh M 9 2 = c 2 := hp 2 (by decide)
  have p3 : hh M 9 3 = c 3 := hp 3 (by decide)
  have p4 : hh M 9 4 = c 4 := hp 4 (by decide)
  have q1 : w / 10 / 10 = w / 100 := by omega
  have q2 : w / 100 / 10 = w / 1000 := by omega
  have q3 : w / 1000 / 10 = w / 10000 := by omega
  have r1 : 0 ≤ w / 10 ∧ w / 10 ≤ 99999 := ⟨by omega, by omega⟩
  have r2 : 0 ≤ w / 100 ∧ w / 100 ≤ 99999 := ⟨by omega, by omega⟩
  have r3 : 0 ≤ w / 1000 ∧ w / 1000 ≤ 99999 := ⟨by omega, by omega⟩
  have r4 : 0 ≤ w / 10000 ∧ w / 10000 ≤ 99999 := ⟨by omega, by omega⟩
  have m4 := (mulr (x := w % 10) (y := 100 * c 4 + 1) ⟨by omega, by omega⟩ ⟨by omega, by omega⟩).2
  have m3 := (mulr (x := w / 10 % 10) (y := 100 * c 3 + 1) ⟨by omega, by omega⟩ ⟨by omega, by omega⟩).2
  have m2 := (mulr (x := w / 100 % 10) (y := 100 * c 2 + 1) ⟨by omega, by omega⟩ ⟨by omega, by omega⟩).2
  have m1 := (mulr (x := w / 1000 % 10) (y := 100 * c 1 + 1) ⟨by omega, by omega⟩ ⟨by omega, by omega⟩).2
  have t4 : 0 ≤ w % 10 * (100 * c 4 + 1) ∧ w % 10 * (100 * c 4 + 1) ≤ 100000 := ⟨m4.1, Int.le_trans m4.2 (by decide)⟩
  have sumr : ∀ {a b : Int} {n : Int}, (0 ≤ a ∧ a ≤ n) → (0 ≤ b ∧ b ≤ 8109) → 0 ≤ a + b ∧ a + b ≤ n + 8109 := fun h1 h2 => ⟨by omega, by omega⟩
  have u3 := sumr m4 m3
  have u2 := sumr u3 m2
  have u1 := sumr u2 m1
  have up : ∀ {a n : Int}, (0 ≤ a ∧ a ≤ n) → n ≤ 100000 → 0 ≤ a ∧ a ≤ 100000 := fun h1 h2 => ⟨h1.1, Int.le_trans h1.2 h2⟩
  simp only [w101_0, w101_1, w101_2, w101_3, w101_4, w101_5]
  unfold cst
  rw [cost_step (c := c) hc p4 c4 (by decide) hw (by decide)]
  by_cases h4 : 0 < w % 10 ∧ c 4 = 0
  · rw [if_pos h4, if_pos (Or.inl h4)]
  rw [if_neg h4, show (4 : Int) - 1 = 3 by decide, Int.zero_add]
  rw [cost_step (c := c) hc p3 c3 (by decide) r1 t4]
  by_cases h3 : 0 < w / 10 % 10 ∧ c 3 = 0
  · rw [if_pos h3, if_pos (Or.inr (Or.inl h3))]
  rw [if_neg h3, show (3 : Int) - 1 = 2 by decide, q1]
  rw [cost_step (c := c) hc p2 c2 (by decide) r2 (up u3 (by decide))]
  by_cases h2 : 0 < w / 100 % 10 ∧ c 2 = 0
  · rw [if_pos h2, if_pos (Or.inr (Or.inr (Or.inl h2)))]
  rw [if_neg h2, show (2 : Int) - 1 = 1 by decide, q2]
  rw [cost_step (c := c) hc p1 c1 (by decide) r3 (up u2 (by decide))]
  by_cases h1 : 0 < w / 1000 % 10 ∧ c 1 = 0
  · rw [if_pos h1, if_pos (Or.inr (Or.inr (Or.inr (Or.inl h1))))]
  rw [if_neg h1, show (1 : Int) - 1 = 0 by decide, q3]
  rw [cost_step (c := c) hc p0 c0 (by decide) r4 (up u1 (by decide))]
  by_cases h0 : 0 < w / 10000 % 10 ∧ c 0 = 0
  · rw [if_pos h0, if_pos (Or.inr (Or.inr (Or.inr (Or.inr h0))))]
  have hno : ¬ ((0 < w % 10 ∧ c 4 = 0) ∨ (0 < w / 10 % 10 ∧ c 3 = 0) ∨ (0 < w / 100 % 10 ∧ c 2 = 0) ∨ (0 < w / 1000 % 10 ∧ c 1 = 0) ∨ (0 < w / 10000 % 10 ∧ c 0 = 0)) := by
    rintro (q | q | q | q | q)
    · exact h4 q
    · exact h3 q
    · exact h2 q
    · exact h1 q
    · exact h0 q
  rw [if_neg h0, if_neg hno, show (0 : Int) - 1 = -1 by decide]
  simp only [w101_0, w101_1, w101_2, w101_3, w101_4, w101_5, w101_7, w101_9, w101_12, w101_13, w101_15, w101_16, w101_18, w101_20, w101_23, w101_24, w101_27, w101_29, w101_30, w101_33, w101_34, w101_35, w101_36, w101_38, w101_40, w101_41, w101_44, w101_46, w101_47, w101_48, w101_49, w101_50, w101_51, w101_52, w101_53, w101_54, w101_56, w101_57, w101_58, w101_61, w101_64, w101_65, ↓reduceIte, hh_wr, hl_wr, b10, b11, ite_not, ne_eq, Int.reduceEq, Int.reduceLE, Int.reduceLT, Int.reduceNe, Int.reduceNeg, Int.reduceAdd, Int.reduceSub, Int.reduceMul, not_false_eq_true, not_true_eq_false, false_and, and_false, true_and, and_true, and_self, true_or, or_true, false_or, or_false, if_true, if_false, ite_true, ite_false, mj_tl_some, mj_tl_none, mj_cs0, mj_cs1, mj_cs2, mj_cs3, mj_cs4]
theorem c_bestWay {v : Int} (h : CW M A) : wc X (d + 2) 98 [(29, 6), (0, v)] M (fun q M1 => q = some (0, bw (coF A v)) ∧ Sk 9 M M1) := by
  show wp X (d + 2) 98 0 [(29, 6), (0, v), (9, 0), (9, 0), (9, 0)] [] M _
  simp only [w98_0, w98_1, w98_2, ↓reduceIte, hh_wr, hl_wr, b10, b11, ite_not, ne_eq, Int.reduceEq, Int.reduceLE, Int.reduceLT, Int.reduceNe, Int.reduceNeg, Int.reduceAdd, Int.reduceSub, Int.reduceMul, not_false_eq_true, not_true_eq_false, false_and, and_false, true_and, and_true, and_self, true_or, or_true, false_or, or_false, if_true, if_false, ite_true, ite_false, mj_tl_some, mj_tl_none, mj_cs0, mj_cs1, mj_cs2, mj_cs3, mj_cs4]
  refine wc.mono (c_findPrices (d := d) h) ?_
  rintro q M1 ⟨rfl, s1, hp⟩
  have h1 := h.s8 (s1.fz z9)
  have hr := coF_hc h.ai v
  simp only [w98_5, w98_6, w98_7, w98_8, ↓reduceIte, hh_wr, hl_wr, b10, b11, ite_not, ne_eq, Int.reduceEq, Int.reduceLE, Int.reduceLT, Int.reduceNe, Int.reduceNeg, Int.reduceAdd, Int.reduceSub, Int.reduceMul, not_false_eq_true, not_true_eq_false, false_and, and_false, true_and, and_true, and_self, true_or, or_true, false_or, or_false, if_true, if_false, ite_true, ite_false, mj_tl_some, mj_tl_none, mj_cs0, mj_cs1, mj_cs2, mj_cs3, mj_cs4]
  rw [← bwN_40]
  refine loop1 (S := fun i (w : mj_V) => wp X (d + 2) 98 9 [(29, 6), (0, v), (0, bwN (coF A v) i), (0, (i : Int)), w] [] M1 (fun q M1 => q = some (0, bwN (coF A v) 40) ∧ Sk 9 M M1)) (I := fun i w => True) (P := 40) ?_ ?_ (9, 0) trivial
  · rintro i w hi - ih
    have e : bwN (coF A v) (i + 1) = bwS (coF A v) (bwN (coF A v) i) (wyL.getD i 0) := rfl
    have wr := wy_r i
    have cc := fun Q => c_costOf (X := X) (d := d + 1) (M := M1) (Q := Q) (c := coF A v) (w := wyL.getD i 0) h1.cs hp hr wr
    have et : (i : Int).toNat = i := by omega
    unfold bwS at e
    rw [w98_9]
    by_cases h2 : cst (coF A v) (wyL.getD i 0) = -1
    · rw [if_neg (fun q => q.1 h2)] at e
      have hS := ih (0, -1) trivial
      rw [e] at hS
      simp only [w98_0, w98_1, w98_2, w98_5, w98_6, w98_7, w98_8, w98_10, w98_13, w98_14, w98_17, w98_18, w98_21, w98_22, w98_23, w98_26, w98_28, w98_30, w98_31, w98_34, w98_35, w98_36, w98_39, w98_41, w98_42, w98_45, w98_47, w98_48, w98_51, w98_54, w98_55, ways_eq, et, cc, h2, show (i : Int) < 40 by omega, show (0 : Int) ≤ (i : Int) by omega, jp1 (p := i) (by omega), ↓reduceIte, hh_wr, hl_wr, b10, b11, ite_not, ne_eq, Int.reduceEq, Int.reduceLE, Int.reduceLT, Int.reduceNe, Int.reduceNeg, Int.reduceAdd, Int.reduceSub, Int.reduceMul, not_false_eq_true, not_true_eq_false, false_and, and_false, true_and, and_true, and_self, true_or, or_true, false_or, or_false, if_true, if_false, ite_true, ite_false, mj_tl_some, mj_tl_none, mj_cs0, mj_cs1, mj_cs2, mj_cs3, mj_cs4]
      exact hS
    · by_cases h3 : bwN (coF A v) i = -1
      · rw [if_pos ⟨h2, Or.inl h3⟩] at e
        have hS := ih (0, cst (coF A v) (wyL.getD i 0)) trivial
        rw [e] at hS
        simp only [w98_0, w98_1, w98_2, w98_5, w98_6, w98_7, w98_8, w98_10, w98_13, w98_14, w98_17, w98_18, w98_21, w98_22, w98_23, w98_26, w98_28, w98_30, w98_31, w98_34, w98_35, w98_36, w98_39, w98_41, w98_42, w98_45, w98_47, w98_48, w98_51, w98_54, w98_55, ways_eq, et, cc, h2, h3, show (i : Int) < 40 by omega, show (0 : Int) ≤ (i : Int) by omega, jp1 (p := i) (by omega), ↓reduceIte, hh_wr, hl_wr, b10, b11, ite_not, ne_eq, Int.reduceEq, Int.reduceLE, Int.reduceLT, Int.reduceNe, Int.reduceNeg, Int.reduceAdd, Int.reduceSub, Int.reduceMul, not_false_eq_true, not_true_eq_false, false_and, and_false, true_and, and_true, and_self, true_or, or_true, false_or, or_false, if_true, if_false, ite_true, ite_false, mj_tl_some, mj_tl_none, mj_cs0, mj_cs1, mj_cs2, mj_cs3, mj_cs4]
        exact hS
      · by_cases h4 : cst (coF A v) (wyL.getD i 0) < bwN (coF A v) i
        · rw [if_pos ⟨h2, Or.inr h4⟩] at e
          have hS := ih (0, cst (coF A v) (wyL.getD i 0)) trivial
          rw [e] at hS
          simp only [w98_0, w98_1, w98_2, w98_5, w98_6, w98_7, w98_8, w98_10, w98_13, w98_14, w98_17, w98_18, w98_21, w98_22, w98_23, w98_26, w98_28, w98_30, w98_31, w98_34, w98_35, w98_36, w98_39, w98_41, w98_42, w98_45, w98_47, w98_48, w98_51, w98_54, w98_55, ways_eq, et, cc, h2, h3, h4, show (i : Int) < 40 by omega, show (0 : Int) ≤ (i : Int) by omega, jp1 (p := i) (by omega), ↓reduceIte, hh_wr, hl_wr, b10, b11, ite_not, ne_eq, Int.reduceEq, Int.reduceLE, Int.reduceLT, Int.reduceNe, Int.reduceNeg, Int.reduceAdd, Int.reduceSub, Int.reduceMul, not_false_eq_true, not_true_eq_false, false_and, and_false, true_and, and_true, and_self, true_or, or_true, false_or, or_false, if_true, if_false, ite_true, ite_false, mj_tl_some, mj_tl_none, mj_cs0, mj_cs1, mj_cs2, mj_cs3, mj_cs4]
          exact hS
        · rw [if_neg (fun q => by rcases q.2 with g | g; exact h3 g; exact h4 g)] at e
          have hS := ih (0, cst (coF A v) (wyL.getD i 0)) trivial
          rw [e] at hS
          simp only [w98_0, w98_1, w98_2, w98_5, w98_6, w98_7, w98_8, w98_10, w98_13, w98_14, w98_17, w98_18, w98_21, w98_22, w98_23, w98_26, w98_28, w98_30, w98_31, w98_34, w98_35, w98_36, w98_39, w98_41, w98_42, w98_45, w98_47, w98_48, w98_51, w98_54, w98_55, ways_eq, et, cc, h2, h3, h4, show (i : Int) < 40 by omega, show (0 : Int) ≤ (i : Int) by omega, jp1 (p := i) (by omega), ↓reduceIte, hh_wr, hl_wr, b10, b11, ite_not, ne_eq, Int.reduceEq, Int.reduceLE, Int.reduceLT, Int.reduceNe, Int.reduceNeg, Int.reduceAdd, Int.reduceSub, Int.reduceMul, not_false_eq_true, not_true_eq_false, false_and, and_false, true_and, and_true, and_self, true_or, or_true, false_or, or_false, if_true, if_false, ite_true, ite_false, mj_tl_some, mj_tl_none, mj_cs0, mj_cs1, mj_cs2, mj_cs3, mj_cs4]
          exact hS
  · rintro w -
    simp only [w98_0, w98_1, w98_2, w98_5, w98_6, w98_7, w98_8, w98_9, w98_10, w98_13, w98_14, w98_17, w98_18, w98_21, w98_22, w98_23, w98_26, w98_28, w98_30, w98_31, w98_34, w98_35, w98_36, w98_39, w98_41, w98_42, w98_45, w98_47, w98_48, w98_51, w98_54, w98_55, show ((40 : Nat) : Int) = 40 from rfl, ↓reduceIte, hh_wr, hl_wr, b10, b11, ite_not, ne_eq, Int.reduceEq, Int.reduceLE, Int.reduceLT, Int.reduceNe, Int.reduceNeg, Int.reduceAdd, Int.reduceSub, Int.reduceMul, not_false_eq_true, not_true_eq_false, false_and, and_false, true_and, and_true, and_self, true_or, or_true, false_or, or_false, if_true, if_false, ite_true, ite_false, mj_tl_some, mj_tl_none, mj_cs0, mj_cs1, mj_cs2, mj_cs3, mj_cs4]
    exact s1
theorem c_leastLength {v : Int} (h : CW M A) : wc X (d + 3) 97 [(29, 6), (0, v)] M (fun q M1 => q = some (0, llV A v) ∧ Sk 9 M M1) := by
  show wp X (d + 3) 97 0 [(29, 6), (0, v), (9, 0)] [] M _
  simp only [w97_0, w97_1, w97_2, ↓reduceIte, hh_wr, hl_wr, b10, b11, ite_not, ne_eq, Int.reduceEq, Int.reduceLE, Int.reduceLT, Int.reduceNe, Int.reduceNeg, Int.reduceAdd, Int.reduceSub, Int.reduceMul, not_false_eq_true, not_true_eq_false, false_and, and_false, true_and, and_true, and_self, true_or, or_true, false_or, or_false, if_true, if_false, ite_true, ite_false, mj_tl_some, mj_tl_none, mj_cs0, mj_cs1, mj_cs2, mj_cs3, mj_cs4]
  refine wc.mono (c_bestWay (d := d) h) ?_
  rintro q M1 ⟨rfl, s1⟩
  unfold llV
  by_cases hb : bw (coF A v) = -1
  · simp only [w97_0, w97_1, w97_2, w97_5, w97_6, w97_7, w97_8, w97_11, w97_12, w97_15, w97_16, w97_18, w97_19, hb, ↓reduceIte, hh_wr, hl_wr, b10, b11, ite_not, ne_eq, Int.reduceEq, Int.reduceLE, Int.reduceLT, Int.reduceNe, Int.reduceNeg, Int.reduceAdd, Int.reduceSub, Int.reduceMul, not_false_eq_true, not_true_eq_false, false_and, and_false, true_and, and_true, and_self, true_or, or_true, false_or, or_false, if_true, if_false, ite_true, ite_false, mj_tl_some, mj_tl_none, mj_cs0, mj_cs1, mj_cs2, mj_cs3, mj_cs4]
    exact s1
  · have r := bw_r (coF_hc h.ai v) hb
    have e : ji_div (bw (coF A v)) 100 = bw (coF A v) / 100 := ji_div_nn ⟨by omega, by omega⟩ ⟨by decide, by decide⟩ r.1
    simp only [w97_0, w97_1, w97_2, w97_5, w97_6, w97_7, w97_8, w97_11, w97_12, w97_15, w97_16, w97_18, w97_19, hb, e, ↓reduceIte, hh_wr, hl_wr, b10, b11, ite_not, ne_eq, Int.reduceEq, Int.reduceLE, Int.reduceLT, Int.reduceNe, Int.reduceNeg, Int.reduceAdd, Int.reduceSub, Int.reduceMul, not_false_eq_true, not_true_eq_false, false_and, and_false, true_and, and_true, and_self, true_or, or_true, false_or, or_false, if_true, if_false, ite_true, ite_false, mj_tl_some, mj_tl_none, mj_cs0, mj_cs1, mj_cs2, mj_cs3, mj_cs4]
    exact s1
theorem c_fewest {v : Int} (h : CW M A) : wc X (d + 3) 153 [(29, 6), (0, v)] M (fun q M1 => q = some (0, fsV A v) ∧ Sk 9 M M1) := by
  show wp X (d + 3) 153 0 [(29, 6), (0, v), (9, 0)] [] M _
  simp only [w153_0, w153_1, w153_2, ↓reduceIte, hh_wr, hl_wr, b10, b11, ite_not, ne_eq, Int.reduceEq, Int.reduceLE, Int.reduceLT, Int.reduceNe, Int.reduceNeg, Int.reduceAdd, Int.reduceSub, Int.reduceMul, not_false_eq_true, not_true_eq_false, false_and, and_false, true_and, and_true, and_self, true_or, or_true, false_or, or_false, if_true, if_false, ite_true, ite_false, mj_tl_some, mj_tl_none, mj_cs0, mj_cs1, mj_cs2, mj_cs3, mj_cs4]
  refine wc.mono (c_bestWay (d := d) h) ?_
  rintro q M1 ⟨rfl, s1⟩
  unfold fsV
  by_cases hb : bw (coF A v) = -1
  · simp only [w153_0, w153_1, w153_2, w153_5, w153_6, w153_7, w153_8, w153_11, w153_12, w153_15, w153_16, w153_18, w153_19, hb, ↓reduceIte, hh_wr, hl_wr, b10, b11, ite_not, ne_eq, Int.reduceEq, Int.reduceLE, Int.reduceLT, Int.reduceNe, Int.reduceNeg, Int.reduceAdd, Int.reduceSub, Int.reduceMul, not_false_eq_true, not_true_eq_false, false_and, and_false, true_and, and_true, and_self, true_or, or_true, false_or, or_false, if_true, if_false, ite_true, ite_false, mj_tl_some, mj_tl_none, mj_cs0, mj_cs1, mj_cs2, mj_cs3, mj_cs4]
    exact s1
  · have r := bw_r (coF_hc h.ai v) hb
    have e : ji_rem (bw (coF A v)) 100 = bw (coF A v) % 100 := ji_rem_nn ⟨by omega, by omega⟩ ⟨by decide, by decide⟩ r.1
    simp only [w153_0, w153_1, w153_2, w153_5, w153_6, w153_7, w153_8, w153_11, w153_12, w153_15, w153_16, w153_18, w153_19, hb, e, ↓reduceIte, hh_wr, hl_wr, b10, b11, ite_not, ne_eq, Int.reduceEq, Int.reduceLE, Int.reduceLT, Int.reduceNe, Int.reduceNeg, Int.reduceAdd, Int.reduceSub, Int.reduceMul, not_false_eq_true, not_true_eq_false, false_and, and_false, true_and, and_true, and_self, true_or, or_true, false_or, or_false, if_true, if_false, ite_true, ite_false, mj_tl_some, mj_tl_none, mj_cs0, mj_cs1, mj_cs2, mj_cs3, mj_cs4]
    exact s1
end Least2
