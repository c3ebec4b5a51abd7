/-! LEAST: the reference's search -/
/-- a saying is worth a try -/
def cnd (c : Int → Int) (a e : Int) (V : Int × Int) (k : Int) : Prop := 0 < c (kT k) ∧ (a + c (kT k) < V.1 ∨ (a + c (kT k) = V.1 ∧ e + 1 < V.2))
theorem bb_skip {c : Int → Int} {a e lo hi : Int} {V : Int × Int} {r : Nat} : ∀ m : Nat, (∀ i, i < m → ¬ cnd c a e V (kS (r + i))) → bb c (r + m) a e lo hi V = bb c r a e lo hi V
  | 0, _ => rfl
  | m + 1, h => by
    have ih := bb_skip (c := c) (a := a) (e := e) (lo := lo) (hi := hi) (V := V) (r := r) m (fun i hi => h i (by omega))
    have hm := h m (by omega)
    unfold cnd at hm
    rw [show r + (m + 1) = (r + m) + 1 by omega, bb, if_neg hm, ih]
/-- what the search may change -/
def Ls (M M1 : mj_M) : Prop := (∀ x j, (x < 369 ∨ 372 < x) → (x ≠ 354 ∨ (j ≠ 30 ∧ j ≠ 31)) → hh M1 x j = hh M x j) ∧ (∀ x, hl M1 x = hl M x) ∧ (M1.1 = M.1) ∧ (M1.2.1 = M.2.1)
theorem Ls.h {M M1 : mj_M} (h : Ls M M1) : ∀ x j, (x < 369 ∨ 372 < x) → (x ≠ 354 ∨ (j ≠ 30 ∧ j ≠ 31)) → hh M1 x j = hh M x j := h.1
theorem Ls.l {M M1 : mj_M} (h : Ls M M1) : ∀ x, hl M1 x = hl M x := h.2.1
theorem Ls.n {M M1 : mj_M} (h : Ls M M1) : M1.1 = M.1 := h.2.2.1
theorem Ls.s {M M1 : mj_M} (h : Ls M M1) : M1.2.1 = M.2.1 := h.2.2.2
theorem Ls.rfl' {M : mj_M} : Ls M M := ⟨fun _ _ _ _ => rfl, fun _ => rfl, rfl, rfl⟩
theorem Ls.wr {M M1 : mj_M} {x i u : Int} (h : Ls M M1) (hx : (369 ≤ x ∧ x ≤ 372) ∨ (x = 354 ∧ (i = 30 ∨ i = 31))) : Ls M (mj_wr M1 x i u) := ⟨fun y j h1 h2 => by rw [hh_wr, if_neg (by omega)]; exact h.h y j h1 h2, h.l, h.n, h.s⟩
theorem Ls.fz {M M1 : mj_M} (h : Ls M M1) : fz [8, 9] M M1 := by
  refine ⟨fun x j hx => h.h x j ?_ ?_, h.l, h.n, h.s⟩
  · by_cases g : x < 369
    · exact Or.inl g
    · by_cases g2 : 372 < x
      · exact Or.inr g2
      · exfalso
        apply hx
        rcases (show x = 369 ∨ x = 370 ∨ x = 371 ∨ x = 372 by omega) with rfl | rfl | rfl | rfl
        all_goals exact List.mem_cons_self ..
  · by_cases g : x = 354
    · subst g
      refine Or.inr ⟨fun e => hx ?_, fun e => hx ?_⟩
      · subst e; decide
      · subst e; decide
    · exact Or.inl g
section Least3
variable {X : mj_X} {d : Nat} {M : mj_M} {A : Int → Int} {Q : Option mj_V → mj_M → Prop}
theorem m_nextSaying {c : Int → Int} {a e j : Int} {V : Int × Int} (hc : CS M) (tb : Tb M) (hr : ∀ k, 0 ≤ k → k ≤ 4 → 0 ≤ c k ∧ c k ≤ 9) (hp : ∀ k, 0 ≤ k → k ≤ 4 → hh M 368 k = c k) (he : 0 ≤ e ∧ e ≤ 20) (hj : -1 ≤ j ∧ j ≤ 19) (h1 : hh M 369 e = j) (h2 : hh M 370 e = a) (ha : 0 ≤ a ∧ a ≤ 1000) (h3 : hh M 354 30 = V.1) (h4 : hh M 354 31 = V.2) : ∃ k, ((k = -1 ∧ ∀ i, j < i → i < 20 → ¬ cnd c a e V i) ∨ ((j < k ∧ k < 20) ∧ cnd c a e V k ∧ ∀ i, j < i → i < k → ¬ cnd c a e V i)) ∧ ∀ (d : Nat) (Q : Option mj_V → mj_M → Prop), (wc X d 256 [(32, 354), (0, e)] M Q ↔ Q (some (0, k)) M) := by
  have key : ∀ n : Nat, ∀ k0 : Int, j < k0 → k0 + n = 20 → (∀ i, j < i → i < k0 → ¬ cnd c a e V i) → ∃ k, ((k = -1 ∧ ∀ i, j < i → i < 20 → ¬ cnd c a e V i) ∨ ((j < k ∧ k < 20) ∧ cnd c a e V k ∧ ∀ i, j < i → i < k → ¬ cnd c a e V i)) ∧ ∀ (d : Nat) (w : mj_V), wp X d 256 9 [(32, 354), (0, e), (0, k0), w] [] M (fun r M' => r = some (0, k) ∧ M' = M) := by
    intro n
    induction n with
    | zero =>
      intro k0 g1 g2 g3
      refine ⟨-1, Or.inl ⟨rfl, fun i i1 i2 => g3 i i1 (by omega)⟩, fun d w => ?_⟩
      have e20 : k0 = 20 := by omega
      subst e20
      simp only [w256_0, w256_1, w256_4, w256_5, w256_6, w256_7, w256_8, w256_9, w256_10, w256_12, w256_15, w256_16, w256_19, w256_20, w256_21, w256_22, w256_25, w256_26, w256_29, w256_30, w256_31, w256_32, w256_33, w256_34, w256_35, w256_38, w256_39, w256_42, w256_43, w256_44, w256_45, w256_48, w256_49, w256_50, w256_53, w256_56, w256_57, w256_58, w256_61, w256_64, w256_65, w256_66, w256_67, w256_68, w256_71, w256_74, w256_75, w256_76, w256_79, w256_82, w256_83, ↓reduceIte, hh_wr, hl_wr, b10, b11, ite_not, ne_eq, Int.reduceEq, Int.reduceLE, Int.reduceLT, Int.reduceNe, Int.reduceNeg, Int.reduceAdd, Int.reduceSub, Int.reduceMul, not_false_eq_true, not_true_eq_false, false_and, and_false, true_and, and_true, and_self, true_or, or_true, false_or, or_false, if_true, if_false, ite_true, ite_false, mj_tl_some, mj_tl_none, mj_cs0, mj_cs1, mj_cs2, mj_cs3, mj_cs4]
    | succ n ih =>
      intro k0 g1 g2 g3
      have kr := kT_r k0
      have kr5 : kT k0 < 5 := by omega
      have cr := hr _ kr.1 kr.2
      have pk := hp _ kr.1 kr.2
      have tk := tb.k k0 (by omega) (by omega)
      have a1 : ji_add a (c (kT k0)) = a + c (kT k0) := aj ⟨by omega, by omega⟩
      have a2 : ji_add e 1 = e + 1 := aj ⟨by omega, by omega⟩
      have a3 : ji_add k0 1 = k0 + 1 := aj ⟨by omega, by omega⟩
      have z1 : (0 : Int) ≤ k0 := by omega
      have z2 : k0 < 20 := by omega
      have z3 : e < 21 := by omega
      by_cases hcd : cnd c a e V k0
      · refine ⟨k0, Or.inr ⟨⟨g1, z2⟩, hcd, g3⟩, fun d w => ?_⟩
        unfold cnd at hcd
        by_cases q1 : a + c (kT k0) < V.1
        · simp only [w256_0, w256_1, w256_4, w256_5, w256_6, w256_7, w256_8, w256_9, w256_10, w256_12, w256_15, w256_16, w256_19, w256_20, w256_21, w256_22, w256_25, w256_26, w256_29, w256_30, w256_31, w256_32, w256_33, w256_34, w256_35, w256_38, w256_39, w256_42, w256_43, w256_44, w256_45, w256_48, w256_49, w256_50, w256_53, w256_56, w256_57, w256_58, w256_61, w256_64, w256_65, w256_66, w256_67, w256_68, w256_71, w256_74, w256_75, w256_76, w256_79, w256_82, w256_83, c_1_0 hc, c_1_1 hc, c_1_2 hc, c_1_3 hc, c_1_4 hc, c_1_5 hc, c_1_6 hc, c_1_7 hc, c_1_8 hc, c_2_0 hc, c_2_1 hc, c_5_0 hc, c_5_1 hc, c_5_2 hc, c_5_3 hc, c_5_5 hc, c_5_8 hc, c_5_11 hc, c_6_1 hc, c_6_2 hc, c_6_3 hc, c_10_4 hc, c_10_5 hc, c_10_6 hc, c_10_7 hc, c_15_1 hc, c_17_1 hc, c_339_0 hc, c_341_0 hc, c_341_1 hc, c_341_2 hc, c_342_4 hc, c_342_5 hc, c_342_6 hc, c_342_7 hc, c_347_0 hc, c_347_2 hc, c_347_3 hc, c_349_0 hc, c_349_1 hc, c_349_2 hc, c_351_2 hc, c_351_10 hc, c_351_12 hc, c_354_0 hc, c_354_1 hc, c_354_2 hc, c_354_3 hc, c_354_4 hc, c_354_5 hc, c_354_6 hc, c_354_7 hc, c_354_8 hc, c_354_20 hc, c_354_25 hc, c_354_26 hc, c_354_27 hc, c_354_28 hc, c_354_32 hc, c_354_33 hc, c_354_34 hc, c_354_35 hc, c_354_38 hc, l_3 hc, l_4 hc, l_7 hc, l_8 hc, l_9 hc, l_11 hc, l_12 hc, l_13 hc, l_14 hc, l_16 hc, l_18 hc, l_19 hc, l_20 hc, l_21 hc, l_340 hc, l_343 hc, l_344 hc, l_345 hc, l_346 hc, l_348 hc, l_350 hc, l_352 hc, l_353 hc, l_355 hc, l_356 hc, l_357 hc, l_358 hc, l_359 hc, l_360 hc, l_361 hc, l_362 hc, l_363 hc, l_364 hc, l_365 hc, l_366 hc, l_367 hc, l_368 hc, l_369 hc, l_370 hc, l_371 hc, l_372 hc, l_373 hc, tk, pk, h2, h3, a1, z1, z2, z3, he.1, kr.1, kr5, q1, show ¬ c (kT k0) ≤ 0 by omega, ↓reduceIte, hh_wr, hl_wr, b10, b11, ite_not, ne_eq, Int.reduceEq, Int.reduceLE, Int.reduceLT, Int.reduceNe, Int.reduceNeg, Int.reduceAdd, Int.reduceSub, Int.reduceMul, not_false_eq_true, not_true_eq_false, false_and, and_false, true_and, and_true, and_self, true_or, or_true, false_or, or_false, if_true, if_false, ite_true, ite_false, mj_tl_some, mj_tl_none, mj_cs0, mj_cs1, mj_cs2, mj_cs3, mj_cs4]
        · have q2 : a + c (kT k0) = V.1 := by omega
          have q3 : e + 1 < V.2 := by omega
          simp only [w256_0, w256_1, w256_4, w256_5, w256_6, w256_7, w256_8, w256_9, w256_10, w256_12, w256_15, w256_16, w256_19, w256_20, w256_21, w256_22, w256_25, w256_26, w256_29, w256_30, w256_31, w256_32, w256_33, w256_34, w256_35, w256_38, w256_39, w256_42, w256_43, w256_44, w256_45, w256_48, w256_49, w256_50, w256_53, w256_56, w256_57, w256_58, w256_61, w256_64, w256_65, w256_66, w256_67, w256_68, w256_71, w256_74, w256_75, w256_76, w256_79, w256_82, w256_83, c_1_0 hc, c_1_1 hc, c_1_2 hc, c_1_3 hc, c_1_4 hc, c_1_5 hc, c_1_6 hc, c_1_7 hc, c_1_8 hc, c_2_0 hc, c_2_1 hc, c_5_0 hc, c_5_1 hc, c_5_2 hc, c_5_3 hc, c_5_5 hc, c_5_8 hc, c_5_11 hc, c_6_1 hc, c_6_2 hc, c_6_3 hc, c_10_4 hc, c_10_5 hc, c_10_6 hc, c_10_7 hc, c_15_1 hc, c_17_1 hc, c_339_0 hc, c_341_0 hc, c_341_1 hc, c_341_2 hc, c_342_4 hc, c_342_5 hc, c_342_6 hc, c_342_7 hc, c_347_0 hc, c_347_2 hc, c_347_3 hc, c_349_0 hc, c_349_1 hc, c_349_2 hc, c_351_2 hc, c_351_10 hc, c_351_12 hc, c_354_0 hc, c_354_1 hc, c_354_2 hc, c_354_3 hc, c_354_4 hc, c_354_5 hc, c_354_6 hc, c_354_7 hc, c_354_8 hc, c_354_20 hc, c_354_25 hc, c_354_26 hc, c_354_27 hc, c_354_28 hc, c_354_32 hc, c_354_33 hc, c_354_34 hc, c_354_35 hc, c_354_38 hc, l_3 hc, l_4 hc, l_7 hc, l_8 hc, l_9 hc, l_11 hc, l_12 hc, l_13 hc, l_14 hc, l_16 hc, l_18 hc, l_19 hc, l_20 hc, l_21 hc, l_340 hc, l_343 hc, l_344 hc, l_345 hc, l_346 hc, l_348 hc, l_350 hc, l_352 hc, l_353 hc, l_355 hc, l_356 hc, l_357 hc, l_358 hc, l_359 hc, l_360 hc, l_361 hc, l_362 hc, l_363 hc, l_364 hc, l_365 hc, l_366 hc, l_367 hc, l_368 hc, l_369 hc, l_370 hc, l_371 hc, l_372 hc, l_373 hc, tk, pk, h2, h3, h4, a1, a2, z1, z2, z3, he.1, kr.1, kr5, q1, q2, q3, Int.lt_irrefl, show ¬ c (kT k0) ≤ 0 by omega, ↓reduceIte, hh_wr, hl_wr, b10, b11, ite_not, ne_eq, Int.reduceEq, Int.reduceLE, Int.reduceLT, Int.reduceNe, Int.reduceNeg, Int.reduceAdd, Int.reduceSub, Int.reduceMul, not_false_eq_true, not_true_eq_false, false_and, and_false, true_and, and_true, and_self, true_or, or_true, false_or, or_false, if_true, if_false, ite_true, ite_false, mj_tl_some, mj_tl_none, mj_cs0, mj_cs1, mj_cs2, mj_cs3, mj_cs4]
      · obtain ⟨k, hk1, hk2⟩ := ih (k0 + 1) (by omega) (by omega) (fun i i1 i2 => by
          by_cases q : i = k0
          · subst q; exact hcd
          · exact g3 i i1 (by omega))
        refine ⟨k, hk1, fun d w => ?_⟩
        unfold cnd at hcd
        rw [w256_9]
        have fin := hk2 d (0, a + c (kT k0))
        by_cases q0 : c (kT k0) ≤ 0
        · simp only [w256_0, w256_1, w256_4, w256_5, w256_6, w256_7, w256_8, w256_10, w256_12, w256_15, w256_16, w256_19, w256_20, w256_21, w256_22, w256_25, w256_26, w256_29, w256_30, w256_31, w256_32, w256_33, w256_34, w256_35, w256_38, w256_39, w256_42, w256_43, w256_44, w256_45, w256_48, w256_49, w256_50, w256_53, w256_56, w256_57, w256_58, w256_61, w256_64, w256_65, w256_66, w256_67, w256_68, w256_71, w256_74, w256_75, w256_76, w256_79, w256_82, w256_83, c_1_0 hc, c_1_1 hc, c_1_2 hc, c_1_3 hc, c_1_4 hc, c_1_5 hc, c_1_6 hc, c_1_7 hc, c_1_8 hc, c_2_0 hc, c_2_1 hc, c_5_0 hc, c_5_1 hc, c_5_2 hc, c_5_3 hc, c_5_5 hc, c_5_8 hc, c_5_11 hc, c_6_1 hc, c_6_2 hc, c_6_3 hc, c_10_4 hc, c_10_5 hc, c_10_6 hc, c_10_7 hc, c_15_1 hc, c_17_1 hc, c_339_0 hc, c_341_0 hc, c_341_1 hc, c_341_2 hc, c_342_4 hc, c_342_5 hc, c_342_6 hc, c_342_7 hc, c_347_0 hc, c_347_2 hc, c_347_3 hc, c_349_0 hc, c_349_1 hc, c_349_2 hc, c_351_2 hc, c_351_10 hc, c_351_12 hc, c_354_0 hc, c_354_1 hc, c_354_2 hc, c_354_3 hc, c_354_4 hc, c_354_5 hc, c_354_6 hc, c_354_7 hc, c_354_8 hc, c_354_20 hc, c_354_25 hc, c_354_26 hc, c_354_27 hc, c_354_28 hc, c_354_32 hc, c_354_33 hc, c_354_34 hc, c_354_35 hc, c_354_38 hc, l_3 hc, l_4 hc, l_7 hc, l_8 hc, l_9 hc, l_11 hc, l_12 hc, l_13 hc, l_14 hc, l_16 hc, l_18 hc, l_19 hc, l_20 hc, l_21 hc, l_340 hc, l_343 hc, l_344 hc, l_345 hc, l_346 hc, l_348 hc, l_350 hc, l_352 hc, l_353 hc, l_355 hc, l_356 hc, l_357 hc, l_358 hc, l_359 hc, l_360 hc, l_361 hc, l_362 hc, l_363 hc, l_364 hc, l_365 hc, l_366 hc, l_367 hc, l_368 hc, l_369 hc, l_370 hc, l_371 hc, l_372 hc, l_373 hc, tk, pk, h2, a1, a3, z1, z2, z3, he.1, kr.1, kr5, q0, ↓reduceIte, hh_wr, hl_wr, b10, b11, ite_not, ne_eq, Int.reduceEq, Int.reduceLE, Int.reduceLT, Int.reduceNe, Int.reduceNeg, Int.reduceAdd, Int.reduceSub, Int.reduceMul, not_false_eq_true, not_true_eq_false, false_and, and_false, true_and, and_true, and_self, true_or, or_true, false_or, or_false, if_true, if_false, ite_true, ite_false, mj_tl_some, mj_tl_none, mj_cs0, mj_cs1, mj_cs2, mj_cs3, mj_cs4]
          exact fin
        · by_cases q1 : a + c (kT k0) < V.1
          · exact absurd ⟨by omega, Or.inl q1⟩ hcd
          · by_cases q2 : a + c (kT k0) = V.1
            · have q3 : ¬ e + 1 < V.2 := fun q => hcd ⟨by omega, Or.inr ⟨q2, q⟩⟩
              rw [q2] at a1 fin q1
              simp only [w256_0, w256_1, w256_4, w256_5, w256_6, w256_7, w256_8, w256_10, w256_12, w256_15, w256_16, w256_19, w256_20, w256_21, w256_22, w256_25, w256_26, w256_29, w256_30, w256_31, w256_32, w256_33, w256_34, w256_35, w256_38, w256_39, w256_42, w256_43, w256_44, w256_45, w256_48, w256_49, w256_50, w256_53, w256_56, w256_57, w256_58, w256_61, w256_64, w256_65, w256_66, w256_67, w256_68, w256_71, w256_74, w256_75, w256_76, w256_79, w256_82, w256_83, c_1_0 hc, c_1_1 hc, c_1_2 hc, c_1_3 hc, c_1_4 hc, c_1_5 hc, c_1_6 hc, c_1_7 hc, c_1_8 hc, c_2_0 hc, c_2_1 hc, c_5_0 hc, c_5_1 hc, c_5_2 hc, c_5_3 hc, c_5_5 hc, c_5_8 hc, c_5_11 hc, c_6_1 hc, c_6_2 hc, c_6_3 hc, c_10_4 hc, c_10_5 hc, c_10_6 hc, c_10_7 hc, c_15_1 hc, c_17_1 hc, c_339_0 hc, c_341_0 hc, c_341_1 hc, c_341_2 hc, c_342_4 hc, c_342_5 hc, c_342_6 hc, c_342_7 hc, c_347_0 hc, c_347_2 hc, c_347_3 hc, c_349_0 hc, c_349_1 hc, c_349_2 hc, c_351_2 hc, c_351_10 hc, c_351_12 hc, c_354_0 hc, c_354_1 hc, c_354_2 hc, c_354_3 hc, c_354_4 hc, c_354_5 hc, c_354_6 hc, c_354_7 hc, c_354_8 hc, c_354_20 hc, c_354_25 hc, c_354_26 hc, c_354_27 hc, c_354_28 hc, c_354_32 hc, c_354_33 hc, c_354_34 hc, c_354_35 hc, c_354_38 hc, l_3 hc, l_4 hc, l_7 hc, l_8 hc, l_9 hc, l_11 hc, l_12 hc, l_13 hc, l_14 hc, l_16 hc, l_18 hc, l_19 hc, l_20 hc, l_21 hc, l_340 hc, l_343 hc, l_344 hc, l_345 hc, l_346 hc, l_348 hc, l_350 hc, l_352 hc, l_353 hc, l_355 hc, l_356 hc, l_357 hc, l_358 hc, l_359 hc, l_360 hc, l_361 hc, l_362 hc, l_363 hc, l_364 hc, l_365 hc, l_366 hc, l_367 hc, l_368 hc, l_369 hc, l_370 hc, l_371 hc, l_372 hc, l_373 hc, tk, pk, h2, h3, h4, a1, a2, a3, z1, z2, z3, he.1, kr.1, kr5, q0, q3, Int.lt_irrefl, ↓reduceIte, hh_wr, hl_wr, b10, b11, ite_not, ne_eq, Int.reduceEq, Int.reduceLE, Int.reduceLT, Int.reduceNe, Int.reduceNeg, Int.reduceAdd, Int.reduceSub, Int.reduceMul, not_false_eq_true, not_true_eq_false, false_and, and_false, true_and, and_true, and_self, true_or, or_true, false_or, or_false, if_true, if_false, ite_true, ite_false, mj_tl_some, mj_tl_none, mj_cs0, mj_cs1, mj_cs2, mj_cs3, mj_cs4]
              exact fin
            · simp only [w256_0, w256_1, w256_4, w256_5, w256_6, w256_7, w256_8, w256_10, w256_12, w256_15, w256_16, w256_19, w256_20, w256_21, w256_22, w256_25, w256_26, w256_29, w256_30, w256_31, w256_32, w256_33, w256_34, w256_35, w256_38, w256_39, w256_42, w256_43, w256_44, w256_45, w256_48, w256_49, w256_50, w256_53, w256_56, w256_57, w256_58, w256_61, w256_64, w256_65, w256_66, w256_67, w256_68, w256_71, w256_74, w256_75, w256_76, w256_79, w256_82, w256_83, c_1_0 hc, c_1_1 hc, c_1_2 hc, c_1_3 hc, c_1_4 hc, c_1_5 hc, c_1_6 hc, c_1_7 hc, c_1_8 hc, c_2_0 hc, c_2_1 hc, c_5_0 hc, c_5_1 hc, c_5_2 hc, c_5_3 hc, c_5_5 hc, c_5_8 hc, c_5_11 hc, c_6_1 hc, c_6_2 hc, c_6_3 hc, c_10_4 hc, c_10_5 hc, c_10_6 hc, c_10_7 hc, c_15_1 hc, c_17_1 hc, c_339_0 hc, c_341_0 hc, c_341_1 hc, c_341_2 hc, c_342_4 hc, c_342_5 hc, c_342_6 hc, c_342_7 hc, c_347_0 hc, c_347_2 hc, c_347_3 hc, c_349_0 hc, c_349_1 hc, c_349_2 hc, c_351_2 hc, c_351_10 hc, c_351_12 hc, c_354_0 hc, c_354_1 hc, c_354_2 hc, c_354_3 hc, c_354_4 hc, c_354_5 hc, c_354_6 hc, c_354_7 hc, c_354_8 hc, c_354_20 hc, c_354_25 hc, c_354_26 hc, c_354_27 hc, c_354_28 hc, c_354_32 hc, c_354_33 hc, c_354_34 hc, c_354_35 hc, c_354_38 hc, l_3 hc, l_4 hc, l_7 hc, l_8 hc, l_9 hc, l_11 hc, l_12 hc, l_13 hc, l_14 hc, l_16 hc, l_18 hc, l_19 hc, l_20 hc, l_21 hc, l_340 hc, l_343 hc, l_344 hc, l_345 hc, l_346 hc, l_348 hc, l_350 hc, l_352 hc, l_353 hc, l_355 hc, l_356 hc, l_357 hc, l_358 hc, l_359 hc, l_360 hc, l_361 hc, l_362 hc, l_363 hc, l_364 hc, l_365 hc, l_366 hc, l_367 hc, l_368 hc, l_369 hc, l_370 hc, l_371 hc, l_372 hc, l_373 hc, tk, pk, h2, h3, a1, a3, z1, z2, z3, he.1, kr.1, kr5, q0, q1, q2, ↓reduceIte, hh_wr, hl_wr, b10, b11, ite_not, ne_eq, Int.reduceEq, Int.reduceLE, Int.reduceLT, Int.reduceNe, Int.reduceNeg, Int.reduceAdd, Int.reduceSub, Int.reduceMul, not_false_eq_true, not_true_eq_false, false_and, and_false, true_and, and_true, and_self, true_or, or_true, false_or, or_false, if_true, if_false, ite_true, ite_false, mj_tl_some, mj_tl_none, mj_cs0, mj_cs1, mj_cs2, mj_cs3, mj_cs4]
              exact fin
  obtain ⟨k, hk1, hk2⟩ := key (19 - j).toNat (j + 1) (by omega) (by omega) (fun i i1 i2 => by omega)
  refine ⟨k, hk1, fun d Q => ?_⟩
  show wp X d 256 0 [(32, 354), (0, e), (9, 0), (9, 0)] [] M Q ↔ _
  refine wp.det ?_
  simp only [w256_0, w256_1, w256_4, w256_5, w256_6, w256_7, w256_8, c_1_0 hc, c_1_1 hc, c_1_2 hc, c_1_3 hc, c_1_4 hc, c_1_5 hc, c_1_6 hc, c_1_7 hc, c_1_8 hc, c_2_0 hc, c_2_1 hc, c_5_0 hc, c_5_1 hc, c_5_2 hc, c_5_3 hc, c_5_5 hc, c_5_8 hc, c_5_11 hc, c_6_1 hc, c_6_2 hc, c_6_3 hc, c_10_4 hc, c_10_5 hc, c_10_6 hc, c_10_7 hc, c_15_1 hc, c_17_1 hc, c_339_0 hc, c_341_0 hc, c_341_1 hc, c_341_2 hc, c_342_4 hc, c_342_5 hc, c_342_6 hc, c_342_7 hc, c_347_0 hc, c_347_2 hc, c_347_3 hc, c_349_0 hc, c_349_1 hc, c_349_2 hc, c_351_2 hc, c_351_10 hc, c_351_12 hc, c_354_0 hc, c_354_1 hc, c_354_2 hc, c_354_3 hc, c_354_4 hc, c_354_5 hc, c_354_6 hc, c_354_7 hc, c_354_8 hc, c_354_20 hc, c_354_25 hc, c_354_26 hc, c_354_27 hc, c_354_28 hc, c_354_32 hc, c_354_33 hc, c_354_34 hc, c_354_35 hc, c_354_38 hc, l_3 hc, l_4 hc, l_7 hc, l_8 hc, l_9 hc, l_11 hc, l_12 hc, l_13 hc, l_14 hc, l_16 hc, l_18 hc, l_19 hc, l_20 hc, l_21 hc, l_340 hc, l_343 hc, l_344 hc, l_345 hc, l_346 hc, l_348 hc, l_350 hc, l_352 hc, l_353 hc, l_355 hc, l_356 hc, l_357 hc, l_358 hc, l_359 hc, l_360 hc, l_361 hc, l_362 hc, l_363 hc, l_364 hc, l_365 hc, l_366 hc, l_367 hc, l_368 hc, l_369 hc, l_370 hc, l_371 hc, l_372 hc, l_373 hc, h1, aj (x := j) (y := 1) ⟨by omega, by omega⟩, he.1, show e < 21 by omega, ↓reduceIte, hh_wr, hl_wr, b10, b11, ite_not, ne_eq, Int.reduceEq, Int.reduceLE, Int.reduceLT, Int.reduceNe, Int.reduceNeg, Int.reduceAdd, Int.reduceSub, Int.reduceMul, not_false_eq_true, not_true_eq_false, false_and, and_false, true_and, and_true, and_self, true_or, or_true, false_or, or_false, if_true, if_false, ite_true, ite_false, mj_tl_some, mj_tl_none, mj_cs0, mj_cs1, mj_cs2, mj_cs3, mj_cs4]
  exact hk2 d _
theorem lay_run {c : Int → Int} {v code : Int} {M0 : mj_M} (hc : CS M0) (tb : Tb M0) (hr : ∀ k, 0 ≤ k → k ≤ 4 → 0 ≤ c k ∧ c k ≤ 9) (hp : ∀ k, 0 ≤ k → k ≤ 4 → hh M0 368 k = c k) : ∀ (N r : Nat), r ≤ N → ∀ (M1 : mj_M) (e a lo hi : Int) (V : Int × Int) (w4 w5 w6 w7 w8 w9 : mj_V), r ≤ 20 → 0 ≤ e → e + r ≤ 20 → 0 ≤ a → a ≤ 9 * e → Ls M0 M1 → mj_in64 lo → mj_in64 hi → hh M1 369 e = 19 - (r : Int) → hh M1 370 e = a → hh M1 371 e = lo → hh M1 372 e = hi → hh M1 354 30 = V.1 → hh M1 354 31 = V.2 → (∀ (M2 : mj_M) (w4 w5 w6 w7 w8 w9 : mj_V), Ls M0 M2 → (∀ x i, 369 ≤ x → x ≤ 372 → i < e → hh M2 x i = hh M1 x i) → hh M2 354 30 = (bb c r a e lo hi V).1 → hh M2 354 31 = (bb c r a e lo hi V).2 → wp X (d + 1) 255 68 [(32, 354), (0, v), (0, code), (0, e - 1), w4, w5, w6, w7, w8, w9] [] M2 Q) → wp X (d + 1) 255 68 [(32, 354), (0, v), (0, code), (0, e), w4, w5, w6, w7, w8, w9] [] M1 Q := by
  intro N
  induction N with
  | zero =>
    intro r hrN M1 e a lo hi V w4 w5 w6 w7 w8 w9 r20 e0 e20 a0 a9 ls l64 h64 g1 g2 g3 g4 g5 g6 K
    have hr0 : r = 0 := by omega
    subst hr0
    have hc1 := hc.fz ls.fz (by decide)
    have tb1 := tb.fz ls.fz (by decide)
    obtain ⟨k, hk, hk2⟩ := m_nextSaying (X := X) (c := c) (V := V) hc1 tb1 hr (fun k k0 k4 => (ls.h 368 k (by omega) (by omega)).trans (hp k k0 k4)) ⟨e0, by omega⟩ (j := 19) (by decide) g1 g2 ⟨a0, by omega⟩ g5 g6
    rcases hk with ⟨rfl, _⟩ | ⟨q, _⟩
    · rw [w255_68]
      simp only [w255_69, w255_72, w255_73, w255_74, w255_77, w255_79, w255_81, w255_82, w255_85, w255_88, hk2, show ¬ e < 0 by omega, aj (x := e) (y := -1) ⟨by omega, by omega⟩, show e + -1 = e - 1 by omega, ↓reduceIte, hh_wr, hl_wr, b10, b11, ite_not, ne_eq, Int.reduceEq, Int.reduceLE, Int.reduceLT, Int.reduceNe, Int.reduceNeg, Int.reduceAdd, Int.reduceSub, Int.reduceMul, not_false_eq_true, not_true_eq_false, false_and, and_false, true_and, and_true, and_self, true_or, or_true, false_or, or_false, if_true, if_false, ite_true, ite_false, mj_tl_some, mj_tl_none, mj_cs0, mj_cs1, mj_cs2, mj_cs3, mj_cs4]
      exact K M1 _ _ _ _ _ _ ls (fun x i _ _ _ => rfl) g5 g6
    · omega
  | succ N ih =>
    intro r hrN M1 e a lo hi V w4 w5 w6 w7 w8 w9 r20 e0 e20 a0 a9 ls l64 h64 g1 g2 g3 g4 g5 g6 K
    have hc1 := hc.fz ls.fz (by decide)
    have tb1 := tb.fz ls.fz (by decide)
    have hp1 : ∀ k, 0 ≤ k → k ≤ 4 → hh M1 368 k = c k := fun k k0 k4 => (ls.h 368 k (by omega) (by omega)).trans (hp k k0 k4)
    obtain ⟨k, hk, hk2⟩ := m_nextSaying (X := X) (c := c) (V := V) hc1 tb1 hr hp1 ⟨e0, by omega⟩ (j := 19 - (r : Int)) ⟨by omega, by omega⟩ g1 g2 ⟨a0, by omega⟩ g5 g6
    have z0 : ¬ e < 0 := by omega
    have z1 : e < 21 := by omega
    rcases hk with ⟨rfl, hno⟩ | ⟨⟨k1, k20⟩, hcd, hno⟩
    · have eb : bb c r a e lo hi V = V := by
        have := bb_skip (c := c) (a := a) (e := e) (lo := lo) (hi := hi) (V := V) (r := 0) r (fun i hi => hno _ (by unfold kS; omega) (by unfold kS; omega))
        rw [Nat.zero_add] at this
        rw [this, bb]
      rw [eb] at K
      rw [w255_68]
      simp only [w255_69, w255_72, w255_73, w255_74, w255_77, w255_79, w255_81, w255_82, w255_85, w255_88, hk2, z0, aj (x := e) (y := -1) ⟨by omega, by omega⟩, show e + -1 = e - 1 by omega, ↓reduceIte, hh_wr, hl_wr, b10, b11, ite_not, ne_eq, Int.reduceEq, Int.reduceLE, Int.reduceLT, Int.reduceNe, Int.reduceNeg, Int.reduceAdd, Int.reduceSub, Int.reduceMul, not_false_eq_true, not_true_eq_false, false_and, and_false, true_and, and_true, and_self, true_or, or_true, false_or, or_false, if_true, if_false, ite_true, ite_false, mj_tl_some, mj_tl_none, mj_cs0, mj_cs1, mj_cs2, mj_cs3, mj_cs4]
      exact K M1 _ _ _ _ _ _ ls (fun x i _ _ _ => rfl) g5 g6
    · obtain ⟨rk, hrk⟩ := nat_of (show 0 ≤ 19 - k by omega)
      obtain ⟨m, hm⟩ : ∃ m, r = rk + 1 + m := ⟨r - (rk + 1), by omega⟩
      have ekS : kS rk = k := by unfold kS; omega
      have eb : bb c r a e lo hi V = bb c (rk + 1) a e lo hi V := by
        rw [hm]
        exact bb_skip m (fun i hi => hno _ (by unfold kS; omega) (by unfold kS; omega))
      have hcd' : 0 < c (kT (kS rk)) ∧ (a + c (kT (kS rk)) < V.1 ∨ (a + c (kT (kS rk)) = V.1 ∧ e + 1 < V.2)) := by rw [ekS]; exact hcd
      rw [bb, if_pos hcd', ekS] at eb
      have kr := kT_r k
      have kr5 : kT k < 5 := by omega
      have cr := hr _ kr.1 kr.2
      have pk := hp1 _ kr.1 kr.2
      have tk := tb1.k k (by omega) (by omega)
      have tl := tb1.l k (by omega) (by omega)
      have tg := tb1.g k (by omega) (by omega)
      have a1 : ji_add a (c (kT k)) = a + c (kT k) := aj ⟨by omega, by omega⟩
      have a2 : ji_add e 1 = e + 1 := aj ⟨by omega, by omega⟩
      have z2 : (0 : Int) ≤ k := by omega
      have z3 : ¬ k = -1 := by omega
      have i1 := jl_and_in lo (lT k)
      have i2 := jl_and_in hi (gT k)
      have ce1 := cmp_eq i1 (show mj_in64 1 from ⟨by decide, by decide⟩)
      have ce2 := cmp_eq i2 (show mj_in64 0 from ⟨by decide, by decide⟩)
      generalize hlo : jl_and lo (lT k) = lo' at *
      generalize hhi : jl_and hi (gT k) = hi' at *
      generalize hck : c (kT k) = ck at *
      have tail : ∀ (L' H' : Prop) [Decidable L'] [Decidable H'], True := fun _ _ _ _ => trivial
      by_cases hpin : lo' = 1 ∧ hi' = 0
      · rw [if_pos hpin] at eb
        have j1 : jl_cmp lo' 1 = 0 := by rw [ce1]; exact hpin.1
        have j2 : jl_cmp hi' 0 = 0 := by rw [ce2]; exact hpin.2
        rw [w255_68]
        simp only [w255_69, w255_72, w255_73, w255_74, w255_77, w255_79, w255_81, w255_82, w255_91, w255_92, w255_95, w255_96, w255_98, w255_99, w255_100, w255_103, w255_104, w255_105, w255_106, w255_109, w255_111, w255_112, w255_113, w255_115, w255_116, w255_119, w255_120, w255_121, w255_122, w255_125, w255_127, w255_128, w255_129, w255_131, w255_132, w255_135, w255_136, w255_137, w255_138, w255_141, w255_142, w255_145, w255_147, w255_148, w255_149, w255_150, w255_152, w255_154, w255_155, w255_156, w255_159, w255_161, w255_162, w255_163, w255_166, w255_167, w255_169, w255_172, w255_173, w255_174, w255_175, w255_176, w255_179, c_1_0 hc1, c_1_1 hc1, c_1_2 hc1, c_1_3 hc1, c_1_4 hc1, c_1_5 hc1, c_1_6 hc1, c_1_7 hc1, c_1_8 hc1, c_2_0 hc1, c_2_1 hc1, c_5_0 hc1, c_5_1 hc1, c_5_2 hc1, c_5_3 hc1, c_5_5 hc1, c_5_8 hc1, c_5_11 hc1, c_6_1 hc1, c_6_2 hc1, c_6_3 hc1, c_10_4 hc1, c_10_5 hc1, c_10_6 hc1, c_10_7 hc1, c_15_1 hc1, c_17_1 hc1, c_339_0 hc1, c_341_0 hc1, c_341_1 hc1, c_341_2 hc1, c_342_4 hc1, c_342_5 hc1, c_342_6 hc1, c_342_7 hc1, c_347_0 hc1, c_347_2 hc1, c_347_3 hc1, c_349_0 hc1, c_349_1 hc1, c_349_2 hc1, c_351_2 hc1, c_351_10 hc1, c_351_12 hc1, c_354_0 hc1, c_354_1 hc1, c_354_2 hc1, c_354_3 hc1, c_354_4 hc1, c_354_5 hc1, c_354_6 hc1, c_354_7 hc1, c_354_8 hc1, c_354_20 hc1, c_354_25 hc1, c_354_26 hc1, c_354_27 hc1, c_354_28 hc1, c_354_32 hc1, c_354_33 hc1, c_354_34 hc1, c_354_35 hc1, c_354_38 hc1, l_3 hc1, l_4 hc1, l_7 hc1, l_8 hc1, l_9 hc1, l_11 hc1, l_12 hc1, l_13 hc1, l_14 hc1, l_16 hc1, l_18 hc1, l_19 hc1, l_20 hc1, l_21 hc1, l_340 hc1, l_343 hc1, l_344 hc1, l_345 hc1, l_346 hc1, l_348 hc1, l_350 hc1, l_352 hc1, l_353 hc1, l_355 hc1, l_356 hc1, l_357 hc1, l_358 hc1, l_359 hc1, l_360 hc1, l_361 hc1, l_362 hc1, l_363 hc1, l_364 hc1, l_365 hc1, l_366 hc1, l_367 hc1, l_368 hc1, l_369 hc1, l_370 hc1, l_371 hc1, l_372 hc1, l_373 hc1, hk2, g2, g3, g4, tk, tl, tg, pk, hlo, hhi, a1, a2, e0, z0, z1, z2, z3, k20, kr.1, kr5, j1, j2, ↓reduceIte, hh_wr, hl_wr, b10, b11, ite_not, ne_eq, Int.reduceEq, Int.reduceLE, Int.reduceLT, Int.reduceNe, Int.reduceNeg, Int.reduceAdd, Int.reduceSub, Int.reduceMul, not_false_eq_true, not_true_eq_false, false_and, and_false, true_and, and_true, and_self, true_or, or_true, false_or, or_false, if_true, if_false, ite_true, ite_false, mj_tl_some, mj_tl_none, mj_cs0, mj_cs1, mj_cs2, mj_cs3, mj_cs4]
        have ls2 : Ls M0 (mj_wr (mj_wr (mj_wr M1 369 e k) 354 30 (a + ck)) 354 31 (e + 1)) := ((ls.wr (by omega)).wr (by omega)).wr (by omega)
        refine ih rk (by omega) _ e a lo hi (a + ck, e + 1) _ _ _ _ _ _ (by omega) e0 (by omega) a0 a9 ls2 l64 h64 ?_ ?_ ?_ ?_ ?_ ?_ (fun M2 u4 u5 u6 u7 u8 u9 q1 q2 q3 q4 => ?_)
        · simp only [hh_wr, Int.reduceEq, false_and, if_false, and_self, if_true]; omega
        · simp only [hh_wr, Int.reduceEq, false_and, if_false]; exact g2
        · simp only [hh_wr, Int.reduceEq, false_and, if_false]; exact g3
        · simp only [hh_wr, Int.reduceEq, false_and, if_false]; exact g4
        · simp only [hh_wr, Int.reduceEq, and_false, if_false, and_self, if_true]
        · simp only [hh_wr, and_self, if_true]
        · rw [← eb] at q3 q4
          exact K M2 _ _ _ _ _ _ q1 (fun x i x1 x2 x3 => by rw [q2 x i x1 x2 x3, hh_wr, if_neg (by omega), hh_wr, if_neg (by omega), hh_wr, if_neg (by omega)]) q3 q4
      · rw [if_neg hpin] at eb
        have ls2 : Ls M0 (mj_wr (mj_wr (mj_wr (mj_wr (mj_wr M1 369 e k) 369 (e + 1) k) 370 (e + 1) (a + ck)) 371 (e + 1) lo') 372 (e + 1) hi') := ((((ls.wr (by omega)).wr (by omega)).wr (by omega)).wr (by omega)).wr (by omega)
        have go : wp X (d + 1) 255 68 [(32, 354), (0, v), (0, code), (0, e + 1), (0, k), (1, lo'), (9, 0), (1, hi'), (9, 0), (0, a + ck)] [] (mj_wr (mj_wr (mj_wr (mj_wr (mj_wr M1 369 e k) 369 (e + 1) k) 370 (e + 1) (a + ck)) 371 (e + 1) lo') 372 (e + 1) hi') Q := by
          refine ih rk (by omega) _ (e + 1) (a + ck) lo' hi' V _ _ _ _ _ _ (by omega) (by omega) (by omega) (by omega) (by omega) ls2 i1 i2 ?_ ?_ ?_ ?_ ?_ ?_ (fun M2 u4 u5 u6 u7 u8 u9 q1 q2 q3 q4 => ?_)
          · simp only [hh_wr, Int.reduceEq, false_and, if_false, and_self, if_true]; omega
          · simp only [hh_wr, Int.reduceEq, false_and, if_false, and_self, if_true]
          · simp only [hh_wr, Int.reduceEq, false_and, if_false, and_self, if_true]
          · simp only [hh_wr, and_self, if_true]
          · simp only [hh_wr, Int.reduceEq, false_and, if_false]; exact g5
          · simp only [hh_wr, Int.reduceEq, false_and, if_false]; exact g6
          · rw [show e + 1 - 1 = e by omega]
            refine ih rk (by omega) M2 e a lo hi _ _ _ _ _ _ _ (by omega) e0 (by omega) a0 a9 q1 l64 h64 ?_ ?_ ?_ ?_ q3 q4 (fun M3 u4 u5 u6 u7 u8 u9 p1 p2 p3 p4 => ?_)
            · rw [q2 369 e (by omega) (by omega) (by omega)]
              simp only [hh_wr, Int.reduceEq, false_and, if_false, show ¬ e = e + 1 by omega, and_false, and_self, if_true]; omega
            · rw [q2 370 e (by omega) (by omega) (by omega)]
              simp only [hh_wr, Int.reduceEq, false_and, if_false, show ¬ e = e + 1 by omega, and_false]; exact g2
            · rw [q2 371 e (by omega) (by omega) (by omega)]
              simp only [hh_wr, Int.reduceEq, false_and, if_false, show ¬ e = e + 1 by omega, and_false]; exact g3
            · rw [q2 372 e (by omega) (by omega) (by omega)]
              simp only [hh_wr, Int.reduceEq, false_and, if_false, show ¬ e = e + 1 by omega, and_false]; exact g4
            · rw [← eb] at p3 p4
              exact K M3 _ _ _ _ _ _ p1 (fun x i x1 x2 x3 => by rw [p2 x i x1 x2 x3, q2 x i x1 x2 (by omega), hh_wr, if_neg (by omega), hh_wr, if_neg (by omega), hh_wr, if_neg (by omega), hh_wr, if_neg (by omega), hh_wr, if_neg (by omega)]) p3 p4
        by_cases hl1 : lo' = 1
        · have hh0 : ¬ hi' = 0 := fun q => hpin ⟨hl1, q⟩
          have j1 : jl_cmp lo' 1 = 0 := by rw [ce1]; exact hl1
          have j2 : ¬ jl_cmp hi' 0 = 0 := by rw [ce2]; exact hh0
          rw [w255_68]
          simp only [w255_69, w255_72, w255_73, w255_74, w255_77, w255_79, w255_81, w255_82, w255_91, w255_92, w255_95, w255_96, w255_98, w255_99, w255_100, w255_103, w255_104, w255_105, w255_106, w255_109, w255_111, w255_112, w255_113, w255_115, w255_116, w255_119, w255_120, w255_121, w255_122, w255_125, w255_127, w255_128, w255_129, w255_131, w255_132, w255_135, w255_136, w255_137, w255_138, w255_141, w255_142, w255_145, w255_147, w255_148, w255_149, w255_150, w255_152, w255_154, w255_155, w255_156, w255_159, w255_161, w255_162, w255_163, w255_182, w255_185, w255_186, w255_189, w255_190, w255_192, w255_193, w255_194, w255_197, w255_198, w255_200, w255_201, w255_202, w255_205, w255_206, w255_208, w255_209, w255_210, w255_213, w255_214, w255_216, w255_217, c_1_0 hc1, c_1_1 hc1, c_1_2 hc1, c_1_3 hc1, c_1_4 hc1, c_1_5 hc1, c_1_6 hc1, c_1_7 hc1, c_1_8 hc1, c_2_0 hc1, c_2_1 hc1, c_5_0 hc1, c_5_1 hc1, c_5_2 hc1, c_5_3 hc1, c_5_5 hc1, c_5_8 hc1, c_5_11 hc1, c_6_1 hc1, c_6_2 hc1, c_6_3 hc1, c_10_4 hc1, c_10_5 hc1, c_10_6 hc1, c_10_7 hc1, c_15_1 hc1, c_17_1 hc1, c_339_0 hc1, c_341_0 hc1, c_341_1 hc1, c_341_2 hc1, c_342_4 hc1, c_342_5 hc1, c_342_6 hc1, c_342_7 hc1, c_347_0 hc1, c_347_2 hc1, c_347_3 hc1, c_349_0 hc1, c_349_1 hc1, c_349_2 hc1, c_351_2 hc1, c_351_10 hc1, c_351_12 hc1, c_354_0 hc1, c_354_1 hc1, c_354_2 hc1, c_354_3 hc1, c_354_4 hc1, c_354_5 hc1, c_354_6 hc1, c_354_7 hc1, c_354_8 hc1, c_354_20 hc1, c_354_25 hc1, c_354_26 hc1, c_354_27 hc1, c_354_28 hc1, c_354_32 hc1, c_354_33 hc1, c_354_34 hc1, c_354_35 hc1, c_354_38 hc1, l_3 hc1, l_4 hc1, l_7 hc1, l_8 hc1, l_9 hc1, l_11 hc1, l_12 hc1, l_13 hc1, l_14 hc1, l_16 hc1, l_18 hc1, l_19 hc1, l_20 hc1, l_21 hc1, l_340 hc1, l_343 hc1, l_344 hc1, l_345 hc1, l_346 hc1, l_348 hc1, l_350 hc1, l_352 hc1, l_353 hc1, l_355 hc1, l_356 hc1, l_357 hc1, l_358 hc1, l_359 hc1, l_360 hc1, l_361 hc1, l_362 hc1, l_363 hc1, l_364 hc1, l_365 hc1, l_366 hc1, l_367 hc1, l_368 hc1, l_369 hc1, l_370 hc1, l_371 hc1, l_372 hc1, l_373 hc1, hk2, g2, g3, g4, tk, tl, tg, pk, hlo, hhi, a1, a2, e0, z0, z1, z2, z3, k20, kr.1, kr5, j1, j2, show (0 : Int) ≤ e + 1 by omega, show e + 1 < 21 by omega, ↓reduceIte, hh_wr, hl_wr, b10, b11, ite_not, ne_eq, Int.reduceEq, Int.reduceLE, Int.reduceLT, Int.reduceNe, Int.reduceNeg, Int.reduceAdd, Int.reduceSub, Int.reduceMul, not_false_eq_true, not_true_eq_false, false_and, and_false, true_and, and_true, and_self, true_or, or_true, false_or, or_false, if_true, if_false, ite_true, ite_false, mj_tl_some, mj_tl_none, mj_cs0, mj_cs1, mj_cs2, mj_cs3, mj_cs4]
          exact go
        · have j1 : ¬ jl_cmp lo' 1 = 0 := by rw [ce1]; exact hl1
          rw [w255_68]
          simp only [w255_69, w255_72, w255_73, w255_74, w255_77, w255_79, w255_81, w255_82, w255_91, w255_92, w255_95, w255_96, w255_98, w255_99, w255_100, w255_103, w255_104, w255_105, w255_106, w255_109, w255_111, w255_112, w255_113, w255_115, w255_116, w255_119, w255_120, w255_121, w255_122, w255_125, w255_127, w255_128, w255_129, w255_131, w255_132, w255_135, w255_136, w255_137, w255_138, w255_141, w255_142, w255_145, w255_147, w255_148, w255_149, w255_150, w255_152, w255_154, w255_155, w255_156, w255_182, w255_185, w255_186, w255_189, w255_190, w255_192, w255_193, w255_194, w255_197, w255_198, w255_200, w255_201, w255_202, w255_205, w255_206, w255_208, w255_209, w255_210, w255_213, w255_214, w255_216, w255_217, c_1_0 hc1, c_1_1 hc1, c_1_2 hc1, c_1_3 hc1, c_1_4 hc1, c_1_5 hc1, c_1_6 hc1, c_1_7 hc1, c_1_8 hc1, c_2_0 hc1, c_2_1 hc1, c_5_0 hc1, c_5_1 hc1, c_5_2 hc1, c_5_3 hc1, c_5_5 hc1, c_5_8 hc1, c_5_11 hc1, c_6_1 hc1, c_6_2 hc1, c_6_3 hc1, c_10_4 hc1, c_10_5 hc1, c_10_6 hc1, c_10_7 hc1, c_15_1 hc1, c_17_1 hc1, c_339_0 hc1, c_341_0 hc1, c_341_1 hc1, c_341_2 hc1, c_342_4 hc1, c_342_5 hc1, c_342_6 hc1, c_342_7 hc1, c_347_0 hc1, c_347_2 hc1, c_347_3 hc1, c_349_0 hc1, c_349_1 hc1, c_349_2 hc1, c_351_2 hc1, c_351_10 hc1, c_351_12 hc1, c_354_0 hc1, c_354_1 hc1, c_354_2 hc1, c_354_3 hc1, c_354_4 hc1, c_354_5 hc1, c_354_6 hc1, c_354_7 hc1, c_354_8 hc1, c_354_20 hc1, c_354_25 hc1, c_354_26 hc1, c_354_27 hc1, c_354_28 hc1, c_354_32 hc1, c_354_33 hc1, c_354_34 hc1, c_354_35 hc1, c_354_38 hc1, l_3 hc1, l_4 hc1, l_7 hc1, l_8 hc1, l_9 hc1, l_11 hc1, l_12 hc1, l_13 hc1, l_14 hc1, l_16 hc1, l_18 hc1, l_19 hc1, l_20 hc1, l_21 hc1, l_340 hc1, l_343 hc1, l_344 hc1, l_345 hc1, l_346 hc1, l_348 hc1, l_350 hc1, l_352 hc1, l_353 hc1, l_355 hc1, l_356 hc1, l_357 hc1, l_358 hc1, l_359 hc1, l_360 hc1, l_361 hc1, l_362 hc1, l_363 hc1, l_364 hc1, l_365 hc1, l_366 hc1, l_367 hc1, l_368 hc1, l_369 hc1, l_370 hc1, l_371 hc1, l_372 hc1, l_373 hc1, hk2, g2, g3, g4, tk, tl, tg, pk, hlo, hhi, a1, a2, e0, z0, z1, z2, z3, k20, kr.1, kr5, j1, show (0 : Int) ≤ e + 1 by omega, show e + 1 < 21 by omega, ↓reduceIte, hh_wr, hl_wr, b10, b11, ite_not, ne_eq, Int.reduceEq, Int.reduceLE, Int.reduceLT, Int.reduceNe, Int.reduceNeg, Int.reduceAdd, Int.reduceSub, Int.reduceMul, not_false_eq_true, not_true_eq_false, false_and, and_false, true_and, and_true, and_self, true_or, or_true, false_or, or_false, if_true, if_false, ite_true, ite_false, mj_tl_some, mj_tl_none, mj_cs0, mj_cs1, mj_cs2, mj_cs3, mj_cs4]
          exact go
theorem m_layLeast {v : Int} (h : RW M) (co : Cok M) (hb : bw (coF (hh M 355) v) ≠ -1) : wc X (d + 2) 255 [(32, 354), (0, v)] M (fun q M1 => q = none ∧ fz [8, 9] M M1 ∧ Cok M1 ∧ hh M1 354 30 = bw (coF (hh M 355) v) / 100 ∧ hh M1 354 31 = bw (coF (hh M 355) v) % 100) := by
  show wp X (d + 2) 255 0 [(32, 354), (0, v), (9, 0), (9, 0), (9, 0), (9, 0), (9, 0), (9, 0), (9, 0), (9, 0)] [] M _
  simp only [w255_0, w255_1, w255_2, ↓reduceIte, hh_wr, hl_wr, b10, b11, ite_not, ne_eq, Int.reduceEq, Int.reduceLE, Int.reduceLT, Int.reduceNe, Int.reduceNeg, Int.reduceAdd, Int.reduceSub, Int.reduceMul, not_false_eq_true, not_true_eq_false, false_and, and_false, true_and, and_true, and_self, true_or, or_true, false_or, or_false, if_true, if_false, ite_true, ite_false, mj_tl_some, mj_tl_none, mj_cs0, mj_cs1, mj_cs2, mj_cs3, mj_cs4]
  refine wc.mono (m_layCosts (d := d) h) ?_
  rintro q M1 ⟨rfl, s1, hk⟩
  have f1 : fz [8, 9] M M1 := (s1.fz z368).mono (fun z hz => by simp at hz; subst hz; decide)
  have hc1 := h.cs.fz f1 (by decide)
  have tb1 := h.tb.fz f1 (by decide)
  have hr := coF_hc h.ai v
  generalize hcc : coF (hh M 355) v = c at *
  have dgc : bw (dg (cdN c 5)) = bw c := bw_congr (fun k k0 k4 => dg_cd hr ⟨k0, k4⟩)
  have cd0 : 0 ≤ cdN c 5 := by
    have c0 := hr 0 (by decide) (by decide)
    have c1 := hr 1 (by decide) (by decide)
    have c2 := hr 2 (by decide) (by decide)
    have c3 := hr 3 (by decide) (by decide)
    have c4 := hr 4 (by decide) (by decide)
    have e : cdN c 5 = 10 * (10 * (10 * (10 * (10 * 0 + c 0) + c 1) + c 2) + c 3) + c 4 := rfl
    omega
  have s29 : hh M1 354 29 = hh M 354 29 := s1.h 354 29 (by decide)
  have s30 : hh M1 354 30 = hh M 354 30 := s1.h 354 30 (by decide)
  have s31 : hh M1 354 31 = hh M 354 31 := s1.h 354 31 (by decide)
  by_cases heq : cdN c 5 = hh M 354 29
  · simp only [w255_0, w255_1, w255_2, w255_5, w255_6, w255_7, w255_8, w255_11, w255_14, w255_15, w255_16, w255_17, w255_20, w255_21, w255_24, w255_27, w255_28, w255_31, w255_34, w255_35, w255_36, w255_37, w255_40, w255_41, w255_42, w255_43, w255_44, w255_47, w255_48, w255_49, w255_50, w255_51, w255_54, w255_55, w255_58, w255_59, w255_60, w255_63, w255_64, w255_67, w255_68, w255_69, w255_72, w255_73, w255_74, w255_77, w255_79, w255_81, w255_82, w255_85, w255_88, w255_91, w255_92, w255_95, w255_96, w255_98, w255_99, w255_100, w255_103, w255_104, w255_105, w255_106, w255_109, w255_111, w255_112, w255_113, w255_115, w255_116, w255_119, w255_120, w255_121, w255_122, w255_125, w255_127, w255_128, w255_129, w255_131, w255_132, w255_135, w255_136, w255_137, w255_138, w255_141, w255_142, w255_145, w255_147, w255_148, w255_149, w255_150, w255_152, w255_154, w255_155, w255_156, w255_159, w255_161, w255_162, w255_163, w255_166, w255_167, w255_169, w255_172, w255_173, w255_174, w255_175, w255_176, w255_179, w255_182, w255_185, w255_186, w255_189, w255_190, w255_192, w255_193, w255_194, w255_197, w255_198, w255_200, w255_201, w255_202, w255_205, w255_206, w255_208, w255_209, w255_210, w255_213, w255_214, w255_216, w255_217, w255_220, s29, heq, ↓reduceIte, hh_wr, hl_wr, b10, b11, ite_not, ne_eq, Int.reduceEq, Int.reduceLE, Int.reduceLT, Int.reduceNe, Int.reduceNeg, Int.reduceAdd, Int.reduceSub, Int.reduceMul, not_false_eq_true, not_true_eq_false, false_and, and_false, true_and, and_true, and_self, true_or, or_true, false_or, or_false, if_true, if_false, ite_true, ite_false, mj_tl_some, mj_tl_none, mj_cs0, mj_cs1, mj_cs2, mj_cs3, mj_cs4]
    rcases co with q | ⟨q1, q2, q3⟩
    · omega
    · rw [← heq, dgc] at q1 q2 q3
      refine ⟨f1, ?_, by rw [s30]; exact q2, by rw [s31]; exact q3⟩
      refine Or.inr ?_
      rw [s29, s30, s31, ← heq, dgc]
      exact ⟨q1, q2, q3⟩
  · simp only [w255_5, w255_6, w255_7, w255_8, w255_11, w255_15, w255_16, w255_17, w255_20, w255_21, w255_24, w255_27, w255_28, w255_31, w255_34, w255_35, w255_36, w255_37, w255_40, w255_41, w255_42, w255_43, w255_44, w255_47, w255_48, w255_49, w255_50, w255_51, w255_54, w255_55, w255_58, w255_59, w255_60, w255_63, w255_64, w255_67, c_1_0 hc1, c_1_1 hc1, c_1_2 hc1, c_1_3 hc1, c_1_4 hc1, c_1_5 hc1, c_1_6 hc1, c_1_7 hc1, c_1_8 hc1, c_2_0 hc1, c_2_1 hc1, c_5_0 hc1, c_5_1 hc1, c_5_2 hc1, c_5_3 hc1, c_5_5 hc1, c_5_8 hc1, c_5_11 hc1, c_6_1 hc1, c_6_2 hc1, c_6_3 hc1, c_10_4 hc1, c_10_5 hc1, c_10_6 hc1, c_10_7 hc1, c_15_1 hc1, c_17_1 hc1, c_339_0 hc1, c_341_0 hc1, c_341_1 hc1, c_341_2 hc1, c_342_4 hc1, c_342_5 hc1, c_342_6 hc1, c_342_7 hc1, c_347_0 hc1, c_347_2 hc1, c_347_3 hc1, c_349_0 hc1, c_349_1 hc1, c_349_2 hc1, c_351_2 hc1, c_351_10 hc1, c_351_12 hc1, c_354_0 hc1, c_354_1 hc1, c_354_2 hc1, c_354_3 hc1, c_354_4 hc1, c_354_5 hc1, c_354_6 hc1, c_354_7 hc1, c_354_8 hc1, c_354_20 hc1, c_354_25 hc1, c_354_26 hc1, c_354_27 hc1, c_354_28 hc1, c_354_32 hc1, c_354_33 hc1, c_354_34 hc1, c_354_35 hc1, c_354_38 hc1, l_3 hc1, l_4 hc1, l_7 hc1, l_8 hc1, l_9 hc1, l_11 hc1, l_12 hc1, l_13 hc1, l_14 hc1, l_16 hc1, l_18 hc1, l_19 hc1, l_20 hc1, l_21 hc1, l_340 hc1, l_343 hc1, l_344 hc1, l_345 hc1, l_346 hc1, l_348 hc1, l_350 hc1, l_352 hc1, l_353 hc1, l_355 hc1, l_356 hc1, l_357 hc1, l_358 hc1, l_359 hc1, l_360 hc1, l_361 hc1, l_362 hc1, l_363 hc1, l_364 hc1, l_365 hc1, l_366 hc1, l_367 hc1, l_368 hc1, l_369 hc1, l_370 hc1, l_371 hc1, l_372 hc1, l_373 hc1, s29, heq, ↓reduceIte, hh_wr, hl_wr, b10, b11, ite_not, ne_eq, Int.reduceEq, Int.reduceLE, Int.reduceLT, Int.reduceNe, Int.reduceNeg, Int.reduceAdd, Int.reduceSub, Int.reduceMul, not_false_eq_true, not_true_eq_false, false_and, and_false, true_and, and_true, and_self, true_or, or_true, false_or, or_false, if_true, if_false, ite_true, ite_false, mj_tl_some, mj_tl_none, mj_cs0, mj_cs1, mj_cs2, mj_cs3, mj_cs4]
    generalize hM2 : mj_wr (mj_wr (mj_wr (mj_wr (mj_wr (mj_wr (mj_wr M1 354 29 (cdN c 5)) 354 30 1000000) 354 31 1000000) 369 0 (-1)) 370 0 0) 371 0 1152921504606846975) 372 0 1152921504606846975 = M2
    have R : ∀ x j, hh M2 x j = if x = 372 ∧ j = 0 then 1152921504606846975 else if x = 371 ∧ j = 0 then 1152921504606846975 else if x = 370 ∧ j = 0 then 0 else if x = 369 ∧ j = 0 then -1 else if x = 354 ∧ j = 31 then 1000000 else if x = 354 ∧ j = 30 then 1000000 else if x = 354 ∧ j = 29 then cdN c 5 else hh M1 x j := by subst hM2; exact fun x j => rfl
    have f2 : fz [8, 9] M M2 := by
      subst hM2
      exact ((((((f1.wr (by decide)).wr (by decide)).wr (by decide)).wr (by decide)).wr (by decide)).wr (by decide)).wr (by decide)
    clear hM2
    have hp2 : ∀ k, 0 ≤ k → k ≤ 4 → hh M2 368 k = c k := by
      intro k k0 k4
      rw [R, if_neg (by omega), if_neg (by omega), if_neg (by omega), if_neg (by omega), if_neg (by omega), if_neg (by omega), if_neg (by omega)]
      obtain ⟨n, rfl⟩ := nat_of k0
      exact hk n (by omega)
    refine lay_run (c := c) (h.cs.fz f2 (by decide)) (h.tb.fz f2 (by decide)) hr hp2 20 20 (by omega) M2 0 0 1152921504606846975 1152921504606846975 (1000000, 1000000) _ _ _ _ _ _ (by omega) (by omega) (by decide) (by omega) (by omega) Ls.rfl' ⟨by decide, by decide⟩ ⟨by decide, by decide⟩ ?_ ?_ ?_ ?_ ?_ ?_ (fun M3 u4 u5 u6 u7 u8 u9 q1 q2 q3 q4 => ?_)
    · rw [R]; rfl
    · rw [R]; rfl
    · rw [R]; rfl
    · rw [R]; rfl
    · rw [R]; rfl
    · rw [R]; rfl
    · have lo := least_ok hr hb
      rw [lo] at q3 q4
      simp only at q3 q4
      simp only [w255_0, w255_1, w255_2, w255_5, w255_6, w255_7, w255_8, w255_11, w255_14, w255_15, w255_16, w255_17, w255_20, w255_21, w255_24, w255_27, w255_28, w255_31, w255_34, w255_35, w255_36, w255_37, w255_40, w255_41, w255_42, w255_43, w255_44, w255_47, w255_48, w255_49, w255_50, w255_51, w255_54, w255_55, w255_58, w255_59, w255_60, w255_63, w255_64, w255_67, w255_68, w255_69, w255_72, w255_73, w255_74, w255_77, w255_79, w255_81, w255_82, w255_85, w255_88, w255_91, w255_92, w255_95, w255_96, w255_98, w255_99, w255_100, w255_103, w255_104, w255_105, w255_106, w255_109, w255_111, w255_112, w255_113, w255_115, w255_116, w255_119, w255_120, w255_121, w255_122, w255_125, w255_127, w255_128, w255_129, w255_131, w255_132, w255_135, w255_136, w255_137, w255_138, w255_141, w255_142, w255_145, w255_147, w255_148, w255_149, w255_150, w255_152, w255_154, w255_155, w255_156, w255_159, w255_161, w255_162, w255_163, w255_166, w255_167, w255_169, w255_172, w255_173, w255_174, w255_175, w255_176, w255_179, w255_182, w255_185, w255_186, w255_189, w255_190, w255_192, w255_193, w255_194, w255_197, w255_198, w255_200, w255_201, w255_202, w255_205, w255_206, w255_208, w255_209, w255_210, w255_213, w255_214, w255_216, w255_217, w255_220, show (0 : Int) - 1 = -1 by decide, ↓reduceIte, hh_wr, hl_wr, b10, b11, ite_not, ne_eq, Int.reduceEq, Int.reduceLE, Int.reduceLT, Int.reduceNe, Int.reduceNeg, Int.reduceAdd, Int.reduceSub, Int.reduceMul, not_false_eq_true, not_true_eq_false, false_and, and_false, true_and, and_true, and_self, true_or, or_true, false_or, or_false, if_true, if_false, ite_true, ite_false, mj_tl_some, mj_tl_none, mj_cs0, mj_cs1, mj_cs2, mj_cs3, mj_cs4]
      have e29 : hh M3 354 29 = cdN c 5 := by
        rw [q1.h 354 29 (by omega) (by omega), R]; rfl
      refine ⟨f2.tr q1.fz, Or.inr ?_, q3, q4⟩
      rw [e29, dgc]
      exact ⟨hb, q3, q4⟩
end Least3
