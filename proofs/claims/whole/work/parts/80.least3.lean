/-! LEAST: the reference's search -/
/-- a saying is worth a try -/
def cnd (c : Int → Int) (a e : Int) (V : Int × Int) (k : Int) : Prop := 0 < c (kT k) ∧ (a + c (kT k) < V.1 ∨ (a + c (kT k) = V.1 ∧ e + 1 < V.2))
theorem bb_skip {c : Int → Int} {a e lo hi : Int} {V : Int × Int} {r : Nat} : ∀ m : Nat, (∀ i, i < m → ¬ cnd c a e V (kS (r + i))) → bb c (r + m) a e lo hi V = bb c r a e lo hi V
  | 0, _ => rfl
  | m + 1, h => by
    have ih := bb_skip (c := c) (a := a) (e := e) (lo := lo) (hi := hi) (V := V) (r := r) m (fun i hi => h i (by omega))
    have hm := h m (by omega)
    unfold cnd at hm
    rw [show r + (m + 1) = (r + m) + 1 by omega, bb, if_neg hm, ih]
/-- what the search may change -/
def Ls (M M1 : mj_M) : Prop := (∀ x j, (x < 369 ∨ 372 < x) → (x ≠ 354 ∨ (j ≠ 30 ∧ j ≠ 31)) → hh M1 x j = hh M x j) ∧ (∀ x, hl M1 x = hl M x) ∧ (M1.1 = M.1) ∧ (M1.2.1 = M.2.1)
theorem Ls.h {M M1 : mj_M} (h : Ls M M1) : ∀ x j, (x < 369 ∨ 372 < x) → (x ≠ 354 ∨ (j ≠ 30 ∧ j ≠ 31)) → hh M1 x j = hh M x j := h.1
theorem Ls.l {M M1 : mj_M} (h : Ls M M1) : ∀ x, hl M1 x = hl M x := h.2.1
theorem Ls.n {M M1 : mj_M} (h : Ls M M1) : M1.1 = M.1 := h.2.2.1
theorem Ls.s {M M1 : mj_M} (h : Ls M M1) : M1.2.1 = M.2.1 := h.2.2.2
theorem Ls.rfl' {M : mj_M} : Ls M M := ⟨fun _ _ _ _ => rfl, fun _ => rfl, rfl, rfl⟩
theorem Ls.wr {M M1 : mj_M} {x i u : Int} (h : Ls M M1) (hx : (369 ≤ x ∧ x ≤ 372) ∨ (x = 354 ∧ (i = 30 ∨ i = 31))) : Ls M (mj_wr M1 x i u) := ⟨fun y j h1 h2 => by rw [hh_wr, if_neg (by omega)]; exact h.h y j h1 h2, h.l, h.n, h.s⟩
theorem Ls.fz {M M1 : mj_M} (h : Ls M M1) : fz [8, 9] M M1 := by
  refine ⟨fun x j hx => h.h x j ?_ ?_, h.l, h.n, h.s⟩
  · by_cases g : x < 369
    · exact Or.inl g
    · by_cases g2 : 372 < x
      · exact Or.inr g2
      · exfalso
        apply hx
        rcases (show x = 369 ∨ x = 370 ∨ x = 371 ∨ x = 372 by omega) with rfl | rfl | rfl | rfl
        all_goals exact List.mem_cons_self ..
  · by_cases g : x = 354
    · subst g
      refine Or.inr ⟨fun e => hx ?_, fun e => hx ?_⟩
      · subst e; decide
      · subst e; decide
    · exact Or.inl g
section Least3
variable {X : mj_X} {d : Nat} {M : mj_M} {A : Int → Int} {Q : Option mj_V → mj_M → Prop}
theorem m_nextSaying {c : Int → Int} {a e j : Int} {V : Int × Int} (hc : CS M) (tb : Tb M) (hr : ∀ k, 0 ≤ k → k ≤ 4 → 0 ≤ c k ∧ c k ≤ 9) (hp : ∀ k, 0 ≤ k → k ≤ 4 → hh M 368 k = c k) (he : 0 ≤ e ∧ e ≤ 20) (hj : -1 ≤ j ∧ j ≤ 19) (h1 : hh M 369 e = j) (h2 : hh M 370 e = a) (ha : 0 ≤ a ∧ a ≤ 1000) (h3 : hh M 354 30 = V.1) (h4 : hh M 354 31 = V.2) : ∃ k, ((k = -1 ∧ ∀ i, j < i → i < 20 → ¬ cnd c a e V i) ∨ ((j < k ∧ k < 20) ∧ cnd c a e V k ∧ ∀ i, j < i → i < k → ¬ cnd c a e V i)) ∧ ∀ (d : Nat) (Q : Option mj_V → mj_M → Prop), (wc X d 256 [(32, 354), (0, e)] M Q ↔ Q (some (0, k)) M) := by
  have key : ∀ n : Nat, ∀ k0 : Int, j < k0 → k0 + n = 20 → (∀ i, j < i → i < k0 → ¬ cnd c a e V i) → ∃ k, ((k = -1 ∧ ∀ i, j < i → i < 20 → ¬ cnd c a e V i) ∨ ((j < k ∧ k < 20) ∧ cnd c a e V k ∧ ∀ i, j < i → i < k → ¬ cnd c a e V i)) ∧ ∀ (d : Nat) (w : mj_V), wp X d 256 9 [(32, 354), (0, e), (0, k0), w] [] M (fun r M' => r = some (0, k) ∧ M' = M) := by
    intro n
    induction n with
    | zero =>
      intro k0 g1 g2 g3
      refine ⟨-1, Or.inl ⟨rfl, fun i i1 i2 => g3 i i1 (by omega)⟩, fun d w => ?_⟩
      have e20 : k0 = 20 := by omega
      subst e20
      simp only [w256_0, w256_1, w256_4, w256_5, w256_6, w256_7, w256_8, w256_9, w256_10, w256_12, w256_15, w256_16, w256_19, w256_20, w256_21, w256_22, w256_25, w256_26, w256_29, w256_30, w256_31, w256_32, w256_33, w256_34, w256_35, w256_38, w256_39, w256_42, w256_43, w256_44, w256_45, w256_48, w256_49, w256_50, w256_53, w256_56, w256_57, w256_58, w256_61, w256_64, w256_65, w256_66, w256_67, w256_68, w256_71, w256_74, w256_75, w256_76, w256_79, w256_82, w256_83, ↓reduceIte, hh_wr, hl_wr, b10, b11, ite_not, ne_eq, Int.reduceEq, Int.reduceLE, Int.reduceLT, Int.reduceNe, Int.reduceNeg, Int.reduceAdd, Int.reduceSub, Int.reduceMul, not_false_eq_true, not_true_eq_false, false_and, and_false, true_and, and_true, and_self, true_or, or_true, false_or, or_false, if_true, if_false, ite_true, ite_false, mj_tl_some, mj_tl_none, mj_cs0, mj_cs1, mj_cs2, mj_cs3, mj_cs4]
    | succ n ih =>
      intro k0 g1 g2 g3
      have kr := kT_r k0
      have kr5 : kT k0 < 5 := by omega
      have cr := hr _ kr.1 kr.2
      have pk := hp _ kr.1 kr.2
      have tk := tb.k k0 (by omega) (by omega)
      have a1 : ji_add a (c (kT k0)) = a + c (kT k0) := aj ⟨by omega, by omega⟩
      have a2 : ji_add e 1 = e + 1 := aj ⟨by omega, by omega⟩
      have a3 : ji_add k0 1 = k0 + 1 := aj ⟨by omega, by omega⟩
      have z1 : (0 : Int) ≤ k0 := by omega
      have z2 : k0 < 20 := by omega
      have z3 : e < 21 := by omega
      by_cases hcd : cnd c a e V k0
      · refine ⟨k0, Or.inr ⟨⟨g1, z2⟩, hcd, g3⟩, fun d w => ?_⟩
        unfold cnd at hcd
        by_cases q1 : a + c (kT k0) < V.1
        · simp only [w256_0, w256_1, w256_4, w256_5, w256_6, w256_7, w256_8, w256_9, w256_10, w256_12, w256_15, w256_16, w256_19, w256_20, w256_21, w256_22, w256_25, w256_26, w256_29, w256_30, w256_31, w256_32, w256_33, w256_34, w256_35, w256_38, w256_39, w256_42, w256_43, w256_44, w256_45, w256_48, w256_49, w256_50, w256_53, w256_56, w256_57, w256_58, w256_61, w256_64, w256_65, w256_66, w256_67, w256_68, w256_71, w256_74, w256_75, w256_76, w256_79, w256_82, w256_83, c_1_0 hc, c_1_1 hc, c_1_2 hc, c_1_3 hc, c_1_4 hc, c_1_5 hc, c_1_6 hc, c_1_7 hc, c_1_8 hc, c_2_0 hc, c_2_1 hc, c_5_0 hc, c_5_1 hc, c_5_2 hc, c_5_3 hc, c_5_5 hc, c_5_8 hc, c_5_11 hc, c_6_1 hc, c_6_2 hc, c_6_3 hc, c_10_4 hc, c_10_5 hc, c_10_6 hc, c_10_7 hc, c_15_1 hc, c_17_1 hc, c_339_0 hc, c_341_0 hc, c_341_1 hc, c_341_2 hc, c_342_4 hc, c_342_5 hc, c_342_6 hc, c_342_7 hc, c_347_0 hc, c_347_2 hc, c_347_3 hc, c_349_0 hc, c_349_1 hc, c_349_2 hc, c_351_2 hc, c_351_10 hc, c_351_12 hc, c_354_0 hc, c_354_1 hc, c_354_2 hc, c_354_3 hc, c_354_4 hc, c_354_5 hc, c_354_6 hc, c_354_7 hc, c_354_8 hc, c_354_20 hc, c_354_25 hc, c_354_26 hc, c_354_27 hc, c_354_28 hc, c_354_32 hc, c_354_33 hc, c_354_34 hc, c_354_35 hc, c_354_38 hc, l_3 hc, l_4 hc, l_7 hc, l_8 hc, l_9 hc, l_11 hc, l_12 hc, l_13 hc, l_14 hc, l_16 hc, l_18 hc, l_19 hc, l_20 hc, l_21 hc, l_340 hc, l_343 hc, l_344 hc, l_345 hc, l_346 hc, l_348 hc, l_350 hc, l_352 hc, l_353 hc, l_355 hc, l_356 hc, l_357 hc, l_358 hc, l_359 hc, l_360 hc, l_361 hc, l_362 hc, l_363 hc, l_364 hc, l_365 hc, l_366 hc, l_367 hc, l_368 hc, l_369 hc, l_370 hc, l_371 hc, l_372 hc, l_373 hc, tk, pk, h2, h3, a1, z1, z2, z3, he.1, kr.1, kr5, q1, show ¬ c (kT k0) ≤ 0 by omega, ↓reduceIte, hh_wr, hl_wr, b10, b11, ite_not, ne_eq, Int.reduceEq, Int.reduceLE, Int.reduceLT, Int.reduceNe, Int.reduceNeg, Int.reduceAdd, Int.reduceSub, Int.reduceMul, not_false_eq_true, not_true_eq_false, false_and, and_false, true_and, and_true, and_self, true_or, or_true, false_or, or_false, if_true, if_false, ite_true, ite_false, mj_tl_some, mj_tl_none, mj_cs0, mj_cs1, mj_cs2, mj_cs3, mj_cs4]
        · have q2 : a + c (kT k0) = V.1 := by omega
          have q3 : e + 1 < V.2 := by omega
          simp only [w256_0, w256_1, w256_4, w256_5, w256_6, w256_7, w256_8, w256_9, w256_10, w256_12, w256_15, w256_16, w256_19, w256_20, w256_21, w256_22, w256_25, w256_26, w256_29, w256_30, w256_31, w256_32, w256_33, w256_34, w256_35, w256_38, w256_39, w256_42, w256_43, w256_44, w256_45, w256_48, w256_49, w256_50, w256_53, w256_56, w256_57, w256_58, w256_61, w256_64, w256_65, w256_66, w256_67, w256_68, w256_71, w256_74, w256_75, w256_76, w256_79, w256_82, w256_83, c_1_0 hc, c_1_1 hc, c_1_2 hc, c_1_3 hc, c_1_4 hc, c_1_5 hc, c_1_6 hc, c_1_7 hc, c_1_8 hc, c_2_0 hc, c_2_1 hc, c_5_0 hc, c_5_1 hc, c_5_2 hc, c_5_3 hc, c_5_5 hc, c_5_8 hc, c_5_11 hc, c_6_1 hc, c_6_2 hc, c_6_3 hc, c_10_4 hc, c_10_5 hc, c_10_6 hc, c_10_7 hc, c_15_1 hc, c_17_1 hc, c_339_0 hc, c_341_0 hc, c_341_1 hc, c_341_2 hc, c_342_4 hc, c_342_5 hc, c_342_6 hc, c_342_7 hc, c_347_0 hc, c_347_2 hc, c_347_3 hc, c_349_0 hc, c_349_1 hc, c_349_2 hc, c_351_2 hc, c_351_10 hc, c_351_12 hc, c_354_0 hc, c_354_1 hc, c_354_2 hc, c_354_3 hc, c_354_4 hc, c_354_5 hc, c_354_6 hc, c_354_7 hc, c_354_8 hc, c_354_20 hc, c_354_25 hc, c_354_26 hc, c_354_27 hc, c_354_28 hc, c_354_32 hc, c_354_33 hc, c_354_34 hc, c_354_35 hc, c_354_38 hc, l_3 hc, l_4 hc, l_7 hc, l_8 hc, l_9 hc, l_11 hc, l_12 hc, l_13 hc, l_14 hc, l_16 hc, l_18 hc, l_19 hc, l_20 hc, l_21 hc, l_340 hc, l_343 hc, l_344 hc, l_345 hc, l_346 hc, l_348 hc, l_350 hc, l_352 hc, l_353 hc, l_355 hc, l_356 hc, l_357 hc, l_358 hc, l_359 hc, l_360 hc, l_361 hc, l_362 hc, l_363 hc, l_364 hc, l_365 hc, l_366 hc, l_367 hc, l_368 hc, l_369 hc, l_370 hc, l_371 hc, l_372 hc, l_373 hc, tk, pk, h2, h3, h4, a1, a2, z1, z2, z3, he.1, kr.1, kr5, q1, q2, q3, Int.lt_irrefl, show ¬ c (kT k0) ≤ 0 by omega, ↓reduceIte, hh_wr, hl_wr, b10, b11, ite_not, ne_eq, Int.reduceEq, Int.reduceLE, Int.reduceLT, Int.reduceNe, Int.reduceNeg, Int.reduceAdd, Int.reduceSub, Int.reduceMul, not_false_eq_true, not_true_eq_false, false_and, and_false, true_and, and_true, and_self, true_or, or_true, false_or, or_false, if_true, if_false, ite_true, ite_false, mj_tl_some, mj_tl_none, mj_cs0, mj_cs1, mj_cs2, mj_cs3, mj_cs4]
      · obtain ⟨k, hk1, hk2⟩ := ih (k0 + 1) (by omega) (by omega) (fun i i1 i2 => by
          by_cases q : i = k0
          · subst q; exact hcd
          · exact g3 i i1 (by omega))
        refine ⟨k, hk1, fun d w => ?_⟩
        unfold cnd at hcd
        rw [w256_9]
        have fin := hk2 d (0, a + c (kT k0))
        by_cases q0 : c (kT k0) ≤ 0
        · simp only [w256_0, w256_1, w256_4, w256_5, w256_6, w256_7, w256_8, w256_10, w256_12, w256_15, w256_16, w256_19, w256_20, w256_21, w256_22, w256_25, w256_26, w256_29, w256_30, w256_31, w256_32, w256_33, w256_34, w256_35, w256_38, w256_39, w256_42, w256_43, w256_44, w256_45, w256_48, w256_49, w256_50, w256_53, w256_56, w256_57, w256_58, w256_61, w256_64, w256_65, w256_66, w256_67, w256_68, w256_71, w256_74, w256_75, w256_76, w256_79, w256_82, w256_83, c_1_0 hc, c_1_1 hc, c_1_2 hc, c_1_3 hc, c_1_4 hc, c_1_5 hc, c_1_6 hc, c_1_7 hc, c_1_8 hc, c_2_0 hc, c_2_1 hc, c_5_0 hc, c_5_1 hc, c_5_2 hc, c_5_3 hc, c_5_5 hc, c_5_8 hc, c_5_11 hc, c_6_1 hc, c_6_2 hc, c_6_3 hc, c_10_4 hc, c_10_5 hc, c_10_6 hc, c_10_7 hc, c_15_1 hc, c_17_1 hc, c_339_0 hc, c_341_0 hc, c_341_1 hc, c_341_2 hc, c_342_4 hc, c_342_5 hc, c_342_6 hc, c_342_7 hc, c_347_0 hc, c_347_2 hc, c_347_3 hc, c_349_0 hc, c_349_1 hc, c_349_2 hc, c_351_2 hc, c_351_10 hc, c_351_12 hc, c_354_0 hc, c_354_1 hc, c_354_2 hc, c_354_3 hc, c_354_4 hc, c_354_5 hc, c_354_6 hc, c_354_7 hc, c_354_8 hc, c_354_20 hc, c_354_25 hc, c_354_26 hc, c_354_27 hc, c_354_28 hc, c_354_32 hc, c_354_33 hc, c_354_34 hc, c_354_35 hc, c_354_38 hc, l_3 hc, l_4 hc, l_7 hc, l_8 hc, l_9 hc, l_11 hc, l_12 hc, l_13 hc, l_14 hc, l_16 hc, l_18 hc, l_19 hc, l_20 hc, l_21 hc, l_340 hc, l_343 hc, l_344 hc, l_345 hc, l_346 hc, l_348 hc, l_350 hc, l_352 hc, l_353 hc, l_355 hc, l_356 hc, l_357 hc, l_358 hc, l_359 hc, l_360 hc, l_361 hc, l_362 hc, l_363 hc, l_364 hc, l_365 hc, l_366 hc, l_367 hc, l_368 hc, l_369 hc, l_370 hc, l_371 hc, l_372 hc, l_373 hc, tk, pk, h2, a1, a3, z1, z2, z3, he.1, kr.1, kr5, q0, ↓reduceIte, hh_wr, hl_wr, b10, b11, ite_not, ne_eq, Int.reduceEq, Int.reduceLE, Int.reduceLT, Int.reduceNe, Int.reduceNeg, Int.reduceAdd, Int.reduceSub, Int.reduceMul, not_false_eq_true, not_true_eq_false, false_and, and_false, true_and, and_true, and_self, true_or, or_true, false_or, or_false, if_true, if_false, ite_true, ite_false, mj_tl_some, mj_tl_none, mj_cs0, mj_cs1, mj_cs2, mj_cs3, mj_cs4]
          exact fin
        · by_cases q1 : a + c (kT k0) < V.1
          · exact absurd ⟨by omega, Or.inl q1⟩ hcd
          · by_cases q2 : a + c (kT k0) = V.1
            · have q3 : ¬ e + 1 < V.2 := fun q => hcd ⟨by omega, Or.inr ⟨q2, q⟩⟩
              rw [q2] at a1 fin q1
              simp only [w256_0, w256_1, w256_4, w256_5, w256_6, w256_7, w256_8, w256_10, w256_12, w256_15, w256_16, w256_19, w256_20, w256_21, w256_22, w256_25, w256_26, w256_29, w256_30, w256_31, w256_32, w256_33, w256_34, w256_35, w256_38, w256_39, w256_42, w256_43, w256_44, w256_45, w256_48, w256_49, w256_50, w256_53, w256_56, w256_57, w256_58, w256_61, w256_64, w256_65, w256_66, w256_67, w256_68, w256_71, w256_74, w256_75, w256_76, w256_79, w256_82, w256_83, c_1_0 hc, c_1_1 hc, c_1_2 hc, c_1_3 hc, c_1_4 hc, c_1_5 hc, c_1_6 hc, c_1_7 hc, c_1_8 hc, c_2_0 hc, c_2_1 hc, c_5_0 hc, c_5_1 hc, c_5_2 hc, c_5_3 hc, c_5_5 hc, c_5_8 hc, c_5_11 hc, c_6_1 hc, c_6_2 hc, c_6_3 hc, c_10_4 hc, c_10_5 hc, c_10_6 hc, c_10_7 hc, c_15_1 hc, c_17_1 hc, c_339_0 hc, c_341_0 hc, c_341_1 hc, c_341_2 hc, c_342_4 hc, c_342_5 hc, c_342_6 hc, c_342_7 hc, c_347_0 hc, c_347_2 hc, c_347_3 hc, c_349_0 hc, c_349_1 hc, c_349_2 hc, c_351_2 hc, c_351_10 hc, c_351_12 hc, c_354_0 hc, c_354_1 hc, c_354_2 hc, c_354_3 hc, c_354_4 hc, c_354_5 hc, c_354_6 hc, c_354_7 hc, c_354_8 hc, c_354_20 hc, c_354_25 hc, c_354_26 hc, c_354_27 hc, c_354_28 hc, c_354_32 hc, c_354_33 hc, c_354_34 hc, c_354_35 hc, c_354_38 hc, l_3 hc, l_4 hc, l_7 hc, l_8 hc, l_9 hc, l_11 hc, l_12 hc, l_13 hc, l_14 hc, l_16 hc, l_18 hc, l_19 hc, l_20 hc, l_21 hc, l_340 hc, l_343 hc, l_344 hc, l_345 hc, l_346 hc, l_348 hc, l_350 hc, l_352 hc, l_353 hc, l_355 hc, l_356 hc, l_357 hc, l_358 hc, l_359 hc, l_360 hc, l_361 hc, l_362 hc, l_363 hc, l_364 hc, l_365 hc, l_366 hc, l_367 hc, l_368 hc, l_369 hc, l_370 hc, l_371 hc, l_372 hc, l_373 hc, tk, pk, h2, h3, h4, a1, a2, a3, z1, z2, z3, he.1, kr.1, kr5, q0, q3, Int.lt_irrefl, ↓reduceIte, hh_wr, hl_wr, b10, b11, ite_not, ne_eq, Int.reduceEq, Int.reduceLE, Int.reduceLT, Int.reduceNe, Int.reduceNeg, Int.reduceAdd, Int.reduceSub, Int.reduceMul, not_false_eq_true, not_true_eq_false, false_and, and_false, true_and, and_true, and_self, true_or, or_true, false_or, or_false, if_true, if_false, ite_true, ite_false, mj_tl_some, mj_tl_none, mj_cs0, mj_cs1, mj_cs2, mj_cs3, mj_cs4]
              exact fin
            · simp only [w256_0, w256_1, w256_4, w256_5, w256_6, w256_7, w256_8, w256_10, w256_12, w256_15, w256_16, w256_19, w256_20, w256_21, w256_22, w256_25, w256_26, w256_29, w256_30, w256_31, w256_32, w256_33, w256_34, w256_35, w256_38, w256_39, w256_42, w256_43, w256_44, w256_45, w256_48, w256_49, w256_50, w256_53, w256_56, w256_57, w256_58, w256_61, w256_64, w256_65, w256_66, w256_67, w256_68, w256_71, w256_74, w256_75, w256_76, w256_79, w256_82, w256_83, c_1_0 hc, c_1_1 hc, c_1_2 hc, c_1_3 hc, c_1_4 hc, c_1_5 hc, c_1_6 hc, c_1_7 hc, c_1_8 hc, c_2_0 hc, c_2_1 hc, c_5_0 hc, c_5_1 hc, c_5_2 hc, c_5_3 hc, c_5_5 hc, c_5_8 hc, c_5_11 hc, c_6_1 hc, c_6_2 hc, c_6_3 hc, c_10_4 hc, c_10_5 hc, c_10_6 hc, c_10_7 hc, c_15_1 hc, c_17_1 hc, c_339_0 hc, c_341_0 hc, c_341_1 hc, c_341_2 hc, c_342_4 hc, c_342_5 hc, c_342_6 hc, c_342_7 hc, c_347_0 hc, c_347_2 hc, c_347_3 hc, c_349_0 hc, c_349_1 hc, c_349_2 hc, c_351_2 hc, c_351_10 hc, c_351_12 hc, c_354_0 hc, c_354_1 hc, c_354_2 hc, c_354_3 hc, c_354_4 hc, c_354_5 hc, c_354_6 hc, c_354_7 hc, c_354_8 hc, c_354_20 hc, c_354_25 hc, c_354_26 hc, c_354_27 hc, c_354_28 hc, c_354_32 hc, c_354_33 hc, c_354_34 hc, c_354_35 hc, c_354_38 hc, l_3 hc, l_4 hc, l_7 hc, l_8 hc, l_9 hc, l_11 hc, l_12 hc, l_13 hc, l_14 hc, l_16 hc, l_18 hc, l_19 hc, l_20 hc, l_21 hc, l_340 hc, l_343 hc, l_344 hc, l_345 hc, l_346 hc, l_348 hc, l_350 hc, l_352 hc, l_353 hc, l_355 hc, l_356 hc, l_357 hc, l_358 hc, l_359 hc, l_360 hc, l_361 hc, l_362 hc, l_363 hc, l_364 hc, l_365 hc, l_366 hc, l_367 hc, l_368 hc, l_369 hc, l_370 hc, l_371 hc, l_372 hc, l_373 hc, tk, pk, h2, h3, a1, a3, z1, z2, z3, he.1, kr.1, kr5, q0, q1, q2, ↓reduceIte, hh_wr, hl_wr, b10, b11, ite_not, ne_eq, Int.reduceEq, Int.reduceLE, Int.reduceLT, Int.reduceNe, Int.reduceNeg, Int.reduceAdd, Int.reduceSub, Int.reduceMul, not_false_eq_true, not_true_eq_false, false_and, and_false, true_and, and_true, and_self, true_or, or_true, false_or, or_false, if_true, if_false, ite_true, ite_false, mj_tl_some, mj_tl_none, mj_cs0, mj_cs1, mj_cs2, mj_cs3, mj_cs4]
              exact fin
  obtain ⟨k, hk1, hk2⟩ := key (19 - j).toNat (j + 1) (by omega) (by omega) (fun i i1 i2 => by omega)
  refine ⟨k, hk1, fun d Q => ?_⟩
  show wp X d 256 0 [(32, 354), (0, e), (9, 0), (9, 0)] [] M Q ↔ _
  refine wp.det ?_
  simp only [w256_0, w256_1, w256_4, w256_5, w256_6, w256_7, w256_8, c_1_0 hc, c_1_1 hc, c_1_2 hc, c_1_3 hc, c_1_4 hc, c_1_5 hc, c_1_6 hc, c_1_7 hc, c_1_8 hc, c_2_0 hc, c_2_1 hc, c_5_0 hc, c_5_1 hc, c_5_2 hc, c_5_3 hc, c_5_5 hc, c_5_8 hc, c_5_11 hc, c_6_1 hc, c_6_2 hc, c_6_3 hc, c_10_4 hc, c_10_5 hc, c_10_6 hc, c_10_7 hc, c_15_1 hc, c_17_1 hc, c_339_0 hc, c_341_0 hc, c_341_1 hc, c_341_2 hc, c_342_4 hc, c_342_5 hc, c_342_6 hc, c_342_7 hc, c_347_0 hc, c_347_2 hc, c_347_3 hc, c_349_0 hc, c_349_1 hc, c_349_2 hc, c_351_2 hc, c_351_10 hc, c_351_12 hc, c_354_0 hc, c_354_1 hc, c_354_2 hc, c_354_3 hc, c_354_4 hc, c_354_5 hc, c_354_6 hc, c_354_7 hc, c_354_8 hc, c_354_20 hc, c_354_25 hc, c_354_26 hc, c_354_27 hc, c_354_28 hc, c_354_32 hc, c_354_33 hc, c_354_34 hc, c_354_35 hc, c_354_38 hc, l_3 hc, l_4 hc, l_7 hc, l_8 hc, l_9 hc, l_11 hc, l_12 hc, l_13 hc, l_14 hc, l_16 hc, l_18 hc, l_19 hc, l_20 hc, l_21 hc, l_340 hc, l_343 hc, l_344 hc, l_345 hc, l_346 hc, l_348 hc, l_350 hc, l_352 hc, l_353 hc, l_355 hc, l_356 hc, l_357 hc, l_358 hc, l_359 hc, l_360 hc, l_361 hc, l_362 hc, l_363 hc, l_364 hc, l_365 hc, l_366 hc, l_367 hc, l_368 hc, l_369 hc, l_370 hc, l_371 hc, l_372 hc, l_373 hc, h1, aj (x := j) (y := 1) ⟨by omega, by omega⟩, he.1, show e < 21 by omega, ↓reduceIte, hh_wr, hl_wr, b10, b11, ite_not, ne_eq, Int.reduceEq, Int.reduceLE, Int.reduceLT, Int.reduceNe, Int.reduceNeg, Int.reduceAdd, Int.reduceSub, Int.reduceMul, not_false_eq_true, not_true_eq_false, false_and, and_false, true_and, and_true, and_self, true_or, or_true, false_or, or_false, if_true, if_false, ite_true, ite_false, mj_tl_some, mj_tl_none, mj_cs0, mj_cs1, mj_cs2, mj_cs3, mj_cs4]
  exact hk2 d _
theorem ly_none {v code e : Int} {w4 w5 w6 w7 w8 w9 : mj_V} (e0 : 0 ≤ e ∧ e ≤ 20) (hk2 : ∀ (d : Nat) (Q : Option mj_V → mj_M → Prop), (wc X d 256 [(32, 354), (0, e)] M Q ↔ Q (some (0, -1)) M)) : wp X (d + 1) 255 68 [(32, 354), (0, v), (0, code), (0, e), w4, w5, w6, w7, w8, w9] [] M Q ↔ wp X (d + 1) 255 68 [(32, 354), (0, v), (0, code), (0, e - 1), (0, -1), w5, w6, w7, w8, w9] [] M Q := by
  have e1 : ji_add e (-1) = e - 1 := aj ⟨by omega, by omega⟩
  have z0 : ¬ e < 0 := by omega
  rw [w255_68]
  simp only [w255_69, w255_72, w255_73, w255_74, w255_77, w255_79, w255_81, w255_82, w255_85, w255_88, hk2, z0, e1, ↓reduceIte, hh_wr, hl_wr, b10, b11, ite_not, ne_eq, Int.reduceEq, Int.reduceLE, Int.reduceLT, Int.reduceNe, Int.reduceNeg, Int.reduceAdd, Int.reduceSub, Int.reduceMul, not_false_eq_true, not_true_eq_false, false_and, and_false, true_and, and_true, and_self, true_or, or_true, false_or, or_false, if_true, if_false, ite_true, ite_false, mj_tl_some, mj_tl_none, mj_cs0, mj_cs1, mj_cs2, mj_cs3, mj_cs4]
theorem ly_pin {v code e k ka a ck lo hi lk gk : Int} {w4 w5 w6 w7 w8 w9 : mj_V} (hc1 : CS M) (e0 : 0 ≤ e) (z1 : e < 21) (z2 : 0 ≤ k) (z4 : k < 20) (hk2 : ∀ (d : Nat) (Q : Option mj_V → mj_M → Prop), (wc X d 256 [(32, 354), (0, e)] M Q ↔ Q (some (0, k)) M)) (g2 : hh M 370 e = a) (g3 : hh M 371 e = lo) (g4 : hh M 372 e = hi) (tk : hh M 360 k = ka) (tl : hh M 361 k = lk) (tg : hh M 362 k = gk) (ka0 : 0 ≤ ka) (ka5 : ka < 5) (pk : hh M 368 ka = ck) (a1 : ji_add a ck = a + ck) (j1 : jl_cmp (jl_and lo lk) 1 = 0) (j2 : jl_cmp (jl_and hi gk) 0 = 0) : wp X (d + 1) 255 68 [(32, 354), (0, v), (0, code), (0, e), w4, w5, w6, w7, w8, w9] [] M Q ↔ wp X (d + 1) 255 68 [(32, 354), (0, v), (0, code), (0, e), (0, k), (1, jl_and lo lk), (9, 0), (1, jl_and hi gk), (9, 0), (0, a + ck)] [] (mj_wr (mj_wr (mj_wr M 369 e k) 354 30 (a + ck)) 354 31 (e + 1)) Q := by
  have a2 : ji_add e 1 = e + 1 := aj ⟨by omega, by omega⟩
  have z0 : ¬ e < 0 := by omega
  have z3 : ¬ k = -1 := by omega
  rw [w255_68]
  simp only [w255_69, w255_72, w255_73, w255_74, w255_77, w255_79, w255_81, w255_82, w255_91, w255_92, w255_95, w255_96, w255_98, w255_99, w255_100, w255_103, w255_104, w255_105, w255_106, w255_109, w255_111, w255_112, w255_113, w255_115, w255_116, w255_119, w255_120, w255_121, w255_122, w255_125, w255_127, w255_128, w255_129, w255_131, w255_132, w255_135, w255_136, w255_137, w255_138, w255_141, w255_142, w255_145, w255_147, w255_148, w255_149, w255_150, w255_152, w255_154, w255_155, w255_156, w255_159, w255_161, w255_162, w255_163, w255_166, w255_167, w255_169, w255_172, w255_173, w255_174, w255_175, w255_176, w255_179, c_1_0 hc1, c_1_1 hc1, c_1_2 hc1, c_1_3 hc1, c_1_4 hc1, c_1_5 hc1, c_1_6 hc1, c_1_7 hc1, c_1_8 hc1, c_2_0 hc1, c_2_1 hc1, c_5_0 hc1, c_5_1 hc1, c_5_2 hc1, c_5_3 hc1, c_5_5 hc1, c_5_8 hc1, c_5_11 hc1, c_6_1 hc1, c_6_2 hc1, c_6_3 hc1, c_10_4 hc1, c_10_5 hc1, c_10_6 hc1, c_10_7 hc1, c_15_1 hc1, c_17_1 hc1, c_339_0 hc1, c_341_0 hc1, c_341_1 hc1, c_341_2 hc1, c_342_4 hc1, c_342_5 hc1, c_342_6 hc1, c_342_7 hc1, c_347_0 hc1, c_347_2 hc1, c_347_3 hc1, c_349_0 hc1, c_349_1 hc1, c_349_2 hc1, c_351_2 hc1, c_351_10 hc1, c_351_12 hc1, c_354_0 hc1, c_354_1 hc1, c_354_2 hc1, c_354_3 hc1, c_354_4 hc1, c_354_5 hc1, c_354_6 hc1, c_354_7 hc1, c_354_8 hc1, c_354_20 hc1, c_354_25 hc1, c_354_26 hc1, c_354_27 hc1, c_354_28 hc1, c_354_32 hc1, c_354_33 hc1, c_354_34 hc1, c_354_35 hc1, c_354_38 hc1, l_3 hc1, l_4 hc1, l_7 hc1, l_8 hc1, l_9 hc1, l_11 hc1, l_12 hc1, l_13 hc1, l_14 hc1, l_16 hc1, l_18 hc1, l_19 hc1, l_20 hc1, l_21 hc1, l_340 hc1, l_343 hc1, l_344 hc1, l_345 hc1, l_346 hc1, l_348 hc1, l_350 hc1, l_352 hc1, l_353 hc1, l_355 hc1, l_356 hc1, l_357 hc1, l_358 hc1, l_359 hc1, l_360 hc1, l_361 hc1, l_362 hc1, l_363 hc1, l_364 hc1, l_365 hc1, l_366 hc1, l_367 hc1, l_368 hc1, l_369 hc1, l_370 hc1, l_371 hc1, l_372 hc1, l_373 hc1, hk2, g2, g3, g4, tk, tl, tg, pk, a1, a2, e0, z0, z1, z2, z3, z4, ka0, ka5, j1, j2, ↓reduceIte, hh_wr, hl_wr, b10, b11, ite_not, ne_eq, Int.reduceEq, Int.reduceLE, Int.reduceLT, Int.reduceNe, Int.reduceNeg, Int.reduceAdd, Int.reduceSub, Int.reduceMul, not_false_eq_true, not_true_eq_false, false_and, and_false, true_and, and_true, and_self, true_or, or_true, false_or, or_false, if_true, if_false, ite_true, ite_false, mj_tl_some, mj_tl_none, mj_cs0, mj_cs1, mj_cs2, mj_cs3, mj_cs4]
theorem ly_push {v code e k ka a ck lo hi lk gk : Int} {w4 w5 w6 w7 w8 w9 : mj_V} (hc1 : CS M) (e0 : 0 ≤ e) (z1 : e + 1 < 21) (z2 : 0 ≤ k) (z4 : k < 20) (hk2 : ∀ (d : Nat) (Q : Option mj_V → mj_M → Prop), (wc X d 256 [(32, 354), (0, e)] M Q ↔ Q (some (0, k)) M)) (g2 : hh M 370 e = a) (g3 : hh M 371 e = lo) (g4 : hh M 372 e = hi) (tk : hh M 360 k = ka) (tl : hh M 361 k = lk) (tg : hh M 362 k = gk) (ka0 : 0 ≤ ka) (ka5 : ka < 5) (pk : hh M 368 ka = ck) (a1 : ji_add a ck = a + ck) (jj : ¬ (jl_cmp (jl_and lo lk) 1 = 0 ∧ jl_cmp (jl_and hi gk) 0 = 0)) : wp X (d + 1) 255 68 [(32, 354), (0, v), (0, code), (0, e), w4, w5, w6, w7, w8, w9] [] M Q ↔ wp X (d + 1) 255 68 [(32, 354), (0, v), (0, code), (0, e + 1), (0, k), (1, jl_and lo lk), (9, 0), (1, jl_and hi gk), (9, 0), (0, a + ck)] [] (mj_wr (mj_wr (mj_wr (mj_wr (mj_wr M 369 e k) 369 (e + 1) k) 370 (e + 1) (a + ck)) 371 (e + 1) (jl_and lo lk)) 372 (e + 1) (jl_and hi gk)) Q := by
  have a2 : ji_add e 1 = e + 1 := aj ⟨by omega, by omega⟩
  have z0 : ¬ e < 0 := by omega
  have z3 : ¬ k = -1 := by omega
  have z5 : e < 21 := by omega
  have z6 : (0 : Int) ≤ e + 1 := by omega
  rw [w255_68]
  by_cases j1 : jl_cmp (jl_and lo lk) 1 = 0
  · have j2 : ¬ jl_cmp (jl_and hi gk) 0 = 0 := fun q => jj ⟨j1, q⟩
    simp only [w255_69, w255_72, w255_73, w255_74, w255_77, w255_79, w255_81, w255_82, w255_91, w255_92, w255_95, w255_96, w255_98, w255_99, w255_100, w255_103, w255_104, w255_105, w255_106, w255_109, w255_111, w255_112, w255_113, w255_115, w255_116, w255_119, w255_120, w255_121, w255_122, w255_125, w255_127, w255_128, w255_129, w255_131, w255_132, w255_135, w255_136, w255_137, w255_138, w255_141, w255_142, w255_145, w255_147, w255_148, w255_149, w255_150, w255_152, w255_154, w255_155, w255_156, w255_159, w255_161, w255_162, w255_163, w255_182, w255_185, w255_186, w255_189, w255_190, w255_192, w255_193, w255_194, w255_197, w255_198, w255_200, w255_201, w255_202, w255_205, w255_206, w255_208, w255_209, w255_210, w255_213, w255_214, w255_216, w255_217, c_1_0 hc1, c_1_1 hc1, c_1_2 hc1, c_1_3 hc1, c_1_4 hc1, c_1_5 hc1, c_1_6 hc1, c_1_7 hc1, c_1_8 hc1, c_2_0 hc1, c_2_1 hc1, c_5_0 hc1, c_5_1 hc1, c_5_2 hc1, c_5_3 hc1, c_5_5 hc1, c_5_8 hc1, c_5_11 hc1, c_6_1 hc1, c_6_2 hc1, c_6_3 hc1, c_10_4 hc1, c_10_5 hc1, c_10_6 hc1, c_10_7 hc1, c_15_1 hc1, c_17_1 hc1, c_339_0 hc1, c_341_0 hc1, c_341_1 hc1, c_341_2 hc1, c_342_4 hc1, c_342_5 hc1, c_342_6 hc1, c_342_7 hc1, c_347_0 hc1, c_347_2 hc1, c_347_3 hc1, c_349_0 hc1, c_349_1 hc1, c_349_2 hc1, c_351_2 hc1, c_351_10 hc1, c_351_12 hc1, c_354_0 hc1, c_354_1 hc1, c_354_2 hc1, c_354_3 hc1, c_354_4 hc1, c_354_5 hc1, c_354_6 hc1, c_354_7 hc1, c_354_8 hc1, c_354_20 hc1, c_354_25 hc1, c_354_26 hc1, c_354_27 hc1, c_354_28 hc1, c_354_32 hc1, c_354_33 hc1, c_354_34 hc1, c_354_35 hc1, c_354_38 hc1, l_3 hc1, l_4 hc1, l_7 hc1, l_8 hc1, l_9 hc1, l_11 hc1, l_12 hc1, l_13 hc1, l_14 hc1, l_16 hc1, l_18 hc1, l_19 hc1, l_20 hc1, l_21 hc1, l_340 hc1, l_343 hc1, l_344 hc1, l_345 hc1, l_346 hc1, l_348 hc1, l_350 hc1, l_352 hc1, l_353 hc1, l_355 hc1, l_356 hc1, l_357 hc1, l_358 hc1, l_359 hc1, l_360 hc1, l_361 hc1, l_362 hc1, l_363 hc1, l_364 hc1, l_365 hc1, l_366 hc1, l_367 hc1, l_368 hc1, l_369 hc1, l_370 hc1, l_371 hc1, l_372 hc1, l_373 hc1, hk2, g2, g3, g4, tk, tl, tg, pk, a1, a2, e0, z0, z1, z2, z3, z4, z5, z6, ka0, ka5, j1, j2, ↓reduceIte, hh_wr, hl_wr, b10, b11, ite_not, ne_eq, Int.reduceEq, Int.reduceLE, Int.reduceLT, Int.reduceNe, Int.reduceNeg, Int.reduceAdd, Int.reduceSub, Int.reduceMul, not_false_eq_true, not_true_eq_false, false_and, and_false, true_and, and_true, and_self, true_or, or_true, false_or, or_false, if_true, if_false, ite_true, ite_false, mj_tl_some, mj_tl_none, mj_cs0, mj_cs1, mj_cs2, mj_cs3, mj_cs4]
  · simp only [w255_69, w255_72, w255_73, w255_74, w255_77, w255_79, w255_81, w255_82, w255_91, w255_92, w255_95, w255_96, w255_98, w255_99, w255_100, w255_103, w255_104, w255_105, w255_106, w255_109, w255_111, w255_112, w255_113, w255_115, w255_116, w255_119, w255_120, w255_121, w255_122, w255_125, w255_127, w255_128, w255_129, w255_131, w255_132, w255_135, w255_136, w255_137, w255_138, w255_141, w255_142, w255_145, w255_147, w255_148, w255_149, w255_150, w255_152, w255_154, w255_155, w255_156, w255_159, w255_161, w255_162, w255_163, w255_182, w255_185, w255_186, w255_189, w255_190, w255_192, w255_193, w255_194, w255_197, w255_198, w255_200, w255_201, w255_202, w255_205, w255_206, w255_208, w255_209, w255_210, w255_213, w255_214, w255_216, w255_217, c_1_0 hc1, c_1_1 hc1, c_1_2 hc1, c_1_3 hc1, c_1_4 hc1, c_1_5 hc1, c_1_6 hc1, c_1_7 hc1, c_1_8 hc1, c_2_0 hc1, c_2_1 hc1, c_5_0 hc1, c_5_1 hc1, c_5_2 hc1, c_5_3 hc1, c_5_5 hc1, c_5_8 hc1, c_5_11 hc1, c_6_1 hc1, c_6_2 hc1, c_6_3 hc1, c_10_4 hc1, c_10_5 hc1, c_10_6 hc1, c_10_7 hc1, c_15_1 hc1, c_17_1 hc1, c_339_0 hc1, c_341_0 hc1, c_341_1 hc1, c_341_2 hc1, c_342_4 hc1, c_342_5 hc1, c_342_6 hc1, c_342_7 hc1, c_347_0 hc1, c_347_2 hc1, c_347_3 hc1, c_349_0 hc1, c_349_1 hc1, c_349_2 hc1, c_351_2 hc1, c_351_10 hc1, c_351_12 hc1, c_354_0 hc1, c_354_1 hc1, c_354_2 hc1, c_354_3 hc1, c_354_4 hc1, c_354_5 hc1, c_354_6 hc1, c_354_7 hc1, c_354_8 hc1, c_354_20 hc1, c_354_25 hc1, c_354_26 hc1, c_354_27 hc1, c_354_28 hc1, c_354_32 hc1, c_354_33 hc1, c_354_34 hc1, c_354_35 hc1, c_354_38 hc1, l_3 hc1, l_4 hc1, l_7 hc1, l_8 hc1, l_9 hc1, l_11 hc1, l_12 hc1, l_13 hc1, l_14 hc1, l_16 hc1, l_18 hc1, l_19 hc1, l_20 hc1, l_21 hc1, l_340 hc1, l_343 hc1, l_344 hc1, l_345 hc1, l_346 hc1, l_348 hc1, l_350 hc1, l_352 hc1, l_353 hc1, l_355 hc1, l_356 hc1, l_357 hc1, l_358 hc1, l_359 hc1, l_360 hc1, l_361 hc1, l_362 hc1, l_363 hc1, l_364 hc1, l_365 hc1, l_366 hc1, l_367 hc1, l_368 hc1, l_369 hc1, l_370 hc1, l_371 hc1, l_372 hc1, l_373 hc1, hk2, g2, g3, g4, tk, tl, tg, pk, a1, a2, e0, z0, z1, z2, z3, z4, z5, z6, ka0, ka5, j1, ↓reduceIte, hh_wr, hl_wr, b10, b11, ite_not, ne_eq, Int.reduceEq, Int.reduceLE, Int.reduceLT, Int.reduceNe, Int.reduceNeg, Int.reduceAdd, Int.reduceSub, Int.reduceMul, not_false_eq_true, not_true_eq_false, false_and, and_false, true_and, and_true, and_self, true_or, or_true, false_or, or_false, if_true, if_false, ite_true, ite_false, mj_tl_some, mj_tl_none, mj_cs0, mj_cs1, mj_cs2, mj_cs3, mj_cs4]
/-- one turn of the search: none is left, or the next one -/
theorem bb_turn {c : Int → Int} {a e lo hi : Int} {V : Int × Int} {r : Nat} {k : Int} (hr20 : r ≤ 20) (hk : (k = -1 ∧ ∀ i, 19 - (r : Int) < i → i < 20 → ¬ cnd c a e V i) ∨ ((19 - (r : Int) < k ∧ k < 20) ∧ cnd c a e V k ∧ ∀ i, 19 - (r : Int) < i → i < k → ¬ cnd c a e V i)) : (k = -1 ∧ bb c r a e lo hi V = V) ∨ (∃ rk : Nat, rk < r ∧ (rk : Int) = 19 - k ∧ (0 ≤ k ∧ k < 20) ∧ bb c r a e lo hi V = if jl_and lo (lT k) = 1 ∧ jl_and hi (gT k) = 0 then bb c rk a e lo hi (a + c (kT k), e + 1) else bb c rk a e lo hi (bb c rk (a + c (kT k)) (e + 1) (jl_and lo (lT k)) (jl_and hi (gT k)) V)) := by
  rcases hk with ⟨rfl, hno⟩ | ⟨⟨k1, k20⟩, hcd, hno⟩
  · left
    refine ⟨rfl, ?_⟩
    have := bb_skip (c := c) (a := a) (e := e) (lo := lo) (hi := hi) (V := V) (r := 0) r (fun i hi => hno _ (by unfold kS; omega) (by unfold kS; omega))
    rw [Nat.zero_add] at this
    rw [this, bb]
  · right
    obtain ⟨rk, hrk⟩ := nat_of (show 0 ≤ 19 - k by omega)
    obtain ⟨m, hm⟩ : ∃ m, r = rk + 1 + m := ⟨r - (rk + 1), by omega⟩
    have ekS : kS rk = k := by unfold kS; omega
    refine ⟨rk, by omega, hrk.symm, ⟨by omega, k20⟩, ?_⟩
    have eb : bb c r a e lo hi V = bb c (rk + 1) a e lo hi V := by
      rw [hm]
      exact bb_skip m (fun i hi => hno _ (by unfold kS; omega) (by unfold kS; omega))
    unfold cnd at hcd
    rw [eb, bb, ekS, if_pos hcd]
/-- the places of the search at a depth -/
def LsR (M : mj_M) (e j a lo hi : Int) : Prop := hh M 369 e = j ∧ hh M 370 e = a ∧ hh M 371 e = lo ∧ hh M 372 e = hi
theorem lay_run {c : Int → Int} {v code : Int} {M0 : mj_M} (hc : CS M0) (tb : Tb M0) (hr : ∀ k, 0 ≤ k → k ≤ 4 → 0 ≤ c k ∧ c k ≤ 9) (hp : ∀ k, 0 ≤ k → k ≤ 4 → hh M0 368 k = c k) : ∀ (N r : Nat), r < N → ∀ (M1 : mj_M) (e a lo hi : Int) (V : Int × Int) (w4 w5 w6 w7 w8 w9 : mj_V), r ≤ 20 → 0 ≤ e → e + r ≤ 20 → 0 ≤ a → a ≤ 9 * e → Ls M0 M1 → LsR M1 e (19 - (r : Int)) a lo hi → hh M1 354 30 = V.1 → hh M1 354 31 = V.2 → (∀ (M2 : mj_M) (w4 w5 w6 w7 w8 w9 : mj_V), Ls M0 M2 → (∀ x i, 369 ≤ x → x ≤ 372 → i < e → hh M2 x i = hh M1 x i) → hh M2 354 30 = (bb c r a e lo hi V).1 → hh M2 354 31 = (bb c r a e lo hi V).2 → wp X (d + 1) 255 68 [(32, 354), (0, v), (0, code), (0, e - 1), w4, w5, w6, w7, w8, w9] [] M2 Q) → wp X (d + 1) 255 68 [(32, 354), (0, v), (0, code), (0, e), w4, w5, w6, w7, w8, w9] [] M1 Q := by
  intro N
  induction N with
  | zero => intro r hrN; omega
  | succ N ih =>
    intro r hrN M1 e a lo hi V w4 w5 w6 w7 w8 w9 r20 e0 e20 a0 a9 ls lr g5 g6 K
    obtain ⟨g1, g2, g3, g4⟩ := lr
    have hc1 := hc.fz ls.fz (by decide)
    have tb1 := tb.fz ls.fz (by decide)
    have hp1 : ∀ k, 0 ≤ k → k ≤ 4 → hh M1 368 k = c k := fun k k0 k4 => (ls.h 368 k (by omega) (by omega)).trans (hp k k0 k4)
    obtain ⟨k, hk, hk2⟩ := m_nextSaying (X := X) (c := c) (V := V) hc1 tb1 hr hp1 ⟨e0, by omega⟩ (j := 19 - (r : Int)) ⟨by omega, by omega⟩ g1 g2 ⟨a0, by omega⟩ g5 g6
    rcases bb_turn (lo := lo) (hi := hi) r20 hk with ⟨rfl, eb⟩ | ⟨rk, hrk, ek, ⟨k0, k20⟩, eb⟩
    · rw [eb] at K
      rw [ly_none ⟨e0, by omega⟩ hk2]
      exact K M1 _ _ _ _ _ _ ls (fun x i _ _ _ => rfl) g5 g6
    · have kr := kT_r k
      have kr5 : kT k < 5 := by omega
      have cr := hr _ kr.1 kr.2
      have pk := hp1 _ kr.1 kr.2
      have tk := tb1.k k k0 k20
      have tl := tb1.l k k0 k20
      have tg := tb1.g k k0 k20
      have i1 := jl_and_in lo (lT k)
      have i2 := jl_and_in hi (gT k)
      have ce1 := cmp_eq i1 (show mj_in64 1 from ⟨by decide, by decide⟩)
      have ce2 := cmp_eq i2 (show mj_in64 0 from ⟨by decide, by decide⟩)
      generalize c (kT k) = ck at cr pk eb
      have a1 : ji_add a ck = a + ck := aj ⟨by omega, by omega⟩
      by_cases hpin : jl_and lo (lT k) = 1 ∧ jl_and hi (gT k) = 0
      · rw [if_pos hpin] at eb
        rw [ly_pin hc1 e0 (by omega) k0 k20 hk2 g2 g3 g4 tk tl tg kr.1 kr5 pk a1 (by rw [ce1]; exact hpin.1) (by rw [ce2]; exact hpin.2)]
        generalize hM2 : mj_wr (mj_wr (mj_wr M1 369 e k) 354 30 (a + ck)) 354 31 (e + 1) = M2
        have R : ∀ x j, hh M2 x j = if x = 354 ∧ j = 31 then e + 1 else if x = 354 ∧ j = 30 then a + ck else if x = 369 ∧ j = e then k else hh M1 x j := by subst hM2; exact fun x j => rfl
        have ls2 : Ls M0 M2 := by subst hM2; exact ((ls.wr (by omega)).wr (by omega)).wr (by omega)
        clear hM2
        have lr2 : LsR M2 e (19 - (rk : Int)) a lo hi := ⟨by rw [R, if_neg (by omega), if_neg (by omega), if_pos ⟨rfl, rfl⟩]; omega, by rw [R, if_neg (by omega), if_neg (by omega), if_neg (by omega)]; exact g2, by rw [R, if_neg (by omega), if_neg (by omega), if_neg (by omega)]; exact g3, by rw [R, if_neg (by omega), if_neg (by omega), if_neg (by omega)]; exact g4⟩
        refine ih rk (by omega) M2 e a lo hi (a + ck, e + 1) _ _ _ _ _ _ (by omega) e0 (by omega) a0 a9 ls2 lr2 (by rw [R, if_neg (by omega), if_pos ⟨rfl, rfl⟩]) (by rw [R, if_pos ⟨rfl, rfl⟩]) (fun M3 u4 u5 u6 u7 u8 u9 q1 q2 q3 q4 => ?_)
        rw [← eb] at q3 q4
        exact K M3 _ _ _ _ _ _ q1 (fun x i x1 x2 x3 => by rw [q2 x i x1 x2 x3, R, if_neg (by omega), if_neg (by omega), if_neg (by omega)]) q3 q4
      · rw [if_neg hpin] at eb
        rw [ly_push hc1 e0 (by omega) k0 k20 hk2 g2 g3 g4 tk tl tg kr.1 kr5 pk a1 (by rw [ce1, ce2]; exact hpin)]
        generalize hM2 : mj_wr (mj_wr (mj_wr (mj_wr (mj_wr M1 369 e k) 369 (e + 1) k) 370 (e + 1) (a + ck)) 371 (e + 1) (jl_and lo (lT k))) 372 (e + 1) (jl_and hi (gT k)) = M2
        have R : ∀ x j, hh M2 x j = if x = 372 ∧ j = e + 1 then jl_and hi (gT k) else if x = 371 ∧ j = e + 1 then jl_and lo (lT k) else if x = 370 ∧ j = e + 1 then a + ck else if x = 369 ∧ j = e + 1 then k else if x = 369 ∧ j = e then k else hh M1 x j := by subst hM2; exact fun x j => rfl
        have ls2 : Ls M0 M2 := by subst hM2; exact ((((ls.wr (by omega)).wr (by omega)).wr (by omega)).wr (by omega)).wr (by omega)
        clear hM2
        generalize jl_and lo (lT k) = lo' at *
        generalize jl_and hi (gT k) = hi' at *
        have lr2 : LsR M2 (e + 1) (19 - (rk : Int)) (a + ck) lo' hi' := ⟨by rw [R, if_neg (by omega), if_neg (by omega), if_neg (by omega), if_pos ⟨rfl, rfl⟩]; omega, by rw [R, if_neg (by omega), if_neg (by omega), if_pos ⟨rfl, rfl⟩], by rw [R, if_neg (by omega), if_pos ⟨rfl, rfl⟩], by rw [R, if_pos ⟨rfl, rfl⟩]⟩
        have k2 : ∀ x j, j ≤ e → (x ≠ 369 ∨ j ≠ e) → hh M2 x j = hh M1 x j := fun x j h1 h2 => by rw [R, if_neg (by omega), if_neg (by omega), if_neg (by omega), if_neg (by omega), if_neg (by omega)]
        have k3 : hh M2 369 e = k := by rw [R, if_neg (by omega), if_neg (by omega), if_neg (by omega), if_neg (by omega), if_pos ⟨rfl, rfl⟩]
        have k5 : hh M2 354 30 = V.1 := by rw [R, if_neg (by omega), if_neg (by omega), if_neg (by omega), if_neg (by omega), if_neg (by omega)]; exact g5
        have k6 : hh M2 354 31 = V.2 := by rw [R, if_neg (by omega), if_neg (by omega), if_neg (by omega), if_neg (by omega), if_neg (by omega)]; exact g6
        refine ih rk (by omega) M2 (e + 1) (a + ck) lo' hi' V _ _ _ _ _ _ (by omega) (by omega) (by omega) (by omega) (by omega) ls2 lr2 k5 k6 (fun M3 u4 u5 u6 u7 u8 u9 q1 q2 q3 q4 => ?_)
        rw [show e + 1 - 1 = e by omega]
        have lr3 : LsR M3 e (19 - (rk : Int)) a lo hi := ⟨by rw [q2 369 e (by omega) (by omega) (by omega), k3]; omega, by rw [q2 370 e (by omega) (by omega) (by omega), k2 370 e (by omega) (by omega)]; exact g2, by rw [q2 371 e (by omega) (by omega) (by omega), k2 371 e (by omega) (by omega)]; exact g3, by rw [q2 372 e (by omega) (by omega) (by omega), k2 372 e (by omega) (by omega)]; exact g4⟩
        refine ih rk (by omega) M3 e a lo hi _ _ _ _ _ _ _ (by omega) e0 (by omega) a0 a9 q1 lr3 q3 q4 (fun M4 u4 u5 u6 u7 u8 u9 p1 p2 p3 p4 => ?_)
        rw [← eb] at p3 p4
        exact K M4 _ _ _ _ _ _ p1 (fun x i x1 x2 x3 => by rw [p2 x i x1 x2 x3, q2 x i x1 x2 (by omega), k2 x i (by omega) (by omega)]) p3 p4
theorem m_layLeast {v : Int} (h : RW M) (co : Cok M) (hb : bw (coF (hh M 355) v) ≠ -1) : wc X (d + 2) 255 [(32, 354), (0, v)] M (fun q M1 => q = none ∧ fz [8, 9] M M1 ∧ Cok M1 ∧ hh M1 354 30 = bw (coF (hh M 355) v) / 100 ∧ hh M1 354 31 = bw (coF (hh M 355) v) % 100) := by
  show wp X (d + 2) 255 0 [(32, 354), (0, v), (9, 0), (9, 0), (9, 0), (9, 0), (9, 0), (9, 0), (9, 0), (9, 0)] [] M _
  simp only [w255_0, w255_1, w255_2, ↓reduceIte, hh_wr, hl_wr, b10, b11, ite_not, ne_eq, Int.reduceEq, Int.reduceLE, Int.reduceLT, Int.reduceNe, Int.reduceNeg, Int.reduceAdd, Int.reduceSub, Int.reduceMul, not_false_eq_true, not_true_eq_false, false_and, and_false, true_and, and_true, and_self, true_or, or_true, false_or, or_false, if_true, if_false, ite_true, ite_false, mj_tl_some, mj_tl_none, mj_cs0, mj_cs1, mj_cs2, mj_cs3, mj_cs4]
  refine wc.mono (m_layCosts (d := d) h) ?_
  rintro q M1 ⟨rfl, s1, hk⟩
  have f1 : fz [8, 9] M M1 := (s1.fz z368).mono (fun z hz => by simp at hz; subst hz; decide)
  have hc1 := h.cs.fz f1 (by decide)
  have tb1 := h.tb.fz f1 (by decide)
  have hr := coF_hc h.ai v
  generalize hcc : coF (hh M 355) v = c at *
  have dgc : bw (dg (cdN c 5)) = bw c := bw_congr (fun k k0 k4 => dg_cd hr ⟨k0, k4⟩)
  have cd0 : 0 ≤ cdN c 5 := by
    have c0 := hr 0 (by decide) (by decide)
    have c1 := hr 1 (by decide) (by decide)
    have c2 := hr 2 (by decide) (by decide)
    have c3 := hr 3 (by decide) (by decide)
    have c4 := hr 4 (by decide) (by decide)
    have e : cdN c 5 = 10 * (10 * (10 * (10 * (10 * 0 + c 0) + c 1) + c 2) + c 3) + c 4 := rfl
    omega
  have s29 : hh M1 354 29 = hh M 354 29 := s1.h 354 29 (by decide)
  have s30 : hh M1 354 30 = hh M 354 30 := s1.h 354 30 (by decide)
  have s31 : hh M1 354 31 = hh M 354 31 := s1.h 354 31 (by decide)
  by_cases heq : cdN c 5 = hh M 354 29
  · simp only [w255_0, w255_1, w255_2, w255_5, w255_6, w255_7, w255_8, w255_11, w255_14, w255_15, w255_16, w255_17, w255_20, w255_21, w255_24, w255_27, w255_28, w255_31, w255_34, w255_35, w255_36, w255_37, w255_40, w255_41, w255_42, w255_43, w255_44, w255_47, w255_48, w255_49, w255_50, w255_51, w255_54, w255_55, w255_58, w255_59, w255_60, w255_63, w255_64, w255_67, w255_68, w255_69, w255_72, w255_73, w255_74, w255_77, w255_79, w255_81, w255_82, w255_85, w255_88, w255_91, w255_92, w255_95, w255_96, w255_98, w255_99, w255_100, w255_103, w255_104, w255_105, w255_106, w255_109, w255_111, w255_112, w255_113, w255_115, w255_116, w255_119, w255_120, w255_121, w255_122, w255_125, w255_127, w255_128, w255_129, w255_131, w255_132, w255_135, w255_136, w255_137, w255_138, w255_141, w255_142, w255_145, w255_147, w255_148, w255_149, w255_150, w255_152, w255_154, w255_155, w255_156, w255_159, w255_161, w255_162, w255_163, w255_166, w255_167, w255_169, w255_172, w255_173, w255_174, w255_175, w255_176, w255_179, w255_182, w255_185, w255_186, w255_189, w255_190, w255_192, w255_193, w255_194, w255_197, w255_198, w255_200, w255_201, w255_202, w255_205, w255_206, w255_208, w255_209, w255_210, w255_213, w255_214, w255_216, w255_217, w255_220, s29, heq, ↓reduceIte, hh_wr, hl_wr, b10, b11, ite_not, ne_eq, Int.reduceEq, Int.reduceLE, Int.reduceLT, Int.reduceNe, Int.reduceNeg, Int.reduceAdd, Int.reduceSub, Int.reduceMul, not_false_eq_true, not_true_eq_false, false_and, and_false, true_and, and_true, and_self, true_or, or_true, false_or, or_false, if_true, if_false, ite_true, ite_false, mj_tl_some, mj_tl_none, mj_cs0, mj_cs1, mj_cs2, mj_cs3, mj_cs4]
    rcases co with q | ⟨q1, q2, q3⟩
    · omega
    · rw [← heq, dgc] at q1 q2 q3
      refine ⟨f1, ?_, by rw [s30]; exact q2, by rw [s31]; exact q3⟩
      refine Or.inr ?_
      rw [s29, s30, s31, ← heq, dgc]
      exact ⟨q1, q2, q3⟩
  · simp only [w255_5, w255_6, w255_7, w255_8, w255_11, w255_15, w255_16, w255_17, w255_20, w255_21, w255_24, w255_27, w255_28, w255_31, w255_34, w255_35, w255_36, w255_37, w255_40, w255_41, w255_42, w255_43, w255_44, w255_47, w255_48, w255_49, w255_50, w255_51, w255_54, w255_55, w255_58, w255_59, w255_60, w255_63, w255_64, w255_67, c_1_0 hc1, c_1_1 hc1, c_1_2 hc1, c_1_3 hc1, c_1_4 hc1, c_1_5 hc1, c_1_6 hc1, c_1_7 hc1, c_1_8 hc1, c_2_0 hc1, c_2_1 hc1, c_5_0 hc1, c_5_1 hc1, c_5_2 hc1, c_5_3 hc1, c_5_5 hc1, c_5_8 hc1, c_5_11 hc1, c_6_1 hc1, c_6_2 hc1, c_6_3 hc1, c_10_4 hc1, c_10_5 hc1, c_10_6 hc1, c_10_7 hc1, c_15_1 hc1, c_17_1 hc1, c_339_0 hc1, c_341_0 hc1, c_341_1 hc1, c_341_2 hc1, c_342_4 hc1, c_342_5 hc1, c_342_6 hc1, c_342_7 hc1, c_347_0 hc1, c_347_2 hc1, c_347_3 hc1, c_349_0 hc1, c_349_1 hc1, c_349_2 hc1, c_351_2 hc1, c_351_10 hc1, c_351_12 hc1, c_354_0 hc1, c_354_1 hc1, c_354_2 hc1, c_354_3 hc1, c_354_4 hc1, c_354_5 hc1, c_354_6 hc1, c_354_7 hc1, c_354_8 hc1, c_354_20 hc1, c_354_25 hc1, c_354_26 hc1, c_354_27 hc1, c_354_28 hc1, c_354_32 hc1, c_354_33 hc1, c_354_34 hc1, c_354_35 hc1, c_354_38 hc1, l_3 hc1, l_4 hc1, l_7 hc1, l_8 hc1, l_9 hc1, l_11 hc1, l_12 hc1, l_13 hc1, l_14 hc1, l_16 hc1, l_18 hc1, l_19 hc1, l_20 hc1, l_21 hc1, l_340 hc1, l_343 hc1, l_344 hc1, l_345 hc1, l_346 hc1, l_348 hc1, l_350 hc1, l_352 hc1, l_353 hc1, l_355 hc1, l_356 hc1, l_357 hc1, l_358 hc1, l_359 hc1, l_360 hc1, l_361 hc1, l_362 hc1, l_363 hc1, l_364 hc1, l_365 hc1, l_366 hc1, l_367 hc1, l_368 hc1, l_369 hc1, l_370 hc1, l_371 hc1, l_372 hc1, l_373 hc1, s29, heq, ↓reduceIte, hh_wr, hl_wr, b10, b11, ite_not, ne_eq, Int.reduceEq, Int.reduceLE, Int.reduceLT, Int.reduceNe, Int.reduceNeg, Int.reduceAdd, Int.reduceSub, Int.reduceMul, not_false_eq_true, not_true_eq_false, false_and, and_false, true_and, and_true, and_self, true_or, or_true, false_or, or_false, if_true, if_false, ite_true, ite_false, mj_tl_some, mj_tl_none, mj_cs0, mj_cs1, mj_cs2, mj_cs3, mj_cs4]
    generalize hM2 : mj_wr (mj_wr (mj_wr (mj_wr (mj_wr (mj_wr (mj_wr M1 354 29 (cdN c 5)) 354 30 1000000) 354 31 1000000) 369 0 (-1)) 370 0 0) 371 0 1152921504606846975) 372 0 1152921504606846975 = M2
    have R : ∀ x j, hh M2 x j = if x = 372 ∧ j = 0 then 1152921504606846975 else if x = 371 ∧ j = 0 then 1152921504606846975 else if x = 370 ∧ j = 0 then 0 else if x = 369 ∧ j = 0 then -1 else if x = 354 ∧ j = 31 then 1000000 else if x = 354 ∧ j = 30 then 1000000 else if x = 354 ∧ j = 29 then cdN c 5 else hh M1 x j := by subst hM2; exact fun x j => rfl
    have f2 : fz [8, 9] M M2 := by
      subst hM2
      exact ((((((f1.wr (by decide)).wr (by decide)).wr (by decide)).wr (by decide)).wr (by decide)).wr (by decide)).wr (by decide)
    clear hM2
    have hp2 : ∀ k, 0 ≤ k → k ≤ 4 → hh M2 368 k = c k := by
      intro k k0 k4
      rw [R, if_neg (by omega), if_neg (by omega), if_neg (by omega), if_neg (by omega), if_neg (by omega), if_neg (by omega), if_neg (by omega)]
      obtain ⟨n, rfl⟩ := nat_of k0
      exact hk n (by omega)
    refine lay_run (c := c) (h.cs.fz f2 (by decide)) (h.tb.fz f2 (by decide)) hr hp2 21 20 (by omega) M2 0 0 1152921504606846975 1152921504606846975 (1000000, 1000000) _ _ _ _ _ _ (by omega) (by omega) (by decide) (by omega) (by omega) Ls.rfl' ⟨?_, ?_, ?_, ?_⟩ ?_ ?_ (fun M3 u4 u5 u6 u7 u8 u9 q1 q2 q3 q4 => ?_)
    · rw [R]; rfl
    · rw [R]; rfl
    · rw [R]; rfl
    · rw [R]; rfl
    · rw [R]; rfl
    · rw [R]; rfl
    · have lo := least_ok hr hb
      rw [lo] at q3 q4
      simp only at q3 q4
      simp only [w255_0, w255_1, w255_2, w255_5, w255_6, w255_7, w255_8, w255_11, w255_14, w255_15, w255_16, w255_17, w255_20, w255_21, w255_24, w255_27, w255_28, w255_31, w255_34, w255_35, w255_36, w255_37, w255_40, w255_41, w255_42, w255_43, w255_44, w255_47, w255_48, w255_49, w255_50, w255_51, w255_54, w255_55, w255_58, w255_59, w255_60, w255_63, w255_64, w255_67, w255_68, w255_69, w255_72, w255_73, w255_74, w255_77, w255_79, w255_81, w255_82, w255_85, w255_88, w255_91, w255_92, w255_95, w255_96, w255_98, w255_99, w255_100, w255_103, w255_104, w255_105, w255_106, w255_109, w255_111, w255_112, w255_113, w255_115, w255_116, w255_119, w255_120, w255_121, w255_122, w255_125, w255_127, w255_128, w255_129, w255_131, w255_132, w255_135, w255_136, w255_137, w255_138, w255_141, w255_142, w255_145, w255_147, w255_148, w255_149, w255_150, w255_152, w255_154, w255_155, w255_156, w255_159, w255_161, w255_162, w255_163, w255_166, w255_167, w255_169, w255_172, w255_173, w255_174, w255_175, w255_176, w255_179, w255_182, w255_185, w255_186, w255_189, w255_190, w255_192, w255_193, w255_194, w255_197, w255_198, w255_200, w255_201, w255_202, w255_205, w255_206, w255_208, w255_209, w255_210, w255_213, w255_214, w255_216, w255_217, w255_220, show (0 : Int) - 1 = -1 by decide, ↓reduceIte, hh_wr, hl_wr, b10, b11, ite_not, ne_eq, Int.reduceEq, Int.reduceLE, Int.reduceLT, Int.reduceNe, Int.reduceNeg, Int.reduceAdd, Int.reduceSub, Int.reduceMul, not_false_eq_true, not_true_eq_false, false_and, and_false, true_and, and_true, and_self, true_or, or_true, false_or, or_false, if_true, if_false, ite_true, ite_false, mj_tl_some, mj_tl_none, mj_cs0, mj_cs1, mj_cs2, mj_cs3, mj_cs4]
      have e29 : hh M3 354 29 = cdN c 5 := by
        rw [q1.h 354 29 (by omega) (by omega), R]; rfl
      refine ⟨f2.tr q1.fz, Or.inr ?_, q3, q4⟩
      rw [e29, dgc]
      exact ⟨hb, q3, q4⟩
end Least3
