/-! TEXT: the class's clauses -/
/-- a row more of the class's cells -/
def Cq (M M1 : mj_M) : Prop := (∀ x j, x ≠ 351 → x ≠ 352 → x ≠ 353 → hh M1 x j = hh M x j) ∧ (∀ j, j = 2 ∨ j = 3 ∨ j = 10 ∨ j = 12 → hh M1 351 j = hh M 351 j) ∧ (∀ x, hl M1 x = hl M x) ∧ (M1.1 = M.1) ∧ (M1.2.1 = M.2.1)
theorem Cq.h {M M1 : mj_M} (h : Cq M M1) : ∀ x j, x ≠ 351 → x ≠ 352 → x ≠ 353 → hh M1 x j = hh M x j := h.1
theorem Cq.r {M M1 : mj_M} (h : Cq M M1) : ∀ j, j = 2 ∨ j = 3 ∨ j = 10 ∨ j = 12 → hh M1 351 j = hh M 351 j := h.2.1
theorem Cq.l {M M1 : mj_M} (h : Cq M M1) : ∀ x, hl M1 x = hl M x := h.2.2.1
theorem Cq.n {M M1 : mj_M} (h : Cq M M1) : M1.1 = M.1 := h.2.2.2.1
theorem Cq.s {M M1 : mj_M} (h : Cq M M1) : M1.2.1 = M.2.1 := h.2.2.2.2
theorem Cr.q {M M1 : mj_M} (a : Cr M M1) : Cq M M1 := ⟨a.h, fun j h => a.r j (by omega), a.l, a.n, a.s⟩
theorem Cq.tr {M M1 M2 : mj_M} (a : Cq M M1) (b : Cq M1 M2) : Cq M M2 := ⟨fun x j h1 h2 h3 => (b.h x j h1 h2 h3).trans (a.h x j h1 h2 h3), fun j h => (b.r j h).trans (a.r j h), fun x => (b.l x).trans (a.l x), b.n.trans a.n, b.s.trans a.s⟩
theorem Cq.w1 {M M1 : mj_M} {i v : Int} (k : Cq M M1) (h : i ≠ 2 ∧ i ≠ 3 ∧ i ≠ 10 ∧ i ≠ 12) : Cq M (mj_wr M1 351 i v) := ⟨fun x j h1 h2 h3 => by rw [hh_wr, if_neg (fun q => h1 q.1)]; exact k.h x j h1 h2 h3, fun j hj => by rw [hh_wr, if_neg (by omega)]; exact k.r j hj, k.l, k.n, k.s⟩
theorem Cq.fz {M M1 : mj_M} (k : Cq M M1) : fz [8] M M1 := ⟨fun x j g => by
  by_cases h1 : x = 351
  · subst h1
    by_cases h : j = 2 ∨ j = 3 ∨ j = 10 ∨ j = 12
    · exact k.r j h
    · exact absurd (List.mem_singleton.mpr (z_351 (by omega))) g
  by_cases h2 : x = 352
  · subst h2; exact absurd (List.mem_singleton.mpr rfl) g
  by_cases h3 : x = 353
  · subst h3; exact absurd (List.mem_singleton.mpr rfl) g
  exact k.h x j h1 h2 h3, k.l, k.n, k.s⟩
theorem CX.cq {M M1 : mj_M} {T : Int → Int} {L : Int} (h : CX M T L) (k : Cq M M1) : CX M1 T L := ⟨h.cs.fz k.fz (by decide), (k.r 3 (by omega)).trans h.l3, h.tz, fun i a b => (k.h 350 i (by decide) (by decide) (by decide)).trans (h.t i a b)⟩
def Dk (n w v1 v2 v3 : Int) (M M1 : mj_M) : Prop := (Cq M M1) ∧ (hh M1 352 (4 * n) = w) ∧ (hh M1 352 (4 * n + 1) = v1) ∧ (hh M1 352 (4 * n + 2) = v2) ∧ (hh M1 352 (4 * n + 3) = v3) ∧ (∀ j, j < 4 * n → hh M1 352 j = hh M 352 j) ∧ (hh M1 351 9 = n + 1) ∧ (∀ j, hh M1 353 j = hh M 353 j) ∧ (∀ j, j = 1 ∨ j = 8 ∨ (11 ≤ j ∧ j ≤ 16) → hh M1 351 j = hh M 351 j)
theorem Dk.r {n w v1 v2 v3 : Int} {M M1 : mj_M} (h : Dk n w v1 v2 v3 M M1) : Cq M M1 := h.1
theorem Dk.c0 {n w v1 v2 v3 : Int} {M M1 : mj_M} (h : Dk n w v1 v2 v3 M M1) : hh M1 352 (4 * n) = w := h.2.1
theorem Dk.c1 {n w v1 v2 v3 : Int} {M M1 : mj_M} (h : Dk n w v1 v2 v3 M M1) : hh M1 352 (4 * n + 1) = v1 := h.2.2.1
theorem Dk.c2 {n w v1 v2 v3 : Int} {M M1 : mj_M} (h : Dk n w v1 v2 v3 M M1) : hh M1 352 (4 * n + 2) = v2 := h.2.2.2.1
theorem Dk.c3 {n w v1 v2 v3 : Int} {M M1 : mj_M} (h : Dk n w v1 v2 v3 M M1) : hh M1 352 (4 * n + 3) = v3 := h.2.2.2.2.1
theorem Dk.k {n w v1 v2 v3 : Int} {M M1 : mj_M} (h : Dk n w v1 v2 v3 M M1) : ∀ j, j < 4 * n → hh M1 352 j = hh M 352 j := h.2.2.2.2.2.1
theorem Dk.n {n w v1 v2 v3 : Int} {M M1 : mj_M} (h : Dk n w v1 v2 v3 M M1) : hh M1 351 9 = n + 1 := h.2.2.2.2.2.2.1
theorem Dk.d {n w v1 v2 v3 : Int} {M M1 : mj_M} (h : Dk n w v1 v2 v3 M M1) : ∀ j, hh M1 353 j = hh M 353 j := h.2.2.2.2.2.2.2.1
theorem Dk.f {n w v1 v2 v3 : Int} {M M1 : mj_M} (h : Dk n w v1 v2 v3 M M1) : ∀ j, j = 1 ∨ j = 8 ∨ (11 ≤ j ∧ j ≤ 16) → hh M1 351 j = hh M 351 j := h.2.2.2.2.2.2.2.2
section CCl
variable {X : mj_X} {D e : Nat} {M M0 : mj_M} {T : Int → Int} {L t0 a c n w k q : Int}
theorem Dk.ko {M1 : mj_M} {v1 v2 v3 : Int} (k : Ko 351 4 7 M0 M) (h : Dk n w v1 v2 v3 M M1) : Dk n w v1 v2 v3 M0 M1 := ⟨k.cr.q.tr h.r, h.c0, h.c1, h.c2, h.c3, fun j hj => (h.k j hj).trans (k.h _ _ (by omega)), h.n, fun j => (h.d j).trans (k.h _ _ (by omega)), fun j hj => (h.f j hj).trans (k.h _ _ (by omega))⟩
theorem c_keep {x y z : Int} (h : CP M T L a c) (hn : hh M 351 9 = n) (n0 : 0 ≤ n ∧ n < 24) : wc X D 66 [(26, 351), (0, w), (0, x), (0, y), (0, z)] M (fun r M1 => r = none ∧ CP M1 T L a c ∧ Dk n w x y z M M1) := by
  show wp X D 66 0 [(26, 351), (0, w), (0, x), (0, y), (0, z), (9, 0)] [] M _
  have m4 : ji_mul n 4 = 4 * n := by rw [ji_mul_eq (nn ⟨by omega, by omega⟩)]; omega
  have a1 : ji_add (4 * n) 1 = 4 * n + 1 := aj ⟨by omega, by omega⟩
  have a2 : ji_add (4 * n) 2 = 4 * n + 2 := aj ⟨by omega, by omega⟩
  have a3 : ji_add (4 * n) 3 = 4 * n + 3 := aj ⟨by omega, by omega⟩
  have an : ji_add n 1 = n + 1 := aj ⟨by omega, by omega⟩
  simp only [w66_0, w66_1, w66_4, w66_6, w66_9, w66_10, w66_13, w66_14, w66_15, w66_17, w66_18, w66_21, w66_23, w66_24, w66_25, w66_26, w66_29, w66_31, w66_32, w66_33, w66_34, w66_35, w66_36, w66_39, w66_41, w66_42, w66_43, w66_44, w66_45, w66_46, w66_49, w66_51, w66_52, w66_53, w66_55, w66_56, w66_57, w66_58, w66_61, w66_62, w66_63, w66_66, c_1_0 h.cx.cs, c_1_1 h.cx.cs, c_1_2 h.cx.cs, c_1_3 h.cx.cs, c_1_4 h.cx.cs, c_1_5 h.cx.cs, c_1_6 h.cx.cs, c_1_7 h.cx.cs, c_1_8 h.cx.cs, c_2_0 h.cx.cs, c_2_1 h.cx.cs, c_5_0 h.cx.cs, c_5_1 h.cx.cs, c_5_2 h.cx.cs, c_5_3 h.cx.cs, c_5_5 h.cx.cs, c_5_8 h.cx.cs, c_5_11 h.cx.cs, c_6_1 h.cx.cs, c_6_2 h.cx.cs, c_6_3 h.cx.cs, c_10_4 h.cx.cs, c_10_5 h.cx.cs, c_10_6 h.cx.cs, c_10_7 h.cx.cs, c_15_1 h.cx.cs, c_17_1 h.cx.cs, c_339_0 h.cx.cs, c_341_0 h.cx.cs, c_341_1 h.cx.cs, c_341_2 h.cx.cs, c_342_4 h.cx.cs, c_342_5 h.cx.cs, c_342_6 h.cx.cs, c_342_7 h.cx.cs, c_347_0 h.cx.cs, c_347_2 h.cx.cs, c_347_3 h.cx.cs, c_349_0 h.cx.cs, c_349_1 h.cx.cs, c_349_2 h.cx.cs, c_351_2 h.cx.cs, c_351_10 h.cx.cs, c_351_12 h.cx.cs, c_354_0 h.cx.cs, c_354_1 h.cx.cs, c_354_2 h.cx.cs, c_354_3 h.cx.cs, c_354_4 h.cx.cs, c_354_5 h.cx.cs, c_354_6 h.cx.cs, c_354_7 h.cx.cs, c_354_8 h.cx.cs, c_354_20 h.cx.cs, c_354_25 h.cx.cs, c_354_26 h.cx.cs, c_354_27 h.cx.cs, c_354_28 h.cx.cs, c_354_32 h.cx.cs, c_354_33 h.cx.cs, c_354_34 h.cx.cs, c_354_35 h.cx.cs, c_354_38 h.cx.cs, l_3 h.cx.cs, l_4 h.cx.cs, l_7 h.cx.cs, l_8 h.cx.cs, l_9 h.cx.cs, l_11 h.cx.cs, l_12 h.cx.cs, l_13 h.cx.cs, l_14 h.cx.cs, l_16 h.cx.cs, l_18 h.cx.cs, l_19 h.cx.cs, l_20 h.cx.cs, l_21 h.cx.cs, l_340 h.cx.cs, l_343 h.cx.cs, l_344 h.cx.cs, l_345 h.cx.cs, l_346 h.cx.cs, l_348 h.cx.cs, l_350 h.cx.cs, l_352 h.cx.cs, l_353 h.cx.cs, l_355 h.cx.cs, l_356 h.cx.cs, l_357 h.cx.cs, l_358 h.cx.cs, l_359 h.cx.cs, l_360 h.cx.cs, l_361 h.cx.cs, l_362 h.cx.cs, l_363 h.cx.cs, l_364 h.cx.cs, l_365 h.cx.cs, l_366 h.cx.cs, l_367 h.cx.cs, l_368 h.cx.cs, l_369 h.cx.cs, l_370 h.cx.cs, l_371 h.cx.cs, l_372 h.cx.cs, l_373 h.cx.cs, hn, m4, a1, a2, a3, an, n0.2, show (0 : Int) ≤ 4 * n by omega, show 4 * n < 96 by omega, show (0 : Int) ≤ 4 * n + 1 by omega, show 4 * n + 1 < 96 by omega, show (0 : Int) ≤ 4 * n + 2 by omega, show 4 * n + 2 < 96 by omega, show (0 : Int) ≤ 4 * n + 3 by omega, show 4 * n + 3 < 96 by omega, ↓reduceIte, hh_wr, hl_wr, b10, b11, ite_not, ne_eq, Int.reduceEq, Int.reduceLE, Int.reduceLT, Int.reduceNe, Int.reduceNeg, Int.reduceAdd, Int.reduceSub, Int.reduceMul, not_false_eq_true, not_true_eq_false, false_and, and_false, true_and, and_true, and_self, true_or, or_true, false_or, or_false, if_true, if_false, ite_true, ite_false, mj_tl_some, mj_tl_none, mj_cs0, mj_cs1, mj_cs2, mj_cs3, mj_cs4]
  have r1 : Cq M (mj_wr (mj_wr (mj_wr (mj_wr (mj_wr M 352 (4 * n) w) 352 (4 * n + 1) x) 352 (4 * n + 2) y) 352 (4 * n + 3) z) 351 9 (n + 1)) := ((((Cr.rfl'.w2 (Or.inl rfl)).w2 (Or.inl rfl)).w2 (Or.inl rfl)).w2 (Or.inl rfl)).q.w1 (by decide)
  refine ⟨⟨h.cx.cq r1, h.a0, h.aL, by simp only [hh_wr, h.f0, ↓reduceIte, hh_wr, hl_wr, b10, b11, ite_not, ne_eq, Int.reduceEq, Int.reduceLE, Int.reduceLT, Int.reduceNe, Int.reduceNeg, Int.reduceAdd, Int.reduceSub, Int.reduceMul, not_false_eq_true, not_true_eq_false, false_and, and_false, true_and, and_true, and_self, true_or, or_true, false_or, or_false, if_true, if_false, ite_true, ite_false, mj_tl_some, mj_tl_none, mj_cs0, mj_cs1, mj_cs2, mj_cs3, mj_cs4], by simp only [hh_wr, h.e4, ↓reduceIte, hh_wr, hl_wr, b10, b11, ite_not, ne_eq, Int.reduceEq, Int.reduceLE, Int.reduceLT, Int.reduceNe, Int.reduceNeg, Int.reduceAdd, Int.reduceSub, Int.reduceMul, not_false_eq_true, not_true_eq_false, false_and, and_false, true_and, and_true, and_self, true_or, or_true, false_or, or_false, if_true, if_false, ite_true, ite_false, mj_tl_some, mj_tl_none, mj_cs0, mj_cs1, mj_cs2, mj_cs3, mj_cs4], by simp only [hh_wr, h.e5, ↓reduceIte, hh_wr, hl_wr, b10, b11, ite_not, ne_eq, Int.reduceEq, Int.reduceLE, Int.reduceLT, Int.reduceNe, Int.reduceNeg, Int.reduceAdd, Int.reduceSub, Int.reduceMul, not_false_eq_true, not_true_eq_false, false_and, and_false, true_and, and_true, and_self, true_or, or_true, false_or, or_false, if_true, if_false, ite_true, ite_false, mj_tl_some, mj_tl_none, mj_cs0, mj_cs1, mj_cs2, mj_cs3, mj_cs4], by simp only [hh_wr, h.e6, ↓reduceIte, hh_wr, hl_wr, b10, b11, ite_not, ne_eq, Int.reduceEq, Int.reduceLE, Int.reduceLT, Int.reduceNe, Int.reduceNeg, Int.reduceAdd, Int.reduceSub, Int.reduceMul, not_false_eq_true, not_true_eq_false, false_and, and_false, true_and, and_true, and_self, true_or, or_true, false_or, or_false, if_true, if_false, ite_true, ite_false, mj_tl_some, mj_tl_none, mj_cs0, mj_cs1, mj_cs2, mj_cs3, mj_cs4], fun q => by simp only [hh_wr, h.e7 q, ↓reduceIte, hh_wr, hl_wr, b10, b11, ite_not, ne_eq, Int.reduceEq, Int.reduceLE, Int.reduceLT, Int.reduceNe, Int.reduceNeg, Int.reduceAdd, Int.reduceSub, Int.reduceMul, not_false_eq_true, not_true_eq_false, false_and, and_false, true_and, and_true, and_self, true_or, or_true, false_or, or_false, if_true, if_false, ite_true, ite_false, mj_tl_some, mj_tl_none, mj_cs0, mj_cs1, mj_cs2, mj_cs3, mj_cs4], by simp only [hh_wr, h.c, ↓reduceIte, hh_wr, hl_wr, b10, b11, ite_not, ne_eq, Int.reduceEq, Int.reduceLE, Int.reduceLT, Int.reduceNe, Int.reduceNeg, Int.reduceAdd, Int.reduceSub, Int.reduceMul, not_false_eq_true, not_true_eq_false, false_and, and_false, true_and, and_true, and_self, true_or, or_true, false_or, or_false, if_true, if_false, ite_true, ite_false, mj_tl_some, mj_tl_none, mj_cs0, mj_cs1, mj_cs2, mj_cs3, mj_cs4], h.c0, h.ca⟩, r1, ?_, ?_, ?_, ?_, fun j hj => ?_, ?_, fun j => ?_, fun j hj => ?_⟩
  · simp only [hh_wr, show ¬ 4 * n = 4 * n + 1 by omega, show ¬ 4 * n = 4 * n + 2 by omega, show ¬ 4 * n = 4 * n + 3 by omega, ↓reduceIte, hh_wr, hl_wr, b10, b11, ite_not, ne_eq, Int.reduceEq, Int.reduceLE, Int.reduceLT, Int.reduceNe, Int.reduceNeg, Int.reduceAdd, Int.reduceSub, Int.reduceMul, not_false_eq_true, not_true_eq_false, false_and, and_false, true_and, and_true, and_self, true_or, or_true, false_or, or_false, if_true, if_false, ite_true, ite_false, mj_tl_some, mj_tl_none, mj_cs0, mj_cs1, mj_cs2, mj_cs3, mj_cs4]
  · simp only [hh_wr, show ¬ 4 * n + 1 = 4 * n + 2 by omega, show ¬ 4 * n + 1 = 4 * n + 3 by omega, ↓reduceIte, hh_wr, hl_wr, b10, b11, ite_not, ne_eq, Int.reduceEq, Int.reduceLE, Int.reduceLT, Int.reduceNe, Int.reduceNeg, Int.reduceAdd, Int.reduceSub, Int.reduceMul, not_false_eq_true, not_true_eq_false, false_and, and_false, true_and, and_true, and_self, true_or, or_true, false_or, or_false, if_true, if_false, ite_true, ite_false, mj_tl_some, mj_tl_none, mj_cs0, mj_cs1, mj_cs2, mj_cs3, mj_cs4]
  · simp only [hh_wr, show ¬ 4 * n + 2 = 4 * n + 3 by omega, ↓reduceIte, hh_wr, hl_wr, b10, b11, ite_not, ne_eq, Int.reduceEq, Int.reduceLE, Int.reduceLT, Int.reduceNe, Int.reduceNeg, Int.reduceAdd, Int.reduceSub, Int.reduceMul, not_false_eq_true, not_true_eq_false, false_and, and_false, true_and, and_true, and_self, true_or, or_true, false_or, or_false, if_true, if_false, ite_true, ite_false, mj_tl_some, mj_tl_none, mj_cs0, mj_cs1, mj_cs2, mj_cs3, mj_cs4]
  · simp only [hh_wr, ↓reduceIte, hh_wr, hl_wr, b10, b11, ite_not, ne_eq, Int.reduceEq, Int.reduceLE, Int.reduceLT, Int.reduceNe, Int.reduceNeg, Int.reduceAdd, Int.reduceSub, Int.reduceMul, not_false_eq_true, not_true_eq_false, false_and, and_false, true_and, and_true, and_self, true_or, or_true, false_or, or_false, if_true, if_false, ite_true, ite_false, mj_tl_some, mj_tl_none, mj_cs0, mj_cs1, mj_cs2, mj_cs3, mj_cs4]
  · simp only [hh_wr, show ¬ j = 4 * n by omega, show ¬ j = 4 * n + 1 by omega, show ¬ j = 4 * n + 2 by omega, show ¬ j = 4 * n + 3 by omega, ↓reduceIte, hh_wr, hl_wr, b10, b11, ite_not, ne_eq, Int.reduceEq, Int.reduceLE, Int.reduceLT, Int.reduceNe, Int.reduceNeg, Int.reduceAdd, Int.reduceSub, Int.reduceMul, not_false_eq_true, not_true_eq_false, false_and, and_false, true_and, and_true, and_self, true_or, or_true, false_or, or_false, if_true, if_false, ite_true, ite_false, mj_tl_some, mj_tl_none, mj_cs0, mj_cs1, mj_cs2, mj_cs3, mj_cs4]
  · simp only [hh_wr, ↓reduceIte, hh_wr, hl_wr, b10, b11, ite_not, ne_eq, Int.reduceEq, Int.reduceLE, Int.reduceLT, Int.reduceNe, Int.reduceNeg, Int.reduceAdd, Int.reduceSub, Int.reduceMul, not_false_eq_true, not_true_eq_false, false_and, and_false, true_and, and_true, and_self, true_or, or_true, false_or, or_false, if_true, if_false, ite_true, ite_false, mj_tl_some, mj_tl_none, mj_cs0, mj_cs1, mj_cs2, mj_cs3, mj_cs4]
  · simp only [hh_wr, ↓reduceIte, hh_wr, hl_wr, b10, b11, ite_not, ne_eq, Int.reduceEq, Int.reduceLE, Int.reduceLT, Int.reduceNe, Int.reduceNeg, Int.reduceAdd, Int.reduceSub, Int.reduceMul, not_false_eq_true, not_true_eq_false, false_and, and_false, true_and, and_true, and_self, true_or, or_true, false_or, or_false, if_true, if_false, ite_true, ite_false, mj_tl_some, mj_tl_none, mj_cs0, mj_cs1, mj_cs2, mj_cs3, mj_cs4]
  · simp only [hh_wr, show ¬ j = 9 by omega, ↓reduceIte, hh_wr, hl_wr, b10, b11, ite_not, ne_eq, Int.reduceEq, Int.reduceLE, Int.reduceLT, Int.reduceNe, Int.reduceNeg, Int.reduceAdd, Int.reduceSub, Int.reduceMul, not_false_eq_true, not_true_eq_false, false_and, and_false, true_and, and_true, and_self, true_or, or_true, false_or, or_false, if_true, if_false, ite_true, ite_false, mj_tl_some, mj_tl_none, mj_cs0, mj_cs1, mj_cs2, mj_cs3, mj_cs4]
theorem c_keepF {x y z : Int} (h : Fl M T L k q) (n0 : 0 ≤ hh M 351 9) : wc X D 66 [(26, 351), (0, w), (0, x), (0, y), (0, z)] M (fun r M1 => r = none ∧ Cq M M1 ∧ Fl M1 T L k q) := by
  show wp X D 66 0 [(26, 351), (0, w), (0, x), (0, y), (0, z), (9, 0)] [] M _
  by_cases n24 : hh M 351 9 < 24
  · generalize hn : hh M 351 9 = n at *
    have m4 : ji_mul n 4 = 4 * n := by rw [ji_mul_eq (nn ⟨by omega, by omega⟩)]; omega
    have a1 : ji_add (4 * n) 1 = 4 * n + 1 := aj ⟨by omega, by omega⟩
    have a2 : ji_add (4 * n) 2 = 4 * n + 2 := aj ⟨by omega, by omega⟩
    have a3 : ji_add (4 * n) 3 = 4 * n + 3 := aj ⟨by omega, by omega⟩
    simp only [w66_0, w66_1, w66_4, w66_6, w66_9, w66_10, w66_13, w66_14, w66_15, w66_17, w66_18, w66_21, w66_23, w66_24, w66_25, w66_26, w66_29, w66_31, w66_32, w66_33, w66_34, w66_35, w66_36, w66_39, w66_41, w66_42, w66_43, w66_44, w66_45, w66_46, w66_49, w66_51, w66_52, w66_53, w66_55, w66_56, w66_57, w66_58, w66_61, w66_62, w66_63, w66_66, c_1_0 h.cx.cs, c_1_1 h.cx.cs, c_1_2 h.cx.cs, c_1_3 h.cx.cs, c_1_4 h.cx.cs, c_1_5 h.cx.cs, c_1_6 h.cx.cs, c_1_7 h.cx.cs, c_1_8 h.cx.cs, c_2_0 h.cx.cs, c_2_1 h.cx.cs, c_5_0 h.cx.cs, c_5_1 h.cx.cs, c_5_2 h.cx.cs, c_5_3 h.cx.cs, c_5_5 h.cx.cs, c_5_8 h.cx.cs, c_5_11 h.cx.cs, c_6_1 h.cx.cs, c_6_2 h.cx.cs, c_6_3 h.cx.cs, c_10_4 h.cx.cs, c_10_5 h.cx.cs, c_10_6 h.cx.cs, c_10_7 h.cx.cs, c_15_1 h.cx.cs, c_17_1 h.cx.cs, c_339_0 h.cx.cs, c_341_0 h.cx.cs, c_341_1 h.cx.cs, c_341_2 h.cx.cs, c_342_4 h.cx.cs, c_342_5 h.cx.cs, c_342_6 h.cx.cs, c_342_7 h.cx.cs, c_347_0 h.cx.cs, c_347_2 h.cx.cs, c_347_3 h.cx.cs, c_349_0 h.cx.cs, c_349_1 h.cx.cs, c_349_2 h.cx.cs, c_351_2 h.cx.cs, c_351_10 h.cx.cs, c_351_12 h.cx.cs, c_354_0 h.cx.cs, c_354_1 h.cx.cs, c_354_2 h.cx.cs, c_354_3 h.cx.cs, c_354_4 h.cx.cs, c_354_5 h.cx.cs, c_354_6 h.cx.cs, c_354_7 h.cx.cs, c_354_8 h.cx.cs, c_354_20 h.cx.cs, c_354_25 h.cx.cs, c_354_26 h.cx.cs, c_354_27 h.cx.cs, c_354_28 h.cx.cs, c_354_32 h.cx.cs, c_354_33 h.cx.cs, c_354_34 h.cx.cs, c_354_35 h.cx.cs, c_354_38 h.cx.cs, l_3 h.cx.cs, l_4 h.cx.cs, l_7 h.cx.cs, l_8 h.cx.cs, l_9 h.cx.cs, l_11 h.cx.cs, l_12 h.cx.cs, l_13 h.cx.cs, l_14 h.cx.cs, l_16 h.cx.cs, l_18 h.cx.cs, l_19 h.cx.cs, l_20 h.cx.cs, l_21 h.cx.cs, l_340 h.cx.cs, l_343 h.cx.cs, l_344 h.cx.cs, l_345 h.cx.cs, l_346 h.cx.cs, l_348 h.cx.cs, l_350 h.cx.cs, l_352 h.cx.cs, l_353 h.cx.cs, l_355 h.cx.cs, l_356 h.cx.cs, l_357 h.cx.cs, l_358 h.cx.cs, l_359 h.cx.cs, l_360 h.cx.cs, l_361 h.cx.cs, l_362 h.cx.cs, l_363 h.cx.cs, l_364 h.cx.cs, l_365 h.cx.cs, l_366 h.cx.cs, l_367 h.cx.cs, l_368 h.cx.cs, l_369 h.cx.cs, l_370 h.cx.cs, l_371 h.cx.cs, l_372 h.cx.cs, l_373 h.cx.cs, hn, m4, a1, a2, a3, n24, show (0 : Int) ≤ 4 * n by omega, show 4 * n < 96 by omega, show (0 : Int) ≤ 4 * n + 1 by omega, show 4 * n + 1 < 96 by omega, show (0 : Int) ≤ 4 * n + 2 by omega, show 4 * n + 2 < 96 by omega, show (0 : Int) ≤ 4 * n + 3 by omega, show 4 * n + 3 < 96 by omega, ↓reduceIte, hh_wr, hl_wr, b10, b11, ite_not, ne_eq, Int.reduceEq, Int.reduceLE, Int.reduceLT, Int.reduceNe, Int.reduceNeg, Int.reduceAdd, Int.reduceSub, Int.reduceMul, not_false_eq_true, not_true_eq_false, false_and, and_false, true_and, and_true, and_self, true_or, or_true, false_or, or_false, if_true, if_false, ite_true, ite_false, mj_tl_some, mj_tl_none, mj_cs0, mj_cs1, mj_cs2, mj_cs3, mj_cs4]
    have r1 : Cq M (mj_wr (mj_wr (mj_wr (mj_wr (mj_wr M 352 (4 * n) w) 352 (4 * n + 1) x) 352 (4 * n + 2) y) 352 (4 * n + 3) z) 351 9 (ji_add n 1)) := ((((Cr.rfl'.w2 (Or.inl rfl)).w2 (Or.inl rfl)).w2 (Or.inl rfl)).w2 (Or.inl rfl)).q.w1 (by decide)
    exact ⟨r1, h.cx.cq r1, by simp only [hh_wr, h.k, ↓reduceIte, hh_wr, hl_wr, b10, b11, ite_not, ne_eq, Int.reduceEq, Int.reduceLE, Int.reduceLT, Int.reduceNe, Int.reduceNeg, Int.reduceAdd, Int.reduceSub, Int.reduceMul, not_false_eq_true, not_true_eq_false, false_and, and_false, true_and, and_true, and_self, true_or, or_true, false_or, or_false, if_true, if_false, ite_true, ite_false, mj_tl_some, mj_tl_none, mj_cs0, mj_cs1, mj_cs2, mj_cs3, mj_cs4], h.k0, by simp only [hh_wr, h.q, ↓reduceIte, hh_wr, hl_wr, b10, b11, ite_not, ne_eq, Int.reduceEq, Int.reduceLE, Int.reduceLT, Int.reduceNe, Int.reduceNeg, Int.reduceAdd, Int.reduceSub, Int.reduceMul, not_false_eq_true, not_true_eq_false, false_and, and_false, true_and, and_true, and_self, true_or, or_true, false_or, or_false, if_true, if_false, ite_true, ite_false, mj_tl_some, mj_tl_none, mj_cs0, mj_cs1, mj_cs2, mj_cs3, mj_cs4], by simp only [hh_wr, h.t, ↓reduceIte, hh_wr, hl_wr, b10, b11, ite_not, ne_eq, Int.reduceEq, Int.reduceLE, Int.reduceLT, Int.reduceNe, Int.reduceNeg, Int.reduceAdd, Int.reduceSub, Int.reduceMul, not_false_eq_true, not_true_eq_false, false_and, and_false, true_and, and_true, and_self, true_or, or_true, false_or, or_false, if_true, if_false, ite_true, ite_false, mj_tl_some, mj_tl_none, mj_cs0, mj_cs1, mj_cs2, mj_cs3, mj_cs4], by simp only [hh_wr, ↓reduceIte, hh_wr, hl_wr, b10, b11, ite_not, ne_eq, Int.reduceEq, Int.reduceLE, Int.reduceLT, Int.reduceNe, Int.reduceNeg, Int.reduceAdd, Int.reduceSub, Int.reduceMul, not_false_eq_true, not_true_eq_false, false_and, and_false, true_and, and_true, and_self, true_or, or_true, false_or, or_false, if_true, if_false, ite_true, ite_false, mj_tl_some, mj_tl_none, mj_cs0, mj_cs1, mj_cs2, mj_cs3, mj_cs4]; exact h.c0, by simp only [hh_wr, ↓reduceIte, hh_wr, hl_wr, b10, b11, ite_not, ne_eq, Int.reduceEq, Int.reduceLE, Int.reduceLT, Int.reduceNe, Int.reduceNeg, Int.reduceAdd, Int.reduceSub, Int.reduceMul, not_false_eq_true, not_true_eq_false, false_and, and_false, true_and, and_true, and_self, true_or, or_true, false_or, or_false, if_true, if_false, ite_true, ite_false, mj_tl_some, mj_tl_none, mj_cs0, mj_cs1, mj_cs2, mj_cs3, mj_cs4]; exact h.c3⟩
  · simp only [w66_0, w66_1, w66_4, w66_6, w66_9, w66_10, w66_13, w66_14, w66_15, w66_17, w66_18, w66_21, w66_23, w66_24, w66_25, w66_26, w66_29, w66_31, w66_32, w66_33, w66_34, w66_35, w66_36, w66_39, w66_41, w66_42, w66_43, w66_44, w66_45, w66_46, w66_49, w66_51, w66_52, w66_53, w66_55, w66_56, w66_57, w66_58, w66_61, w66_62, w66_63, w66_66, n24, ↓reduceIte, hh_wr, hl_wr, b10, b11, ite_not, ne_eq, Int.reduceEq, Int.reduceLE, Int.reduceLT, Int.reduceNe, Int.reduceNeg, Int.reduceAdd, Int.reduceSub, Int.reduceMul, not_false_eq_true, not_true_eq_false, false_and, and_false, true_and, and_true, and_self, true_or, or_true, false_or, or_false, if_true, if_false, ite_true, ite_false, mj_tl_some, mj_tl_none, mj_cs0, mj_cs1, mj_cs2, mj_cs3, mj_cs4]
    exact ⟨Cr.rfl'.q, h⟩
theorem c_expN {lo hi : Int} (hD : 7 ≤ D) (h : CP M T L a c) : wc X D 56 [(26, 351), (0, lo), (0, hi)] M (fun r M1 => (nok T L lo hi a ∧ r = some (0, tV T L a) ∧ Ko 351 4 7 M M1 ∧ CP M1 T L (tE T L a) c) ∨ (∃ k q, nbd T L lo hi a k q ∧ r = some (0, 0) ∧ Cr M M1 ∧ Fl M1 T L k q)) := by
  refine wc.mono (c_expectN hD h) ?_
  rintro r M1 (⟨h1, h2, h3, h4, h5, h6⟩ | ⟨h1, h2, h3, h4, h5⟩ | ⟨h1, h2, h3, h4⟩)
  · exact Or.inl ⟨⟨h1, h2, h3⟩, h4, h5, h6⟩
  · exact Or.inr ⟨2, _, Or.inr ⟨h1, h2, rfl, rfl⟩, h3, h4, h5⟩
  · exact Or.inr ⟨1, _, Or.inl ⟨h1, rfl, rfl⟩, h2, h3, h4⟩
/-- the end of a deed: the stop, then the clause is kept -/
def DE (T : Int → Int) (L a c n w x y z : Int) (M M1 : mj_M) : Prop := (tK T L a = 36 ∧ CP M1 T L (tE T L a) c ∧ Dk n w x y z M M1) ∨ (tK T L a ≠ 36 ∧ Cq M M1 ∧ Fl M1 T L 1 (tS T L a))
theorem kc_ok {x y z : Int} (hD : 7 ≤ D) (h : CP M T L a c) (hn : hh M 351 9 = n) (n0 : 0 ≤ n ∧ n < 24) (k : Ko 351 4 7 M0 M) : wp X (D + 1) 67 179 [(26, 351), (0, w), (0, x), (0, y), (0, z)] [] M (fun r M1 => r = none ∧ DE T L a c n w x y z M0 M1) := by
  simp only [w67_179, w67_180, w67_182, ↓reduceIte, hh_wr, hl_wr, b10, b11, ite_not, ne_eq, Int.reduceEq, Int.reduceLE, Int.reduceLT, Int.reduceNe, Int.reduceNeg, Int.reduceAdd, Int.reduceSub, Int.reduceMul, not_false_eq_true, not_true_eq_false, false_and, and_false, true_and, and_true, and_self, true_or, or_true, false_or, or_false, if_true, if_false, ite_true, ite_false, mj_tl_some, mj_tl_none, mj_cs0, mj_cs1, mj_cs2, mj_cs3, mj_cs4]
  refine wc.mono (c_expect hD h (by decide)) ?_
  rintro r M1 ⟨rfl, ⟨e1, k1, p1⟩ | ⟨e1, r1, f1⟩⟩
  · simp only [w67_185, w67_186, w67_187, w67_188, w67_189, w67_191, ↓reduceIte, hh_wr, hl_wr, b10, b11, ite_not, ne_eq, Int.reduceEq, Int.reduceLE, Int.reduceLT, Int.reduceNe, Int.reduceNeg, Int.reduceAdd, Int.reduceSub, Int.reduceMul, not_false_eq_true, not_true_eq_false, false_and, and_false, true_and, and_true, and_self, true_or, or_true, false_or, or_false, if_true, if_false, ite_true, ite_false, mj_tl_some, mj_tl_none, mj_cs0, mj_cs1, mj_cs2, mj_cs3, mj_cs4]
    refine wc.mono (c_keep p1 ((k1.h _ _ (by decide)).trans hn) n0) ?_
    rintro r M2 ⟨rfl, p2, d2⟩
    simp only [w67_194, ↓reduceIte, hh_wr, hl_wr, b10, b11, ite_not, ne_eq, Int.reduceEq, Int.reduceLE, Int.reduceLT, Int.reduceNe, Int.reduceNeg, Int.reduceAdd, Int.reduceSub, Int.reduceMul, not_false_eq_true, not_true_eq_false, false_and, and_false, true_and, and_true, and_self, true_or, or_true, false_or, or_false, if_true, if_false, ite_true, ite_false, mj_tl_some, mj_tl_none, mj_cs0, mj_cs1, mj_cs2, mj_cs3, mj_cs4]
    exact Or.inl ⟨e1, p2, Dk.ko (k.tr k1) d2⟩
  · simp only [w67_185, w67_186, w67_187, w67_188, w67_189, w67_191, ↓reduceIte, hh_wr, hl_wr, b10, b11, ite_not, ne_eq, Int.reduceEq, Int.reduceLE, Int.reduceLT, Int.reduceNe, Int.reduceNeg, Int.reduceAdd, Int.reduceSub, Int.reduceMul, not_false_eq_true, not_true_eq_false, false_and, and_false, true_and, and_true, and_self, true_or, or_true, false_or, or_false, if_true, if_false, ite_true, ite_false, mj_tl_some, mj_tl_none, mj_cs0, mj_cs1, mj_cs2, mj_cs3, mj_cs4]
    refine wc.mono (c_keepF f1 (by rw [r1.r 9 (by omega), hn]; exact n0.1)) ?_
    rintro r M2 ⟨rfl, r2, f2⟩
    simp only [w67_194, ↓reduceIte, hh_wr, hl_wr, b10, b11, ite_not, ne_eq, Int.reduceEq, Int.reduceLE, Int.reduceLT, Int.reduceNe, Int.reduceNeg, Int.reduceAdd, Int.reduceSub, Int.reduceMul, not_false_eq_true, not_true_eq_false, false_and, and_false, true_and, and_true, and_self, true_or, or_true, false_or, or_false, if_true, if_false, ite_true, ite_false, mj_tl_some, mj_tl_none, mj_cs0, mj_cs1, mj_cs2, mj_cs3, mj_cs4]
    exact Or.inr ⟨e1, (k.cr.tr r1).q.tr r2, f2⟩
theorem kc_F {x y z : Int} (hD : 7 ≤ D) (h : Fl M T L k q) (n0 : 0 ≤ hh M0 351 9) (r : Cr M0 M) : wp X (D + 1) 67 179 [(26, 351), (0, w), (0, x), (0, y), (0, z)] [] M (fun r M1 => r = none ∧ Cq M0 M1 ∧ Fl M1 T L k q) := by
  simp only [w67_179, w67_180, w67_182, ↓reduceIte, hh_wr, hl_wr, b10, b11, ite_not, ne_eq, Int.reduceEq, Int.reduceLE, Int.reduceLT, Int.reduceNe, Int.reduceNeg, Int.reduceAdd, Int.reduceSub, Int.reduceMul, not_false_eq_true, not_true_eq_false, false_and, and_false, true_and, and_true, and_self, true_or, or_true, false_or, or_false, if_true, if_false, ite_true, ite_false, mj_tl_some, mj_tl_none, mj_cs0, mj_cs1, mj_cs2, mj_cs3, mj_cs4]
  refine wc.mono (c_expectF hD h (by decide)) ?_
  rintro r' M1 ⟨rfl, r1, f1⟩
  simp only [w67_185, w67_186, w67_187, w67_188, w67_189, w67_191, ↓reduceIte, hh_wr, hl_wr, b10, b11, ite_not, ne_eq, Int.reduceEq, Int.reduceLE, Int.reduceLT, Int.reduceNe, Int.reduceNeg, Int.reduceAdd, Int.reduceSub, Int.reduceMul, not_false_eq_true, not_true_eq_false, false_and, and_false, true_and, and_true, and_self, true_or, or_true, false_or, or_false, if_true, if_false, ite_true, ite_false, mj_tl_some, mj_tl_none, mj_cs0, mj_cs1, mj_cs2, mj_cs3, mj_cs4]
  refine wc.mono (c_keepF f1 (by rw [r1.r 9 (by omega), r.r 9 (by omega)]; exact n0)) ?_
  rintro r' M2 ⟨rfl, r2, f2⟩
  simp only [w67_194, ↓reduceIte, hh_wr, hl_wr, b10, b11, ite_not, ne_eq, Int.reduceEq, Int.reduceLE, Int.reduceLT, Int.reduceNe, Int.reduceNeg, Int.reduceAdd, Int.reduceSub, Int.reduceMul, not_false_eq_true, not_true_eq_false, false_and, and_false, true_and, and_true, and_self, true_or, or_true, false_or, or_false, if_true, if_false, ite_true, ite_false, mj_tl_some, mj_tl_none, mj_cs0, mj_cs1, mj_cs2, mj_cs3, mj_cs4]
  exact ⟨(r.tr r1).q.tr r2, f2⟩
def DR (T : Int → Int) (L a c n w : Int) (M M1 : mj_M) : Prop := (∃ a' v1 v2 v3, dok T L w a a' v1 v2 v3 ∧ DE T L a' c n w v1 v2 v3 M M1) ∨ (∃ k q, dbd T L w a k q ∧ Cq M M1 ∧ Fl M1 T L k q)
theorem c_deed2 (hD : 7 ≤ D) (h : CP M T L a c) (hn : hh M 351 9 = n) (n0 : 0 ≤ n ∧ n < 24) : wp X (D + 1) 67 11 [(26, 351), (0, 2), (0, 0), (0, 0), (0, 0)] [] M (fun r M1 => r = none ∧ DR T L a c n 2 M M1) := by
  have s4 : ji_sub 4 1 = 3 := by decide +kernel
  have s8 : ji_sub 8 1 = 7 := by decide +kernel
  simp only [w67_11, w67_56, w67_57, w67_58, w67_59, w67_12, s4, s8, ↓reduceIte, hh_wr, hl_wr, b10, b11, ite_not, ne_eq, Int.reduceEq, Int.reduceLE, Int.reduceLT, Int.reduceNe, Int.reduceNeg, Int.reduceAdd, Int.reduceSub, Int.reduceMul, not_false_eq_true, not_true_eq_false, false_and, and_false, true_and, and_true, and_self, true_or, or_true, false_or, or_false, if_true, if_false, ite_true, ite_false, mj_tl_some, mj_tl_none, mj_cs0, mj_cs1, mj_cs2, mj_cs3, mj_cs4]
  refine wc.mono (c_expN hD h) ?_
  rintro r M1 (⟨ok1, rfl, k1, p1⟩ | ⟨k, q, bd, rfl, r1, f1⟩)
  · simp only [w67_62, w67_63, w67_64, w67_65, ↓reduceIte, hh_wr, hl_wr, b10, b11, ite_not, ne_eq, Int.reduceEq, Int.reduceLE, Int.reduceLT, Int.reduceNe, Int.reduceNeg, Int.reduceAdd, Int.reduceSub, Int.reduceMul, not_false_eq_true, not_true_eq_false, false_and, and_false, true_and, and_true, and_self, true_or, or_true, false_or, or_false, if_true, if_false, ite_true, ite_false, mj_tl_some, mj_tl_none, mj_cs0, mj_cs1, mj_cs2, mj_cs3, mj_cs4]
    refine wc.mono (c_expect hD p1 (by decide)) ?_
    rintro r M2 ⟨rfl, ⟨e2, k2, p2⟩ | ⟨e2, r2, f2⟩⟩
    · have k12 := k1.tr k2
      simp only [w67_68, w67_69, w67_70, w67_72, ↓reduceIte, hh_wr, hl_wr, b10, b11, ite_not, ne_eq, Int.reduceEq, Int.reduceLE, Int.reduceLT, Int.reduceNe, Int.reduceNeg, Int.reduceAdd, Int.reduceSub, Int.reduceMul, not_false_eq_true, not_true_eq_false, false_and, and_false, true_and, and_true, and_self, true_or, or_true, false_or, or_false, if_true, if_false, ite_true, ite_false, mj_tl_some, mj_tl_none, mj_cs0, mj_cs1, mj_cs2, mj_cs3, mj_cs4]
      refine wc.mono (c_expN hD p2) ?_
      rintro r M3 (⟨ok3, rfl, k3, p3⟩ | ⟨k, q, bd, rfl, r3, f3⟩)
      · have k123 := k12.tr k3
        simp only [w67_75, w67_76, ↓reduceIte, hh_wr, hl_wr, b10, b11, ite_not, ne_eq, Int.reduceEq, Int.reduceLE, Int.reduceLT, Int.reduceNe, Int.reduceNeg, Int.reduceAdd, Int.reduceSub, Int.reduceMul, not_false_eq_true, not_true_eq_false, false_and, and_false, true_and, and_true, and_self, true_or, or_true, false_or, or_false, if_true, if_false, ite_true, ite_false, mj_tl_some, mj_tl_none, mj_cs0, mj_cs1, mj_cs2, mj_cs3, mj_cs4]
        refine wp.mono (kc_ok hD p3 ((k123.h _ _ (by decide)).trans hn) n0 k123) ?_
        rintro r M9 ⟨rfl, d9⟩
        exact ⟨rfl, Or.inl ⟨_, _, _, _, Or.inl (⟨rfl, ⟨ok1, e2, ok3⟩, rfl, rfl, rfl, rfl⟩), d9⟩⟩
      · simp only [w67_75, w67_76, ↓reduceIte, hh_wr, hl_wr, b10, b11, ite_not, ne_eq, Int.reduceEq, Int.reduceLE, Int.reduceLT, Int.reduceNe, Int.reduceNeg, Int.reduceAdd, Int.reduceSub, Int.reduceMul, not_false_eq_true, not_true_eq_false, false_and, and_false, true_and, and_true, and_self, true_or, or_true, false_or, or_false, if_true, if_false, ite_true, ite_false, mj_tl_some, mj_tl_none, mj_cs0, mj_cs1, mj_cs2, mj_cs3, mj_cs4]
        refine wp.mono (kc_F hD f3 (by omega) (k12.cr.tr r3)) ?_
        rintro r M9 ⟨rfl, r9, f9⟩
        exact ⟨rfl, Or.inr ⟨k, q, Or.inl (⟨rfl, Or.inr ⟨ok1, Or.inr ⟨e2, bd⟩⟩⟩), r9, f9⟩⟩
    · simp only [w67_68, w67_69, w67_70, w67_72, ↓reduceIte, hh_wr, hl_wr, b10, b11, ite_not, ne_eq, Int.reduceEq, Int.reduceLE, Int.reduceLT, Int.reduceNe, Int.reduceNeg, Int.reduceAdd, Int.reduceSub, Int.reduceMul, not_false_eq_true, not_true_eq_false, false_and, and_false, true_and, and_true, and_self, true_or, or_true, false_or, or_false, if_true, if_false, ite_true, ite_false, mj_tl_some, mj_tl_none, mj_cs0, mj_cs1, mj_cs2, mj_cs3, mj_cs4]
      refine wc.mono (c_expectNF hD f2) ?_
      rintro r M3 ⟨rfl, r3, f3⟩
      simp only [w67_75, w67_76, ↓reduceIte, hh_wr, hl_wr, b10, b11, ite_not, ne_eq, Int.reduceEq, Int.reduceLE, Int.reduceLT, Int.reduceNe, Int.reduceNeg, Int.reduceAdd, Int.reduceSub, Int.reduceMul, not_false_eq_true, not_true_eq_false, false_and, and_false, true_and, and_true, and_self, true_or, or_true, false_or, or_false, if_true, if_false, ite_true, ite_false, mj_tl_some, mj_tl_none, mj_cs0, mj_cs1, mj_cs2, mj_cs3, mj_cs4]
      refine wp.mono (kc_F hD f3 (by omega) ((k1.cr.tr r2).tr r3)) ?_
      rintro r M9 ⟨rfl, r9, f9⟩
      exact ⟨rfl, Or.inr ⟨1, _, Or.inl (⟨rfl, Or.inr ⟨ok1, Or.inl ⟨e2, rfl, rfl⟩⟩⟩), r9, f9⟩⟩
  · simp only [w67_62, w67_63, w67_64, w67_65, ↓reduceIte, hh_wr, hl_wr, b10, b11, ite_not, ne_eq, Int.reduceEq, Int.reduceLE, Int.reduceLT, Int.reduceNe, Int.reduceNeg, Int.reduceAdd, Int.reduceSub, Int.reduceMul, not_false_eq_true, not_true_eq_false, false_and, and_false, true_and, and_true, and_self, true_or, or_true, false_or, or_false, if_true, if_false, ite_true, ite_false, mj_tl_some, mj_tl_none, mj_cs0, mj_cs1, mj_cs2, mj_cs3, mj_cs4]
    refine wc.mono (c_expectF hD f1 (by decide)) ?_
    rintro r M2 ⟨rfl, r2, f2⟩
    simp only [w67_68, w67_69, w67_70, w67_72, ↓reduceIte, hh_wr, hl_wr, b10, b11, ite_not, ne_eq, Int.reduceEq, Int.reduceLE, Int.reduceLT, Int.reduceNe, Int.reduceNeg, Int.reduceAdd, Int.reduceSub, Int.reduceMul, not_false_eq_true, not_true_eq_false, false_and, and_false, true_and, and_true, and_self, true_or, or_true, false_or, or_false, if_true, if_false, ite_true, ite_false, mj_tl_some, mj_tl_none, mj_cs0, mj_cs1, mj_cs2, mj_cs3, mj_cs4]
    refine wc.mono (c_expectNF hD f2) ?_
    rintro r M3 ⟨rfl, r3, f3⟩
    simp only [w67_75, w67_76, ↓reduceIte, hh_wr, hl_wr, b10, b11, ite_not, ne_eq, Int.reduceEq, Int.reduceLE, Int.reduceLT, Int.reduceNe, Int.reduceNeg, Int.reduceAdd, Int.reduceSub, Int.reduceMul, not_false_eq_true, not_true_eq_false, false_and, and_false, true_and, and_true, and_self, true_or, or_true, false_or, or_false, if_true, if_false, ite_true, ite_false, mj_tl_some, mj_tl_none, mj_cs0, mj_cs1, mj_cs2, mj_cs3, mj_cs4]
    refine wp.mono (kc_F hD f3 (by omega) ((r1.tr r2).tr r3)) ?_
    rintro r M9 ⟨rfl, r9, f9⟩
    exact ⟨rfl, Or.inr ⟨k, q, Or.inl (⟨rfl, Or.inl bd⟩), r9, f9⟩⟩
theorem c_deed4 (hD : 7 ≤ D) (h : CP M T L a c) (hn : hh M 351 9 = n) (n0 : 0 ≤ n ∧ n < 24) : wp X (D + 1) 67 11 [(26, 351), (0, 4), (0, 0), (0, 0), (0, 0)] [] M (fun r M1 => r = none ∧ DR T L a c n 4 M M1) := by
  have s4 : ji_sub 4 1 = 3 := by decide +kernel
  have s8 : ji_sub 8 1 = 7 := by decide +kernel
  simp only [w67_11, w67_79, w67_80, w67_81, w67_83, w67_12, s4, s8, ↓reduceIte, hh_wr, hl_wr, b10, b11, ite_not, ne_eq, Int.reduceEq, Int.reduceLE, Int.reduceLT, Int.reduceNe, Int.reduceNeg, Int.reduceAdd, Int.reduceSub, Int.reduceMul, not_false_eq_true, not_true_eq_false, false_and, and_false, true_and, and_true, and_self, true_or, or_true, false_or, or_false, if_true, if_false, ite_true, ite_false, mj_tl_some, mj_tl_none, mj_cs0, mj_cs1, mj_cs2, mj_cs3, mj_cs4]
  refine wc.mono (c_expN hD h) ?_
  rintro r M1 (⟨ok1, rfl, k1, p1⟩ | ⟨k, q, bd, rfl, r1, f1⟩)
  · simp only [w67_86, w67_87, w67_88, w67_89, ↓reduceIte, hh_wr, hl_wr, b10, b11, ite_not, ne_eq, Int.reduceEq, Int.reduceLE, Int.reduceLT, Int.reduceNe, Int.reduceNeg, Int.reduceAdd, Int.reduceSub, Int.reduceMul, not_false_eq_true, not_true_eq_false, false_and, and_false, true_and, and_true, and_self, true_or, or_true, false_or, or_false, if_true, if_false, ite_true, ite_false, mj_tl_some, mj_tl_none, mj_cs0, mj_cs1, mj_cs2, mj_cs3, mj_cs4]
    refine wc.mono (c_expect hD p1 (by decide)) ?_
    rintro r M2 ⟨rfl, ⟨e2, k2, p2⟩ | ⟨e2, r2, f2⟩⟩
    · have k12 := k1.tr k2
      simp only [w67_92, w67_93, w67_94, w67_97, ↓reduceIte, hh_wr, hl_wr, b10, b11, ite_not, ne_eq, Int.reduceEq, Int.reduceLE, Int.reduceLT, Int.reduceNe, Int.reduceNeg, Int.reduceAdd, Int.reduceSub, Int.reduceMul, not_false_eq_true, not_true_eq_false, false_and, and_false, true_and, and_true, and_self, true_or, or_true, false_or, or_false, if_true, if_false, ite_true, ite_false, mj_tl_some, mj_tl_none, mj_cs0, mj_cs1, mj_cs2, mj_cs3, mj_cs4]
      refine wc.mono (c_expN hD p2) ?_
      rintro r M3 (⟨ok3, rfl, k3, p3⟩ | ⟨k, q, bd, rfl, r3, f3⟩)
      · have k123 := k12.tr k3
        simp only [w67_100, w67_101, ↓reduceIte, hh_wr, hl_wr, b10, b11, ite_not, ne_eq, Int.reduceEq, Int.reduceLE, Int.reduceLT, Int.reduceNe, Int.reduceNeg, Int.reduceAdd, Int.reduceSub, Int.reduceMul, not_false_eq_true, not_true_eq_false, false_and, and_false, true_and, and_true, and_self, true_or, or_true, false_or, or_false, if_true, if_false, ite_true, ite_false, mj_tl_some, mj_tl_none, mj_cs0, mj_cs1, mj_cs2, mj_cs3, mj_cs4]
        refine wp.mono (kc_ok hD p3 ((k123.h _ _ (by decide)).trans hn) n0 k123) ?_
        rintro r M9 ⟨rfl, d9⟩
        exact ⟨rfl, Or.inl ⟨_, _, _, _, Or.inr (Or.inl (⟨rfl, ⟨ok1, e2, ok3⟩, rfl, rfl, rfl, rfl⟩)), d9⟩⟩
      · simp only [w67_100, w67_101, ↓reduceIte, hh_wr, hl_wr, b10, b11, ite_not, ne_eq, Int.reduceEq, Int.reduceLE, Int.reduceLT, Int.reduceNe, Int.reduceNeg, Int.reduceAdd, Int.reduceSub, Int.reduceMul, not_false_eq_true, not_true_eq_false, false_and, and_false, true_and, and_true, and_self, true_or, or_true, false_or, or_false, if_true, if_false, ite_true, ite_false, mj_tl_some, mj_tl_none, mj_cs0, mj_cs1, mj_cs2, mj_cs3, mj_cs4]
        refine wp.mono (kc_F hD f3 (by omega) (k12.cr.tr r3)) ?_
        rintro r M9 ⟨rfl, r9, f9⟩
        exact ⟨rfl, Or.inr ⟨k, q, Or.inr (Or.inl (⟨rfl, Or.inr ⟨ok1, Or.inr ⟨e2, bd⟩⟩⟩)), r9, f9⟩⟩
    · simp only [w67_92, w67_93, w67_94, w67_97, ↓reduceIte, hh_wr, hl_wr, b10, b11, ite_not, ne_eq, Int.reduceEq, Int.reduceLE, Int.reduceLT, Int.reduceNe, Int.reduceNeg, Int.reduceAdd, Int.reduceSub, Int.reduceMul, not_false_eq_true, not_true_eq_false, false_and, and_false, true_and, and_true, and_self, true_or, or_true, false_or, or_false, if_true, if_false, ite_true, ite_false, mj_tl_some, mj_tl_none, mj_cs0, mj_cs1, mj_cs2, mj_cs3, mj_cs4]
      refine wc.mono (c_expectNF hD f2) ?_
      rintro r M3 ⟨rfl, r3, f3⟩
      simp only [w67_100, w67_101, ↓reduceIte, hh_wr, hl_wr, b10, b11, ite_not, ne_eq, Int.reduceEq, Int.reduceLE, Int.reduceLT, Int.reduceNe, Int.reduceNeg, Int.reduceAdd, Int.reduceSub, Int.reduceMul, not_false_eq_true, not_true_eq_false, false_and, and_false, true_and, and_true, and_self, true_or, or_true, false_or, or_false, if_true, if_false, ite_true, ite_false, mj_tl_some, mj_tl_none, mj_cs0, mj_cs1, mj_cs2, mj_cs3, mj_cs4]
      refine wp.mono (kc_F hD f3 (by omega) ((k1.cr.tr r2).tr r3)) ?_
      rintro r M9 ⟨rfl, r9, f9⟩
      exact ⟨rfl, Or.inr ⟨1, _, Or.inr (Or.inl (⟨rfl, Or.inr ⟨ok1, Or.inl ⟨e2, rfl, rfl⟩⟩⟩)), r9, f9⟩⟩
  · simp only [w67_86, w67_87, w67_88, w67_89, ↓reduceIte, hh_wr, hl_wr, b10, b11, ite_not, ne_eq, Int.reduceEq, Int.reduceLE, Int.reduceLT, Int.reduceNe, Int.reduceNeg, Int.reduceAdd, Int.reduceSub, Int.reduceMul, not_false_eq_true, not_true_eq_false, false_and, and_false, true_and, and_true, and_self, true_or, or_true, false_or, or_false, if_true, if_false, ite_true, ite_false, mj_tl_some, mj_tl_none, mj_cs0, mj_cs1, mj_cs2, mj_cs3, mj_cs4]
    refine wc.mono (c_expectF hD f1 (by decide)) ?_
    rintro r M2 ⟨rfl, r2, f2⟩
    simp only [w67_92, w67_93, w67_94, w67_97, ↓reduceIte, hh_wr, hl_wr, b10, b11, ite_not, ne_eq, Int.reduceEq, Int.reduceLE, Int.reduceLT, Int.reduceNe, Int.reduceNeg, Int.reduceAdd, Int.reduceSub, Int.reduceMul, not_false_eq_true, not_true_eq_false, false_and, and_false, true_and, and_true, and_self, true_or, or_true, false_or, or_false, if_true, if_false, ite_true, ite_false, mj_tl_some, mj_tl_none, mj_cs0, mj_cs1, mj_cs2, mj_cs3, mj_cs4]
    refine wc.mono (c_expectNF hD f2) ?_
    rintro r M3 ⟨rfl, r3, f3⟩
    simp only [w67_100, w67_101, ↓reduceIte, hh_wr, hl_wr, b10, b11, ite_not, ne_eq, Int.reduceEq, Int.reduceLE, Int.reduceLT, Int.reduceNe, Int.reduceNeg, Int.reduceAdd, Int.reduceSub, Int.reduceMul, not_false_eq_true, not_true_eq_false, false_and, and_false, true_and, and_true, and_self, true_or, or_true, false_or, or_false, if_true, if_false, ite_true, ite_false, mj_tl_some, mj_tl_none, mj_cs0, mj_cs1, mj_cs2, mj_cs3, mj_cs4]
    refine wp.mono (kc_F hD f3 (by omega) ((r1.tr r2).tr r3)) ?_
    rintro r M9 ⟨rfl, r9, f9⟩
    exact ⟨rfl, Or.inr ⟨k, q, Or.inr (Or.inl (⟨rfl, Or.inl bd⟩)), r9, f9⟩⟩
theorem c_deed6 (hD : 7 ≤ D) (h : CP M T L a c) (hn : hh M 351 9 = n) (n0 : 0 ≤ n ∧ n < 24) : wp X (D + 1) 67 11 [(26, 351), (0, 6), (0, 0), (0, 0), (0, 0)] [] M (fun r M1 => r = none ∧ DR T L a c n 6 M M1) := by
  have s4 : ji_sub 4 1 = 3 := by decide +kernel
  have s8 : ji_sub 8 1 = 7 := by decide +kernel
  simp only [w67_11, w67_104, w67_105, w67_106, w67_108, w67_12, s4, s8, ↓reduceIte, hh_wr, hl_wr, b10, b11, ite_not, ne_eq, Int.reduceEq, Int.reduceLE, Int.reduceLT, Int.reduceNe, Int.reduceNeg, Int.reduceAdd, Int.reduceSub, Int.reduceMul, not_false_eq_true, not_true_eq_false, false_and, and_false, true_and, and_true, and_self, true_or, or_true, false_or, or_false, if_true, if_false, ite_true, ite_false, mj_tl_some, mj_tl_none, mj_cs0, mj_cs1, mj_cs2, mj_cs3, mj_cs4]
  refine wc.mono (c_expN hD h) ?_
  rintro r M1 (⟨ok, rfl, k1, p1⟩ | ⟨k, q, bd, rfl, r1, f1⟩)
  · simp only [w67_111, w67_112, ↓reduceIte, hh_wr, hl_wr, b10, b11, ite_not, ne_eq, Int.reduceEq, Int.reduceLE, Int.reduceLT, Int.reduceNe, Int.reduceNeg, Int.reduceAdd, Int.reduceSub, Int.reduceMul, not_false_eq_true, not_true_eq_false, false_and, and_false, true_and, and_true, and_self, true_or, or_true, false_or, or_false, if_true, if_false, ite_true, ite_false, mj_tl_some, mj_tl_none, mj_cs0, mj_cs1, mj_cs2, mj_cs3, mj_cs4]
    refine wp.mono (kc_ok hD p1 ((k1.h _ _ (by decide)).trans hn) n0 k1) ?_
    rintro r M2 ⟨rfl, d2⟩
    exact ⟨rfl, Or.inl ⟨_, _, _, _, Or.inr (Or.inr (Or.inl (⟨rfl, ok, rfl, rfl, rfl, rfl⟩))), d2⟩⟩
  · simp only [w67_111, w67_112, ↓reduceIte, hh_wr, hl_wr, b10, b11, ite_not, ne_eq, Int.reduceEq, Int.reduceLE, Int.reduceLT, Int.reduceNe, Int.reduceNeg, Int.reduceAdd, Int.reduceSub, Int.reduceMul, not_false_eq_true, not_true_eq_false, false_and, and_false, true_and, and_true, and_self, true_or, or_true, false_or, or_false, if_true, if_false, ite_true, ite_false, mj_tl_some, mj_tl_none, mj_cs0, mj_cs1, mj_cs2, mj_cs3, mj_cs4]
    refine wp.mono (kc_F hD f1 (by omega) r1) ?_
    rintro r M2 ⟨rfl, r2, f2⟩
    exact ⟨rfl, Or.inr ⟨k, q, Or.inr (Or.inr (Or.inl (⟨rfl, bd⟩))), r2, f2⟩⟩
theorem c_deed7 (hD : 7 ≤ D) (h : CP M T L a c) (hn : hh M 351 9 = n) (n0 : 0 ≤ n ∧ n < 24) : wp X (D + 1) 67 11 [(26, 351), (0, 7), (0, 0), (0, 0), (0, 0)] [] M (fun r M1 => r = none ∧ DR T L a c n 7 M M1) := by
  have s4 : ji_sub 4 1 = 3 := by decide +kernel
  have s8 : ji_sub 8 1 = 7 := by decide +kernel
  simp only [w67_11, w67_126, w67_127, w67_128, w67_129, w67_131, w67_134, w67_135, w67_138, w67_140, w67_141, w67_142, w67_12, s4, s8, ↓reduceIte, hh_wr, hl_wr, b10, b11, ite_not, ne_eq, Int.reduceEq, Int.reduceLE, Int.reduceLT, Int.reduceNe, Int.reduceNeg, Int.reduceAdd, Int.reduceSub, Int.reduceMul, not_false_eq_true, not_true_eq_false, false_and, and_false, true_and, and_true, and_self, true_or, or_true, false_or, or_false, if_true, if_false, ite_true, ite_false, mj_tl_some, mj_tl_none, mj_cs0, mj_cs1, mj_cs2, mj_cs3, mj_cs4]
  refine wc.mono (c_expN hD h) ?_
  rintro r M1 (⟨ok1, rfl, k1, p1⟩ | ⟨k, q, bd, rfl, r1, f1⟩)
  · simp only [w67_145, w67_146, w67_147, w67_149, ↓reduceIte, hh_wr, hl_wr, b10, b11, ite_not, ne_eq, Int.reduceEq, Int.reduceLE, Int.reduceLT, Int.reduceNe, Int.reduceNeg, Int.reduceAdd, Int.reduceSub, Int.reduceMul, not_false_eq_true, not_true_eq_false, false_and, and_false, true_and, and_true, and_self, true_or, or_true, false_or, or_false, if_true, if_false, ite_true, ite_false, mj_tl_some, mj_tl_none, mj_cs0, mj_cs1, mj_cs2, mj_cs3, mj_cs4]
    refine wc.mono (c_expect hD p1 (by decide)) ?_
    rintro r M2 ⟨rfl, ⟨e2, k2, p2⟩ | ⟨e2, r2, f2⟩⟩
    · have k12 := k1.tr k2
      simp only [w67_152, w67_153, w67_154, w67_155, ↓reduceIte, hh_wr, hl_wr, b10, b11, ite_not, ne_eq, Int.reduceEq, Int.reduceLE, Int.reduceLT, Int.reduceNe, Int.reduceNeg, Int.reduceAdd, Int.reduceSub, Int.reduceMul, not_false_eq_true, not_true_eq_false, false_and, and_false, true_and, and_true, and_self, true_or, or_true, false_or, or_false, if_true, if_false, ite_true, ite_false, mj_tl_some, mj_tl_none, mj_cs0, mj_cs1, mj_cs2, mj_cs3, mj_cs4]
      refine wc.mono (c_expN hD p2) ?_
      rintro r M3 (⟨ok3, rfl, k3, p3⟩ | ⟨k, q, bd, rfl, r3, f3⟩)
      · have k123 := k12.tr k3
        simp only [w67_158, w67_159, w67_160, w67_162, w67_165, w67_166, w67_168, ↓reduceIte, hh_wr, hl_wr, b10, b11, ite_not, ne_eq, Int.reduceEq, Int.reduceLE, Int.reduceLT, Int.reduceNe, Int.reduceNeg, Int.reduceAdd, Int.reduceSub, Int.reduceMul, not_false_eq_true, not_true_eq_false, false_and, and_false, true_and, and_true, and_self, true_or, or_true, false_or, or_false, if_true, if_false, ite_true, ite_false, mj_tl_some, mj_tl_none, mj_cs0, mj_cs1, mj_cs2, mj_cs3, mj_cs4]
        refine wc.mono (c_expect hD p3 (by decide)) ?_
        rintro r M4 ⟨rfl, ⟨e4, k4, p4⟩ | ⟨e4, r4, f4⟩⟩
        · simp only [w67_171, w67_172, w67_173, w67_174, ↓reduceIte, hh_wr, hl_wr, b10, b11, ite_not, ne_eq, Int.reduceEq, Int.reduceLE, Int.reduceLT, Int.reduceNe, Int.reduceNeg, Int.reduceAdd, Int.reduceSub, Int.reduceMul, not_false_eq_true, not_true_eq_false, false_and, and_false, true_and, and_true, and_self, true_or, or_true, false_or, or_false, if_true, if_false, ite_true, ite_false, mj_tl_some, mj_tl_none, mj_cs0, mj_cs1, mj_cs2, mj_cs3, mj_cs4]
          have k1234 := k123.tr k4
          refine wc.mono (c_expN hD p4) ?_
          rintro r M5 (⟨ok5, rfl, k5, p5⟩ | ⟨k, q, bd, rfl, r5, f5⟩)
          · simp only [w67_177, ↓reduceIte, hh_wr, hl_wr, b10, b11, ite_not, ne_eq, Int.reduceEq, Int.reduceLE, Int.reduceLT, Int.reduceNe, Int.reduceNeg, Int.reduceAdd, Int.reduceSub, Int.reduceMul, not_false_eq_true, not_true_eq_false, false_and, and_false, true_and, and_true, and_self, true_or, or_true, false_or, or_false, if_true, if_false, ite_true, ite_false, mj_tl_some, mj_tl_none, mj_cs0, mj_cs1, mj_cs2, mj_cs3, mj_cs4]
            refine wp.mono (kc_ok hD p5 (((k1234.tr k5).h _ _ (by decide)).trans hn) n0 (k1234.tr k5)) ?_
            rintro r M9 ⟨rfl, d9⟩
            exact ⟨rfl, Or.inl ⟨_, _, _, _, Or.inr (Or.inr (Or.inr (Or.inl (⟨rfl, ⟨ok1, e2, ok3⟩, ⟨e4, ok5⟩, rfl, rfl, rfl, rfl⟩)))), d9⟩⟩
          · simp only [w67_177, ↓reduceIte, hh_wr, hl_wr, b10, b11, ite_not, ne_eq, Int.reduceEq, Int.reduceLE, Int.reduceLT, Int.reduceNe, Int.reduceNeg, Int.reduceAdd, Int.reduceSub, Int.reduceMul, not_false_eq_true, not_true_eq_false, false_and, and_false, true_and, and_true, and_self, true_or, or_true, false_or, or_false, if_true, if_false, ite_true, ite_false, mj_tl_some, mj_tl_none, mj_cs0, mj_cs1, mj_cs2, mj_cs3, mj_cs4]
            refine wp.mono (kc_F hD f5 (by omega) (k1234.cr.tr r5)) ?_
            rintro r M9 ⟨rfl, r9, f9⟩
            exact ⟨rfl, Or.inr ⟨k, q, Or.inr (Or.inr (Or.inr (Or.inl (⟨rfl, Or.inr ⟨⟨ok1, e2, ok3⟩, Or.inr ⟨e4, bd⟩⟩⟩)))), r9, f9⟩⟩
        · simp only [w67_171, w67_172, w67_173, w67_174, ↓reduceIte, hh_wr, hl_wr, b10, b11, ite_not, ne_eq, Int.reduceEq, Int.reduceLE, Int.reduceLT, Int.reduceNe, Int.reduceNeg, Int.reduceAdd, Int.reduceSub, Int.reduceMul, not_false_eq_true, not_true_eq_false, false_and, and_false, true_and, and_true, and_self, true_or, or_true, false_or, or_false, if_true, if_false, ite_true, ite_false, mj_tl_some, mj_tl_none, mj_cs0, mj_cs1, mj_cs2, mj_cs3, mj_cs4]
          refine wc.mono (c_expectNF hD f4) ?_
          rintro r M5 ⟨rfl, r5, f5⟩
          simp only [w67_177, ↓reduceIte, hh_wr, hl_wr, b10, b11, ite_not, ne_eq, Int.reduceEq, Int.reduceLE, Int.reduceLT, Int.reduceNe, Int.reduceNeg, Int.reduceAdd, Int.reduceSub, Int.reduceMul, not_false_eq_true, not_true_eq_false, false_and, and_false, true_and, and_true, and_self, true_or, or_true, false_or, or_false, if_true, if_false, ite_true, ite_false, mj_tl_some, mj_tl_none, mj_cs0, mj_cs1, mj_cs2, mj_cs3, mj_cs4]
          refine wp.mono (kc_F hD f5 (by omega) ((k123.cr.tr r4).tr r5)) ?_
          rintro r M9 ⟨rfl, r9, f9⟩
          exact ⟨rfl, Or.inr ⟨1, _, Or.inr (Or.inr (Or.inr (Or.inl (⟨rfl, Or.inr ⟨⟨ok1, e2, ok3⟩, Or.inl ⟨e4, rfl, rfl⟩⟩⟩)))), r9, f9⟩⟩
      · simp only [w67_158, w67_159, w67_160, w67_162, w67_165, w67_166, w67_168, ↓reduceIte, hh_wr, hl_wr, b10, b11, ite_not, ne_eq, Int.reduceEq, Int.reduceLE, Int.reduceLT, Int.reduceNe, Int.reduceNeg, Int.reduceAdd, Int.reduceSub, Int.reduceMul, not_false_eq_true, not_true_eq_false, false_and, and_false, true_and, and_true, and_self, true_or, or_true, false_or, or_false, if_true, if_false, ite_true, ite_false, mj_tl_some, mj_tl_none, mj_cs0, mj_cs1, mj_cs2, mj_cs3, mj_cs4]
        refine wc.mono (c_expectF hD f3 (by decide)) ?_
        rintro r M4 ⟨rfl, r4, f4⟩
        simp only [w67_171, w67_172, w67_173, w67_174, ↓reduceIte, hh_wr, hl_wr, b10, b11, ite_not, ne_eq, Int.reduceEq, Int.reduceLE, Int.reduceLT, Int.reduceNe, Int.reduceNeg, Int.reduceAdd, Int.reduceSub, Int.reduceMul, not_false_eq_true, not_true_eq_false, false_and, and_false, true_and, and_true, and_self, true_or, or_true, false_or, or_false, if_true, if_false, ite_true, ite_false, mj_tl_some, mj_tl_none, mj_cs0, mj_cs1, mj_cs2, mj_cs3, mj_cs4]
        refine wc.mono (c_expectNF hD f4) ?_
        rintro r M5 ⟨rfl, r5, f5⟩
        simp only [w67_177, ↓reduceIte, hh_wr, hl_wr, b10, b11, ite_not, ne_eq, Int.reduceEq, Int.reduceLE, Int.reduceLT, Int.reduceNe, Int.reduceNeg, Int.reduceAdd, Int.reduceSub, Int.reduceMul, not_false_eq_true, not_true_eq_false, false_and, and_false, true_and, and_true, and_self, true_or, or_true, false_or, or_false, if_true, if_false, ite_true, ite_false, mj_tl_some, mj_tl_none, mj_cs0, mj_cs1, mj_cs2, mj_cs3, mj_cs4]
        refine wp.mono (kc_F hD f5 (by omega) (((k12.cr.tr r3).tr r4).tr r5)) ?_
        rintro r M9 ⟨rfl, r9, f9⟩
        exact ⟨rfl, Or.inr ⟨k, q, Or.inr (Or.inr (Or.inr (Or.inl (⟨rfl, Or.inl (Or.inr ⟨ok1, Or.inr ⟨e2, bd⟩⟩)⟩)))), r9, f9⟩⟩
    · simp only [w67_152, w67_153, w67_154, w67_155, ↓reduceIte, hh_wr, hl_wr, b10, b11, ite_not, ne_eq, Int.reduceEq, Int.reduceLE, Int.reduceLT, Int.reduceNe, Int.reduceNeg, Int.reduceAdd, Int.reduceSub, Int.reduceMul, not_false_eq_true, not_true_eq_false, false_and, and_false, true_and, and_true, and_self, true_or, or_true, false_or, or_false, if_true, if_false, ite_true, ite_false, mj_tl_some, mj_tl_none, mj_cs0, mj_cs1, mj_cs2, mj_cs3, mj_cs4]
      refine wc.mono (c_expectNF hD f2) ?_
      rintro r M3 ⟨rfl, r3, f3⟩
      simp only [w67_158, w67_159, w67_160, w67_162, w67_165, w67_166, w67_168, ↓reduceIte, hh_wr, hl_wr, b10, b11, ite_not, ne_eq, Int.reduceEq, Int.reduceLE, Int.reduceLT, Int.reduceNe, Int.reduceNeg, Int.reduceAdd, Int.reduceSub, Int.reduceMul, not_false_eq_true, not_true_eq_false, false_and, and_false, true_and, and_true, and_self, true_or, or_true, false_or, or_false, if_true, if_false, ite_true, ite_false, mj_tl_some, mj_tl_none, mj_cs0, mj_cs1, mj_cs2, mj_cs3, mj_cs4]
      refine wc.mono (c_expectF hD f3 (by decide)) ?_
      rintro r M4 ⟨rfl, r4, f4⟩
      simp only [w67_171, w67_172, w67_173, w67_174, ↓reduceIte, hh_wr, hl_wr, b10, b11, ite_not, ne_eq, Int.reduceEq, Int.reduceLE, Int.reduceLT, Int.reduceNe, Int.reduceNeg, Int.reduceAdd, Int.reduceSub, Int.reduceMul, not_false_eq_true, not_true_eq_false, false_and, and_false, true_and, and_true, and_self, true_or, or_true, false_or, or_false, if_true, if_false, ite_true, ite_false, mj_tl_some, mj_tl_none, mj_cs0, mj_cs1, mj_cs2, mj_cs3, mj_cs4]
      refine wc.mono (c_expectNF hD f4) ?_
      rintro r M5 ⟨rfl, r5, f5⟩
      simp only [w67_177, ↓reduceIte, hh_wr, hl_wr, b10, b11, ite_not, ne_eq, Int.reduceEq, Int.reduceLE, Int.reduceLT, Int.reduceNe, Int.reduceNeg, Int.reduceAdd, Int.reduceSub, Int.reduceMul, not_false_eq_true, not_true_eq_false, false_and, and_false, true_and, and_true, and_self, true_or, or_true, false_or, or_false, if_true, if_false, ite_true, ite_false, mj_tl_some, mj_tl_none, mj_cs0, mj_cs1, mj_cs2, mj_cs3, mj_cs4]
      refine wp.mono (kc_F hD f5 (by omega) ((((k1.cr.tr r2).tr r3).tr r4).tr r5)) ?_
      rintro r M9 ⟨rfl, r9, f9⟩
      exact ⟨rfl, Or.inr ⟨1, _, Or.inr (Or.inr (Or.inr (Or.inl (⟨rfl, Or.inl (Or.inr ⟨ok1, Or.inl ⟨e2, rfl, rfl⟩⟩)⟩)))), r9, f9⟩⟩
  · simp only [w67_145, w67_146, w67_147, w67_149, ↓reduceIte, hh_wr, hl_wr, b10, b11, ite_not, ne_eq, Int.reduceEq, Int.reduceLE, Int.reduceLT, Int.reduceNe, Int.reduceNeg, Int.reduceAdd, Int.reduceSub, Int.reduceMul, not_false_eq_true, not_true_eq_false, false_and, and_false, true_and, and_true, and_self, true_or, or_true, false_or, or_false, if_true, if_false, ite_true, ite_false, mj_tl_some, mj_tl_none, mj_cs0, mj_cs1, mj_cs2, mj_cs3, mj_cs4]
    refine wc.mono (c_expectF hD f1 (by decide)) ?_
    rintro r M2 ⟨rfl, r2, f2⟩
    simp only [w67_152, w67_153, w67_154, w67_155, ↓reduceIte, hh_wr, hl_wr, b10, b11, ite_not, ne_eq, Int.reduceEq, Int.reduceLE, Int.reduceLT, Int.reduceNe, Int.reduceNeg, Int.reduceAdd, Int.reduceSub, Int.reduceMul, not_false_eq_true, not_true_eq_false, false_and, and_false, true_and, and_true, and_self, true_or, or_true, false_or, or_false, if_true, if_false, ite_true, ite_false, mj_tl_some, mj_tl_none, mj_cs0, mj_cs1, mj_cs2, mj_cs3, mj_cs4]
    refine wc.mono (c_expectNF hD f2) ?_
    rintro r M3 ⟨rfl, r3, f3⟩
    simp only [w67_158, w67_159, w67_160, w67_162, w67_165, w67_166, w67_168, ↓reduceIte, hh_wr, hl_wr, b10, b11, ite_not, ne_eq, Int.reduceEq, Int.reduceLE, Int.reduceLT, Int.reduceNe, Int.reduceNeg, Int.reduceAdd, Int.reduceSub, Int.reduceMul, not_false_eq_true, not_true_eq_false, false_and, and_false, true_and, and_true, and_self, true_or, or_true, false_or, or_false, if_true, if_false, ite_true, ite_false, mj_tl_some, mj_tl_none, mj_cs0, mj_cs1, mj_cs2, mj_cs3, mj_cs4]
    refine wc.mono (c_expectF hD f3 (by decide)) ?_
    rintro r M4 ⟨rfl, r4, f4⟩
    simp only [w67_171, w67_172, w67_173, w67_174, ↓reduceIte, hh_wr, hl_wr, b10, b11, ite_not, ne_eq, Int.reduceEq, Int.reduceLE, Int.reduceLT, Int.reduceNe, Int.reduceNeg, Int.reduceAdd, Int.reduceSub, Int.reduceMul, not_false_eq_true, not_true_eq_false, false_and, and_false, true_and, and_true, and_self, true_or, or_true, false_or, or_false, if_true, if_false, ite_true, ite_false, mj_tl_some, mj_tl_none, mj_cs0, mj_cs1, mj_cs2, mj_cs3, mj_cs4]
    refine wc.mono (c_expectNF hD f4) ?_
    rintro r M5 ⟨rfl, r5, f5⟩
    simp only [w67_177, ↓reduceIte, hh_wr, hl_wr, b10, b11, ite_not, ne_eq, Int.reduceEq, Int.reduceLE, Int.reduceLT, Int.reduceNe, Int.reduceNeg, Int.reduceAdd, Int.reduceSub, Int.reduceMul, not_false_eq_true, not_true_eq_false, false_and, and_false, true_and, and_true, and_self, true_or, or_true, false_or, or_false, if_true, if_false, ite_true, ite_false, mj_tl_some, mj_tl_none, mj_cs0, mj_cs1, mj_cs2, mj_cs3, mj_cs4]
    refine wp.mono (kc_F hD f5 (by omega) ((((r1.tr r2).tr r3).tr r4).tr r5)) ?_
    rintro r M9 ⟨rfl, r9, f9⟩
    exact ⟨rfl, Or.inr ⟨k, q, Or.inr (Or.inr (Or.inr (Or.inl (⟨rfl, Or.inl (Or.inl bd)⟩)))), r9, f9⟩⟩
theorem c_deed10 (hD : 7 ≤ D) (h : CP M T L a c) (hn : hh M 351 9 = n) (n0 : 0 ≤ n ∧ n < 24) : wp X (D + 1) 67 11 [(26, 351), (0, 10), (0, 0), (0, 0), (0, 0)] [] M (fun r M1 => r = none ∧ DR T L a c n 10 M M1) := by
  have s4 : ji_sub 4 1 = 3 := by decide +kernel
  have s8 : ji_sub 8 1 = 7 := by decide +kernel
  simp only [w67_11, w67_126, w67_127, w67_128, w67_129, w67_131, w67_134, w67_135, w67_138, w67_140, w67_141, w67_142, w67_12, s4, s8, ↓reduceIte, hh_wr, hl_wr, b10, b11, ite_not, ne_eq, Int.reduceEq, Int.reduceLE, Int.reduceLT, Int.reduceNe, Int.reduceNeg, Int.reduceAdd, Int.reduceSub, Int.reduceMul, not_false_eq_true, not_true_eq_false, false_and, and_false, true_and, and_true, and_self, true_or, or_true, false_or, or_false, if_true, if_false, ite_true, ite_false, mj_tl_some, mj_tl_none, mj_cs0, mj_cs1, mj_cs2, mj_cs3, mj_cs4]
  refine wc.mono (c_expN hD h) ?_
  rintro r M1 (⟨ok1, rfl, k1, p1⟩ | ⟨k, q, bd, rfl, r1, f1⟩)
  · simp only [w67_145, w67_146, w67_147, w67_149, ↓reduceIte, hh_wr, hl_wr, b10, b11, ite_not, ne_eq, Int.reduceEq, Int.reduceLE, Int.reduceLT, Int.reduceNe, Int.reduceNeg, Int.reduceAdd, Int.reduceSub, Int.reduceMul, not_false_eq_true, not_true_eq_false, false_and, and_false, true_and, and_true, and_self, true_or, or_true, false_or, or_false, if_true, if_false, ite_true, ite_false, mj_tl_some, mj_tl_none, mj_cs0, mj_cs1, mj_cs2, mj_cs3, mj_cs4]
    refine wc.mono (c_expect hD p1 (by decide)) ?_
    rintro r M2 ⟨rfl, ⟨e2, k2, p2⟩ | ⟨e2, r2, f2⟩⟩
    · have k12 := k1.tr k2
      simp only [w67_152, w67_153, w67_154, w67_155, ↓reduceIte, hh_wr, hl_wr, b10, b11, ite_not, ne_eq, Int.reduceEq, Int.reduceLE, Int.reduceLT, Int.reduceNe, Int.reduceNeg, Int.reduceAdd, Int.reduceSub, Int.reduceMul, not_false_eq_true, not_true_eq_false, false_and, and_false, true_and, and_true, and_self, true_or, or_true, false_or, or_false, if_true, if_false, ite_true, ite_false, mj_tl_some, mj_tl_none, mj_cs0, mj_cs1, mj_cs2, mj_cs3, mj_cs4]
      refine wc.mono (c_expN hD p2) ?_
      rintro r M3 (⟨ok3, rfl, k3, p3⟩ | ⟨k, q, bd, rfl, r3, f3⟩)
      · have k123 := k12.tr k3
        simp only [w67_158, w67_159, w67_160, w67_162, ↓reduceIte, hh_wr, hl_wr, b10, b11, ite_not, ne_eq, Int.reduceEq, Int.reduceLE, Int.reduceLT, Int.reduceNe, Int.reduceNeg, Int.reduceAdd, Int.reduceSub, Int.reduceMul, not_false_eq_true, not_true_eq_false, false_and, and_false, true_and, and_true, and_self, true_or, or_true, false_or, or_false, if_true, if_false, ite_true, ite_false, mj_tl_some, mj_tl_none, mj_cs0, mj_cs1, mj_cs2, mj_cs3, mj_cs4]
        refine wp.mono (kc_ok hD p3 ((k123.h _ _ (by decide)).trans hn) n0 k123) ?_
        rintro r M9 ⟨rfl, d9⟩
        exact ⟨rfl, Or.inl ⟨_, _, _, _, Or.inr (Or.inr (Or.inr (Or.inr (Or.inl (⟨rfl, ⟨ok1, e2, ok3⟩, rfl, rfl, rfl, rfl⟩))))), d9⟩⟩
      · simp only [w67_158, w67_159, w67_160, w67_162, ↓reduceIte, hh_wr, hl_wr, b10, b11, ite_not, ne_eq, Int.reduceEq, Int.reduceLE, Int.reduceLT, Int.reduceNe, Int.reduceNeg, Int.reduceAdd, Int.reduceSub, Int.reduceMul, not_false_eq_true, not_true_eq_false, false_and, and_false, true_and, and_true, and_self, true_or, or_true, false_or, or_false, if_true, if_false, ite_true, ite_false, mj_tl_some, mj_tl_none, mj_cs0, mj_cs1, mj_cs2, mj_cs3, mj_cs4]
        refine wp.mono (kc_F hD f3 (by omega) (k12.cr.tr r3)) ?_
        rintro r M9 ⟨rfl, r9, f9⟩
        exact ⟨rfl, Or.inr ⟨k, q, Or.inr (Or.inr (Or.inr (Or.inr (Or.inl (⟨rfl, Or.inr ⟨ok1, Or.inr ⟨e2, bd⟩⟩⟩))))), r9, f9⟩⟩
    · simp only [w67_152, w67_153, w67_154, w67_155, ↓reduceIte, hh_wr, hl_wr, b10, b11, ite_not, ne_eq, Int.reduceEq, Int.reduceLE, Int.reduceLT, Int.reduceNe, Int.reduceNeg, Int.reduceAdd, Int.reduceSub, Int.reduceMul, not_false_eq_true, not_true_eq_false, false_and, and_false, true_and, and_true, and_self, true_or, or_true, false_or, or_false, if_true, if_false, ite_true, ite_false, mj_tl_some, mj_tl_none, mj_cs0, mj_cs1, mj_cs2, mj_cs3, mj_cs4]
      refine wc.mono (c_expectNF hD f2) ?_
      rintro r M3 ⟨rfl, r3, f3⟩
      simp only [w67_158, w67_159, w67_160, w67_162, ↓reduceIte, hh_wr, hl_wr, b10, b11, ite_not, ne_eq, Int.reduceEq, Int.reduceLE, Int.reduceLT, Int.reduceNe, Int.reduceNeg, Int.reduceAdd, Int.reduceSub, Int.reduceMul, not_false_eq_true, not_true_eq_false, false_and, and_false, true_and, and_true, and_self, true_or, or_true, false_or, or_false, if_true, if_false, ite_true, ite_false, mj_tl_some, mj_tl_none, mj_cs0, mj_cs1, mj_cs2, mj_cs3, mj_cs4]
      refine wp.mono (kc_F hD f3 (by omega) ((k1.cr.tr r2).tr r3)) ?_
      rintro r M9 ⟨rfl, r9, f9⟩
      exact ⟨rfl, Or.inr ⟨1, _, Or.inr (Or.inr (Or.inr (Or.inr (Or.inl (⟨rfl, Or.inr ⟨ok1, Or.inl ⟨e2, rfl, rfl⟩⟩⟩))))), r9, f9⟩⟩
  · simp only [w67_145, w67_146, w67_147, w67_149, ↓reduceIte, hh_wr, hl_wr, b10, b11, ite_not, ne_eq, Int.reduceEq, Int.reduceLE, Int.reduceLT, Int.reduceNe, Int.reduceNeg, Int.reduceAdd, Int.reduceSub, Int.reduceMul, not_false_eq_true, not_true_eq_false, false_and, and_false, true_and, and_true, and_self, true_or, or_true, false_or, or_false, if_true, if_false, ite_true, ite_false, mj_tl_some, mj_tl_none, mj_cs0, mj_cs1, mj_cs2, mj_cs3, mj_cs4]
    refine wc.mono (c_expectF hD f1 (by decide)) ?_
    rintro r M2 ⟨rfl, r2, f2⟩
    simp only [w67_152, w67_153, w67_154, w67_155, ↓reduceIte, hh_wr, hl_wr, b10, b11, ite_not, ne_eq, Int.reduceEq, Int.reduceLE, Int.reduceLT, Int.reduceNe, Int.reduceNeg, Int.reduceAdd, Int.reduceSub, Int.reduceMul, not_false_eq_true, not_true_eq_false, false_and, and_false, true_and, and_true, and_self, true_or, or_true, false_or, or_false, if_true, if_false, ite_true, ite_false, mj_tl_some, mj_tl_none, mj_cs0, mj_cs1, mj_cs2, mj_cs3, mj_cs4]
    refine wc.mono (c_expectNF hD f2) ?_
    rintro r M3 ⟨rfl, r3, f3⟩
    simp only [w67_158, w67_159, w67_160, w67_162, ↓reduceIte, hh_wr, hl_wr, b10, b11, ite_not, ne_eq, Int.reduceEq, Int.reduceLE, Int.reduceLT, Int.reduceNe, Int.reduceNeg, Int.reduceAdd, Int.reduceSub, Int.reduceMul, not_false_eq_true, not_true_eq_false, false_and, and_false, true_and, and_true, and_self, true_or, or_true, false_or, or_false, if_true, if_false, ite_true, ite_false, mj_tl_some, mj_tl_none, mj_cs0, mj_cs1, mj_cs2, mj_cs3, mj_cs4]
    refine wp.mono (kc_F hD f3 (by omega) ((r1.tr r2).tr r3)) ?_
    rintro r M9 ⟨rfl, r9, f9⟩
    exact ⟨rfl, Or.inr ⟨k, q, Or.inr (Or.inr (Or.inr (Or.inr (Or.inl (⟨rfl, Or.inl bd⟩))))), r9, f9⟩⟩
theorem c_deed11 (hD : 7 ≤ D) (h : CP M T L a c) (hn : hh M 351 9 = n) (n0 : 0 ≤ n ∧ n < 24) : wp X (D + 1) 67 11 [(26, 351), (0, 11), (0, 0), (0, 0), (0, 0)] [] M (fun r M1 => r = none ∧ DR T L a c n 11 M M1) := by
  have s4 : ji_sub 4 1 = 3 := by decide +kernel
  have s8 : ji_sub 8 1 = 7 := by decide +kernel
  simp only [w67_11, w67_126, w67_127, w67_128, w67_129, w67_131, w67_134, w67_135, w67_138, w67_140, w67_141, w67_142, w67_12, s4, s8, ↓reduceIte, hh_wr, hl_wr, b10, b11, ite_not, ne_eq, Int.reduceEq, Int.reduceLE, Int.reduceLT, Int.reduceNe, Int.reduceNeg, Int.reduceAdd, Int.reduceSub, Int.reduceMul, not_false_eq_true, not_true_eq_false, false_and, and_false, true_and, and_true, and_self, true_or, or_true, false_or, or_false, if_true, if_false, ite_true, ite_false, mj_tl_some, mj_tl_none, mj_cs0, mj_cs1, mj_cs2, mj_cs3, mj_cs4]
  refine wc.mono (c_expN hD h) ?_
  rintro r M1 (⟨ok1, rfl, k1, p1⟩ | ⟨k, q, bd, rfl, r1, f1⟩)
  · simp only [w67_145, w67_146, w67_147, w67_149, ↓reduceIte, hh_wr, hl_wr, b10, b11, ite_not, ne_eq, Int.reduceEq, Int.reduceLE, Int.reduceLT, Int.reduceNe, Int.reduceNeg, Int.reduceAdd, Int.reduceSub, Int.reduceMul, not_false_eq_true, not_true_eq_false, false_and, and_false, true_and, and_true, and_self, true_or, or_true, false_or, or_false, if_true, if_false, ite_true, ite_false, mj_tl_some, mj_tl_none, mj_cs0, mj_cs1, mj_cs2, mj_cs3, mj_cs4]
    refine wc.mono (c_expect hD p1 (by decide)) ?_
    rintro r M2 ⟨rfl, ⟨e2, k2, p2⟩ | ⟨e2, r2, f2⟩⟩
    · have k12 := k1.tr k2
      simp only [w67_152, w67_153, w67_154, w67_155, ↓reduceIte, hh_wr, hl_wr, b10, b11, ite_not, ne_eq, Int.reduceEq, Int.reduceLE, Int.reduceLT, Int.reduceNe, Int.reduceNeg, Int.reduceAdd, Int.reduceSub, Int.reduceMul, not_false_eq_true, not_true_eq_false, false_and, and_false, true_and, and_true, and_self, true_or, or_true, false_or, or_false, if_true, if_false, ite_true, ite_false, mj_tl_some, mj_tl_none, mj_cs0, mj_cs1, mj_cs2, mj_cs3, mj_cs4]
      refine wc.mono (c_expN hD p2) ?_
      rintro r M3 (⟨ok3, rfl, k3, p3⟩ | ⟨k, q, bd, rfl, r3, f3⟩)
      · have k123 := k12.tr k3
        simp only [w67_158, w67_159, w67_160, w67_162, ↓reduceIte, hh_wr, hl_wr, b10, b11, ite_not, ne_eq, Int.reduceEq, Int.reduceLE, Int.reduceLT, Int.reduceNe, Int.reduceNeg, Int.reduceAdd, Int.reduceSub, Int.reduceMul, not_false_eq_true, not_true_eq_false, false_and, and_false, true_and, and_true, and_self, true_or, or_true, false_or, or_false, if_true, if_false, ite_true, ite_false, mj_tl_some, mj_tl_none, mj_cs0, mj_cs1, mj_cs2, mj_cs3, mj_cs4]
        refine wp.mono (kc_ok hD p3 ((k123.h _ _ (by decide)).trans hn) n0 k123) ?_
        rintro r M9 ⟨rfl, d9⟩
        exact ⟨rfl, Or.inl ⟨_, _, _, _, Or.inr (Or.inr (Or.inr (Or.inr (Or.inr (Or.inl (⟨rfl, ⟨ok1, e2, ok3⟩, rfl, rfl, rfl, rfl⟩)))))), d9⟩⟩
      · simp only [w67_158, w67_159, w67_160, w67_162, ↓reduceIte, hh_wr, hl_wr, b10, b11, ite_not, ne_eq, Int.reduceEq, Int.reduceLE, Int.reduceLT, Int.reduceNe, Int.reduceNeg, Int.reduceAdd, Int.reduceSub, Int.reduceMul, not_false_eq_true, not_true_eq_false, false_and, and_false, true_and, and_true, and_self, true_or, or_true, false_or, or_false, if_true, if_false, ite_true, ite_false, mj_tl_some, mj_tl_none, mj_cs0, mj_cs1, mj_cs2, mj_cs3, mj_cs4]
        refine wp.mono (kc_F hD f3 (by omega) (k12.cr.tr r3)) ?_
        rintro r M9 ⟨rfl, r9, f9⟩
        exact ⟨rfl, Or.inr ⟨k, q, Or.inr (Or.inr (Or.inr (Or.inr (Or.inr (Or.inl (⟨rfl, Or.inr ⟨ok1, Or.inr ⟨e2, bd⟩⟩⟩)))))), r9, f9⟩⟩
    · simp only [w67_152, w67_153, w67_154, w67_155, ↓reduceIte, hh_wr, hl_wr, b10, b11, ite_not, ne_eq, Int.reduceEq, Int.reduceLE, Int.reduceLT, Int.reduceNe, Int.reduceNeg, Int.reduceAdd, Int.reduceSub, Int.reduceMul, not_false_eq_true, not_true_eq_false, false_and, and_false, true_and, and_true, and_self, true_or, or_true, false_or, or_false, if_true, if_false, ite_true, ite_false, mj_tl_some, mj_tl_none, mj_cs0, mj_cs1, mj_cs2, mj_cs3, mj_cs4]
      refine wc.mono (c_expectNF hD f2) ?_
      rintro r M3 ⟨rfl, r3, f3⟩
      simp only [w67_158, w67_159, w67_160, w67_162, ↓reduceIte, hh_wr, hl_wr, b10, b11, ite_not, ne_eq, Int.reduceEq, Int.reduceLE, Int.reduceLT, Int.reduceNe, Int.reduceNeg, Int.reduceAdd, Int.reduceSub, Int.reduceMul, not_false_eq_true, not_true_eq_false, false_and, and_false, true_and, and_true, and_self, true_or, or_true, false_or, or_false, if_true, if_false, ite_true, ite_false, mj_tl_some, mj_tl_none, mj_cs0, mj_cs1, mj_cs2, mj_cs3, mj_cs4]
      refine wp.mono (kc_F hD f3 (by omega) ((k1.cr.tr r2).tr r3)) ?_
      rintro r M9 ⟨rfl, r9, f9⟩
      exact ⟨rfl, Or.inr ⟨1, _, Or.inr (Or.inr (Or.inr (Or.inr (Or.inr (Or.inl (⟨rfl, Or.inr ⟨ok1, Or.inl ⟨e2, rfl, rfl⟩⟩⟩)))))), r9, f9⟩⟩
  · simp only [w67_145, w67_146, w67_147, w67_149, ↓reduceIte, hh_wr, hl_wr, b10, b11, ite_not, ne_eq, Int.reduceEq, Int.reduceLE, Int.reduceLT, Int.reduceNe, Int.reduceNeg, Int.reduceAdd, Int.reduceSub, Int.reduceMul, not_false_eq_true, not_true_eq_false, false_and, and_false, true_and, and_true, and_self, true_or, or_true, false_or, or_false, if_true, if_false, ite_true, ite_false, mj_tl_some, mj_tl_none, mj_cs0, mj_cs1, mj_cs2, mj_cs3, mj_cs4]
    refine wc.mono (c_expectF hD f1 (by decide)) ?_
    rintro r M2 ⟨rfl, r2, f2⟩
    simp only [w67_152, w67_153, w67_154, w67_155, ↓reduceIte, hh_wr, hl_wr, b10, b11, ite_not, ne_eq, Int.reduceEq, Int.reduceLE, Int.reduceLT, Int.reduceNe, Int.reduceNeg, Int.reduceAdd, Int.reduceSub, Int.reduceMul, not_false_eq_true, not_true_eq_false, false_and, and_false, true_and, and_true, and_self, true_or, or_true, false_or, or_false, if_true, if_false, ite_true, ite_false, mj_tl_some, mj_tl_none, mj_cs0, mj_cs1, mj_cs2, mj_cs3, mj_cs4]
    refine wc.mono (c_expectNF hD f2) ?_
    rintro r M3 ⟨rfl, r3, f3⟩
    simp only [w67_158, w67_159, w67_160, w67_162, ↓reduceIte, hh_wr, hl_wr, b10, b11, ite_not, ne_eq, Int.reduceEq, Int.reduceLE, Int.reduceLT, Int.reduceNe, Int.reduceNeg, Int.reduceAdd, Int.reduceSub, Int.reduceMul, not_false_eq_true, not_true_eq_false, false_and, and_false, true_and, and_true, and_self, true_or, or_true, false_or, or_false, if_true, if_false, ite_true, ite_false, mj_tl_some, mj_tl_none, mj_cs0, mj_cs1, mj_cs2, mj_cs3, mj_cs4]
    refine wp.mono (kc_F hD f3 (by omega) ((r1.tr r2).tr r3)) ?_
    rintro r M9 ⟨rfl, r9, f9⟩
    exact ⟨rfl, Or.inr ⟨k, q, Or.inr (Or.inr (Or.inr (Or.inr (Or.inr (Or.inl (⟨rfl, Or.inl bd⟩)))))), r9, f9⟩⟩
theorem c_deed12 (hD : 7 ≤ D) (h : CP M T L a c) (hn : hh M 351 9 = n) (n0 : 0 ≤ n ∧ n < 24) : wp X (D + 1) 67 11 [(26, 351), (0, 12), (0, 0), (0, 0), (0, 0)] [] M (fun r M1 => r = none ∧ DR T L a c n 12 M M1) := by
  have s4 : ji_sub 4 1 = 3 := by decide +kernel
  have s8 : ji_sub 8 1 = 7 := by decide +kernel
  simp only [w67_11, w67_115, w67_116, w67_117, w67_119, w67_12, s4, s8, ↓reduceIte, hh_wr, hl_wr, b10, b11, ite_not, ne_eq, Int.reduceEq, Int.reduceLE, Int.reduceLT, Int.reduceNe, Int.reduceNeg, Int.reduceAdd, Int.reduceSub, Int.reduceMul, not_false_eq_true, not_true_eq_false, false_and, and_false, true_and, and_true, and_self, true_or, or_true, false_or, or_false, if_true, if_false, ite_true, ite_false, mj_tl_some, mj_tl_none, mj_cs0, mj_cs1, mj_cs2, mj_cs3, mj_cs4]
  refine wc.mono (c_expN hD h) ?_
  rintro r M1 (⟨ok, rfl, k1, p1⟩ | ⟨k, q, bd, rfl, r1, f1⟩)
  · simp only [w67_122, w67_123, ↓reduceIte, hh_wr, hl_wr, b10, b11, ite_not, ne_eq, Int.reduceEq, Int.reduceLE, Int.reduceLT, Int.reduceNe, Int.reduceNeg, Int.reduceAdd, Int.reduceSub, Int.reduceMul, not_false_eq_true, not_true_eq_false, false_and, and_false, true_and, and_true, and_self, true_or, or_true, false_or, or_false, if_true, if_false, ite_true, ite_false, mj_tl_some, mj_tl_none, mj_cs0, mj_cs1, mj_cs2, mj_cs3, mj_cs4]
    refine wp.mono (kc_ok hD p1 ((k1.h _ _ (by decide)).trans hn) n0 k1) ?_
    rintro r M2 ⟨rfl, d2⟩
    exact ⟨rfl, Or.inl ⟨_, _, _, _, Or.inr (Or.inr (Or.inr (Or.inr (Or.inr (Or.inr (⟨rfl, ok, rfl, rfl, rfl, rfl⟩)))))), d2⟩⟩
  · simp only [w67_122, w67_123, ↓reduceIte, hh_wr, hl_wr, b10, b11, ite_not, ne_eq, Int.reduceEq, Int.reduceLE, Int.reduceLT, Int.reduceNe, Int.reduceNeg, Int.reduceAdd, Int.reduceSub, Int.reduceMul, not_false_eq_true, not_true_eq_false, false_and, and_false, true_and, and_true, and_self, true_or, or_true, false_or, or_false, if_true, if_false, ite_true, ite_false, mj_tl_some, mj_tl_none, mj_cs0, mj_cs1, mj_cs2, mj_cs3, mj_cs4]
    refine wp.mono (kc_F hD f1 (by omega) r1) ?_
    rintro r M2 ⟨rfl, r2, f2⟩
    exact ⟨rfl, Or.inr ⟨k, q, Or.inr (Or.inr (Or.inr (Or.inr (Or.inr (Or.inr (⟨rfl, bd⟩)))))), r2, f2⟩⟩
theorem DR.ko {M1 : mj_M} (k : Ko 351 4 7 M0 M) (h : DR T L a c n w M M1) : DR T L a c n w M0 M1 := by
  rcases h with ⟨a', v1, v2, v3, dk, ⟨e1, p1, d1⟩ | ⟨e1, r1, f1⟩⟩ | ⟨k', q', bd, r1, f1⟩
  · exact Or.inl ⟨a', v1, v2, v3, dk, Or.inl ⟨e1, p1, Dk.ko k d1⟩⟩
  · exact Or.inl ⟨a', v1, v2, v3, dk, Or.inr ⟨e1, k.cr.q.tr r1, f1⟩⟩
  · exact Or.inr ⟨k', q', bd, k.cr.q.tr r1, f1⟩
end CCl
