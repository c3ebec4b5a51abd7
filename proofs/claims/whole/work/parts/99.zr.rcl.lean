/-! TEXT: the reference's clauses -/
/-- a number that fits; one that doesn't -/
def nok (T : Int → Int) (L lo hi a : Int) : Prop := tK T L a = 39 ∧ lo ≤ tV T L a ∧ tV T L a ≤ hi
def nbd (T : Int → Int) (L lo hi a k q : Int) : Prop := (tK T L a ≠ 39 ∧ k = 1 ∧ q = tS T L a) ∨ (tK T L a = 39 ∧ ¬ (lo ≤ tV T L a ∧ tV T L a ≤ hi) ∧ k = 2 ∧ q = tS T L a)
/-- a word and a number behind it -/
def wok (T : Int → Int) (L K lo hi a : Int) : Prop := tK T L a = K ∧ nok T L lo hi (tE T L a)
def wbd (T : Int → Int) (L K lo hi a k q : Int) : Prop := (tK T L a ≠ K ∧ k = 1 ∧ q = tS T L a) ∨ (tK T L a = K ∧ nbd T L lo hi (tE T L a) k q)
/-- a number, a word, a number -/
def pok (T : Int → Int) (L hi K lo2 hi2 a : Int) : Prop := nok T L 0 hi a ∧ wok T L K lo2 hi2 (tE T L a)
def pbd (T : Int → Int) (L hi K lo2 hi2 a k q : Int) : Prop := nbd T L 0 hi a k q ∨ (nok T L 0 hi a ∧ wbd T L K lo2 hi2 (tE T L a) k q)
/-- the sort of a clause's first word -/
def sox (K : Int) : Int := if K = 0 then 0 else if K = 1 then 1 else if K = 2 then 2 else if K = 4 then 3 else if K = 6 then 4 else if K = 7 then 5 else if K = 10 then 6 else if K = 11 then 7 else if K = 12 then 8 else -1
/-- the reference writes texts at places of P alone -/
def Fw (P : Int → Prop) (M M1 : mj_M) : Prop := (Rr M M1) ∧ (hh M1 354 17 = hh M 354 17 ∧ hh M1 354 18 = hh M 354 18 ∧ hh M1 354 19 = hh M 354 19 ∧ hh M1 354 24 = hh M 354 24) ∧ (∀ j, ¬ P j → hh M1 357 j = hh M 357 j)
theorem Fw.r {P : Int → Prop} {M M1 : mj_M} (h : Fw P M M1) : Rr M M1 := h.1
theorem Fw.f {P : Int → Prop} {M M1 : mj_M} (h : Fw P M M1) : hh M1 354 17 = hh M 354 17 ∧ hh M1 354 18 = hh M 354 18 ∧ hh M1 354 19 = hh M 354 19 ∧ hh M1 354 24 = hh M 354 24 := h.2.1
theorem Fw.t {P : Int → Prop} {M M1 : mj_M} (h : Fw P M M1) : ∀ j, ¬ P j → hh M1 357 j = hh M 357 j := h.2.2
theorem Fw.rfl' {P : Int → Prop} {M : mj_M} : Fw P M M := ⟨Rr.rfl', ⟨rfl, rfl, rfl, rfl⟩, fun _ _ => rfl⟩
theorem Fw.tr {P : Int → Prop} {M M1 M2 : mj_M} (a : Fw P M M1) (b : Fw P M1 M2) : Fw P M M2 := ⟨a.r.tr b.r, ⟨b.f.1.trans a.f.1, b.f.2.1.trans a.f.2.1, b.f.2.2.1.trans a.f.2.2.1, b.f.2.2.2.trans a.f.2.2.2⟩, fun j h => (b.t j h).trans (a.t j h)⟩
theorem Fw.mono {P P' : Int → Prop} {M M1 : mj_M} (a : Fw P M M1) (h : ∀ j, P j → P' j) : Fw P' M M1 := ⟨a.r, a.f, fun j g => a.t j (fun q => g (h j q))⟩
theorem Ko.fw {P : Int → Prop} {M M1 : mj_M} (k : Ko 354 12 16 M M1) : Fw P M M1 := ⟨k.rr, ⟨k.h _ _ (by decide), k.h _ _ (by decide), k.h _ _ (by decide), k.h _ _ (by decide)⟩, fun j _ => k.h _ _ (by omega)⟩
section RCl
variable {X : mj_X} {d : Nat} {M : mj_M} {Q : Option mj_V → mj_M → Prop} {T : Int → Int} {L a x lo hi k q : Int}
theorem m_fig_ok (h : RL M T L a) (hx : 0 ≤ x ∧ x < 2820) (h9 : hi ≤ 9999) (hn : nok T L lo hi a) : wc X (d + 2) 226 [(32, 354), (0, x), (0, lo), (0, hi)] M (fun r M1 => r = some (0, 0) ∧ RL M1 T L (tE T L a) ∧ hh M1 357 x = tV T L a ∧ Fw (fun j => j = x) M M1) := by
  show wp X (d + 2) 226 0 [(32, 354), (0, x), (0, lo), (0, hi)] [] M _
  obtain ⟨h1, h2, h3⟩ := hn
  have t1 : hh M 354 14 = 1 := h.q.n.mpr h1
  have ef : hh M 354 15 = tV T L a := by rcases h.q.v t1 with q | q <;> omega
  have lt := tE_lt h.aL (show tK T L a ≠ 40 by omega)
  simp only [w226_0, w226_1, w226_4, w226_5, w226_8, w226_9, w226_10, w226_11, w226_14, w226_15, w226_16, w226_19, w226_22, w226_23, w226_24, w226_25, w226_28, w226_29, w226_30, w226_33, w226_34, w226_35, c_1_0 h.x.cs, c_1_1 h.x.cs, c_1_2 h.x.cs, c_1_3 h.x.cs, c_1_4 h.x.cs, c_1_5 h.x.cs, c_1_6 h.x.cs, c_1_7 h.x.cs, c_1_8 h.x.cs, c_2_0 h.x.cs, c_2_1 h.x.cs, c_5_0 h.x.cs, c_5_1 h.x.cs, c_5_2 h.x.cs, c_5_3 h.x.cs, c_5_5 h.x.cs, c_5_8 h.x.cs, c_5_11 h.x.cs, c_6_1 h.x.cs, c_6_2 h.x.cs, c_6_3 h.x.cs, c_10_4 h.x.cs, c_10_5 h.x.cs, c_10_6 h.x.cs, c_10_7 h.x.cs, c_15_1 h.x.cs, c_17_1 h.x.cs, c_339_0 h.x.cs, c_341_0 h.x.cs, c_341_1 h.x.cs, c_341_2 h.x.cs, c_342_4 h.x.cs, c_342_5 h.x.cs, c_342_6 h.x.cs, c_342_7 h.x.cs, c_347_0 h.x.cs, c_347_2 h.x.cs, c_347_3 h.x.cs, c_349_0 h.x.cs, c_349_1 h.x.cs, c_349_2 h.x.cs, c_351_2 h.x.cs, c_351_10 h.x.cs, c_351_12 h.x.cs, c_354_0 h.x.cs, c_354_1 h.x.cs, c_354_2 h.x.cs, c_354_3 h.x.cs, c_354_4 h.x.cs, c_354_5 h.x.cs, c_354_6 h.x.cs, c_354_7 h.x.cs, c_354_8 h.x.cs, c_354_20 h.x.cs, c_354_25 h.x.cs, c_354_26 h.x.cs, c_354_27 h.x.cs, c_354_28 h.x.cs, c_354_32 h.x.cs, c_354_33 h.x.cs, c_354_34 h.x.cs, c_354_35 h.x.cs, c_354_38 h.x.cs, l_3 h.x.cs, l_4 h.x.cs, l_7 h.x.cs, l_8 h.x.cs, l_9 h.x.cs, l_11 h.x.cs, l_12 h.x.cs, l_13 h.x.cs, l_14 h.x.cs, l_16 h.x.cs, l_18 h.x.cs, l_19 h.x.cs, l_20 h.x.cs, l_21 h.x.cs, l_340 h.x.cs, l_343 h.x.cs, l_344 h.x.cs, l_345 h.x.cs, l_346 h.x.cs, l_348 h.x.cs, l_350 h.x.cs, l_352 h.x.cs, l_353 h.x.cs, l_355 h.x.cs, l_356 h.x.cs, l_357 h.x.cs, l_358 h.x.cs, l_359 h.x.cs, l_360 h.x.cs, l_361 h.x.cs, l_362 h.x.cs, l_363 h.x.cs, l_364 h.x.cs, l_365 h.x.cs, l_366 h.x.cs, l_367 h.x.cs, l_368 h.x.cs, l_369 h.x.cs, l_370 h.x.cs, l_371 h.x.cs, l_372 h.x.cs, l_373 h.x.cs, t1, ef, s_isIn, h2, h3, hx, ↓reduceIte, hh_wr, hl_wr, b10, b11, ite_not, ne_eq, Int.reduceEq, Int.reduceLE, Int.reduceLT, Int.reduceNe, Int.reduceNeg, Int.reduceAdd, Int.reduceSub, Int.reduceMul, not_false_eq_true, not_true_eq_false, false_and, and_false, true_and, and_true, and_self, true_or, or_true, false_or, or_false, if_true, if_false, ite_true, ite_false, mj_tl_some, mj_tl_none, mj_cs0, mj_cs1, mj_cs2, mj_cs3, mj_cs4]
  have w1 : Fw (fun j => j = x) M (mj_wr M 357 x (tV T L a)) := ⟨Rr.rfl'.w2 (Or.inr rfl), by simp only [hh_wr, ↓reduceIte, hh_wr, hl_wr, b10, b11, ite_not, ne_eq, Int.reduceEq, Int.reduceLE, Int.reduceLT, Int.reduceNe, Int.reduceNeg, Int.reduceAdd, Int.reduceSub, Int.reduceMul, not_false_eq_true, not_true_eq_false, false_and, and_false, true_and, and_true, and_self, true_or, or_true, false_or, or_false, if_true, if_false, ite_true, ite_false, mj_tl_some, mj_tl_none, mj_cs0, mj_cs1, mj_cs2, mj_cs3, mj_cs4], fun j hj => by simp only [hh_wr, show ¬ j = x from hj, ↓reduceIte, hh_wr, hl_wr, b10, b11, ite_not, ne_eq, Int.reduceEq, Int.reduceLE, Int.reduceLT, Int.reduceNe, Int.reduceNeg, Int.reduceAdd, Int.reduceSub, Int.reduceMul, not_false_eq_true, not_true_eq_false, false_and, and_false, true_and, and_true, and_self, true_or, or_true, false_or, or_false, if_true, if_false, ite_true, ite_false, mj_tl_some, mj_tl_none, mj_cs0, mj_cs1, mj_cs2, mj_cs3, mj_cs4]⟩
  refine wc.mono (m_nextToken (d := d) (h.x.rr w1.r) (by simp only [hh_wr, h.e12, ↓reduceIte, hh_wr, hl_wr, b10, b11, ite_not, ne_eq, Int.reduceEq, Int.reduceLE, Int.reduceLT, Int.reduceNe, Int.reduceNeg, Int.reduceAdd, Int.reduceSub, Int.reduceMul, not_false_eq_true, not_true_eq_false, false_and, and_false, true_and, and_true, and_self, true_or, or_true, false_or, or_false, if_true, if_false, ite_true, ite_false, mj_tl_some, mj_tl_none, mj_cs0, mj_cs1, mj_cs2, mj_cs3, mj_cs4]) (by have := h.a0; omega) lt.2) ?_
  rintro r M2 ⟨rfl, k2, rl2⟩
  simp only [w226_38, w226_39, ↓reduceIte, hh_wr, hl_wr, b10, b11, ite_not, ne_eq, Int.reduceEq, Int.reduceLE, Int.reduceLT, Int.reduceNe, Int.reduceNeg, Int.reduceAdd, Int.reduceSub, Int.reduceMul, not_false_eq_true, not_true_eq_false, false_and, and_false, true_and, and_true, and_self, true_or, or_true, false_or, or_false, if_true, if_false, ite_true, ite_false, mj_tl_some, mj_tl_none, mj_cs0, mj_cs1, mj_cs2, mj_cs3, mj_cs4]
  exact ⟨rl2, by rw [k2.h _ _ (by omega)]; simp only [hh_wr, ↓reduceIte, hh_wr, hl_wr, b10, b11, ite_not, ne_eq, Int.reduceEq, Int.reduceLE, Int.reduceLT, Int.reduceNe, Int.reduceNeg, Int.reduceAdd, Int.reduceSub, Int.reduceMul, not_false_eq_true, not_true_eq_false, false_and, and_false, true_and, and_true, and_self, true_or, or_true, false_or, or_false, if_true, if_false, ite_true, ite_false, mj_tl_some, mj_tl_none, mj_cs0, mj_cs1, mj_cs2, mj_cs3, mj_cs4], w1.tr k2.fw⟩
theorem m_fig_bad (h : RL M T L a) (h9 : hi ≤ 9999) (hn : nbd T L lo hi a k q) : wc X (d + 2) 226 [(32, 354), (0, x), (0, lo), (0, hi)] M (fun r M1 => r = some (0, k) ∧ M1 = M ∧ hh M 354 13 = q ∧ k ≠ 0) := by
  show wp X (d + 2) 226 0 [(32, 354), (0, x), (0, lo), (0, hi)] [] M _
  rcases hn with ⟨h1, rfl, rfl⟩ | ⟨h1, h2, rfl, rfl⟩
  · have t1 : ¬ hh M 354 14 = 1 := fun q => h1 (h.q.n.mp q)
    simp only [w226_0, w226_1, w226_4, w226_5, w226_8, w226_9, t1, h.e13, ↓reduceIte, hh_wr, hl_wr, b10, b11, ite_not, ne_eq, Int.reduceEq, Int.reduceLE, Int.reduceLT, Int.reduceNe, Int.reduceNeg, Int.reduceAdd, Int.reduceSub, Int.reduceMul, not_false_eq_true, not_true_eq_false, false_and, and_false, true_and, and_true, and_self, true_or, or_true, false_or, or_false, if_true, if_false, ite_true, ite_false, mj_tl_some, mj_tl_none, mj_cs0, mj_cs1, mj_cs2, mj_cs3, mj_cs4]
  · have t1 : hh M 354 14 = 1 := h.q.n.mpr h1
    have ef : ¬ (lo ≤ hh M 354 15 ∧ hh M 354 15 ≤ hi) := by rcases h.q.v t1 with q | q <;> omega
    simp only [w226_0, w226_1, w226_4, w226_5, w226_8, w226_9, w226_10, w226_11, w226_14, w226_15, w226_16, w226_19, w226_22, w226_23, t1, s_isIn, ef, h.e13, ↓reduceIte, hh_wr, hl_wr, b10, b11, ite_not, ne_eq, Int.reduceEq, Int.reduceLE, Int.reduceLT, Int.reduceNe, Int.reduceNeg, Int.reduceAdd, Int.reduceSub, Int.reduceMul, not_false_eq_true, not_true_eq_false, false_and, and_false, true_and, and_true, and_self, true_or, or_true, false_or, or_false, if_true, if_false, ite_true, ite_false, mj_tl_some, mj_tl_none, mj_cs0, mj_cs1, mj_cs2, mj_cs3, mj_cs4]
theorem m_wor_ok {j : Nat} {K : Int} (h : RL M T L a) (hj : j < 26) (eK : K = (j : Int)) (hx : 0 ≤ x ∧ x < 2820) (h9 : hi ≤ 9999) (hn : wok T L K lo hi a) : wc X (d + 3) 227 [(32, 354), (1, PL.getD j 0), (0, x), (0, lo), (0, hi)] M (fun r M1 => r = some (0, 0) ∧ RL M1 T L (tE T L (tE T L a)) ∧ hh M1 357 x = tV T L (tE T L a) ∧ Fw (fun j => j = x) M M1) := by
  show wp X (d + 3) 227 0 [(32, 354), (1, PL.getD j 0), (9, 0), (0, x), (0, lo), (0, hi)] [] M _
  obtain ⟨h1, h2⟩ := hn
  have iw := fun Q => m_isWord' (X := X) (d := d + 2) (Q := Q) h hj eK
  have lt := tE_lt h.aL (show tK T L a ≠ 40 by omega)
  simp only [w227_0, w227_1, w227_2, w227_5, w227_8, w227_9, w227_10, w227_11, iw, h1, ↓reduceIte, hh_wr, hl_wr, b10, b11, ite_not, ne_eq, Int.reduceEq, Int.reduceLE, Int.reduceLT, Int.reduceNe, Int.reduceNeg, Int.reduceAdd, Int.reduceSub, Int.reduceMul, not_false_eq_true, not_true_eq_false, false_and, and_false, true_and, and_true, and_self, true_or, or_true, false_or, or_false, if_true, if_false, ite_true, ite_false, mj_tl_some, mj_tl_none, mj_cs0, mj_cs1, mj_cs2, mj_cs3, mj_cs4]
  refine wc.mono (m_nextToken (d := d + 1) h.x h.e12 (by have := h.a0; omega) lt.2) ?_
  rintro r M2 ⟨rfl, k2, rl2⟩
  simp only [w227_14, w227_15, w227_16, w227_18, w227_20, ↓reduceIte, hh_wr, hl_wr, b10, b11, ite_not, ne_eq, Int.reduceEq, Int.reduceLE, Int.reduceLT, Int.reduceNe, Int.reduceNeg, Int.reduceAdd, Int.reduceSub, Int.reduceMul, not_false_eq_true, not_true_eq_false, false_and, and_false, true_and, and_true, and_self, true_or, or_true, false_or, or_false, if_true, if_false, ite_true, ite_false, mj_tl_some, mj_tl_none, mj_cs0, mj_cs1, mj_cs2, mj_cs3, mj_cs4]
  refine wc.mono (m_fig_ok (d := d) rl2 hx h9 h2) ?_
  rintro r M3 ⟨rfl, rl3, e3, w3⟩
  simp only [w227_23, ↓reduceIte, hh_wr, hl_wr, b10, b11, ite_not, ne_eq, Int.reduceEq, Int.reduceLE, Int.reduceLT, Int.reduceNe, Int.reduceNeg, Int.reduceAdd, Int.reduceSub, Int.reduceMul, not_false_eq_true, not_true_eq_false, false_and, and_false, true_and, and_true, and_self, true_or, or_true, false_or, or_false, if_true, if_false, ite_true, ite_false, mj_tl_some, mj_tl_none, mj_cs0, mj_cs1, mj_cs2, mj_cs3, mj_cs4]
  exact ⟨rl3, e3, k2.fw.tr w3⟩
theorem m_wor_bad {j : Nat} {K : Int} (h : RL M T L a) (hj : j < 26) (eK : K = (j : Int)) (h9 : hi ≤ 9999) (hn : wbd T L K lo hi a k q) : wc X (d + 3) 227 [(32, 354), (1, PL.getD j 0), (0, x), (0, lo), (0, hi)] M (fun r M1 => r = some (0, k) ∧ k ≠ 0 ∧ hh M1 354 13 = q ∧ Fw (fun j => j = x) M M1) := by
  show wp X (d + 3) 227 0 [(32, 354), (1, PL.getD j 0), (9, 0), (0, x), (0, lo), (0, hi)] [] M _
  have iw := fun Q => m_isWord' (X := X) (d := d + 2) (Q := Q) h hj eK
  rcases hn with ⟨h1, rfl, rfl⟩ | ⟨h1, h2⟩
  · simp only [w227_0, w227_1, w227_2, w227_5, w227_8, w227_9, iw, h1, h.e13, ↓reduceIte, hh_wr, hl_wr, b10, b11, ite_not, ne_eq, Int.reduceEq, Int.reduceLE, Int.reduceLT, Int.reduceNe, Int.reduceNeg, Int.reduceAdd, Int.reduceSub, Int.reduceMul, not_false_eq_true, not_true_eq_false, false_and, and_false, true_and, and_true, and_self, true_or, or_true, false_or, or_false, if_true, if_false, ite_true, ite_false, mj_tl_some, mj_tl_none, mj_cs0, mj_cs1, mj_cs2, mj_cs3, mj_cs4]
    exact Fw.rfl'
  · have lt := tE_lt h.aL (show tK T L a ≠ 40 by omega)
    simp only [w227_0, w227_1, w227_2, w227_5, w227_8, w227_9, w227_10, w227_11, iw, h1, ↓reduceIte, hh_wr, hl_wr, b10, b11, ite_not, ne_eq, Int.reduceEq, Int.reduceLE, Int.reduceLT, Int.reduceNe, Int.reduceNeg, Int.reduceAdd, Int.reduceSub, Int.reduceMul, not_false_eq_true, not_true_eq_false, false_and, and_false, true_and, and_true, and_self, true_or, or_true, false_or, or_false, if_true, if_false, ite_true, ite_false, mj_tl_some, mj_tl_none, mj_cs0, mj_cs1, mj_cs2, mj_cs3, mj_cs4]
    refine wc.mono (m_nextToken (d := d + 1) h.x h.e12 (by have := h.a0; omega) lt.2) ?_
    rintro r M2 ⟨rfl, k2, rl2⟩
    simp only [w227_14, w227_15, w227_16, w227_18, w227_20, ↓reduceIte, hh_wr, hl_wr, b10, b11, ite_not, ne_eq, Int.reduceEq, Int.reduceLE, Int.reduceLT, Int.reduceNe, Int.reduceNeg, Int.reduceAdd, Int.reduceSub, Int.reduceMul, not_false_eq_true, not_true_eq_false, false_and, and_false, true_and, and_true, and_self, true_or, or_true, false_or, or_false, if_true, if_false, ite_true, ite_false, mj_tl_some, mj_tl_none, mj_cs0, mj_cs1, mj_cs2, mj_cs3, mj_cs4]
    refine wc.mono (m_fig_bad (d := d) rl2 h9 h2) ?_
    rintro r M3 ⟨rfl, rfl, e3, k0⟩
    simp only [w227_23, ↓reduceIte, hh_wr, hl_wr, b10, b11, ite_not, ne_eq, Int.reduceEq, Int.reduceLE, Int.reduceLT, Int.reduceNe, Int.reduceNeg, Int.reduceAdd, Int.reduceSub, Int.reduceMul, not_false_eq_true, not_true_eq_false, false_and, and_false, true_and, and_true, and_self, true_or, or_true, false_or, or_false, if_true, if_false, ite_true, ite_false, mj_tl_some, mj_tl_none, mj_cs0, mj_cs1, mj_cs2, mj_cs3, mj_cs4]
    exact ⟨k0, e3, k2.fw⟩
theorem m_pair_ok {j : Nat} {K top : Int} (h : RL M T L a) (hj : j < 26) (eK : K = (j : Int)) (hx : 0 ≤ x ∧ x + 2 < 2820) (h9 : hi ≤ 9999) (ht : top ≤ 9999) (hn : pok T L top K lo hi a) : wc X (d + 4) 225 [(32, 354), (0, x), (0, top), (1, PL.getD j 0), (0, lo), (0, hi)] M (fun r M1 => r = some (0, 0) ∧ RL M1 T L (tE T L (tE T L (tE T L a))) ∧ hh M1 357 (x + 1) = tV T L a ∧ hh M1 357 (x + 2) = tV T L (tE T L (tE T L a)) ∧ Fw (fun j => j = x + 1 ∨ j = x + 2) M M1) := by
  show wp X (d + 4) 225 0 [(32, 354), (0, x), (0, top), (1, PL.getD j 0), (9, 0), (0, lo), (0, hi), (9, 0)] [] M _
  obtain ⟨h1, h2⟩ := hn
  simp only [w225_0, w225_1, w225_2, w225_3, w225_4, w225_5, w225_6, aj (x := x) (y := 1) ⟨by omega, by omega⟩, ↓reduceIte, hh_wr, hl_wr, b10, b11, ite_not, ne_eq, Int.reduceEq, Int.reduceLE, Int.reduceLT, Int.reduceNe, Int.reduceNeg, Int.reduceAdd, Int.reduceSub, Int.reduceMul, not_false_eq_true, not_true_eq_false, false_and, and_false, true_and, and_true, and_self, true_or, or_true, false_or, or_false, if_true, if_false, ite_true, ite_false, mj_tl_some, mj_tl_none, mj_cs0, mj_cs1, mj_cs2, mj_cs3, mj_cs4]
  refine wc.mono (m_fig_ok (d := d + 1) h ⟨by omega, by omega⟩ ht h1) ?_
  rintro r M2 ⟨rfl, rl2, e2, w2⟩
  simp only [w225_9, w225_11, w225_13, w225_16, w225_18, w225_21, w225_22, w225_23, w225_24, w225_25, w225_26, w225_28, w225_30, aj (x := x) (y := 2) ⟨by omega, by omega⟩, ↓reduceIte, hh_wr, hl_wr, b10, b11, ite_not, ne_eq, Int.reduceEq, Int.reduceLE, Int.reduceLT, Int.reduceNe, Int.reduceNeg, Int.reduceAdd, Int.reduceSub, Int.reduceMul, not_false_eq_true, not_true_eq_false, false_and, and_false, true_and, and_true, and_self, true_or, or_true, false_or, or_false, if_true, if_false, ite_true, ite_false, mj_tl_some, mj_tl_none, mj_cs0, mj_cs1, mj_cs2, mj_cs3, mj_cs4]
  refine wc.mono (m_wor_ok (d := d) rl2 hj eK ⟨by omega, by omega⟩ h9 h2) ?_
  rintro r M3 ⟨rfl, rl3, e3, w3⟩
  simp only [w225_33, ↓reduceIte, hh_wr, hl_wr, b10, b11, ite_not, ne_eq, Int.reduceEq, Int.reduceLE, Int.reduceLT, Int.reduceNe, Int.reduceNeg, Int.reduceAdd, Int.reduceSub, Int.reduceMul, not_false_eq_true, not_true_eq_false, false_and, and_false, true_and, and_true, and_self, true_or, or_true, false_or, or_false, if_true, if_false, ite_true, ite_false, mj_tl_some, mj_tl_none, mj_cs0, mj_cs1, mj_cs2, mj_cs3, mj_cs4]
  exact ⟨rl3, by rw [w3.t _ (by omega)]; exact e2, e3, (w2.mono (fun j q => Or.inl q)).tr (w3.mono (fun j q => Or.inr q))⟩
theorem m_pair_bad {j : Nat} {K top : Int} (h : RL M T L a) (hj : j < 26) (eK : K = (j : Int)) (hx : 0 ≤ x ∧ x + 2 < 2820) (h9 : hi ≤ 9999) (ht : top ≤ 9999) (hn : pbd T L top K lo hi a k q) : wc X (d + 4) 225 [(32, 354), (0, x), (0, top), (1, PL.getD j 0), (0, lo), (0, hi)] M (fun r M1 => r = some (0, k) ∧ k ≠ 0 ∧ hh M1 354 13 = q ∧ Fw (fun j => j = x + 1 ∨ j = x + 2) M M1) := by
  show wp X (d + 4) 225 0 [(32, 354), (0, x), (0, top), (1, PL.getD j 0), (9, 0), (0, lo), (0, hi), (9, 0)] [] M _
  simp only [w225_0, w225_1, w225_2, w225_3, w225_4, w225_5, w225_6, aj (x := x) (y := 1) ⟨by omega, by omega⟩, ↓reduceIte, hh_wr, hl_wr, b10, b11, ite_not, ne_eq, Int.reduceEq, Int.reduceLE, Int.reduceLT, Int.reduceNe, Int.reduceNeg, Int.reduceAdd, Int.reduceSub, Int.reduceMul, not_false_eq_true, not_true_eq_false, false_and, and_false, true_and, and_true, and_self, true_or, or_true, false_or, or_false, if_true, if_false, ite_true, ite_false, mj_tl_some, mj_tl_none, mj_cs0, mj_cs1, mj_cs2, mj_cs3, mj_cs4]
  rcases hn with h1 | ⟨h1, h2⟩
  · refine wc.mono (m_fig_bad (d := d + 1) h ht h1) ?_
    rintro r M2 ⟨rfl, rfl, e2, k0⟩
    simp only [w225_9, w225_11, w225_13, w225_16, w225_18, w225_33, k0, ↓reduceIte, hh_wr, hl_wr, b10, b11, ite_not, ne_eq, Int.reduceEq, Int.reduceLE, Int.reduceLT, Int.reduceNe, Int.reduceNeg, Int.reduceAdd, Int.reduceSub, Int.reduceMul, not_false_eq_true, not_true_eq_false, false_and, and_false, true_and, and_true, and_self, true_or, or_true, false_or, or_false, if_true, if_false, ite_true, ite_false, mj_tl_some, mj_tl_none, mj_cs0, mj_cs1, mj_cs2, mj_cs3, mj_cs4]
    exact ⟨e2, Fw.rfl'⟩
  · refine wc.mono (m_fig_ok (d := d + 1) h ⟨by omega, by omega⟩ ht h1) ?_
    rintro r M2 ⟨rfl, rl2, e2, w2⟩
    simp only [w225_9, w225_11, w225_13, w225_16, w225_18, w225_21, w225_22, w225_23, w225_24, w225_25, w225_26, w225_28, w225_30, aj (x := x) (y := 2) ⟨by omega, by omega⟩, ↓reduceIte, hh_wr, hl_wr, b10, b11, ite_not, ne_eq, Int.reduceEq, Int.reduceLE, Int.reduceLT, Int.reduceNe, Int.reduceNeg, Int.reduceAdd, Int.reduceSub, Int.reduceMul, not_false_eq_true, not_true_eq_false, false_and, and_false, true_and, and_true, and_self, true_or, or_true, false_or, or_false, if_true, if_false, ite_true, ite_false, mj_tl_some, mj_tl_none, mj_cs0, mj_cs1, mj_cs2, mj_cs3, mj_cs4]
    refine wc.mono (m_wor_bad (d := d) rl2 hj eK h9 h2) ?_
    rintro r M3 ⟨rfl, k0, e3, w3⟩
    simp only [w225_33, ↓reduceIte, hh_wr, hl_wr, b10, b11, ite_not, ne_eq, Int.reduceEq, Int.reduceLE, Int.reduceLT, Int.reduceNe, Int.reduceNeg, Int.reduceAdd, Int.reduceSub, Int.reduceMul, not_false_eq_true, not_true_eq_false, false_and, and_false, true_and, and_true, and_self, true_or, or_true, false_or, or_false, if_true, if_false, ite_true, ite_false, mj_tl_some, mj_tl_none, mj_cs0, mj_cs1, mj_cs2, mj_cs3, mj_cs4]
    exact ⟨k0, e3, (w2.mono (fun j q => Or.inl q)).tr (w3.mono (fun j q => Or.inr q))⟩
/-- a deed that is well told: where it ends, its numbers -/
def dok (T : Int → Int) (L w a a' v1 v2 v3 : Int) : Prop :=
  (w = 2 ∧ pok T L 4 3 1 9 a ∧ a' = tE T L (tE T L (tE T L a)) ∧ v1 = tV T L a ∧ v2 = tV T L (tE T L (tE T L a)) ∧ v3 = 0) ∨
  (w = 4 ∧ pok T L 99 5 0 255 a ∧ a' = tE T L (tE T L (tE T L a)) ∧ v1 = tV T L a ∧ v2 = tV T L (tE T L (tE T L a)) ∧ v3 = 0) ∨
  (w = 6 ∧ nok T L 0 119 a ∧ a' = tE T L a ∧ v1 = tV T L a ∧ v2 = 0 ∧ v3 = 0) ∨
  (w = 7 ∧ pok T L 7 8 0 5 a ∧ wok T L 9 0 5 (tE T L (tE T L (tE T L a))) ∧ a' = tE T L (tE T L (tE T L (tE T L (tE T L a)))) ∧ v1 = tV T L a ∧ v2 = tV T L (tE T L (tE T L a)) ∧ v3 = tV T L (tE T L (tE T L (tE T L (tE T L a))))) ∨
  (w = 10 ∧ pok T L 7 8 0 5 a ∧ a' = tE T L (tE T L (tE T L a)) ∧ v1 = tV T L a ∧ v2 = tV T L (tE T L (tE T L a)) ∧ v3 = 0) ∨
  (w = 11 ∧ pok T L 3 8 0 5 a ∧ a' = tE T L (tE T L (tE T L a)) ∧ v1 = tV T L a ∧ v2 = tV T L (tE T L (tE T L a)) ∧ v3 = 0) ∨
  (w = 12 ∧ nok T L 1 60 a ∧ a' = tE T L a ∧ v1 = tV T L a ∧ v2 = 0 ∧ v3 = 0)
def dbd (T : Int → Int) (L w a k q : Int) : Prop :=
  (w = 2 ∧ pbd T L 4 3 1 9 a k q) ∨ (w = 4 ∧ pbd T L 99 5 0 255 a k q) ∨ (w = 6 ∧ nbd T L 0 119 a k q) ∨
  (w = 7 ∧ (pbd T L 7 8 0 5 a k q ∨ (pok T L 7 8 0 5 a ∧ wbd T L 9 0 5 (tE T L (tE T L (tE T L a))) k q))) ∨
  (w = 10 ∧ pbd T L 7 8 0 5 a k q) ∨ (w = 11 ∧ pbd T L 3 8 0 5 a k q) ∨ (w = 12 ∧ nbd T L 1 60 a k q)
/-- the row of a deed of sort s at x -/
def drow (M : mj_M) (s x v1 v2 v3 : Int) : Prop := hh M 357 (x + 1) = v1 ∧ (s ≠ 4 → s ≠ 8 → hh M 357 (x + 2) = v2) ∧ (s = 5 → hh M 357 (x + 3) = v3)
theorem m_body_ok {s a' v1 v2 v3 : Int} (h : RL M T L a) (hs : 2 ≤ s ∧ s ≤ 8) (hx : 0 ≤ x ∧ x + 3 < 2820) (hd : dok T L (srt s) a a' v1 v2 v3) : wc X (d + 7) 224 [(32, 354), (0, s), (0, x)] M (fun r M1 => r = some (0, 0) ∧ RL M1 T L a' ∧ drow M1 s x v1 v2 v3 ∧ Fw (fun j => x + 1 ≤ j ∧ j ≤ x + 3) M M1) := by
  show wp X (d + 7) 224 0 [(32, 354), (0, s), (0, x), (9, 0)] [] M _
  obtain ⟨⟨d0, d1, d2, d3, d4, d5, d6, d7, d8, d9⟩, -⟩ := wds
  have ax1 := aj (x := x) (y := 1) ⟨by omega, by omega⟩
  have ax3 := aj (x := x) (y := 3) ⟨by omega, by omega⟩
  rcases (show s = 2 ∨ s = 3 ∨ s = 4 ∨ s = 5 ∨ s = 6 ∨ s = 7 ∨ s = 8 by omega) with rfl | rfl | rfl | rfl | rfl | rfl | rfl
  · obtain ⟨hp, rfl, rfl, rfl, rfl⟩ : pok T L 4 3 1 9 a ∧ a' = tE T L (tE T L (tE T L a)) ∧ v1 = tV T L a ∧ v2 = tV T L (tE T L (tE T L a)) ∧ v3 = 0 := by
      rcases hd with ⟨_, q⟩ | ⟨c, _⟩ | ⟨c, _⟩ | ⟨c, _⟩ | ⟨c, _⟩ | ⟨c, _⟩ | ⟨c, _⟩
      · exact q
      all_goals exact absurd c (by decide)
    simp only [w224_0, w224_1, w224_44, w224_45, w224_46, w224_47, w224_49, w224_51, w224_53, w224_55, w224_57, w224_59, w224_62, w224_63, w224_65, m_w6, d3, ↓reduceIte, hh_wr, hl_wr, b10, b11, ite_not, ne_eq, Int.reduceEq, Int.reduceLE, Int.reduceLT, Int.reduceNe, Int.reduceNeg, Int.reduceAdd, Int.reduceSub, Int.reduceMul, not_false_eq_true, not_true_eq_false, false_and, and_false, true_and, and_true, and_self, true_or, or_true, false_or, or_false, if_true, if_false, ite_true, ite_false, mj_tl_some, mj_tl_none, mj_cs0, mj_cs1, mj_cs2, mj_cs3, mj_cs4]
    refine wc.mono (m_pair_ok (d := d + 2) (K := 3) h (by decide) rfl ⟨by omega, by omega⟩ (by decide) (by decide) hp) ?_
    rintro r M1 ⟨rfl, rl1, e1, e2, w1⟩
    simp only [w224_68, ↓reduceIte, hh_wr, hl_wr, b10, b11, ite_not, ne_eq, Int.reduceEq, Int.reduceLE, Int.reduceLT, Int.reduceNe, Int.reduceNeg, Int.reduceAdd, Int.reduceSub, Int.reduceMul, not_false_eq_true, not_true_eq_false, false_and, and_false, true_and, and_true, and_self, true_or, or_true, false_or, or_false, if_true, if_false, ite_true, ite_false, mj_tl_some, mj_tl_none, mj_cs0, mj_cs1, mj_cs2, mj_cs3, mj_cs4]
    exact ⟨rl1, ⟨e1, fun _ _ => e2, fun q => absurd q (by decide)⟩, w1.mono (fun j q => by omega)⟩
  · obtain ⟨hp, rfl, rfl, rfl, rfl⟩ : pok T L 99 5 0 255 a ∧ a' = tE T L (tE T L (tE T L a)) ∧ v1 = tV T L a ∧ v2 = tV T L (tE T L (tE T L a)) ∧ v3 = 0 := by
      rcases hd with ⟨c, _⟩ | ⟨_, q⟩ | ⟨c, _⟩ | ⟨c, _⟩ | ⟨c, _⟩ | ⟨c, _⟩ | ⟨c, _⟩
      rotate_left
      · exact q
      all_goals exact absurd c (by decide)
    simp only [w224_0, w224_1, w224_69, w224_70, w224_71, w224_73, w224_75, w224_77, w224_79, w224_81, w224_83, w224_86, w224_87, w224_90, m_w5, d5, ↓reduceIte, hh_wr, hl_wr, b10, b11, ite_not, ne_eq, Int.reduceEq, Int.reduceLE, Int.reduceLT, Int.reduceNe, Int.reduceNeg, Int.reduceAdd, Int.reduceSub, Int.reduceMul, not_false_eq_true, not_true_eq_false, false_and, and_false, true_and, and_true, and_self, true_or, or_true, false_or, or_false, if_true, if_false, ite_true, ite_false, mj_tl_some, mj_tl_none, mj_cs0, mj_cs1, mj_cs2, mj_cs3, mj_cs4]
    refine wc.mono (m_pair_ok (d := d + 2) (K := 5) h (by decide) rfl ⟨by omega, by omega⟩ (by decide) (by decide) hp) ?_
    rintro r M1 ⟨rfl, rl1, e1, e2, w1⟩
    simp only [w224_93, ↓reduceIte, hh_wr, hl_wr, b10, b11, ite_not, ne_eq, Int.reduceEq, Int.reduceLE, Int.reduceLT, Int.reduceNe, Int.reduceNeg, Int.reduceAdd, Int.reduceSub, Int.reduceMul, not_false_eq_true, not_true_eq_false, false_and, and_false, true_and, and_true, and_self, true_or, or_true, false_or, or_false, if_true, if_false, ite_true, ite_false, mj_tl_some, mj_tl_none, mj_cs0, mj_cs1, mj_cs2, mj_cs3, mj_cs4]
    exact ⟨rl1, ⟨e1, fun _ _ => e2, fun q => absurd q (by decide)⟩, w1.mono (fun j q => by omega)⟩
  · obtain ⟨hp, rfl, rfl, rfl, rfl⟩ : nok T L 0 119 a ∧ a' = tE T L a ∧ v1 = tV T L a ∧ v2 = 0 ∧ v3 = 0 := by
      rcases hd with ⟨c, _⟩ | ⟨c, _⟩ | ⟨_, q⟩ | ⟨c, _⟩ | ⟨c, _⟩ | ⟨c, _⟩ | ⟨c, _⟩
      rotate_left 2
      · exact q
      all_goals exact absurd c (by decide)
    simp only [w224_0, w224_1, w224_94, w224_95, w224_96, w224_97, w224_98, w224_99, w224_101, ax1, ↓reduceIte, hh_wr, hl_wr, b10, b11, ite_not, ne_eq, Int.reduceEq, Int.reduceLE, Int.reduceLT, Int.reduceNe, Int.reduceNeg, Int.reduceAdd, Int.reduceSub, Int.reduceMul, not_false_eq_true, not_true_eq_false, false_and, and_false, true_and, and_true, and_self, true_or, or_true, false_or, or_false, if_true, if_false, ite_true, ite_false, mj_tl_some, mj_tl_none, mj_cs0, mj_cs1, mj_cs2, mj_cs3, mj_cs4]
    refine wc.mono (m_fig_ok (d := d + 4) h ⟨by omega, by omega⟩ (by decide) hp) ?_
    rintro r M1 ⟨rfl, rl1, e1, w1⟩
    simp only [w224_104, ↓reduceIte, hh_wr, hl_wr, b10, b11, ite_not, ne_eq, Int.reduceEq, Int.reduceLE, Int.reduceLT, Int.reduceNe, Int.reduceNeg, Int.reduceAdd, Int.reduceSub, Int.reduceMul, not_false_eq_true, not_true_eq_false, false_and, and_false, true_and, and_true, and_self, true_or, or_true, false_or, or_false, if_true, if_false, ite_true, ite_false, mj_tl_some, mj_tl_none, mj_cs0, mj_cs1, mj_cs2, mj_cs3, mj_cs4]
    exact ⟨rl1, ⟨e1, fun q => absurd rfl q, fun q => absurd q (by decide)⟩, w1.mono (fun j q => by omega)⟩
  · obtain ⟨hp, hw, rfl, rfl, rfl, rfl⟩ : pok T L 7 8 0 5 a ∧ wok T L 9 0 5 (tE T L (tE T L (tE T L a))) ∧ a' = tE T L (tE T L (tE T L (tE T L (tE T L a)))) ∧ v1 = tV T L a ∧ v2 = tV T L (tE T L (tE T L a)) ∧ v3 = tV T L (tE T L (tE T L (tE T L (tE T L a)))) := by
      rcases hd with ⟨c, _⟩ | ⟨c, _⟩ | ⟨c, _⟩ | ⟨_, q⟩ | ⟨c, _⟩ | ⟨c, _⟩ | ⟨c, _⟩
      rotate_left 3
      · exact q
      all_goals exact absurd c (by decide)
    simp only [w224_0, w224_1, w224_105, w224_106, w224_107, w224_109, w224_111, w224_113, w224_116, w224_117, w224_118, m_w2, d8, ↓reduceIte, hh_wr, hl_wr, b10, b11, ite_not, ne_eq, Int.reduceEq, Int.reduceLE, Int.reduceLT, Int.reduceNe, Int.reduceNeg, Int.reduceAdd, Int.reduceSub, Int.reduceMul, not_false_eq_true, not_true_eq_false, false_and, and_false, true_and, and_true, and_self, true_or, or_true, false_or, or_false, if_true, if_false, ite_true, ite_false, mj_tl_some, mj_tl_none, mj_cs0, mj_cs1, mj_cs2, mj_cs3, mj_cs4]
    refine wc.mono (m_pair_ok (d := d + 2) (K := 8) h (by decide) rfl ⟨by omega, by omega⟩ (by decide) (by decide) hp) ?_
    rintro r M1 ⟨rfl, rl1, e1, e2, w1⟩
    simp only [w224_121, w224_122, w224_123, w224_126, w224_127, w224_130, w224_131, w224_133, w224_135, w224_138, w224_139, w224_140, w224_141, w224_142, w224_143, m_w2, d9, ax3, ↓reduceIte, hh_wr, hl_wr, b10, b11, ite_not, ne_eq, Int.reduceEq, Int.reduceLE, Int.reduceLT, Int.reduceNe, Int.reduceNeg, Int.reduceAdd, Int.reduceSub, Int.reduceMul, not_false_eq_true, not_true_eq_false, false_and, and_false, true_and, and_true, and_self, true_or, or_true, false_or, or_false, if_true, if_false, ite_true, ite_false, mj_tl_some, mj_tl_none, mj_cs0, mj_cs1, mj_cs2, mj_cs3, mj_cs4]
    refine wc.mono (m_wor_ok (d := d + 3) (K := 9) rl1 (by decide) rfl ⟨by omega, by omega⟩ (by decide) hw) ?_
    rintro r M2 ⟨rfl, rl2, e3, w2⟩
    simp only [w224_146, ↓reduceIte, hh_wr, hl_wr, b10, b11, ite_not, ne_eq, Int.reduceEq, Int.reduceLE, Int.reduceLT, Int.reduceNe, Int.reduceNeg, Int.reduceAdd, Int.reduceSub, Int.reduceMul, not_false_eq_true, not_true_eq_false, false_and, and_false, true_and, and_true, and_self, true_or, or_true, false_or, or_false, if_true, if_false, ite_true, ite_false, mj_tl_some, mj_tl_none, mj_cs0, mj_cs1, mj_cs2, mj_cs3, mj_cs4]
    exact ⟨rl2, ⟨by rw [w2.t _ (by omega)]; exact e1, fun _ _ => by rw [w2.t _ (by omega)]; exact e2, fun _ => e3⟩, (w1.mono (fun j q => by omega)).tr (w2.mono (fun j q => by omega))⟩
  · obtain ⟨hp, rfl, rfl, rfl, rfl⟩ : pok T L 7 8 0 5 a ∧ a' = tE T L (tE T L (tE T L a)) ∧ v1 = tV T L a ∧ v2 = tV T L (tE T L (tE T L a)) ∧ v3 = 0 := by
      rcases hd with ⟨c, _⟩ | ⟨c, _⟩ | ⟨c, _⟩ | ⟨c, _⟩ | ⟨_, q⟩ | ⟨c, _⟩ | ⟨c, _⟩
      rotate_left 4
      · exact q
      all_goals exact absurd c (by decide)
    simp only [w224_0, w224_1, w224_147, w224_148, w224_149, w224_151, w224_153, w224_155, w224_158, w224_159, w224_160, m_w2, d8, ↓reduceIte, hh_wr, hl_wr, b10, b11, ite_not, ne_eq, Int.reduceEq, Int.reduceLE, Int.reduceLT, Int.reduceNe, Int.reduceNeg, Int.reduceAdd, Int.reduceSub, Int.reduceMul, not_false_eq_true, not_true_eq_false, false_and, and_false, true_and, and_true, and_self, true_or, or_true, false_or, or_false, if_true, if_false, ite_true, ite_false, mj_tl_some, mj_tl_none, mj_cs0, mj_cs1, mj_cs2, mj_cs3, mj_cs4]
    refine wc.mono (m_pair_ok (d := d + 2) (K := 8) h (by decide) rfl ⟨by omega, by omega⟩ (by decide) (by decide) hp) ?_
    rintro r M1 ⟨rfl, rl1, e1, e2, w1⟩
    simp only [w224_163, ↓reduceIte, hh_wr, hl_wr, b10, b11, ite_not, ne_eq, Int.reduceEq, Int.reduceLE, Int.reduceLT, Int.reduceNe, Int.reduceNeg, Int.reduceAdd, Int.reduceSub, Int.reduceMul, not_false_eq_true, not_true_eq_false, false_and, and_false, true_and, and_true, and_self, true_or, or_true, false_or, or_false, if_true, if_false, ite_true, ite_false, mj_tl_some, mj_tl_none, mj_cs0, mj_cs1, mj_cs2, mj_cs3, mj_cs4]
    exact ⟨rl1, ⟨e1, fun _ _ => e2, fun q => absurd q (by decide)⟩, w1.mono (fun j q => by omega)⟩
  · obtain ⟨hp, rfl, rfl, rfl, rfl⟩ : pok T L 3 8 0 5 a ∧ a' = tE T L (tE T L (tE T L a)) ∧ v1 = tV T L a ∧ v2 = tV T L (tE T L (tE T L a)) ∧ v3 = 0 := by
      rcases hd with ⟨c, _⟩ | ⟨c, _⟩ | ⟨c, _⟩ | ⟨c, _⟩ | ⟨c, _⟩ | ⟨_, q⟩ | ⟨c, _⟩
      rotate_left 5
      · exact q
      all_goals exact absurd c (by decide)
    simp only [w224_0, w224_1, w224_164, w224_165, w224_166, w224_167, w224_169, w224_171, w224_174, w224_175, w224_176, m_w2, d8, ↓reduceIte, hh_wr, hl_wr, b10, b11, ite_not, ne_eq, Int.reduceEq, Int.reduceLE, Int.reduceLT, Int.reduceNe, Int.reduceNeg, Int.reduceAdd, Int.reduceSub, Int.reduceMul, not_false_eq_true, not_true_eq_false, false_and, and_false, true_and, and_true, and_self, true_or, or_true, false_or, or_false, if_true, if_false, ite_true, ite_false, mj_tl_some, mj_tl_none, mj_cs0, mj_cs1, mj_cs2, mj_cs3, mj_cs4]
    refine wc.mono (m_pair_ok (d := d + 2) (K := 8) h (by decide) rfl ⟨by omega, by omega⟩ (by decide) (by decide) hp) ?_
    rintro r M1 ⟨rfl, rl1, e1, e2, w1⟩
    simp only [w224_179, ↓reduceIte, hh_wr, hl_wr, b10, b11, ite_not, ne_eq, Int.reduceEq, Int.reduceLE, Int.reduceLT, Int.reduceNe, Int.reduceNeg, Int.reduceAdd, Int.reduceSub, Int.reduceMul, not_false_eq_true, not_true_eq_false, false_and, and_false, true_and, and_true, and_self, true_or, or_true, false_or, or_false, if_true, if_false, ite_true, ite_false, mj_tl_some, mj_tl_none, mj_cs0, mj_cs1, mj_cs2, mj_cs3, mj_cs4]
    exact ⟨rl1, ⟨e1, fun _ _ => e2, fun q => absurd q (by decide)⟩, w1.mono (fun j q => by omega)⟩
  · obtain ⟨hp, rfl, rfl, rfl, rfl⟩ : nok T L 1 60 a ∧ a' = tE T L a ∧ v1 = tV T L a ∧ v2 = 0 ∧ v3 = 0 := by
      rcases hd with ⟨c, _⟩ | ⟨c, _⟩ | ⟨c, _⟩ | ⟨c, _⟩ | ⟨c, _⟩ | ⟨c, _⟩ | ⟨_, q⟩
      rotate_left 6
      · exact q
      all_goals exact absurd c (by decide)
    simp only [w224_0, w224_1, w224_180, w224_181, w224_182, w224_183, w224_184, w224_185, w224_187, ax1, ↓reduceIte, hh_wr, hl_wr, b10, b11, ite_not, ne_eq, Int.reduceEq, Int.reduceLE, Int.reduceLT, Int.reduceNe, Int.reduceNeg, Int.reduceAdd, Int.reduceSub, Int.reduceMul, not_false_eq_true, not_true_eq_false, false_and, and_false, true_and, and_true, and_self, true_or, or_true, false_or, or_false, if_true, if_false, ite_true, ite_false, mj_tl_some, mj_tl_none, mj_cs0, mj_cs1, mj_cs2, mj_cs3, mj_cs4]
    refine wc.mono (m_fig_ok (d := d + 4) h ⟨by omega, by omega⟩ (by decide) hp) ?_
    rintro r M1 ⟨rfl, rl1, e1, w1⟩
    simp only [w224_190, ↓reduceIte, hh_wr, hl_wr, b10, b11, ite_not, ne_eq, Int.reduceEq, Int.reduceLE, Int.reduceLT, Int.reduceNe, Int.reduceNeg, Int.reduceAdd, Int.reduceSub, Int.reduceMul, not_false_eq_true, not_true_eq_false, false_and, and_false, true_and, and_true, and_self, true_or, or_true, false_or, or_false, if_true, if_false, ite_true, ite_false, mj_tl_some, mj_tl_none, mj_cs0, mj_cs1, mj_cs2, mj_cs3, mj_cs4]
    exact ⟨rl1, ⟨e1, fun _ q => absurd rfl q, fun q => absurd q (by decide)⟩, w1.mono (fun j q => by omega)⟩
theorem m_body_bad {s : Int} (h : RL M T L a) (hs : 2 ≤ s ∧ s ≤ 8) (hx : 0 ≤ x ∧ x + 3 < 2820) (hd : dbd T L (srt s) a k q) : wc X (d + 7) 224 [(32, 354), (0, s), (0, x)] M (fun r M1 => r = some (0, k) ∧ k ≠ 0 ∧ hh M1 354 13 = q ∧ Fw (fun j => x + 1 ≤ j ∧ j ≤ x + 3) M M1) := by
  show wp X (d + 7) 224 0 [(32, 354), (0, s), (0, x), (9, 0)] [] M _
  obtain ⟨⟨d0, d1, d2, d3, d4, d5, d6, d7, d8, d9⟩, -⟩ := wds
  have ax1 := aj (x := x) (y := 1) ⟨by omega, by omega⟩
  have ax3 := aj (x := x) (y := 3) ⟨by omega, by omega⟩
  rcases (show s = 2 ∨ s = 3 ∨ s = 4 ∨ s = 5 ∨ s = 6 ∨ s = 7 ∨ s = 8 by omega) with rfl | rfl | rfl | rfl | rfl | rfl | rfl
  · have hp : pbd T L 4 3 1 9 a k q := by
      rcases hd with ⟨_, q⟩ | ⟨c, _⟩ | ⟨c, _⟩ | ⟨c, _⟩ | ⟨c, _⟩ | ⟨c, _⟩ | ⟨c, _⟩
      · exact q
      all_goals exact absurd c (by decide)
    simp only [w224_0, w224_1, w224_44, w224_45, w224_46, w224_47, w224_49, w224_51, w224_53, w224_55, w224_57, w224_59, w224_62, w224_63, w224_65, m_w6, d3, ↓reduceIte, hh_wr, hl_wr, b10, b11, ite_not, ne_eq, Int.reduceEq, Int.reduceLE, Int.reduceLT, Int.reduceNe, Int.reduceNeg, Int.reduceAdd, Int.reduceSub, Int.reduceMul, not_false_eq_true, not_true_eq_false, false_and, and_false, true_and, and_true, and_self, true_or, or_true, false_or, or_false, if_true, if_false, ite_true, ite_false, mj_tl_some, mj_tl_none, mj_cs0, mj_cs1, mj_cs2, mj_cs3, mj_cs4]
    refine wc.mono (m_pair_bad (d := d + 2) (K := 3) h (by decide) rfl ⟨by omega, by omega⟩ (by decide) (by decide) hp) ?_
    rintro r M1 ⟨rfl, k0, e1, w1⟩
    simp only [w224_68, ↓reduceIte, hh_wr, hl_wr, b10, b11, ite_not, ne_eq, Int.reduceEq, Int.reduceLE, Int.reduceLT, Int.reduceNe, Int.reduceNeg, Int.reduceAdd, Int.reduceSub, Int.reduceMul, not_false_eq_true, not_true_eq_false, false_and, and_false, true_and, and_true, and_self, true_or, or_true, false_or, or_false, if_true, if_false, ite_true, ite_false, mj_tl_some, mj_tl_none, mj_cs0, mj_cs1, mj_cs2, mj_cs3, mj_cs4]
    exact ⟨k0, e1, w1.mono (fun j q => by omega)⟩
  · have hp : pbd T L 99 5 0 255 a k q := by
      rcases hd with ⟨c, _⟩ | ⟨_, q⟩ | ⟨c, _⟩ | ⟨c, _⟩ | ⟨c, _⟩ | ⟨c, _⟩ | ⟨c, _⟩
      rotate_left
      · exact q
      all_goals exact absurd c (by decide)
    simp only [w224_0, w224_1, w224_69, w224_70, w224_71, w224_73, w224_75, w224_77, w224_79, w224_81, w224_83, w224_86, w224_87, w224_90, m_w5, d5, ↓reduceIte, hh_wr, hl_wr, b10, b11, ite_not, ne_eq, Int.reduceEq, Int.reduceLE, Int.reduceLT, Int.reduceNe, Int.reduceNeg, Int.reduceAdd, Int.reduceSub, Int.reduceMul, not_false_eq_true, not_true_eq_false, false_and, and_false, true_and, and_true, and_self, true_or, or_true, false_or, or_false, if_true, if_false, ite_true, ite_false, mj_tl_some, mj_tl_none, mj_cs0, mj_cs1, mj_cs2, mj_cs3, mj_cs4]
    refine wc.mono (m_pair_bad (d := d + 2) (K := 5) h (by decide) rfl ⟨by omega, by omega⟩ (by decide) (by decide) hp) ?_
    rintro r M1 ⟨rfl, k0, e1, w1⟩
    simp only [w224_93, ↓reduceIte, hh_wr, hl_wr, b10, b11, ite_not, ne_eq, Int.reduceEq, Int.reduceLE, Int.reduceLT, Int.reduceNe, Int.reduceNeg, Int.reduceAdd, Int.reduceSub, Int.reduceMul, not_false_eq_true, not_true_eq_false, false_and, and_false, true_and, and_true, and_self, true_or, or_true, false_or, or_false, if_true, if_false, ite_true, ite_false, mj_tl_some, mj_tl_none, mj_cs0, mj_cs1, mj_cs2, mj_cs3, mj_cs4]
    exact ⟨k0, e1, w1.mono (fun j q => by omega)⟩
  · have hp : nbd T L 0 119 a k q := by
      rcases hd with ⟨c, _⟩ | ⟨c, _⟩ | ⟨_, q⟩ | ⟨c, _⟩ | ⟨c, _⟩ | ⟨c, _⟩ | ⟨c, _⟩
      rotate_left 2
      · exact q
      all_goals exact absurd c (by decide)
    simp only [w224_0, w224_1, w224_94, w224_95, w224_96, w224_97, w224_98, w224_99, w224_101, ax1, ↓reduceIte, hh_wr, hl_wr, b10, b11, ite_not, ne_eq, Int.reduceEq, Int.reduceLE, Int.reduceLT, Int.reduceNe, Int.reduceNeg, Int.reduceAdd, Int.reduceSub, Int.reduceMul, not_false_eq_true, not_true_eq_false, false_and, and_false, true_and, and_true, and_self, true_or, or_true, false_or, or_false, if_true, if_false, ite_true, ite_false, mj_tl_some, mj_tl_none, mj_cs0, mj_cs1, mj_cs2, mj_cs3, mj_cs4]
    refine wc.mono (m_fig_bad (d := d + 4) h (by decide) hp) ?_
    rintro r M1 ⟨rfl, rfl, e1, k0⟩
    simp only [w224_104, ↓reduceIte, hh_wr, hl_wr, b10, b11, ite_not, ne_eq, Int.reduceEq, Int.reduceLE, Int.reduceLT, Int.reduceNe, Int.reduceNeg, Int.reduceAdd, Int.reduceSub, Int.reduceMul, not_false_eq_true, not_true_eq_false, false_and, and_false, true_and, and_true, and_self, true_or, or_true, false_or, or_false, if_true, if_false, ite_true, ite_false, mj_tl_some, mj_tl_none, mj_cs0, mj_cs1, mj_cs2, mj_cs3, mj_cs4]
    exact ⟨k0, e1, Fw.rfl'⟩
  · have hp : pbd T L 7 8 0 5 a k q ∨ (pok T L 7 8 0 5 a ∧ wbd T L 9 0 5 (tE T L (tE T L (tE T L a))) k q) := by
      rcases hd with ⟨c, _⟩ | ⟨c, _⟩ | ⟨c, _⟩ | ⟨_, q⟩ | ⟨c, _⟩ | ⟨c, _⟩ | ⟨c, _⟩
      rotate_left 3
      · exact q
      all_goals exact absurd c (by decide)
    simp only [w224_0, w224_1, w224_105, w224_106, w224_107, w224_109, w224_111, w224_113, w224_116, w224_117, w224_118, m_w2, d8, ↓reduceIte, hh_wr, hl_wr, b10, b11, ite_not, ne_eq, Int.reduceEq, Int.reduceLE, Int.reduceLT, Int.reduceNe, Int.reduceNeg, Int.reduceAdd, Int.reduceSub, Int.reduceMul, not_false_eq_true, not_true_eq_false, false_and, and_false, true_and, and_true, and_self, true_or, or_true, false_or, or_false, if_true, if_false, ite_true, ite_false, mj_tl_some, mj_tl_none, mj_cs0, mj_cs1, mj_cs2, mj_cs3, mj_cs4]
    rcases hp with hp | ⟨hp, hw⟩
    · refine wc.mono (m_pair_bad (d := d + 2) (K := 8) h (by decide) rfl ⟨by omega, by omega⟩ (by decide) (by decide) hp) ?_
      rintro r M1 ⟨rfl, k0, e1, w1⟩
      simp only [w224_121, w224_122, w224_123, w224_126, w224_127, w224_146, k0, ↓reduceIte, hh_wr, hl_wr, b10, b11, ite_not, ne_eq, Int.reduceEq, Int.reduceLE, Int.reduceLT, Int.reduceNe, Int.reduceNeg, Int.reduceAdd, Int.reduceSub, Int.reduceMul, not_false_eq_true, not_true_eq_false, false_and, and_false, true_and, and_true, and_self, true_or, or_true, false_or, or_false, if_true, if_false, ite_true, ite_false, mj_tl_some, mj_tl_none, mj_cs0, mj_cs1, mj_cs2, mj_cs3, mj_cs4]
      exact ⟨e1, w1.mono (fun j q => by omega)⟩
    · refine wc.mono (m_pair_ok (d := d + 2) (K := 8) h (by decide) rfl ⟨by omega, by omega⟩ (by decide) (by decide) hp) ?_
      rintro r M1 ⟨rfl, rl1, e1, e2, w1⟩
      simp only [w224_121, w224_122, w224_123, w224_126, w224_127, w224_130, w224_131, w224_133, w224_135, w224_138, w224_139, w224_140, w224_141, w224_142, w224_143, m_w2, d9, ax3, ↓reduceIte, hh_wr, hl_wr, b10, b11, ite_not, ne_eq, Int.reduceEq, Int.reduceLE, Int.reduceLT, Int.reduceNe, Int.reduceNeg, Int.reduceAdd, Int.reduceSub, Int.reduceMul, not_false_eq_true, not_true_eq_false, false_and, and_false, true_and, and_true, and_self, true_or, or_true, false_or, or_false, if_true, if_false, ite_true, ite_false, mj_tl_some, mj_tl_none, mj_cs0, mj_cs1, mj_cs2, mj_cs3, mj_cs4]
      refine wc.mono (m_wor_bad (d := d + 3) (K := 9) rl1 (by decide) rfl (by decide) hw) ?_
      rintro r M2 ⟨rfl, k0, e3, w2⟩
      simp only [w224_146, ↓reduceIte, hh_wr, hl_wr, b10, b11, ite_not, ne_eq, Int.reduceEq, Int.reduceLE, Int.reduceLT, Int.reduceNe, Int.reduceNeg, Int.reduceAdd, Int.reduceSub, Int.reduceMul, not_false_eq_true, not_true_eq_false, false_and, and_false, true_and, and_true, and_self, true_or, or_true, false_or, or_false, if_true, if_false, ite_true, ite_false, mj_tl_some, mj_tl_none, mj_cs0, mj_cs1, mj_cs2, mj_cs3, mj_cs4]
      exact ⟨k0, e3, (w1.mono (fun j q => by omega)).tr (w2.mono (fun j q => by omega))⟩
  · have hp : pbd T L 7 8 0 5 a k q := by
      rcases hd with ⟨c, _⟩ | ⟨c, _⟩ | ⟨c, _⟩ | ⟨c, _⟩ | ⟨_, q⟩ | ⟨c, _⟩ | ⟨c, _⟩
      rotate_left 4
      · exact q
      all_goals exact absurd c (by decide)
    simp only [w224_0, w224_1, w224_147, w224_148, w224_149, w224_151, w224_153, w224_155, w224_158, w224_159, w224_160, m_w2, d8, ↓reduceIte, hh_wr, hl_wr, b10, b11, ite_not, ne_eq, Int.reduceEq, Int.reduceLE, Int.reduceLT, Int.reduceNe, Int.reduceNeg, Int.reduceAdd, Int.reduceSub, Int.reduceMul, not_false_eq_true, not_true_eq_false, false_and, and_false, true_and, and_true, and_self, true_or, or_true, false_or, or_false, if_true, if_false, ite_true, ite_false, mj_tl_some, mj_tl_none, mj_cs0, mj_cs1, mj_cs2, mj_cs3, mj_cs4]
    refine wc.mono (m_pair_bad (d := d + 2) (K := 8) h (by decide) rfl ⟨by omega, by omega⟩ (by decide) (by decide) hp) ?_
    rintro r M1 ⟨rfl, k0, e1, w1⟩
    simp only [w224_163, ↓reduceIte, hh_wr, hl_wr, b10, b11, ite_not, ne_eq, Int.reduceEq, Int.reduceLE, Int.reduceLT, Int.reduceNe, Int.reduceNeg, Int.reduceAdd, Int.reduceSub, Int.reduceMul, not_false_eq_true, not_true_eq_false, false_and, and_false, true_and, and_true, and_self, true_or, or_true, false_or, or_false, if_true, if_false, ite_true, ite_false, mj_tl_some, mj_tl_none, mj_cs0, mj_cs1, mj_cs2, mj_cs3, mj_cs4]
    exact ⟨k0, e1, w1.mono (fun j q => by omega)⟩
  · have hp : pbd T L 3 8 0 5 a k q := by
      rcases hd with ⟨c, _⟩ | ⟨c, _⟩ | ⟨c, _⟩ | ⟨c, _⟩ | ⟨c, _⟩ | ⟨_, q⟩ | ⟨c, _⟩
      rotate_left 5
      · exact q
      all_goals exact absurd c (by decide)
    simp only [w224_0, w224_1, w224_164, w224_165, w224_166, w224_167, w224_169, w224_171, w224_174, w224_175, w224_176, m_w2, d8, ↓reduceIte, hh_wr, hl_wr, b10, b11, ite_not, ne_eq, Int.reduceEq, Int.reduceLE, Int.reduceLT, Int.reduceNe, Int.reduceNeg, Int.reduceAdd, Int.reduceSub, Int.reduceMul, not_false_eq_true, not_true_eq_false, false_and, and_false, true_and, and_true, and_self, true_or, or_true, false_or, or_false, if_true, if_false, ite_true, ite_false, mj_tl_some, mj_tl_none, mj_cs0, mj_cs1, mj_cs2, mj_cs3, mj_cs4]
    refine wc.mono (m_pair_bad (d := d + 2) (K := 8) h (by decide) rfl ⟨by omega, by omega⟩ (by decide) (by decide) hp) ?_
    rintro r M1 ⟨rfl, k0, e1, w1⟩
    simp only [w224_179, ↓reduceIte, hh_wr, hl_wr, b10, b11, ite_not, ne_eq, Int.reduceEq, Int.reduceLE, Int.reduceLT, Int.reduceNe, Int.reduceNeg, Int.reduceAdd, Int.reduceSub, Int.reduceMul, not_false_eq_true, not_true_eq_false, false_and, and_false, true_and, and_true, and_self, true_or, or_true, false_or, or_false, if_true, if_false, ite_true, ite_false, mj_tl_some, mj_tl_none, mj_cs0, mj_cs1, mj_cs2, mj_cs3, mj_cs4]
    exact ⟨k0, e1, w1.mono (fun j q => by omega)⟩
  · have hp : nbd T L 1 60 a k q := by
      rcases hd with ⟨c, _⟩ | ⟨c, _⟩ | ⟨c, _⟩ | ⟨c, _⟩ | ⟨c, _⟩ | ⟨c, _⟩ | ⟨_, q⟩
      rotate_left 6
      · exact q
      all_goals exact absurd c (by decide)
    simp only [w224_0, w224_1, w224_180, w224_181, w224_182, w224_183, w224_184, w224_185, w224_187, ax1, ↓reduceIte, hh_wr, hl_wr, b10, b11, ite_not, ne_eq, Int.reduceEq, Int.reduceLE, Int.reduceLT, Int.reduceNe, Int.reduceNeg, Int.reduceAdd, Int.reduceSub, Int.reduceMul, not_false_eq_true, not_true_eq_false, false_and, and_false, true_and, and_true, and_self, true_or, or_true, false_or, or_false, if_true, if_false, ite_true, ite_false, mj_tl_some, mj_tl_none, mj_cs0, mj_cs1, mj_cs2, mj_cs3, mj_cs4]
    refine wc.mono (m_fig_bad (d := d + 4) h (by decide) hp) ?_
    rintro r M1 ⟨rfl, rfl, e1, k0⟩
    simp only [w224_190, ↓reduceIte, hh_wr, hl_wr, b10, b11, ite_not, ne_eq, Int.reduceEq, Int.reduceLE, Int.reduceLT, Int.reduceNe, Int.reduceNeg, Int.reduceAdd, Int.reduceSub, Int.reduceMul, not_false_eq_true, not_true_eq_false, false_and, and_false, true_and, and_true, and_self, true_or, or_true, false_or, or_false, if_true, if_false, ite_true, ite_false, mj_tl_some, mj_tl_none, mj_cs0, mj_cs1, mj_cs2, mj_cs3, mj_cs4]
    exact ⟨k0, e1, Fw.rfl'⟩
end RCl
