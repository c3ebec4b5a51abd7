/-! TEXT: both -/
section Text5
variable {X : mj_X} {d e : Nat} {M M2 M3 M4 : mj_M} {T : Int → Int} {L : Int}
/-- a law of the new text -/
theorem LawR.mk {r rk j s fo n w c : Int} {S : Int → Int → Int} : ∀ {l : Option LD}, LPr n w c S s l → LCf (hh M4 r) fo (hh M4 rk) l → LRr M4 (705 * j) l → RD M4 (705 * j) n S → hh M4 357 (705 * j) = n → hl M4 rk = c → w ≤ 300 → LawR M4 r rk j s fo
  | none, p, h, _, rd, e, _, _ => Or.inl ⟨h, fun k a b => by rw [e] at b; rw [(rd k a b).1]; exact p k a b⟩
  | some (k, wf, cf, cl, rl, f), p, h, g, rd, e, ec, hw => by
    obtain ⟨p1, p2, p3, p4, p5, p6, p7, m, p8⟩ := p
    obtain ⟨h1, h2, h3⟩ := h
    obtain ⟨g1, g2, g3⟩ := g
    refine Or.inr ⟨k, by rw [e]; exact p1, by rw [(rd k p1.1 p1.2).1]; exact p2, fun i a b => by rw [(rd i a (by omega)).1]; exact p3 i a b, m, cl, rl, f, by rw [h1]; exact Ex_up _ _ _ _ _ _ _ _ _ p8 (Nat.le_refl _) (by decide), by rw [h1]; exact p6, by rw [h1]; exact h2, by rw [h2, ec]; exact p7, by rw [h1]; exact h3, by rw [g1]; exact p4, by rw [g2, g1], by rw [g2]; omega, by rw [g1]; exact g3⟩
theorem TR.mk {r j n w c : Int} {S : Int → Int → Int} {Lf Ll : Option LD} (r1 : 373 < r) (r2 : r + 2 ≤ nx M4) (n0 : 0 ≤ n ∧ n ≤ 24) (c3 : c ≤ 300) (w3 : w ≤ 300) (pf : LPr n w c S 0 Lf) (pl : LPr n w c S 1 Ll) (x0 : hh M4 r 0 = n) (x1 : hh M4 r 1 = r + 2) (x6 : hh M4 r 6 = r + 1) (l1 : hl M4 (r + 1) = 4 * n) (l2 : hl M4 (r + 2) = c) (cc : CCf (hh M4 (r + 1)) n S) (lf : LCf (hh M4 r) 2 (hh M4 (r + 2)) Lf) (ll : LCf (hh M4 r) 4 (hh M4 (r + 2)) Ll) (en : hh M4 357 (705 * j) = n) (rd : RD M4 (705 * j) n S) (rf : LRr M4 (705 * j) Lf) (rll : LRr M4 (705 * j) Ll) : TR M4 r j := by
  refine ⟨r1, by omega, by rw [x1]; omega, by rw [x1]; omega, by rw [x1, l2]; exact c3, by rw [x6]; omega, by rw [x6]; omega, by rw [en]; exact n0.1, by rw [en]; exact n0.2, by rw [x0, en], by rw [x6, l1, en], fun k a b => ?_, by rw [x1]; exact LawR.mk pf lf rf rd en l2 w3, by rw [x1]; exact LawR.mk pl ll rll rd en l2 w3⟩
  rw [en] at b
  obtain ⟨y1, y2, y3⟩ := cc k a b
  obtain ⟨z1, z2⟩ := rd k a b
  rw [x6, z1]
  refine ⟨y1, y2, fun q => ?_, fun q q4 q8 => ?_, fun q5 => ?_⟩
  · obtain ⟨⟨u1, u2, u3⟩, v1, v2, v3, v4⟩ := y3 q
    obtain ⟨d1, d2, d3⟩ := z2 q
    rw [d1]
    exact ⟨u1, v1.1, v1.2, v2⟩
  · obtain ⟨⟨u1, u2, u3⟩, v1, v2, v3, v4⟩ := y3 q
    obtain ⟨d1, d2, d3⟩ := z2 q
    rw [d2 q4 q8]
    exact ⟨u2, v3.1, v3.2⟩
  · obtain ⟨⟨u1, u2, u3⟩, v1, v2, v3, v4⟩ := y3 (by omega)
    obtain ⟨d1, d2, d3⟩ := z2 (by omega)
    rw [d3 q5]
    exact ⟨u3, v4.1, v4.2⟩
theorem z_rr {x i : Int} (h5 : zone x i ≠ 5) (h8 : zone x i ≠ 8) : x ≠ 364 ∧ x ≠ 357 ∧ ¬ (x = 354 ∧ ((12 ≤ i ∧ i ≤ 19) ∨ (21 ≤ i ∧ i ≤ 24))) := by
  refine ⟨fun q => ?_, fun q => ?_, fun q => ?_⟩
  · subst q; exact h8 rfl
  · subst q; exact h5 (z_357 i)
  · obtain ⟨rfl, q⟩ := q; exact h8 (z_354 q)
theorem cs_of {M1 : mj_M} (h : CS M) (y : ∀ x i, x ≤ 373 → zone x i = 0 → hh M1 x i = hh M x i) (l : ∀ x, x ≤ 373 → hl M1 x = hl M x) : CS M1 := ⟨fun q hq => by
  have z := List.all_eq_true.mp cs_z q hq
  have l := of_decide_eq_true (List.all_eq_true.mp cs_373 q hq)
  rw [y _ _ l (eq_of_beq z)]
  exact h.1 q hq, fun q hq => by
  rw [l _ (of_decide_eq_true (List.all_eq_true.mp ls_373 q hq))]
  exact h.2 q hq⟩
theorem c_addText {M : mj_M} {D : Nat} {r j : Int} {Q : Option mj_V → mj_M → Prop} (hc : CS M) (hj : hh M 5 6 = j) (j0 : 0 ≤ j ∧ j < 4) (hr : r ≠ 0) : wc X D 70 [(30, 5), (28, r)] M Q ↔ Q (some (0, j)) (mj_wr (mj_wr M 20 j r) 5 6 (j + 1)) := by
  show wp X D 70 0 [(30, 5), (28, r)] [] M Q ↔ _
  have a1 : ji_add j 1 = j + 1 := aj ⟨by omega, by omega⟩
  have s1 : ji_sub (j + 1) 1 = j := by rw [sj ⟨by omega, by omega⟩]; omega
  simp only [w70_0, w70_1, w70_4, w70_5, w70_8, w70_9, w70_10, w70_11, w70_14, w70_15, w70_18, w70_19_6, w70_19_7, w70_20, w70_21, w70_22, w70_25, w70_26, w70_27, w70_30, w70_31, w70_34, w70_35, w70_36, c_1_0 hc, c_1_1 hc, c_1_2 hc, c_1_3 hc, c_1_4 hc, c_1_5 hc, c_1_6 hc, c_1_7 hc, c_1_8 hc, c_2_0 hc, c_2_1 hc, c_5_0 hc, c_5_1 hc, c_5_2 hc, c_5_3 hc, c_5_5 hc, c_5_8 hc, c_5_11 hc, c_6_1 hc, c_6_2 hc, c_6_3 hc, c_10_4 hc, c_10_5 hc, c_10_6 hc, c_10_7 hc, c_15_1 hc, c_17_1 hc, c_339_0 hc, c_341_0 hc, c_341_1 hc, c_341_2 hc, c_342_4 hc, c_342_5 hc, c_342_6 hc, c_342_7 hc, c_347_0 hc, c_347_2 hc, c_347_3 hc, c_349_0 hc, c_349_1 hc, c_349_2 hc, c_351_2 hc, c_351_10 hc, c_351_12 hc, c_354_0 hc, c_354_1 hc, c_354_2 hc, c_354_3 hc, c_354_4 hc, c_354_5 hc, c_354_6 hc, c_354_7 hc, c_354_8 hc, c_354_20 hc, c_354_25 hc, c_354_26 hc, c_354_27 hc, c_354_28 hc, c_354_32 hc, c_354_33 hc, c_354_34 hc, c_354_35 hc, c_354_38 hc, l_3 hc, l_4 hc, l_7 hc, l_8 hc, l_9 hc, l_11 hc, l_12 hc, l_13 hc, l_14 hc, l_16 hc, l_18 hc, l_19 hc, l_20 hc, l_21 hc, l_340 hc, l_343 hc, l_344 hc, l_345 hc, l_346 hc, l_348 hc, l_350 hc, l_352 hc, l_353 hc, l_355 hc, l_356 hc, l_357 hc, l_358 hc, l_359 hc, l_360 hc, l_361 hc, l_362 hc, l_363 hc, l_364 hc, l_365 hc, l_366 hc, l_367 hc, l_368 hc, l_369 hc, l_370 hc, l_371 hc, l_372 hc, l_373 hc, hj, a1, s1, j0.1, j0.2, hr, ↓reduceIte, hh_wr, hl_wr, b10, b11, ite_not, ne_eq, Int.reduceEq, Int.reduceLE, Int.reduceLT, Int.reduceNe, Int.reduceNeg, Int.reduceAdd, Int.reduceSub, Int.reduceMul, not_false_eq_true, not_true_eq_false, false_and, and_false, true_and, and_true, and_self, true_or, or_true, false_or, or_false, if_true, if_false, ite_true, ite_false, mj_tl_some, mj_tl_none, mj_cs0, mj_cs1, mj_cs2, mj_cs3, mj_cs4]
theorem st5 : St5 RR (d + 80) := by
  intro X M h
  unfold LS2
  show wp X (d + 80) 25 0 [(31, 1), (9, 0)] [] M _
  have n4 := h.ai.t4
  have n0 := h.ai.t0
  have nx0 := h.nx
  by_cases h4 : hh M 355 3 = 4
  · have g6 : hh M 5 6 = 4 := h.wr.nt.trans h4
    simp only [w25_0, w25_1, w25_4, w25_7, w25_8, w25_11, w25_12, c_1_0 h.cs, c_1_1 h.cs, c_1_2 h.cs, c_1_3 h.cs, c_1_4 h.cs, c_1_5 h.cs, c_1_6 h.cs, c_1_7 h.cs, c_1_8 h.cs, c_2_0 h.cs, c_2_1 h.cs, c_5_0 h.cs, c_5_1 h.cs, c_5_2 h.cs, c_5_3 h.cs, c_5_5 h.cs, c_5_8 h.cs, c_5_11 h.cs, c_6_1 h.cs, c_6_2 h.cs, c_6_3 h.cs, c_10_4 h.cs, c_10_5 h.cs, c_10_6 h.cs, c_10_7 h.cs, c_15_1 h.cs, c_17_1 h.cs, c_339_0 h.cs, c_341_0 h.cs, c_341_1 h.cs, c_341_2 h.cs, c_342_4 h.cs, c_342_5 h.cs, c_342_6 h.cs, c_342_7 h.cs, c_347_0 h.cs, c_347_2 h.cs, c_347_3 h.cs, c_349_0 h.cs, c_349_1 h.cs, c_349_2 h.cs, c_351_2 h.cs, c_351_10 h.cs, c_351_12 h.cs, c_354_0 h.cs, c_354_1 h.cs, c_354_2 h.cs, c_354_3 h.cs, c_354_4 h.cs, c_354_5 h.cs, c_354_6 h.cs, c_354_7 h.cs, c_354_8 h.cs, c_354_20 h.cs, c_354_25 h.cs, c_354_26 h.cs, c_354_27 h.cs, c_354_28 h.cs, c_354_32 h.cs, c_354_33 h.cs, c_354_34 h.cs, c_354_35 h.cs, c_354_38 h.cs, l_3 h.cs, l_4 h.cs, l_7 h.cs, l_8 h.cs, l_9 h.cs, l_11 h.cs, l_12 h.cs, l_13 h.cs, l_14 h.cs, l_16 h.cs, l_18 h.cs, l_19 h.cs, l_20 h.cs, l_21 h.cs, l_340 h.cs, l_343 h.cs, l_344 h.cs, l_345 h.cs, l_346 h.cs, l_348 h.cs, l_350 h.cs, l_352 h.cs, l_353 h.cs, l_355 h.cs, l_356 h.cs, l_357 h.cs, l_358 h.cs, l_359 h.cs, l_360 h.cs, l_361 h.cs, l_362 h.cs, l_363 h.cs, l_364 h.cs, l_365 h.cs, l_366 h.cs, l_367 h.cs, l_368 h.cs, l_369 h.cs, l_370 h.cs, l_371 h.cs, l_372 h.cs, l_373 h.cs, g6, ↓reduceIte, hh_wr, hl_wr, b10, b11, ite_not, ne_eq, Int.reduceEq, Int.reduceLE, Int.reduceLT, Int.reduceNe, Int.reduceNeg, Int.reduceAdd, Int.reduceSub, Int.reduceMul, not_false_eq_true, not_true_eq_false, false_and, and_false, true_and, and_true, and_self, true_or, or_true, false_or, or_false, if_true, if_false, ite_true, ite_false, mj_tl_some, mj_tl_none, mj_cs0, mj_cs1, mj_cs2, mj_cs3, mj_cs4]
    show wp X (d + 80) 208 0 [(32, 354)] [] M _
    simp only [w208_0, w208_1, w208_4, w208_5, w208_6, w208_7, w208_10, w208_11, c_1_0 h.cs, c_1_1 h.cs, c_1_2 h.cs, c_1_3 h.cs, c_1_4 h.cs, c_1_5 h.cs, c_1_6 h.cs, c_1_7 h.cs, c_1_8 h.cs, c_2_0 h.cs, c_2_1 h.cs, c_5_0 h.cs, c_5_1 h.cs, c_5_2 h.cs, c_5_3 h.cs, c_5_5 h.cs, c_5_8 h.cs, c_5_11 h.cs, c_6_1 h.cs, c_6_2 h.cs, c_6_3 h.cs, c_10_4 h.cs, c_10_5 h.cs, c_10_6 h.cs, c_10_7 h.cs, c_15_1 h.cs, c_17_1 h.cs, c_339_0 h.cs, c_341_0 h.cs, c_341_1 h.cs, c_341_2 h.cs, c_342_4 h.cs, c_342_5 h.cs, c_342_6 h.cs, c_342_7 h.cs, c_347_0 h.cs, c_347_2 h.cs, c_347_3 h.cs, c_349_0 h.cs, c_349_1 h.cs, c_349_2 h.cs, c_351_2 h.cs, c_351_10 h.cs, c_351_12 h.cs, c_354_0 h.cs, c_354_1 h.cs, c_354_2 h.cs, c_354_3 h.cs, c_354_4 h.cs, c_354_5 h.cs, c_354_6 h.cs, c_354_7 h.cs, c_354_8 h.cs, c_354_20 h.cs, c_354_25 h.cs, c_354_26 h.cs, c_354_27 h.cs, c_354_28 h.cs, c_354_32 h.cs, c_354_33 h.cs, c_354_34 h.cs, c_354_35 h.cs, c_354_38 h.cs, l_3 h.cs, l_4 h.cs, l_7 h.cs, l_8 h.cs, l_9 h.cs, l_11 h.cs, l_12 h.cs, l_13 h.cs, l_14 h.cs, l_16 h.cs, l_18 h.cs, l_19 h.cs, l_20 h.cs, l_21 h.cs, l_340 h.cs, l_343 h.cs, l_344 h.cs, l_345 h.cs, l_346 h.cs, l_348 h.cs, l_350 h.cs, l_352 h.cs, l_353 h.cs, l_355 h.cs, l_356 h.cs, l_357 h.cs, l_358 h.cs, l_359 h.cs, l_360 h.cs, l_361 h.cs, l_362 h.cs, l_363 h.cs, l_364 h.cs, l_365 h.cs, l_366 h.cs, l_367 h.cs, l_368 h.cs, l_369 h.cs, l_370 h.cs, l_371 h.cs, l_372 h.cs, l_373 h.cs, h4, ↓reduceIte, hh_wr, hl_wr, b10, b11, ite_not, ne_eq, Int.reduceEq, Int.reduceLE, Int.reduceLT, Int.reduceNe, Int.reduceNeg, Int.reduceAdd, Int.reduceSub, Int.reduceMul, not_false_eq_true, not_true_eq_false, false_and, and_false, true_and, and_true, and_self, true_or, or_true, false_or, or_false, if_true, if_false, ite_true, ite_false, mj_tl_some, mj_tl_none, mj_cs0, mj_cs1, mj_cs2, mj_cs3, mj_cs4]
    exact ⟨-1, rfl, rfl, h, by omega, by omega⟩
  generalize hj : hh M 355 3 = j at *
  have j0 : 0 ≤ j ∧ j < 4 := ⟨n0, by omega⟩
  have g6 : hh M 5 6 = j := h.wr.nt.trans hj
  have hL := h.tp.n
  have hz : Tz (hh M 350) (hh M 354 9) := ⟨h.tp.n0, h.tp.n3, fun i a b => by rw [(h.tp.b i a b).1]; exact (h.tp.b i a b).2⟩
  simp only [w25_0, w25_1, w25_4, w25_7, w25_8, w25_13, w25_14, w25_17, w25_18, w25_21, c_1_0 h.cs, c_1_1 h.cs, c_1_2 h.cs, c_1_3 h.cs, c_1_4 h.cs, c_1_5 h.cs, c_1_6 h.cs, c_1_7 h.cs, c_1_8 h.cs, c_2_0 h.cs, c_2_1 h.cs, c_5_0 h.cs, c_5_1 h.cs, c_5_2 h.cs, c_5_3 h.cs, c_5_5 h.cs, c_5_8 h.cs, c_5_11 h.cs, c_6_1 h.cs, c_6_2 h.cs, c_6_3 h.cs, c_10_4 h.cs, c_10_5 h.cs, c_10_6 h.cs, c_10_7 h.cs, c_15_1 h.cs, c_17_1 h.cs, c_339_0 h.cs, c_341_0 h.cs, c_341_1 h.cs, c_341_2 h.cs, c_342_4 h.cs, c_342_5 h.cs, c_342_6 h.cs, c_342_7 h.cs, c_347_0 h.cs, c_347_2 h.cs, c_347_3 h.cs, c_349_0 h.cs, c_349_1 h.cs, c_349_2 h.cs, c_351_2 h.cs, c_351_10 h.cs, c_351_12 h.cs, c_354_0 h.cs, c_354_1 h.cs, c_354_2 h.cs, c_354_3 h.cs, c_354_4 h.cs, c_354_5 h.cs, c_354_6 h.cs, c_354_7 h.cs, c_354_8 h.cs, c_354_20 h.cs, c_354_25 h.cs, c_354_26 h.cs, c_354_27 h.cs, c_354_28 h.cs, c_354_32 h.cs, c_354_33 h.cs, c_354_34 h.cs, c_354_35 h.cs, c_354_38 h.cs, l_3 h.cs, l_4 h.cs, l_7 h.cs, l_8 h.cs, l_9 h.cs, l_11 h.cs, l_12 h.cs, l_13 h.cs, l_14 h.cs, l_16 h.cs, l_18 h.cs, l_19 h.cs, l_20 h.cs, l_21 h.cs, l_340 h.cs, l_343 h.cs, l_344 h.cs, l_345 h.cs, l_346 h.cs, l_348 h.cs, l_350 h.cs, l_352 h.cs, l_353 h.cs, l_355 h.cs, l_356 h.cs, l_357 h.cs, l_358 h.cs, l_359 h.cs, l_360 h.cs, l_361 h.cs, l_362 h.cs, l_363 h.cs, l_364 h.cs, l_365 h.cs, l_366 h.cs, l_367 h.cs, l_368 h.cs, l_369 h.cs, l_370 h.cs, l_371 h.cs, l_372 h.cs, l_373 h.cs, g6, hL, show j < 4 by omega, ↓reduceIte, hh_wr, hl_wr, b10, b11, ite_not, ne_eq, Int.reduceEq, Int.reduceLE, Int.reduceLT, Int.reduceNe, Int.reduceNeg, Int.reduceAdd, Int.reduceSub, Int.reduceMul, not_false_eq_true, not_true_eq_false, false_and, and_false, true_and, and_true, and_self, true_or, or_true, false_or, or_false, if_true, if_false, ite_true, ite_false, mj_tl_some, mj_tl_none, mj_cs0, mj_cs1, mj_cs2, mj_cs3, mj_cs4]
  refine wc.mono (c_read (X := X) (D := d + 78) (e := d + 67) (t0 := 705 * j) (by omega) h.cs nx0 hz (fun i _ _ => rfl)) ?_
  rintro r M1 (⟨rfl, f1, k, q, ek, k0, eq, bt⟩ | ⟨rfl, n1, z1, y1, l1, ek, eq, n, a, w, c, S, Lf, Ll, h40, nb, cb, pf, pl, gt, x0, x1, x6, lx1, lx2, cc, lf, ll⟩)
  · have c1 := h.cs.fz f1 (by decide)
    simp only [w25_24, w25_25, w25_26, w25_27, w25_30, w25_31, w25_32, w25_35, w25_36, w25_37, w25_40, w25_43, w25_46, w25_47, w25_48, w25_51, w25_54, w25_57, w25_58, w25_61, w25_62, w25_73, c_1_0 c1, c_1_1 c1, c_1_2 c1, c_1_3 c1, c_1_4 c1, c_1_5 c1, c_1_6 c1, c_1_7 c1, c_1_8 c1, c_2_0 c1, c_2_1 c1, c_5_0 c1, c_5_1 c1, c_5_2 c1, c_5_3 c1, c_5_5 c1, c_5_8 c1, c_5_11 c1, c_6_1 c1, c_6_2 c1, c_6_3 c1, c_10_4 c1, c_10_5 c1, c_10_6 c1, c_10_7 c1, c_15_1 c1, c_17_1 c1, c_339_0 c1, c_341_0 c1, c_341_1 c1, c_341_2 c1, c_342_4 c1, c_342_5 c1, c_342_6 c1, c_342_7 c1, c_347_0 c1, c_347_2 c1, c_347_3 c1, c_349_0 c1, c_349_1 c1, c_349_2 c1, c_351_2 c1, c_351_10 c1, c_351_12 c1, c_354_0 c1, c_354_1 c1, c_354_2 c1, c_354_3 c1, c_354_4 c1, c_354_5 c1, c_354_6 c1, c_354_7 c1, c_354_8 c1, c_354_20 c1, c_354_25 c1, c_354_26 c1, c_354_27 c1, c_354_28 c1, c_354_32 c1, c_354_33 c1, c_354_34 c1, c_354_35 c1, c_354_38 c1, l_3 c1, l_4 c1, l_7 c1, l_8 c1, l_9 c1, l_11 c1, l_12 c1, l_13 c1, l_14 c1, l_16 c1, l_18 c1, l_19 c1, l_20 c1, l_21 c1, l_340 c1, l_343 c1, l_344 c1, l_345 c1, l_346 c1, l_348 c1, l_350 c1, l_352 c1, l_353 c1, l_355 c1, l_356 c1, l_357 c1, l_358 c1, l_359 c1, l_360 c1, l_361 c1, l_362 c1, l_363 c1, l_364 c1, l_365 c1, l_366 c1, l_367 c1, l_368 c1, l_369 c1, l_370 c1, l_371 c1, l_372 c1, l_373 c1, ek, eq, w25_32 (w := 1) (Or.inr rfl), ↓reduceIte, hh_wr, hl_wr, b10, b11, ite_not, ne_eq, Int.reduceEq, Int.reduceLE, Int.reduceLT, Int.reduceNe, Int.reduceNeg, Int.reduceAdd, Int.reduceSub, Int.reduceMul, not_false_eq_true, not_true_eq_false, false_and, and_false, true_and, and_true, and_self, true_or, or_true, false_or, or_false, if_true, if_false, ite_true, ite_false, mj_tl_some, mj_tl_none, mj_cs0, mj_cs1, mj_cs2, mj_cs3, mj_cs4]
    generalize hM2 : mj_wr (mj_wr (mj_wr (mj_wr M1 1 9 0) 1 10 1) 1 11 k) 1 12 q = M2
    have f2 : fz [6, 8] M M2 := by
      subst hM2
      exact ((((f1.mono (by decide)).wr (by decide)).wr (by decide)).wr (by decide)).wr (by decide)
    have v9 : hh M2 1 9 = 0 := by subst hM2; rfl
    have v10 : hh M2 1 10 = 1 := by subst hM2; rfl
    have v11 : hh M2 1 11 = k := by subst hM2; rfl
    have v12 : hh M2 1 12 = q := by subst hM2; rfl
    have o6 : ∀ x i, zone x i ≠ 8 → x ≠ 1 → hh M2 x i = hh M x i := fun x i z q1 => by
      subst hM2
      simp only [hh_wr, q1, ↓reduceIte, hh_wr, hl_wr, b10, b11, ite_not, ne_eq, Int.reduceEq, Int.reduceLE, Int.reduceLT, Int.reduceNe, Int.reduceNeg, Int.reduceAdd, Int.reduceSub, Int.reduceMul, not_false_eq_true, not_true_eq_false, false_and, and_false, true_and, and_true, and_self, true_or, or_true, false_or, or_false, if_true, if_false, ite_true, ite_false, mj_tl_some, mj_tl_none, mj_cs0, mj_cs1, mj_cs2, mj_cs3, mj_cs4]
      exact f1.h x i (fun q => z (List.mem_singleton.mp q))
    clear hM2
    have rx : RX M2 (hh M 350) (hh M 354 9) := ⟨h.cs.fz f2 (by decide), o6 354 9 (by decide) (by decide), hz, fun i a b => by rw [o6 363 i (by rw [z_363]; decide) (by decide)]; exact (h.tp.b i a b).1.symm⟩
    refine wc.mono (m_text_bad (e := d + 67) rx (by rw [o6 355 3 (by decide) (by decide)]; exact hj) j0 bt k0) ?_
    rintro r M4 ⟨rfl, M3, fi, rfl⟩
    refine ⟨-1, rfl, rfl, ?_, ?_, ?_⟩
    · have nx4 : nx M3 = nx M := by have := fi.r.n; have := f2.n; unfold nx; omega
      have K3 : ∀ x i, zone x i ≠ 5 → zone x i ≠ 6 → zone x i ≠ 8 → hh M3 x i = hh M x i := fun x i z5 z6 z8 => by
        obtain ⟨a1, a2, a3⟩ := z_rr z5 z8
        rw [fi.r.h x i a1 a2 a3]
        exact f2.h x i (by intro q; rcases List.mem_cons.mp q with q | q; exact z6 q; exact z8 (List.mem_singleton.mp q))
      have K4 : ∀ x i, zone x i ≠ 5 → zone x i ≠ 6 → zone x i ≠ 8 → hh (mj_wr (mj_wr (mj_wr M3 354 10 k) 354 11 q) 354 9 0) x i = hh M x i := fun x i z5 z6 z8 => by
        have a1 : ¬ (x = 354 ∧ i = 9) := fun q => by obtain ⟨rfl, rfl⟩ := q; exact z6 rfl
        have a2 : ¬ (x = 354 ∧ i = 10) := fun q => by obtain ⟨rfl, rfl⟩ := q; exact z6 rfl
        have a3 : ¬ (x = 354 ∧ i = 11) := fun q => by obtain ⟨rfl, rfl⟩ := q; exact z6 rfl
        rw [hh_wr, if_neg a1, hh_wr, if_neg a3, hh_wr, if_neg a2]
        exact K3 x i z5 z6 z8
      have e355 : hh (mj_wr (mj_wr (mj_wr M3 354 10 k) 354 11 q) 354 9 0) 355 = hh M 355 := funext fun i => K4 355 i (by rw [z_355]; decide) (by rw [z_355]; decide) (by rw [z_355]; decide)
      have tx : ∀ i, ¬ (705 * j ≤ i ∧ i < 705 * j + 705) → hh (mj_wr (mj_wr (mj_wr M3 354 10 k) 354 11 q) 354 9 0) 357 i = hh M 357 i := fun i hi => by
        simp only [hh_wr, ↓reduceIte, hh_wr, hl_wr, b10, b11, ite_not, ne_eq, Int.reduceEq, Int.reduceLE, Int.reduceLT, Int.reduceNe, Int.reduceNeg, Int.reduceAdd, Int.reduceSub, Int.reduceMul, not_false_eq_true, not_true_eq_false, false_and, and_false, true_and, and_true, and_self, true_or, or_true, false_or, or_false, if_true, if_false, ite_true, ite_false, mj_tl_some, mj_tl_none, mj_cs0, mj_cs1, mj_cs2, mj_cs3, mj_cs4]
        rw [fi.t i hi]
        exact f2.h _ _ (by rw [z_357]; decide)
      have big : ∀ x i, 373 < x → hh (mj_wr (mj_wr (mj_wr M3 354 10 k) 354 11 q) 354 9 0) x i = hh M x i := fun x i hx => by
        rw [hh_wr, if_neg (by omega), hh_wr, if_neg (by omega), hh_wr, if_neg (by omega), fi.r.h x i (by omega) (by omega) (by omega)]
        exact f2.h _ _ (by rw [z_big hx]; decide)
      have ll : ∀ x, hl (mj_wr (mj_wr (mj_wr M3 354 10 k) 354 11 q) 354 9 0) x = hl M x := fun x => (fi.r.l x).trans (f2.l x)
      have K5 : ∀ x i, 5 ≤ x → x ≤ 171 → x ≠ 9 → hh (mj_wr (mj_wr (mj_wr M3 354 10 k) 354 11 q) 354 9 0) x i = hh M x i := fun x i a b c => by
        have z := zone_5 (x := x) (j := i) a b
        have z2 := wz_or (y := x - 5) (j := i) (by omega)
        refine K4 x i ?_ ?_ ?_ <;> (rw [z]; rcases z2 with z2 | z2 <;> rw [z2] <;> decide)
      refine rr_tx h hj (fun x i _ _ _ z5 z6 z8 => K4 x i z5 z6 z8) (fun x _ => ll x) (fun x i a _ => big x i a) tx (by show nx M ≤ nx M3; omega) ?_ (by rw [e355]; exact h.ai) ?_ ?_ ?_
      · rw [e355]
        exact h.wr.keep (fun x i a b c => K5 x i a (by omega) (by omega))
      · rw [e355, K4 356 3 (by decide) (by decide) (by decide)]; exact h.le
      · rw [e355]
        intro i a b
        rw [K5 20 i (by decide) (by decide) (by decide)]
        exact (h.t5 i a b).keep2 (fun y y0 y1 => tx y (by omega)) (fun x y x0 x1 => ⟨big x y x0, ll x⟩) (by show nx M ≤ nx M3; omega)
      · have w1 : ∀ i, 9 ≤ i → hh (mj_wr (mj_wr (mj_wr M3 354 10 k) 354 11 q) 354 9 0) 1 i = hh M2 1 i := fun i _ => by
          rw [hh_wr, if_neg (by omega), hh_wr, if_neg (by omega), hh_wr, if_neg (by omega)]
          exact fi.r.h _ _ (by decide) (by decide) (by omega)
        refine ⟨by show (0 : Int) ≤ 0; decide, by show (0 : Int) ≤ 300; decide, (w1 9 (by decide)).trans v9, fun i a b => ?_, Or.inr ⟨(w1 10 (by decide)).trans v10, (w1 11 (by decide)).trans v11, (w1 12 (by decide)).trans v12⟩, ?_⟩
        · have : hh (mj_wr (mj_wr (mj_wr M3 354 10 k) 354 11 q) 354 9 0) 354 9 = 0 := rfl
          omega
        · show hh M3 354 36 = 1
          rw [fi.r.h _ _ (by decide) (by decide) (by decide), o6 354 36 (by decide) (by decide)]
          exact h.tp.w
    · show M3.1 ≤ M.1 + 3
      have := fi.r.n; have := f2.n; omega
    · show M3.2.1 ≤ M.2.1 + 500
      have := fi.r.s; have := f2.s; omega
  · have c1 : CS M1 := cs_of h.cs (fun x i hx z => y1 x i (by omega) (by rw [z]; decide)) (fun x hx => l1 x (by omega))
    have hn1 : nx M1 = nx M + 3 := by unfold nx; omega
    generalize hr : nx M + 1 = r at *
    have g56 : hh M1 5 6 = j := by rw [y1 5 6 (by omega) (by decide)]; exact g6
    have cW : CS (mj_wr (mj_wr (mj_wr (mj_wr M1 1 9 0) 1 10 1) 1 11 0) 1 12 (-1)) := c1.fz ((((fz.rfl'.wr (zs := [6]) (by decide)).wr (by decide)).wr (by decide)).wr (by decide)) (by decide)
    have ad := fun Q => c_addText (X := X) (D := d + 79) (r := r) (j := j) (Q := Q) cW (by simp only [hh_wr, g56, ↓reduceIte, hh_wr, hl_wr, b10, b11, ite_not, ne_eq, Int.reduceEq, Int.reduceLE, Int.reduceLT, Int.reduceNe, Int.reduceNeg, Int.reduceAdd, Int.reduceSub, Int.reduceMul, not_false_eq_true, not_true_eq_false, false_and, and_false, true_and, and_true, and_self, true_or, or_true, false_or, or_false, if_true, if_false, ite_true, ite_false, mj_tl_some, mj_tl_none, mj_cs0, mj_cs1, mj_cs2, mj_cs3, mj_cs4]) j0 (by omega)
    simp only [w25_24, w25_25, w25_26, w25_27, w25_30, w25_31, w25_32, w25_35, w25_36, w25_37, w25_40, w25_43, w25_46, w25_47, w25_48, w25_51, w25_54, w25_57, w25_58, w25_61, w25_62, w25_65, w25_66, w25_69, w25_70, w25_73, c_1_0 c1, c_1_1 c1, c_1_2 c1, c_1_3 c1, c_1_4 c1, c_1_5 c1, c_1_6 c1, c_1_7 c1, c_1_8 c1, c_2_0 c1, c_2_1 c1, c_5_0 c1, c_5_1 c1, c_5_2 c1, c_5_3 c1, c_5_5 c1, c_5_8 c1, c_5_11 c1, c_6_1 c1, c_6_2 c1, c_6_3 c1, c_10_4 c1, c_10_5 c1, c_10_6 c1, c_10_7 c1, c_15_1 c1, c_17_1 c1, c_339_0 c1, c_341_0 c1, c_341_1 c1, c_341_2 c1, c_342_4 c1, c_342_5 c1, c_342_6 c1, c_342_7 c1, c_347_0 c1, c_347_2 c1, c_347_3 c1, c_349_0 c1, c_349_1 c1, c_349_2 c1, c_351_2 c1, c_351_10 c1, c_351_12 c1, c_354_0 c1, c_354_1 c1, c_354_2 c1, c_354_3 c1, c_354_4 c1, c_354_5 c1, c_354_6 c1, c_354_7 c1, c_354_8 c1, c_354_20 c1, c_354_25 c1, c_354_26 c1, c_354_27 c1, c_354_28 c1, c_354_32 c1, c_354_33 c1, c_354_34 c1, c_354_35 c1, c_354_38 c1, l_3 c1, l_4 c1, l_7 c1, l_8 c1, l_9 c1, l_11 c1, l_12 c1, l_13 c1, l_14 c1, l_16 c1, l_18 c1, l_19 c1, l_20 c1, l_21 c1, l_340 c1, l_343 c1, l_344 c1, l_345 c1, l_346 c1, l_348 c1, l_350 c1, l_352 c1, l_353 c1, l_355 c1, l_356 c1, l_357 c1, l_358 c1, l_359 c1, l_360 c1, l_361 c1, l_362 c1, l_363 c1, l_364 c1, l_365 c1, l_366 c1, l_367 c1, l_368 c1, l_369 c1, l_370 c1, l_371 c1, l_372 c1, l_373 c1, ek, eq, w25_32 (w := 1) (Or.inr rfl), ad, show ¬ r = 0 by omega, ↓reduceIte, hh_wr, hl_wr, b10, b11, ite_not, ne_eq, Int.reduceEq, Int.reduceLE, Int.reduceLT, Int.reduceNe, Int.reduceNeg, Int.reduceAdd, Int.reduceSub, Int.reduceMul, not_false_eq_true, not_true_eq_false, false_and, and_false, true_and, and_true, and_self, true_or, or_true, false_or, or_false, if_true, if_false, ite_true, ite_false, mj_tl_some, mj_tl_none, mj_cs0, mj_cs1, mj_cs2, mj_cs3, mj_cs4]
    generalize hM2 : mj_wr (mj_wr (mj_wr (mj_wr (mj_wr (mj_wr M1 1 9 0) 1 10 1) 1 11 0) 1 12 (-1)) 20 j r) 5 6 (j + 1) = M2
    have v9 : hh M2 1 9 = 0 := by subst hM2; rfl
    have v10 : hh M2 1 10 = 1 := by subst hM2; rfl
    have v11 : hh M2 1 11 = 0 := by subst hM2; rfl
    have v12 : hh M2 1 12 = -1 := by subst hM2; rfl
    have v6 : hh M2 5 6 = j + 1 := by subst hM2; simp only [hh_wr, ↓reduceIte, hh_wr, hl_wr, b10, b11, ite_not, ne_eq, Int.reduceEq, Int.reduceLE, Int.reduceLT, Int.reduceNe, Int.reduceNeg, Int.reduceAdd, Int.reduceSub, Int.reduceMul, not_false_eq_true, not_true_eq_false, false_and, and_false, true_and, and_true, and_self, true_or, or_true, false_or, or_false, if_true, if_false, ite_true, ite_false, mj_tl_some, mj_tl_none, mj_cs0, mj_cs1, mj_cs2, mj_cs3, mj_cs4]
    have v20 : hh M2 20 j = r := by subst hM2; simp only [hh_wr, ↓reduceIte, hh_wr, hl_wr, b10, b11, ite_not, ne_eq, Int.reduceEq, Int.reduceLE, Int.reduceLT, Int.reduceNe, Int.reduceNeg, Int.reduceAdd, Int.reduceSub, Int.reduceMul, not_false_eq_true, not_true_eq_false, false_and, and_false, true_and, and_true, and_self, true_or, or_true, false_or, or_false, if_true, if_false, ite_true, ite_false, mj_tl_some, mj_tl_none, mj_cs0, mj_cs1, mj_cs2, mj_cs3, mj_cs4]
    have v20' : ∀ i, i ≠ j → hh M2 20 i = hh M1 20 i := fun i hi => by subst hM2; simp only [hh_wr, hi, ↓reduceIte, hh_wr, hl_wr, b10, b11, ite_not, ne_eq, Int.reduceEq, Int.reduceLE, Int.reduceLT, Int.reduceNe, Int.reduceNeg, Int.reduceAdd, Int.reduceSub, Int.reduceMul, not_false_eq_true, not_true_eq_false, false_and, and_false, true_and, and_true, and_self, true_or, or_true, false_or, or_false, if_true, if_false, ite_true, ite_false, mj_tl_some, mj_tl_none, mj_cs0, mj_cs1, mj_cs2, mj_cs3, mj_cs4]
    have o2 : ∀ x i, x ≠ 1 → x ≠ 20 → ¬ (x = 5 ∧ i = 6) → hh M2 x i = hh M1 x i := fun x i q1 q2 q3 => by
      subst hM2
      rw [hh_wr, if_neg q3, hh_wr, if_neg (fun q => q2 q.1), hh_wr, if_neg (fun q => q1 q.1), hh_wr, if_neg (fun q => q1 q.1), hh_wr, if_neg (fun q => q1 q.1), hh_wr, if_neg (fun q => q1 q.1)]
    have ol : ∀ x, hl M2 x = hl M1 x := fun x => by subst hM2; rfl
    have on : M2.1 = M1.1 ∧ M2.2.1 = M1.2.1 := by subst hM2; exact ⟨rfl, rfl⟩
    have f12 : fz [1, 6] M1 M2 := by
      subst hM2
      exact (((((fz.rfl'.wr (by decide)).wr (by decide)).wr (by decide)).wr (by decide)).wr (show zone 20 j ∈ [1, 6] from List.mem_cons_self ..)).wr (by decide)
    clear hM2 ad cW
    have c2 : CS M2 := c1.fz f12 (by decide)
    have t12 : ∀ x i, x ≤ nx M → zone x i ≠ 1 → zone x i ≠ 6 → zone x i ≠ 8 → hh M2 x i = hh M x i := fun x i hx z1 z6 z8 => by
      rw [f12.h x i (by intro q; rcases List.mem_cons.mp q with q | q; exact z1 q; exact z6 (List.mem_singleton.mp q))]
      exact y1 x i hx z8
    have rx : RX M2 (hh M 350) (hh M 354 9) := ⟨c2, by rw [o2 354 9 (by decide) (by decide) (by decide)]; exact y1 354 9 (by omega) (by decide), hz, fun i a b => by rw [o2 363 i (by decide) (by decide) (by omega), y1 363 i (by omega) (by rw [z_363]; decide)]; exact (h.tp.b i a b).1.symm⟩
    refine wc.mono (m_text_ok (e := d + 67) rx (by rw [o2 355 3 (by decide) (by decide) (by decide), y1 355 3 (by omega) (by decide)]; exact hj) j0 gt h40) ?_
    rintro r' M4 ⟨rfl, M3, rc, rd, rlf, rll, fi, rfl⟩
    refine ⟨j, rfl, rfl, ?_, ?_, ?_⟩
    · have nx3 : nx M3 = nx M + 3 := by have := fi.r.n; have := on.1; unfold nx at hn1 ⊢; omega
      have K3 : ∀ x i, x ≤ nx M → zone x i ≠ 1 → zone x i ≠ 5 → zone x i ≠ 6 → zone x i ≠ 8 → hh M3 x i = hh M x i := fun x i hx z1 z5 z6 z8 => by
        obtain ⟨a1, a2, a3⟩ := z_rr z5 z8
        rw [fi.r.h x i a1 a2 a3]
        exact t12 x i hx z1 z6 z8
      generalize hM4 : mj_wr (mj_wr (mj_wr (mj_wr M3 354 10 0) 354 11 (-1)) 354 9 0) 355 3 (j + 1) = M4
      have w0 : ∀ x i, ¬ (x = 354 ∧ 9 ≤ i ∧ i ≤ 11) → ¬ (x = 355 ∧ i = 3) → hh M4 x i = hh M3 x i := fun x i q1 q2 => by
        subst hM4
        rw [hh_wr, if_neg q2, hh_wr, if_neg (by omega), hh_wr, if_neg (by omega), hh_wr, if_neg (by omega)]
      have w10 : hh M4 354 10 = 0 := by subst hM4; rfl
      have w11 : hh M4 354 11 = -1 := by subst hM4; rfl
      have w9 : hh M4 354 9 = 0 := by subst hM4; rfl
      have w3 : hh M4 355 3 = j + 1 := by subst hM4; rfl
      have wl : ∀ x, hl M4 x = hl M3 x := fun x => by subst hM4; rfl
      have wn : nx M4 = nx M3 := by subst hM4; rfl
      clear hM4
      have K4 : ∀ x i, x ≤ nx M → zone x i ≠ 1 → zone x i ≠ 3 → zone x i ≠ 5 → zone x i ≠ 6 → zone x i ≠ 8 → hh M4 x i = hh M x i := fun x i hx z1 z3 z5 z6 z8 => by
        rw [w0 x i (fun q => by obtain ⟨rfl, q⟩ := q; rcases (show i = 9 ∨ i = 10 ∨ i = 11 by omega) with rfl | rfl | rfl <;> exact z6 rfl) (fun q => by obtain ⟨rfl, rfl⟩ := q; exact z3 rfl)]
        exact K3 x i hx z1 z5 z6 z8
      have q355 : ∀ i, i ≠ 3 → hh M4 355 i = hh M 355 i := fun i hi => by
        rw [w0 355 i (by omega) (by omega)]
        exact K3 355 i (by omega) (by rw [z_355]; decide) (by rw [z_355]; decide) (by rw [z_355]; decide) (by rw [z_355]; decide)
      have tx : ∀ i, ¬ (705 * j ≤ i ∧ i < 705 * j + 705) → hh M4 357 i = hh M 357 i := fun i hi => by
        rw [w0 357 i (by omega) (by omega), fi.t i hi, o2 357 i (by decide) (by decide) (by omega)]
        exact y1 357 i (by omega) (by rw [z_357]; decide)
      have new : ∀ x i, 373 < x → hh M4 x i = hh M1 x i := fun x i hx => by
        rw [w0 x i (by omega) (by omega), fi.r.h x i (by omega) (by omega) (by omega), o2 x i (by omega) (by omega) (by omega)]
      have big : ∀ x i, 373 < x → x ≤ nx M → hh M4 x i = hh M x i := fun x i hx hx2 => by
        rw [new x i hx]; exact y1 x i hx2 (by rw [z_big hx]; decide)
      have L4 : ∀ x, hl M4 x = hl M1 x := fun x => by rw [wl, fi.r.l, ol]
      have ll4 : ∀ x, x ≤ nx M → hl M4 x = hl M x := fun x hx => by rw [L4]; exact l1 x hx
      have K5 : ∀ x i, 5 ≤ x ∧ x ≤ 171 ∧ x ≠ 9 ∧ x ≠ 20 ∧ ¬ (x = 5 ∧ i = 6) → hh M4 x i = hh M x i := fun x i hx => by
        obtain ⟨a, b, c, e, f⟩ := hx
        have z := zone_5 (x := x) (j := i) a b
        have z2 := wz_or (y := x - 5) (j := i) (by omega)
        rw [w0 x i (by omega) (by omega), fi.r.h x i (by omega) (by omega) (by omega), o2 x i (by omega) e f]
        exact y1 x i (by omega) (by rw [z]; rcases z2 with z2 | z2 <;> rw [z2] <;> decide)
      have e56 : hh M4 5 6 = j + 1 := by rw [w0 5 6 (by decide) (by decide), fi.r.h 5 6 (by decide) (by decide) (by decide)]; exact v6
      have e20 : ∀ i, hh M4 20 i = hh M2 20 i := fun i => by rw [w0 20 i (by omega) (by omega), fi.r.h 20 i (by decide) (by decide) (by omega)]
      have le := h.le
      have aL := rc.rl.aL
      have l9 := rc.rl.x.tz.l9
      have wa := rc.w0
      have s357 : ∀ i, hh M4 357 i = hh M3 357 i := fun i => w0 357 i (by omega) (by omega)
      have trN : TR M4 r j := by
        have er : hh M4 r = hh M1 r := funext fun i => new r i (by omega)
        have er1 : hh M4 (r + 1) = hh M1 (r + 1) := funext fun i => new (r + 1) i (by omega)
        have er2 : hh M4 (r + 2) = hh M1 (r + 2) := funext fun i => new (r + 2) i (by omega)
        refine TR.mk (n := n) (w := w) (c := c) (S := S) (Lf := Lf) (Ll := Ll) (by omega) (by omega) nb cb.2 (by omega) pf pl (by rw [er]; exact x0) (by rw [er]; exact x1) (by rw [er]; exact x6) (by rw [L4]; exact lx1) (by rw [L4]; exact lx2) (by rw [er1]; exact cc) (by rw [er, er2]; exact lf) (by rw [er, er2]; exact ll) (by rw [s357]; exact rc.n) (rd.keep (fun i _ => s357 i)) (rlf.keep pf (fun i _ => s357 i)) (rll.keep pl (fun i _ => s357 i))
      refine rr_tx h hj (fun x i hx z1 z3 z5 z6 z8 => K4 x i (by omega) z1 z3 z5 z6 z8) ll4 big tx (by omega) ?_ ?_ ?_ ?_ ?_
      · have hw := h.wr
        have ha := h.ai
        exact ⟨((K5 6 0 (by omega)).trans (hw.nf.trans (q355 0 (by omega)).symm)), (fun i a b => (K5 7 i (by omega)).trans ((hw.fk i a b).trans (q355 (41 + 2 * i) (by omega)).symm)), (fun i a b => (K5 8 i (by omega)).trans ((hw.fl i a b).trans (q355 (42 + 2 * i) (by omega)).symm)), ((hw.now.keep (fun x j a b => Or.inl (K5 x j (by omega)))).eq (mn_eq ha.now (fun j hj => q355 j (by omega)))), ((K5 5 4 (by omega)).trans (hw.ns.trans (q355 2 (by omega)).symm)), (fun i a b => by have := ha.s4; rw [q355 2 (by omega)] at b; exact (K5 19 i (by omega)).trans ((hw.st i a b).trans (q355 (57 + i) (by omega)).symm)), (e56.trans w3.symm), ((K5 5 7 (by omega)).trans (hw.ru.trans (q355 4 (by omega)).symm)), ((K5 5 9 (by omega)).trans (hw.np.trans (q355 5 (by omega)).symm)), (by rw [K5 5 10 (by omega)]; exact hw.e0), (by rw [K5 5 10 (by omega)]; exact hw.e3), (fun i a b => by have := ha.n3; rw [q355 5 (by omega)] at b; rw [K5 5 10 (by omega)]; exact ((hw.sp i a b).keep (fun x j a b => Or.inl (K5 x j (by omega)))).eq (ms_eq (ha.sp i a b) ⟨a, by omega⟩ (fun j j1 j2 => q355 j (by omega)))), ((K5 15 0 (by omega)).trans (hw.nd.trans (q355 6 (by omega)).symm)), (fun i a b k c e => by have := ha.d8; rw [q355 6 (by omega)] at b; exact (K5 16 _ (by omega)).trans ((hw.d i a b k c e).trans (q355 _ (by omega)).symm)), ((K5 17 0 (by omega)).trans (hw.ne.trans (q355 7 (by omega)).symm)), (fun i a b k c e => by have := ha.e8; rw [q355 7 (by omega)] at b; exact (K5 18 _ (by omega)).trans ((hw.e i a b k c e).trans (q355 _ (by omega)).symm))⟩
      · have ha := h.ai
        exact ⟨(by rw [q355 0 (by omega)]; exact ha.f0), (by rw [q355 0 (by omega)]; exact ha.f8), (fun i a b => by rw [q355 (41 + 2 * i) (by omega)]; exact ha.fk i a b), (fun i a b => by rw [q355 (42 + 2 * i) (by omega)]; exact ha.fl i a b), (fun i a b => by have := ha.f8; rw [q355 0 (by omega)] at b; rw [q355 (42 + 2 * i) (by omega)]; exact ha.fl1 i a b), (by rw [q355 0 (by omega)]; exact ha.now.eq (mn_eq ha.now (fun j hj => q355 j (by omega)))), (fun p a b => by have h6 : _ ≤ (6 : Int) := ha.now.p6; rw [q355 1 (by omega)] at b; have hp5 : p < 6 := Int.lt_of_lt_of_le b h6; rw [q355 0 (by omega), q355 (14 + 5 * p) (by omega), q355 (15 + 5 * p) (by omega)]; exact ha.tl p a b), (by rw [q355 2 (by omega)]; exact ha.s0), (by rw [q355 2 (by omega)]; exact ha.s4), (fun i a b => by have := ha.s4; rw [q355 2 (by omega)] at b; rw [q355 (57 + i) (by omega)]; exact ha.st i a b), (by rw [w3]; omega), (by rw [w3]; omega), (by rw [q355 4 (by omega)]; exact ha.r0), (by rw [q355 4 (by decide), w3]; have := ha.r4; omega), (by rw [q355 5 (by omega)]; exact ha.n0), (by rw [q355 5 (by omega)]; exact ha.n3), (fun i a b => by have := ha.n3; rw [q355 5 (by omega)] at b; rw [q355 0 (by omega)]; exact (ha.sp i a b).eq (ms_eq (ha.sp i a b) ⟨a, by omega⟩ (fun j j1 j2 => q355 j (by omega)))), (fun i a b => by have := ha.n3; rw [q355 5 (by omega)] at b; rw [(ms_eq (ha.sp i a b) ⟨a, by omega⟩ (fun j j1 j2 => q355 j (by omega))).P, (mnx_eq ha ⟨a, b⟩ (q355 5 (by omega)) (fun j j1 j2 => q355 j (by omega)) (fun j hj => q355 j (by omega))).P]; exact ha.sm i a b), (fun i a b p c e => by have := ha.n3; rw [q355 5 (by omega)] at b; have g := mnx_eq ha ⟨a, b⟩ (q355 5 (by omega)) (fun j j1 j2 => q355 j (by omega)) (fun j hj => q355 j (by omega)); have g0 := (ms_eq (ha.sp i a b) ⟨a, by omega⟩ (fun j j1 j2 => q355 j (by omega))).P; rw [g0] at c; rw [g.P] at e; have u0 := (ha.sp i a b).p0; have u6 := (mnx_P ha ⟨a, b⟩).p6; have hp5 : p < 6 := Int.lt_of_lt_of_le e u6; have hp0 : 0 ≤ p := Int.le_trans u0 c; exact (ha.ti i a b p c e).eq g ⟨hp0, e⟩ (q355 _ (by omega)) (q355 _ (by omega))), (by rw [q355 6 (by omega)]; exact ha.d0), (by rw [q355 6 (by omega)]; exact ha.d8), (fun i a b => by have := ha.d8; rw [q355 6 (by omega)] at b; rw [q355 (61 + 3 * i) (by omega), q355 (62 + 3 * i) (by omega), q355 (63 + 3 * i) (by omega)]; exact ha.d i a b), (by rw [q355 7 (by omega)]; exact ha.e0), (by rw [q355 7 (by omega)]; exact ha.e8), (fun i a b => by have := ha.e8; rw [q355 7 (by omega)] at b; rw [q355 (85 + 2 * i) (by omega), q355 (86 + 2 * i) (by omega), q355 1 (by omega)]; exact ha.e i a b)⟩
      · rw [w3, K4 356 3 (by omega) (by decide) (by decide) (by decide) (by decide) (by decide)]; omega
      · rw [w3]
        intro i a b
        rw [e20]
        by_cases hi : i = j
        · rw [hi, v20]; exact trN
        · rw [v20' i hi, y1 20 i (by omega) (by show wz 15 i ≠ 8; rcases wz_or (y := 15) (j := i) (by decide) with z | z <;> rw [z] <;> decide)]
          exact (h.t5 i a (by omega)).keep2 (fun y y0 y1' => tx y (by omega)) (fun x y x0 x1 => ⟨big x y x0 x1, ll4 x x1⟩) (by omega)
      · have u1 : ∀ i, hh M4 1 i = hh M2 1 i := fun i => by rw [w0 1 i (by omega) (by omega), fi.r.h 1 i (by decide) (by decide) (by omega)]
        refine ⟨by rw [w9]; exact Int.le_refl _, by rw [w9]; decide, by rw [u1, w9]; exact v9, fun i a b => by rw [w9] at b; omega, Or.inr ⟨by rw [u1]; exact v10, by rw [u1, w10]; exact v11, by rw [u1, w11]; exact v12⟩, ?_⟩
        rw [w0 354 36 (by decide) (by decide), fi.r.h 354 36 (by decide) (by decide) (by decide), o2 354 36 (by decide) (by decide) (by decide), y1 354 36 (by omega) (by decide)]
        exact h.tp.w
    · show M3.1 ≤ M.1 + 3
      have := fi.r.n; have := on.1; omega
    · show M3.2.1 ≤ M.2.1 + 500
      have := fi.r.s; have := on.2; omega
end Text5
