/-! TEXT: the class makes a text -/
def CCf (f : Int → Int) (n : Int) (S : Int → Int → Int) : Prop := ∀ k, 0 ≤ k → k < n → (0 ≤ S k 0 ∧ S k 0 ≤ 8) ∧ f (4 * k) = srt (S k 0) ∧ (2 ≤ S k 0 → (f (4 * k + 1) = S k 1 ∧ f (4 * k + 2) = S k 2 ∧ f (4 * k + 3) = S k 3) ∧ (0 ≤ S k 1 ∧ S k 1 ≤ 255) ∧ (S k 0 = 8 → 1 ≤ S k 1 ∧ S k 1 ≤ 60) ∧ (0 ≤ S k 2 ∧ S k 2 ≤ 255) ∧ (0 ≤ S k 3 ∧ S k 3 ≤ 255))
def LCf (g : Int → Int) (fo : Int) (h : Int → Int) : Option LD → Prop
  | none => g fo = -1
  | some (_, _, cf, cl, _, _) => g fo = cf ∧ g (fo + 1) = cf + cl.length ∧ stands h cf cl
theorem CC.f {M : mj_M} {n : Int} {S : Int → Int → Int} {f : Int → Int} (h : CC M n S) (g : ∀ j, 0 ≤ j → j < 4 * n → f j = hh M 352 j) : CCf f n S := fun k a b => by
  obtain ⟨h1, h2, h3⟩ := h k a b
  refine ⟨h1, (g _ (by omega) (by omega)).trans h2, fun q => ?_⟩
  obtain ⟨⟨x1, x2, x3⟩, y⟩ := h3 q
  exact ⟨⟨(g _ (by omega) (by omega)).trans x1, (g _ (by omega) (by omega)).trans x2, (g _ (by omega) (by omega)).trans x3⟩, y⟩
theorem LCr.f {M : mj_M} {fo fo' c n w s : Int} {S : Int → Int → Int} {g h : Int → Int} : ∀ {l : Option LD}, LCr M fo l → LPr n w c S s l → g fo' = hh M 351 fo → g (fo' + 1) = hh M 351 (fo + 1) → (∀ j, 0 ≤ j → j < c → h j = hh M 353 j) → LCf g fo' h l
  | none, x, _, e1, _, _ => e1.trans x
  | some (k, wf, cf, cl, rl, f), x, p, e1, e2, y => by
    obtain ⟨h1, h2, h3⟩ := x
    obtain ⟨_, _, _, _, _, p6, p7, _⟩ := p
    exact ⟨e1.trans h1, e2.trans h2, h3.keep (fun j a b => y j (by omega) (by omega))⟩
section Read
variable {X : mj_X} {D e : Nat} {M : mj_M} {T : Int → Int} {L t0 a c n w k q s : Int} {S : Int → Int → Int} {Lf Ll : Option LD} {Q : Option mj_V → mj_M → Prop}
theorem c_copyOf {x n : Int} (hx : x ≠ 0) (hxn : x ≤ nx M) (hn : 0 ≤ n ∧ n ≤ hl M x) (h3 : hl M x ≤ 300) : wc X (D + 1) 68 [(3, x), (0, n)] M (fun r M1 => r = some (3, nx M + 1) ∧ M1.1 = M.1 + 1 ∧ M1.2.1 = M.2.1 + n.toNat ∧ hl M1 (nx M + 1) = n ∧ (∀ j, 0 ≤ j → j < n → hh M1 (nx M + 1) j = hh M x j) ∧ (∀ y, y ≤ nx M → (∀ j, hh M1 y j = hh M y j) ∧ hl M1 y = hl M y)) := by
  show wp X (D + 1) 68 0 [(3, x), (0, n), (9, 0)] [] M _
  have nx0 : 0 ≤ nx M := Int.natCast_nonneg _
  by_cases e : n = hl M x
  · simp only [w68_0, w68_1, w68_2, w68_3, w68_6, w68_7, w68_10, w68_13, hx, e, nx_def, show ¬ nx M + 1 = 0 by omega, ↓reduceIte, hh_wr, hl_wr, b10, b11, ite_not, ne_eq, Int.reduceEq, Int.reduceLE, Int.reduceLT, Int.reduceNe, Int.reduceNeg, Int.reduceAdd, Int.reduceSub, Int.reduceMul, not_false_eq_true, not_true_eq_false, false_and, and_false, true_and, and_true, and_self, true_or, or_true, false_or, or_false, if_true, if_false, ite_true, ite_false, mj_tl_some, mj_tl_none, mj_cs0, mj_cs1, mj_cs2, mj_cs3, mj_cs4]
    refine ⟨rfl, rfl, ?_, fun j _ _ => ?_, fun y hy => ⟨fun j => ?_, ?_⟩⟩
    · rw [hl_nx, if_pos rfl]
    · rw [hh_nx, if_pos rfl]
    · rw [hh_nx, if_neg (by omega)]
    · rw [hl_nx, if_neg (by omega)]
  · have l1 : hl (mj_nw M 3 n (fun _ => 0)) x = hl M x := by rw [hl_nx, if_neg (by omega)]
    have l2 : hl (mj_nw M 3 n (fun _ => 0)) (nx M + 1) = n := by rw [hl_nx, if_pos rfl]
    have mn : (if hl M x ≤ n then hl M x else n) = n := by split <;> omega
    simp only [w68_0, w68_1, w68_2, w68_3, w68_14, w68_15, w68_17, w68_18, w68_19, w68_20, w68_21, w68_22, w68_23, w68_24, w68_25, w68_28, w68_31, w68_32, hx, e, nx_def, l1, l2, c_min, mn, hn.1, show n ≤ 100000 by omega, show ¬ nx M + 1 = 0 by omega, show 0 + n ≤ hl M x by omega, show 0 + n ≤ n by omega, Int.le_refl, ↓reduceIte, hh_wr, hl_wr, b10, b11, ite_not, ne_eq, Int.reduceEq, Int.reduceLE, Int.reduceLT, Int.reduceNe, Int.reduceNeg, Int.reduceAdd, Int.reduceSub, Int.reduceMul, not_false_eq_true, not_true_eq_false, false_and, and_false, true_and, and_true, and_self, true_or, or_true, false_or, or_false, if_true, if_false, ite_true, ite_false, mj_tl_some, mj_tl_none, mj_cs0, mj_cs1, mj_cs2, mj_cs3, mj_cs4]
    refine ⟨rfl, rfl, ?_, fun j j0 j1 => ?_, fun y hy => ⟨fun j => ?_, ?_⟩⟩
    · rw [hl_cp]; exact l2
    · rw [hh_cp, if_pos ⟨rfl, j0, by omega⟩, hh_nx, if_neg (by omega), show 0 + (j - 0) = j by omega]
    · rw [hh_cp, if_neg (by omega), hh_nx, if_neg (by omega)]
    · rw [hl_cp, hl_nx, if_neg (by omega)]
theorem c_textI {r x y f1 f2 f3 f4 : Int} (hr : r ≠ 0) (hx : x ≠ 0) (hl4 : hl M x = 4 * n) (n0 : 0 ≤ n ∧ n ≤ 24) : wc X D 69 [(28, r), (3, x), (3, y), (0, f1), (0, f2), (0, f3), (0, f4)] M (fun q M1 => q = none ∧ M1.1 = M.1 ∧ M1.2.1 = M.2.1 ∧ (∀ z, hl M1 z = hl M z) ∧ (∀ z j, z ≠ r → hh M1 z j = hh M z j) ∧ hh M1 r 0 = n ∧ hh M1 r 1 = y ∧ hh M1 r 2 = f1 ∧ hh M1 r 3 = f2 ∧ hh M1 r 4 = f3 ∧ hh M1 r 5 = f4 ∧ hh M1 r 6 = x) := by
  show wp X D 69 0 [(28, r), (3, x), (3, y), (0, f1), (0, f2), (0, f3), (0, f4)] [] M _
  have dv : ji_div (4 * n) 4 = n := by rw [ji_div_nn ⟨by omega, by omega⟩ ⟨by decide, by decide⟩ (by omega)]; omega
  simp only [w69_0, w69_1, w69_4, w69_5, w69_6, w69_7, w69_8, w69_9, w69_12, w69_13, w69_14, w69_17, w69_18, w69_19, w69_22, w69_23, w69_24, w69_27, w69_28, w69_30, w69_33, w69_34, w69_36, w69_39, w69_40, w69_42, w69_45, hr, hx, hl4, dv, ↓reduceIte, hh_wr, hl_wr, b10, b11, ite_not, ne_eq, Int.reduceEq, Int.reduceLE, Int.reduceLT, Int.reduceNe, Int.reduceNeg, Int.reduceAdd, Int.reduceSub, Int.reduceMul, not_false_eq_true, not_true_eq_false, false_and, and_false, true_and, and_true, and_self, true_or, or_true, false_or, or_false, if_true, if_false, ite_true, ite_false, mj_tl_some, mj_tl_none, mj_cs0, mj_cs1, mj_cs2, mj_cs3, mj_cs4]
  refine ⟨rfl, rfl, fun _ => trivial, fun z j hz => ?_⟩
  simp only [hz, ↓reduceIte, hh_wr, hl_wr, b10, b11, ite_not, ne_eq, Int.reduceEq, Int.reduceLE, Int.reduceLT, Int.reduceNe, Int.reduceNeg, Int.reduceAdd, Int.reduceSub, Int.reduceMul, not_false_eq_true, not_true_eq_false, false_and, and_false, true_and, and_true, and_self, true_or, or_true, false_or, or_false, if_true, if_false, ite_true, ite_false, mj_tl_some, mj_tl_none, mj_cs0, mj_cs1, mj_cs2, mj_cs3, mj_cs4]
/-- all clauses -/
theorem c_readL (hD : 76 ≤ D) {M0 : mj_M} : ∀ (m i : Nat) (M : mj_M) (v : mj_V), i + m = 25 → Cq M0 M → ((∃ a, Sx X e T L t0 (i : Int) M a) ∨ Fx X e T L t0 M) → (∀ M1, Cq M0 M1 → ((∃ n a, Sx X e T L t0 n M1 a ∧ tK T L a = 40) ∨ Fx X e T L t0 M1) → ∀ (i : Int) (v : mj_V), wp X (D + 1) 26 94 [(26, 351), (0, L), (0, i), v] [] M1 Q) → wp X (D + 1) 26 11 [(26, 351), (0, L), (0, (i : Int)), v] [] M Q := by
  intro m
  induction m with
  | zero =>
    intro i M v hi r0 hS k
    have : i = 25 := by omega
    subst this
    rcases hS with ⟨a, w, c, S, Lf, Ll, ct, _⟩ | hF
    · exact absurd ct.n0.2 (by decide)
    · rw [w26_11]
      simp only [w26_12, w26_14, show ¬ (((25 : Nat) : Int) ≤ 24) by decide, show (24 : Int) < ((25 : Nat) : Int) by decide, ↓reduceIte, hh_wr, hl_wr, b10, b11, ite_not, ne_eq, Int.reduceEq, Int.reduceLE, Int.reduceLT, Int.reduceNe, Int.reduceNeg, Int.reduceAdd, Int.reduceSub, Int.reduceMul, not_false_eq_true, not_true_eq_false, false_and, and_false, true_and, and_true, and_self, true_or, or_true, false_or, or_false, if_true, if_false, ite_true, ite_false, mj_tl_some, mj_tl_none, mj_cs0, mj_cs1, mj_cs2, mj_cs3, mj_cs4]
      exact k M r0 (Or.inr hF) _ _
  | succ m ih =>
    intro i M v hi r0 hS k
    rcases hS with ⟨a, hS⟩ | hF
    · obtain ⟨w, c, S, Lf, Ll, ct, pf, pl, w0, g⟩ := hS
      by_cases h40 : tK T L a = 40
      · rw [w26_11]
        simp only [w26_12, w26_14, w26_17, w26_18, w26_21, w26_24, w26_25, w26_28, w26_30, ct.p.f0, ct.p.e6, h40, show (i : Int) ≤ 24 by omega, show ¬ (24 : Int) < (i : Int) by omega, ↓reduceIte, hh_wr, hl_wr, b10, b11, ite_not, ne_eq, Int.reduceEq, Int.reduceLE, Int.reduceLT, Int.reduceNe, Int.reduceNeg, Int.reduceAdd, Int.reduceSub, Int.reduceMul, not_false_eq_true, not_true_eq_false, false_and, and_false, true_and, and_true, and_self, true_or, or_true, false_or, or_false, if_true, if_false, ite_true, ite_false, mj_tl_some, mj_tl_none, mj_cs0, mj_cs1, mj_cs2, mj_cs3, mj_cs4]
        exact k M r0 (Or.inl ⟨_, a, ⟨w, c, S, Lf, Ll, ct, pf, pl, w0, g⟩, h40⟩) _ _
      · rw [w26_11]
        simp only [w26_12, w26_14, w26_17, w26_18, w26_21, w26_24, w26_25, w26_28, w26_30, ct.p.f0, ct.p.e6, h40, show (i : Int) ≤ 24 by omega, show ¬ (24 : Int) < (i : Int) by omega, ↓reduceIte, hh_wr, hl_wr, b10, b11, ite_not, ne_eq, Int.reduceEq, Int.reduceLE, Int.reduceLT, Int.reduceNe, Int.reduceNeg, Int.reduceAdd, Int.reduceSub, Int.reduceMul, not_false_eq_true, not_true_eq_false, false_and, and_false, true_and, and_true, and_self, true_or, or_true, false_or, or_false, if_true, if_false, ite_true, ite_false, mj_tl_some, mj_tl_none, mj_cs0, mj_cs1, mj_cs2, mj_cs3, mj_cs4]
        refine c_clause (e := e) (t0 := t0) hD ct pf pl w0 g h40 (fun M1 z x1 s24 => ?_)
        obtain ⟨r1, s1⟩ := x1
        simp only [w26_88, w26_91, jp1 (p := i) (by omega), ↓reduceIte, hh_wr, hl_wr, b10, b11, ite_not, ne_eq, Int.reduceEq, Int.reduceLE, Int.reduceLT, Int.reduceNe, Int.reduceNeg, Int.reduceAdd, Int.reduceSub, Int.reduceMul, not_false_eq_true, not_true_eq_false, false_and, and_false, true_and, and_true, and_self, true_or, or_true, false_or, or_false, if_true, if_false, ite_true, ite_false, mj_tl_some, mj_tl_none, mj_cs0, mj_cs1, mj_cs2, mj_cs3, mj_cs4]
        refine ih (i + 1) M1 _ (by omega) (r0.tr r1) ?_ k
        rcases s1 with ⟨a', s1⟩ | s1
        · exact Or.inl ⟨a', by rw [show ((i + 1 : Nat) : Int) = (i : Int) + 1 by omega]; exact s1⟩
        · exact Or.inr s1
    · obtain ⟨kk, qq, fl, bt⟩ := hF
      have fk : ¬ hh M 351 0 = 0 := by rw [fl.k]; exact fl.k0
      rw [w26_11]
      simp only [w26_12, w26_14, w26_17, w26_18, w26_21, fk, show (i : Int) ≤ 24 by omega, show ¬ (24 : Int) < (i : Int) by omega, ↓reduceIte, hh_wr, hl_wr, b10, b11, ite_not, ne_eq, Int.reduceEq, Int.reduceLE, Int.reduceLT, Int.reduceNe, Int.reduceNeg, Int.reduceAdd, Int.reduceSub, Int.reduceMul, not_false_eq_true, not_true_eq_false, false_and, and_false, true_and, and_true, and_self, true_or, or_true, false_or, or_false, if_true, if_false, ite_true, ite_false, mj_tl_some, mj_tl_none, mj_cs0, mj_cs1, mj_cs2, mj_cs3, mj_cs4]
      exact k M r0 (Or.inr ⟨kk, qq, fl, bt⟩) _ _
/-- the new text -/
def NT (X : mj_X) (e : Nat) (T : Int → Int) (L t0 : Int) (M M1 : mj_M) (r : Int) : Prop := ∃ n a w c S Lf Ll, tK T L a = 40 ∧ (0 ≤ n ∧ n ≤ 24) ∧ (0 ≤ c ∧ c ≤ 300) ∧ LPr n w c S 0 Lf ∧ LPr n w c S 1 Ll ∧ GT X e T L t0 a n w S Lf Ll ∧ hh M1 r 0 = n ∧ hh M1 r 1 = r + 2 ∧ hh M1 r 6 = r + 1 ∧ hl M1 (r + 1) = 4 * n ∧ hl M1 (r + 2) = c ∧ CCf (hh M1 (r + 1)) n S ∧ LCf (hh M1 r) 2 (hh M1 (r + 2)) Lf ∧ LCf (hh M1 r) 4 (hh M1 (r + 2)) Ll
def RdQ (X : mj_X) (e : Nat) (T : Int → Int) (L t0 : Int) (M : mj_M) (r : Option mj_V) (M1 : mj_M) : Prop :=
  (r = some (28, 0) ∧ fz [8] M M1 ∧ ∃ k q, hh M1 351 0 = k ∧ k ≠ 0 ∧ hh M1 351 1 = q ∧ BT X e T L t0 k q) ∨
  (r = some (28, nx M + 1) ∧ M1.1 = M.1 + 3 ∧ M1.2.1 ≤ M.2.1 + 450 ∧ (∀ x j, x ≤ nx M → zone x j ≠ 8 → hh M1 x j = hh M x j) ∧ (∀ x, x ≤ nx M → hl M1 x = hl M x) ∧ hh M1 351 0 = 0 ∧ hh M1 351 1 = -1 ∧ NT X e T L t0 M M1 (nx M + 1))
theorem c_read (hD : 76 ≤ D) (hc : CS M) (hnx : 373 ≤ nx M) (hz : Tz T L) (ht : ∀ i, 0 ≤ i → i < L → hh M 350 i = T i) : wc X (D + 1) 26 [(26, 351), (0, L)] M (fun r M1 => RdQ X e T L t0 M r M1) := by
  show wp X (D + 1) 26 0 [(26, 351), (0, L), (9, 0), (9, 0)] [] M _
  have l0 := hz.l0
  have l9 := hz.l9
  obtain ⟨D, rfl⟩ : ∃ D', D = D' + 1 := ⟨D - 1, by omega⟩
  have bg : ∀ Q, (wc X (D + 1) 27 [(26, 351), (0, L)] M Q ↔ Q none (mj_wr (mj_wr (mj_wr (mj_wr (mj_wr (mj_wr (mj_wr (mj_wr (mj_wr (mj_wr M 351 0 0) 351 1 (-1)) 351 3 L) 351 4 0) 351 9 0) 351 11 0) 351 13 (-1)) 351 14 (-1)) 351 15 (-1)) 351 16 (-1))) := fun Q => by
    show wp X (D + 1) 27 0 [(26, 351), (0, L)] [] M Q ↔ _
    simp only [w27_0, w27_1, w27_2, w27_5, w27_6, w27_7, w27_10, w27_11, w27_12, w27_13, w27_16, w27_17, w27_20, w27_23, w27_24, w27_25, w27_28, w27_29, w27_30, w27_33, w27_34, w27_35, w27_38, w27_39, w27_40, w27_43, w27_44, w27_45, w27_48, w27_49, w27_50, w27_53, w27_54, w27_55, w27_58, c_1_0 hc, c_1_1 hc, c_1_2 hc, c_1_3 hc, c_1_4 hc, c_1_5 hc, c_1_6 hc, c_1_7 hc, c_1_8 hc, c_2_0 hc, c_2_1 hc, c_5_0 hc, c_5_1 hc, c_5_2 hc, c_5_3 hc, c_5_5 hc, c_5_8 hc, c_5_11 hc, c_6_1 hc, c_6_2 hc, c_6_3 hc, c_10_4 hc, c_10_5 hc, c_10_6 hc, c_10_7 hc, c_15_1 hc, c_17_1 hc, c_339_0 hc, c_341_0 hc, c_341_1 hc, c_341_2 hc, c_342_4 hc, c_342_5 hc, c_342_6 hc, c_342_7 hc, c_347_0 hc, c_347_2 hc, c_347_3 hc, c_349_0 hc, c_349_1 hc, c_349_2 hc, c_351_2 hc, c_351_10 hc, c_351_12 hc, c_354_0 hc, c_354_1 hc, c_354_2 hc, c_354_3 hc, c_354_4 hc, c_354_5 hc, c_354_6 hc, c_354_7 hc, c_354_8 hc, c_354_20 hc, c_354_25 hc, c_354_26 hc, c_354_27 hc, c_354_28 hc, c_354_32 hc, c_354_33 hc, c_354_34 hc, c_354_35 hc, c_354_38 hc, l_3 hc, l_4 hc, l_7 hc, l_8 hc, l_9 hc, l_11 hc, l_12 hc, l_13 hc, l_14 hc, l_16 hc, l_18 hc, l_19 hc, l_20 hc, l_21 hc, l_340 hc, l_343 hc, l_344 hc, l_345 hc, l_346 hc, l_348 hc, l_350 hc, l_352 hc, l_353 hc, l_355 hc, l_356 hc, l_357 hc, l_358 hc, l_359 hc, l_360 hc, l_361 hc, l_362 hc, l_363 hc, l_364 hc, l_365 hc, l_366 hc, l_367 hc, l_368 hc, l_369 hc, l_370 hc, l_371 hc, l_372 hc, l_373 hc, c_min, l9, ↓reduceIte, hh_wr, hl_wr, b10, b11, ite_not, ne_eq, Int.reduceEq, Int.reduceLE, Int.reduceLT, Int.reduceNe, Int.reduceNeg, Int.reduceAdd, Int.reduceSub, Int.reduceMul, not_false_eq_true, not_true_eq_false, false_and, and_false, true_and, and_true, and_self, true_or, or_true, false_or, or_false, if_true, if_false, ite_true, ite_false, mj_tl_some, mj_tl_none, mj_cs0, mj_cs1, mj_cs2, mj_cs3, mj_cs4]
  simp only [w26_0, w26_1, w26_2, w26_5, w26_6, bg, ↓reduceIte, hh_wr, hl_wr, b10, b11, ite_not, ne_eq, Int.reduceEq, Int.reduceLE, Int.reduceLT, Int.reduceNe, Int.reduceNeg, Int.reduceAdd, Int.reduceSub, Int.reduceMul, not_false_eq_true, not_true_eq_false, false_and, and_false, true_and, and_true, and_self, true_or, or_true, false_or, or_false, if_true, if_false, ite_true, ite_false, mj_tl_some, mj_tl_none, mj_cs0, mj_cs1, mj_cs2, mj_cs3, mj_cs4]
  generalize hM1 : mj_wr (mj_wr (mj_wr (mj_wr (mj_wr (mj_wr (mj_wr (mj_wr (mj_wr (mj_wr M 351 0 0) 351 1 (-1)) 351 3 L) 351 4 0) 351 9 0) 351 11 0) 351 13 (-1)) 351 14 (-1)) 351 15 (-1)) 351 16 (-1) = M1
  have fz1 : fz [8] M M1 := by
    subst hM1
    exact (((((((((fz.rfl'.wr (by decide)).wr (by decide)).wr (by decide)).wr (by decide)).wr (by decide)).wr (by decide)).wr (by decide)).wr (by decide)).wr (by decide)).wr (by decide)
  have v0 : hh M1 351 0 = 0 := by subst hM1; rfl
  have v1 : hh M1 351 1 = -1 := by subst hM1; rfl
  have v3 : hh M1 351 3 = L := by subst hM1; rfl
  have v4 : hh M1 351 4 = 0 := by subst hM1; rfl
  have v9 : hh M1 351 9 = 0 := by subst hM1; rfl
  have v11 : hh M1 351 11 = 0 := by subst hM1; rfl
  have v13 : hh M1 351 13 = -1 := by subst hM1; rfl
  have v15 : hh M1 351 15 = -1 := by subst hM1; rfl
  clear hM1 bg
  have cx1 : CX M1 T L := ⟨hc.fz fz1 (by decide), v3, hz, fun i a b => by rw [fz1.h 350 i (by rw [z_350]; decide)]; exact ht i a b⟩
  refine wc.mono (c_nx (by omega) cx1 v0 v4 (Int.le_refl _) l0 v11 (Int.le_refl _) (Int.le_refl _)) ?_
  rintro r M2 ⟨rfl, k2, p2⟩
  simp only [w26_9, w26_10, ↓reduceIte, hh_wr, hl_wr, b10, b11, ite_not, ne_eq, Int.reduceEq, Int.reduceLE, Int.reduceLT, Int.reduceNe, Int.reduceNeg, Int.reduceAdd, Int.reduceSub, Int.reduceMul, not_false_eq_true, not_true_eq_false, false_and, and_false, true_and, and_true, and_self, true_or, or_true, false_or, or_false, if_true, if_false, ite_true, ite_false, mj_tl_some, mj_tl_none, mj_cs0, mj_cs1, mj_cs2, mj_cs3, mj_cs4]
  refine c_readL (e := e) (t0 := t0) (M0 := M2) (by omega) 25 0 M2 _ (by omega) Cr.rfl'.q (Or.inl ⟨0, 0, 0, fun _ _ => 0, none, none, ⟨p2, ?_, ?_, by decide, fun k a b => by omega, ?_, ?_⟩, fun k a b => by omega, fun k a b => by omega, Int.le_refl _, gt_0⟩) (fun M3 r3 s3 => ?_)
  · rw [k2.h _ _ (by decide)]; exact v1
  · rw [k2.h _ _ (by decide)]; exact v9
  · show hh M2 351 13 = -1; rw [k2.h _ _ (by decide)]; exact v13
  · show hh M2 351 15 = -1; rw [k2.h _ _ (by decide)]; exact v15
  have f13 : fz [8] M M3 := (fz1.tr k2.cr.fz).tr r3.fz
  have n13 := f13.nxe
  have fin : ∀ (i : Int) (v : mj_V), wp X (D + 1 + 1) 26 94 [(26, 351), (0, L), (0, i), v] [] M3 (fun r M1 => RdQ X e T L t0 M r M1) := by
    intro i v
    rcases s3 with ⟨n, a, ⟨w, c, S, Lf, Ll, ct, pf, pl, w0, g⟩, h40⟩ | ⟨k, q, fl, bt⟩
    · have n0 := ct.n0
      have cs3 := ct.p.cx.cs
      have c0 := ct.p.c0; have ca := ct.p.ca; have aL := ct.p.aL
      have m4 : ji_mul n 4 = 4 * n := by rw [ji_mul_eq (nn ⟨by omega, by omega⟩)]; omega
      have kN : ∀ y, y ≤ nx M3 → (∀ j, hh (mj_nw M3 28 7 (fun _ => 0)) y j = hh M3 y j) ∧ hl (mj_nw M3 28 7 (fun _ => 0)) y = hl M3 y := fun y hy => ⟨fun j => by rw [hh_nx, if_neg (by omega)], by rw [hl_nx, if_neg (by omega)]⟩
      have nN : nx (mj_nw M3 28 7 (fun _ => 0)) = nx M3 + 1 := nx_nw _ _ _ _
      have a10 : hh (mj_nw M3 28 7 (fun _ => 0)) 351 10 = 352 := by rw [(kN 351 (by omega)).1]; exact c_351_10 cs3
      have a9 : hh (mj_nw M3 28 7 (fun _ => 0)) 351 9 = n := by rw [(kN 351 (by omega)).1]; exact ct.n
      have l352 : hl (mj_nw M3 28 7 (fun _ => 0)) 352 = 96 := by rw [(kN 352 (by omega)).2]; exact l_352 cs3
      simp only [w26_94, w26_95, w26_98, w26_101, w26_102, w26_102_n, w26_103, w26_106, w26_107, w26_108, w26_111, w26_112, w26_115, w26_116, w26_117, ct.p.f0, nx_def, a10, a9, m4, ↓reduceIte, hh_wr, hl_wr, b10, b11, ite_not, ne_eq, Int.reduceEq, Int.reduceLE, Int.reduceLT, Int.reduceNe, Int.reduceNeg, Int.reduceAdd, Int.reduceSub, Int.reduceMul, not_false_eq_true, not_true_eq_false, false_and, and_false, true_and, and_true, and_self, true_or, or_true, false_or, or_false, if_true, if_false, ite_true, ite_false, mj_tl_some, mj_tl_none, mj_cs0, mj_cs1, mj_cs2, mj_cs3, mj_cs4]
      refine wc.mono (c_copyOf (D := D) (by decide) (by rw [nN]; omega) ⟨by omega, by rw [l352]; omega⟩ (by rw [l352]; decide)) ?_
      rintro r M4 ⟨rfl, n4, z4, l4, d4, k4⟩
      have nn4 : nx M4 = nx M3 + 2 := by unfold nx at nN ⊢; omega
      have e12 : hh M4 351 12 = 353 := by rw [(k4 351 (by omega)).1, (kN 351 (by omega)).1]; exact c_351_12 cs3
      have e11 : hh M4 351 11 = c := by rw [(k4 351 (by omega)).1, (kN 351 (by omega)).1]; exact ct.p.c
      have l353 : hl M4 353 = 300 := by rw [(k4 353 (by omega)).2, (kN 353 (by omega)).2]; exact l_353 cs3
      simp only [w26_120, w26_121, w26_124, w26_125, w26_128, e12, e11, nN, ↓reduceIte, hh_wr, hl_wr, b10, b11, ite_not, ne_eq, Int.reduceEq, Int.reduceLE, Int.reduceLT, Int.reduceNe, Int.reduceNeg, Int.reduceAdd, Int.reduceSub, Int.reduceMul, not_false_eq_true, not_true_eq_false, false_and, and_false, true_and, and_true, and_self, true_or, or_true, false_or, or_false, if_true, if_false, ite_true, ite_false, mj_tl_some, mj_tl_none, mj_cs0, mj_cs1, mj_cs2, mj_cs3, mj_cs4]
      refine wc.mono (c_copyOf (D := D) (by decide) (by omega) ⟨by omega, by rw [l353]; omega⟩ (by rw [l353]; decide)) ?_
      rintro r M5 ⟨rfl, n5, z5, l5, d5, k5⟩
      rw [nn4] at l5 d5
      have K5 : ∀ y, y ≤ nx M3 → (∀ j, hh M5 y j = hh M3 y j) ∧ hl M5 y = hl M3 y := fun y hy => ⟨fun j => by rw [(k5 y (by omega)).1, (k4 y (by omega)).1, (kN y hy).1], by rw [(k5 y (by omega)).2, (k4 y (by omega)).2, (kN y hy).2]⟩
      simp only [w26_131, w26_132, w26_135, w26_136, w26_139, w26_140, w26_143, w26_144, w26_147, nn4, nx_def, show ¬ nx M3 + 1 = 0 by omega, ↓reduceIte, hh_wr, hl_wr, b10, b11, ite_not, ne_eq, Int.reduceEq, Int.reduceLE, Int.reduceLT, Int.reduceNe, Int.reduceNeg, Int.reduceAdd, Int.reduceSub, Int.reduceMul, not_false_eq_true, not_true_eq_false, false_and, and_false, true_and, and_true, and_self, true_or, or_true, false_or, or_false, if_true, if_false, ite_true, ite_false, mj_tl_some, mj_tl_none, mj_cs0, mj_cs1, mj_cs2, mj_cs3, mj_cs4]
      refine wc.mono (c_textI (n := n) (by omega) (by omega) (by rw [(k5 (nx M3 + 1 + 1) (by omega)).2]; rw [nN] at l4; exact l4) n0) ?_
      rintro r M6 ⟨rfl, n6, z6, l6, k6, x0, x1, x2, x3, x4, x5, x6⟩
      simp only [w26_150, ↓reduceIte, hh_wr, hl_wr, b10, b11, ite_not, ne_eq, Int.reduceEq, Int.reduceLE, Int.reduceLT, Int.reduceNe, Int.reduceNeg, Int.reduceAdd, Int.reduceSub, Int.reduceMul, not_false_eq_true, not_true_eq_false, false_and, and_false, true_and, and_true, and_self, true_or, or_true, false_or, or_false, if_true, if_false, ite_true, ite_false, mj_tl_some, mj_tl_none, mj_cs0, mj_cs1, mj_cs2, mj_cs3, mj_cs4]
      rw [nN, show nx M3 + 1 + 1 = nx M3 + 2 by omega] at d4 l4
      have zN : (mj_nw M3 28 7 (fun _ => 0)).2.1 = M3.2.1 + 7 := rfl
      have nN1 : (mj_nw M3 28 7 (fun _ => 0)).1 = M3.1 + 1 := rfl
      have q1 := f13.n
      have q2 := f13.s
      unfold RdQ
      rw [← n13]
      refine Or.inr ⟨rfl, by omega, by omega, fun x j hx hz8 => ?_, fun x hx => ?_, ?_, ?_, n, a, w, c, S, Lf, Ll, h40, n0, ⟨c0, by omega⟩, pf, pl, g, x0, by rw [x1]; omega, x6, ?_, ?_, ct.cc.f (fun j j0 j1 => ?_), ct.lf.f pf ?_ ?_ (fun j j0 j1 => ?_), ct.ll.f pl ?_ ?_ (fun j j0 j1 => ?_)⟩
      · rw [k6 x j (by omega), (K5 x hx).1]
        exact f13.h x j (fun q => hz8 (List.mem_singleton.mp q))
      · rw [l6, (K5 x hx).2]; exact f13.l x
      · rw [k6 351 0 (by omega), (K5 351 (by omega)).1]; exact ct.p.f0
      · rw [k6 351 1 (by omega), (K5 351 (by omega)).1]; exact ct.pl
      · rw [l6, show nx M3 + 1 + 1 = nx M3 + 2 by omega, (k5 _ (by omega)).2]; exact l4
      · rw [l6, show nx M3 + 1 + 2 = nx M3 + 2 + 1 by omega]; exact l5
      · rw [show nx M3 + 1 + 1 = nx M3 + 2 by omega, k6 _ j (by omega), (k5 _ (by omega)).1, d4 j j0 j1, (kN 352 (by omega)).1]
      · rw [x2, (K5 351 (by omega)).1]
      · show hh M6 (nx M3 + 1) 3 = hh M3 351 14; rw [x3, (K5 351 (by omega)).1]
      · rw [show nx M3 + 1 + 2 = nx M3 + 2 + 1 by omega, k6 _ j (by omega), d5 j j0 j1, (k4 353 (by omega)).1, (kN 353 (by omega)).1]
      · rw [x4, (K5 351 (by omega)).1]
      · show hh M6 (nx M3 + 1) 5 = hh M3 351 16; rw [x5, (K5 351 (by omega)).1]
      · rw [show nx M3 + 1 + 2 = nx M3 + 2 + 1 by omega, k6 _ j (by omega), d5 j j0 j1, (k4 353 (by omega)).1, (kN 353 (by omega)).1]
    · have fk : ¬ hh M3 351 0 = 0 := by rw [fl.k]; exact fl.k0
      simp only [w26_94, w26_95, w26_98, w26_101, w26_102, w26_102_n, fk, ↓reduceIte, hh_wr, hl_wr, b10, b11, ite_not, ne_eq, Int.reduceEq, Int.reduceLE, Int.reduceLT, Int.reduceNe, Int.reduceNeg, Int.reduceAdd, Int.reduceSub, Int.reduceMul, not_false_eq_true, not_true_eq_false, false_and, and_false, true_and, and_true, and_self, true_or, or_true, false_or, or_false, if_true, if_false, ite_true, ite_false, mj_tl_some, mj_tl_none, mj_cs0, mj_cs1, mj_cs2, mj_cs3, mj_cs4]
      exact Or.inl ⟨rfl, f13, k, q, fl.k, fl.k0, fl.q, bt⟩
  exact fin
end Read
