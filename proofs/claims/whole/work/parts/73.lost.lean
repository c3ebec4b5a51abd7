/-! WHOSE LAW, LOST -/
def ap2 (c : Nat → Bool) : Nat → Bool
  | 0 => true
  | n + 1 => ap2 c n && c n
theorem ap2_iff {c : Nat → Bool} : ∀ {n : Nat}, ap2 c n = true ↔ ∀ i, i < n → c i = true
  | 0 => by simp [ap2]
  | n + 1 => by
    rw [ap2, Bool.and_eq_true, ap2_iff]
    constructor
    · rintro ⟨h1, h2⟩ i hi
      by_cases e : i = n
      · subst e; exact h2
      · exact h1 i (by omega)
    · intro h
      exact ⟨fun i hi => h i (by omega), h n (by omega)⟩
theorem al_iff {c : Nat → Bool} : ∀ {n p : Nat}, al c n p = true ↔ ∀ i, p ≤ i → i < p + n → c i = true
  | 0, p => by simp only [al, true_iff]; intro i h1 h2; omega
  | n + 1, p => by
    rw [al]
    cases hc : c p
    · simp only [Bool.false_eq_true, if_false, false_iff]
      intro h
      have := h p (by omega) (by omega)
      rw [hc] at this
      cases this
    · simp only [if_true]
      rw [al_iff]
      constructor
      · intro h i h1 h2
        by_cases e : i = p
        · subst e; exact hc
        · exact h i (by omega) (by omega)
      · intro h i h1 h2
        exact h i (by omega) (by omega)
theorem al_ap2 (c : Nat → Bool) (n : Nat) : al c n 0 = ap2 c n := by
  rw [Bool.eq_iff_iff, al_iff, ap2_iff]
  constructor
  · intro h i hi; exact h i (by omega) (by omega)
  · intro h i _ hi; exact h i (by omega)
def whF (A : Int → Int) (L : Option (Env → Int)) (k : Nat) : Bool := decide (fdV L (envA A (mn A) (A (85 + 2 * (k : Int))) 0) = A (85 + 2 * (k : Int) + 1))
section Whose
variable {X : mj_X} {d : Nat} {M : mj_M} {A : Int → Int} {Q : Option mj_V → mj_M → Prop}
theorem c_cell17 {i k : Int} (h : RR M) (hi : 0 ≤ i ∧ i < hh M 355 7) (hk : 0 ≤ k ∧ k < 2) : wc X d 143 [(27, 17), (0, i), (0, k)] M Q ↔ Q (some (0, hh M 355 (85 + 2 * i + k))) M := by
  rw [← h.ge hi hk]
  have := h.ai.e8
  exact c_cell (r := 17) (by decide) (c_17_1 h.cs) (l_18 h.cs) (by rw [h.gne]; exact hi) (by rw [h.gne]; exact this) ⟨hk.1, by omega⟩
theorem c_fitsAll {r j : Int} {L : Option (Env → Int)} (h : RR M) (t : TxL M r j 0 2 L) : wc X (d + 4) 174 [(20, 349), (28, r)] M (fun q M1 => q = some (0, if ap2 (whF (hh M 355) L) (hh M 355 7).toNat then 1 else 0) ∧ fz [8] M M1) := by
  obtain ⟨N, hN⟩ := nat_of h.ai.e0
  have h8 := h.ai.e8
  have eN : (hh M 355 7).toNat = N := by omega
  rw [eN, ← al_ap2]
  show wp X (d + 4) 174 0 [(20, 349), (28, r), (9, 0), (9, 0), (9, 0)] [] M _
  simp only [w174_0, w174_1, w174_4, w174_7, w174_8, w174_9, c_1_0 h.cs, c_1_1 h.cs, c_1_2 h.cs, c_1_3 h.cs, c_1_4 h.cs, c_1_5 h.cs, c_1_6 h.cs, c_1_7 h.cs, c_1_8 h.cs, c_2_0 h.cs, c_2_1 h.cs, c_5_0 h.cs, c_5_1 h.cs, c_5_2 h.cs, c_5_3 h.cs, c_5_5 h.cs, c_5_8 h.cs, c_5_11 h.cs, c_6_1 h.cs, c_6_2 h.cs, c_6_3 h.cs, c_10_4 h.cs, c_10_5 h.cs, c_10_6 h.cs, c_10_7 h.cs, c_15_1 h.cs, c_17_1 h.cs, c_339_0 h.cs, c_341_0 h.cs, c_341_1 h.cs, c_341_2 h.cs, c_342_4 h.cs, c_342_5 h.cs, c_342_6 h.cs, c_342_7 h.cs, c_347_0 h.cs, c_347_2 h.cs, c_347_3 h.cs, c_349_0 h.cs, c_349_1 h.cs, c_349_2 h.cs, c_351_2 h.cs, c_351_10 h.cs, c_351_12 h.cs, c_354_0 h.cs, c_354_1 h.cs, c_354_2 h.cs, c_354_3 h.cs, c_354_4 h.cs, c_354_5 h.cs, c_354_6 h.cs, c_354_7 h.cs, c_354_8 h.cs, c_354_20 h.cs, c_354_25 h.cs, c_354_26 h.cs, c_354_27 h.cs, c_354_28 h.cs, c_354_32 h.cs, c_354_33 h.cs, c_354_34 h.cs, c_354_35 h.cs, c_354_38 h.cs, l_3 h.cs, l_4 h.cs, l_7 h.cs, l_8 h.cs, l_9 h.cs, l_11 h.cs, l_12 h.cs, l_13 h.cs, l_14 h.cs, l_16 h.cs, l_18 h.cs, l_19 h.cs, l_20 h.cs, l_21 h.cs, l_340 h.cs, l_343 h.cs, l_344 h.cs, l_345 h.cs, l_346 h.cs, l_348 h.cs, l_350 h.cs, l_352 h.cs, l_353 h.cs, l_355 h.cs, l_356 h.cs, l_357 h.cs, l_358 h.cs, l_359 h.cs, l_360 h.cs, l_361 h.cs, l_362 h.cs, l_363 h.cs, l_364 h.cs, l_365 h.cs, l_366 h.cs, l_367 h.cs, l_368 h.cs, l_369 h.cs, l_370 h.cs, l_371 h.cs, l_372 h.cs, l_373 h.cs, h.gnf, h.gP, h.gy, h.gx, h.gt, h.gns, h.gnt, h.gru, h.gnp, h.gnd, h.gne, ↓reduceIte, hh_wr, hl_wr, b10, b11, ite_not, ne_eq, Int.reduceEq, Int.reduceLE, Int.reduceLT, Int.reduceNe, Int.reduceNeg, Int.reduceAdd, Int.reduceSub, Int.reduceMul, not_false_eq_true, not_true_eq_false, false_and, and_false, true_and, and_true, and_self, true_or, or_true, false_or, or_false, if_true, if_false, ite_true, ite_false, mj_tl_some, mj_tl_none, mj_cs0, mj_cs1, mj_cs2, mj_cs3, mj_cs4]
  have body : ∀ (k : Nat) (M1 : mj_M) (w : mj_V) (Q : Option mj_V → mj_M → Prop), k < N → fz [8] M M1 → (∀ M2, fz [8] M M2 → if whF (hh M 355) L k then wp X (d + 4) 174 10 [(20, 349), (28, r), (27, 17), (0, ((k + 1 : Nat) : Int)), (0, hh M 355 (85 + 2 * (k : Int)))] [] M2 Q else Q (some (0, 0)) M2) → wp X (d + 4) 174 10 [(20, 349), (28, r), (27, 17), (0, (k : Int)), w] [] M1 Q := by
    intro k M1 w Q hk f1 hQ
    have h1 := h.s8 f1
    have e5 := fz8_355 f1
    have hN1 : hh M1 355 7 = (N : Int) := by rw [e5]; exact hN
    obtain ⟨r1, r2⟩ := h.ai.e (k : Int) (by omega) (by omega)
    have c0 := fun Q => c_cell17 (X := X) (d := d + 3) (M := M1) (Q := Q) (i := (k : Int)) (k := 0) h1 ⟨by omega, by omega⟩ (by decide)
    rw [e5, Int.add_zero] at c0
    have hr1 : 0 ≤ hh M 355 (85 + 2 * (k : Int)) ∧ hh M 355 (85 + 2 * (k : Int)) < hh M1 355 1 := by rw [e5]; exact r1
    rw [w174_10]
    simp only [w174_11, w174_12, w174_15, w174_18, w174_19, w174_20, w174_21, w174_24, w174_26, w174_27, w174_30, w174_33, w174_35, w174_38, w174_41, w174_42, w174_45, w174_46, w174_47, w174_50, w174_53, w174_54, w174_57, w174_60, w174_62, w174_63, c_1_0 h1.cs, c_1_1 h1.cs, c_1_2 h1.cs, c_1_3 h1.cs, c_1_4 h1.cs, c_1_5 h1.cs, c_1_6 h1.cs, c_1_7 h1.cs, c_1_8 h1.cs, c_2_0 h1.cs, c_2_1 h1.cs, c_5_0 h1.cs, c_5_1 h1.cs, c_5_2 h1.cs, c_5_3 h1.cs, c_5_5 h1.cs, c_5_8 h1.cs, c_5_11 h1.cs, c_6_1 h1.cs, c_6_2 h1.cs, c_6_3 h1.cs, c_10_4 h1.cs, c_10_5 h1.cs, c_10_6 h1.cs, c_10_7 h1.cs, c_15_1 h1.cs, c_17_1 h1.cs, c_339_0 h1.cs, c_341_0 h1.cs, c_341_1 h1.cs, c_341_2 h1.cs, c_342_4 h1.cs, c_342_5 h1.cs, c_342_6 h1.cs, c_342_7 h1.cs, c_347_0 h1.cs, c_347_2 h1.cs, c_347_3 h1.cs, c_349_0 h1.cs, c_349_1 h1.cs, c_349_2 h1.cs, c_351_2 h1.cs, c_351_10 h1.cs, c_351_12 h1.cs, c_354_0 h1.cs, c_354_1 h1.cs, c_354_2 h1.cs, c_354_3 h1.cs, c_354_4 h1.cs, c_354_5 h1.cs, c_354_6 h1.cs, c_354_7 h1.cs, c_354_8 h1.cs, c_354_20 h1.cs, c_354_25 h1.cs, c_354_26 h1.cs, c_354_27 h1.cs, c_354_28 h1.cs, c_354_32 h1.cs, c_354_33 h1.cs, c_354_34 h1.cs, c_354_35 h1.cs, c_354_38 h1.cs, l_3 h1.cs, l_4 h1.cs, l_7 h1.cs, l_8 h1.cs, l_9 h1.cs, l_11 h1.cs, l_12 h1.cs, l_13 h1.cs, l_14 h1.cs, l_16 h1.cs, l_18 h1.cs, l_19 h1.cs, l_20 h1.cs, l_21 h1.cs, l_340 h1.cs, l_343 h1.cs, l_344 h1.cs, l_345 h1.cs, l_346 h1.cs, l_348 h1.cs, l_350 h1.cs, l_352 h1.cs, l_353 h1.cs, l_355 h1.cs, l_356 h1.cs, l_357 h1.cs, l_358 h1.cs, l_359 h1.cs, l_360 h1.cs, l_361 h1.cs, l_362 h1.cs, l_363 h1.cs, l_364 h1.cs, l_365 h1.cs, l_366 h1.cs, l_367 h1.cs, l_368 h1.cs, l_369 h1.cs, l_370 h1.cs, l_371 h1.cs, l_372 h1.cs, l_373 h1.cs, h1.gnf, h1.gP, h1.gy, h1.gx, h1.gt, h1.gns, h1.gnt, h1.gru, h1.gnp, h1.gnd, h1.gne, hN1, c0, c_hasPerson (c := 10) (by decide), hr1, show (k : Int) < (N : Int) by omega, ↓reduceIte, hh_wr, hl_wr, b10, b11, ite_not, ne_eq, Int.reduceEq, Int.reduceLE, Int.reduceLT, Int.reduceNe, Int.reduceNeg, Int.reduceAdd, Int.reduceSub, Int.reduceMul, not_false_eq_true, not_true_eq_false, false_and, and_false, true_and, and_true, and_self, true_or, or_true, false_or, or_false, if_true, if_false, ite_true, ite_false, mj_tl_some, mj_tl_none, mj_cs0, mj_cs1, mj_cs2, mj_cs3, mj_cs4]
    have hr1' : 0 ≤ hh M 355 (85 + 2 * (k : Int)) ∧ hh M 355 (85 + 2 * (k : Int)) < hh M 355 1 := r1
    refine wc.mono (c_fadesBy (d := d) (LE.of h1.cs h1.wr h1.ai hr1 ⟨by decide, by decide⟩) (Or.inl rfl) (t.fz f1 (by decide))) ?_
    rintro s M2 ⟨rfl, sk⟩
    have f2 := f1.tr (sk.fz z340)
    have h2 := h.s8 f2
    have c1 := fun Q => c_cell17 (X := X) (d := d + 3) (M := M2) (Q := Q) (i := (k : Int)) (k := 1) h2 ⟨by omega, by rw [fz8_355 f2]; omega⟩ (by decide)
    rw [fz8_355 f2] at c1
    have hQ2 := hQ M2 f2
    rw [e5]
    unfold whF at hQ2
    by_cases hE : fdV L (envA (hh M 355) (mn (hh M 355)) (hh M 355 (85 + 2 * (k : Int))) 0) = hh M 355 (85 + 2 * (k : Int) + 1)
    · simp only [hE, decide_true, if_true] at hQ2
      simp only [w174_66, w174_67, w174_68, w174_69, w174_72, w174_77, w174_80, c1, hE, jp1 (p := k) (by omega), ↓reduceIte, hh_wr, hl_wr, b10, b11, ite_not, ne_eq, Int.reduceEq, Int.reduceLE, Int.reduceLT, Int.reduceNe, Int.reduceNeg, Int.reduceAdd, Int.reduceSub, Int.reduceMul, not_false_eq_true, not_true_eq_false, false_and, and_false, true_and, and_true, and_self, true_or, or_true, false_or, or_false, if_true, if_false, ite_true, ite_false, mj_tl_some, mj_tl_none, mj_cs0, mj_cs1, mj_cs2, mj_cs3, mj_cs4]
      exact hQ2
    · simp only [hE, decide_false, Bool.false_eq_true, if_false] at hQ2
      simp only [w174_0, w174_1, w174_4, w174_7, w174_8, w174_9, w174_11, w174_12, w174_15, w174_18, w174_19, w174_20, w174_21, w174_24, w174_26, w174_27, w174_30, w174_33, w174_35, w174_38, w174_41, w174_42, w174_45, w174_46, w174_47, w174_50, w174_53, w174_54, w174_57, w174_60, w174_62, w174_63, w174_66, w174_67, w174_68, w174_69, w174_72, w174_75, w174_76_i, w174_76_0, w174_76_1, w174_77, w174_80, w174_83, w174_84_i, w174_84_0, w174_84_1, c1, hE, ↓reduceIte, hh_wr, hl_wr, b10, b11, ite_not, ne_eq, Int.reduceEq, Int.reduceLE, Int.reduceLT, Int.reduceNe, Int.reduceNeg, Int.reduceAdd, Int.reduceSub, Int.reduceMul, not_false_eq_true, not_true_eq_false, false_and, and_false, true_and, and_true, and_self, true_or, or_true, false_or, or_false, if_true, if_false, ite_true, ite_false, mj_tl_some, mj_tl_none, mj_cs0, mj_cs1, mj_cs2, mj_cs3, mj_cs4]
      exact hQ2
  refine loopA (S := fun k b => ∀ M1 w, fz [8] M M1 → wp X (d + 4) 174 10 [(20, 349), (28, r), (27, 17), (0, (k : Int)), w] [] M1 (fun q M2 => q = some (0, if b then 1 else 0) ∧ fz [8] M M2)) (P := N) ?_ ?_ ?_ M _ fz.rfl'
  · intro k hk hc M1 w f1
    refine body k M1 w _ hk f1 (fun M2 f2 => ?_)
    rw [hc]
    simp only [Bool.false_eq_true, if_false]
    exact ⟨trivial, f2⟩
  · intro k b hk hc hS M1 w f1
    refine body k M1 w _ hk f1 (fun M2 f2 => ?_)
    rw [hc]
    simp only [if_true]
    exact hS M2 _ f2
  · intro M1 w f1
    have h1 := h.s8 f1
    have hN1 : hh M1 355 7 = (N : Int) := by rw [fz8_355 f1]; exact hN
    simp only [w174_0, w174_1, w174_4, w174_7, w174_8, w174_9, w174_10, w174_11, w174_12, w174_15, w174_18, w174_19, w174_20, w174_21, w174_24, w174_26, w174_27, w174_30, w174_33, w174_35, w174_38, w174_41, w174_42, w174_45, w174_46, w174_47, w174_50, w174_53, w174_54, w174_57, w174_60, w174_62, w174_63, w174_66, w174_67, w174_68, w174_69, w174_72, w174_75, w174_76_i, w174_76_0, w174_76_1, w174_77, w174_80, w174_83, w174_84_i, w174_84_0, w174_84_1, c_1_0 h1.cs, c_1_1 h1.cs, c_1_2 h1.cs, c_1_3 h1.cs, c_1_4 h1.cs, c_1_5 h1.cs, c_1_6 h1.cs, c_1_7 h1.cs, c_1_8 h1.cs, c_2_0 h1.cs, c_2_1 h1.cs, c_5_0 h1.cs, c_5_1 h1.cs, c_5_2 h1.cs, c_5_3 h1.cs, c_5_5 h1.cs, c_5_8 h1.cs, c_5_11 h1.cs, c_6_1 h1.cs, c_6_2 h1.cs, c_6_3 h1.cs, c_10_4 h1.cs, c_10_5 h1.cs, c_10_6 h1.cs, c_10_7 h1.cs, c_15_1 h1.cs, c_17_1 h1.cs, c_339_0 h1.cs, c_341_0 h1.cs, c_341_1 h1.cs, c_341_2 h1.cs, c_342_4 h1.cs, c_342_5 h1.cs, c_342_6 h1.cs, c_342_7 h1.cs, c_347_0 h1.cs, c_347_2 h1.cs, c_347_3 h1.cs, c_349_0 h1.cs, c_349_1 h1.cs, c_349_2 h1.cs, c_351_2 h1.cs, c_351_10 h1.cs, c_351_12 h1.cs, c_354_0 h1.cs, c_354_1 h1.cs, c_354_2 h1.cs, c_354_3 h1.cs, c_354_4 h1.cs, c_354_5 h1.cs, c_354_6 h1.cs, c_354_7 h1.cs, c_354_8 h1.cs, c_354_20 h1.cs, c_354_25 h1.cs, c_354_26 h1.cs, c_354_27 h1.cs, c_354_28 h1.cs, c_354_32 h1.cs, c_354_33 h1.cs, c_354_34 h1.cs, c_354_35 h1.cs, c_354_38 h1.cs, l_3 h1.cs, l_4 h1.cs, l_7 h1.cs, l_8 h1.cs, l_9 h1.cs, l_11 h1.cs, l_12 h1.cs, l_13 h1.cs, l_14 h1.cs, l_16 h1.cs, l_18 h1.cs, l_19 h1.cs, l_20 h1.cs, l_21 h1.cs, l_340 h1.cs, l_343 h1.cs, l_344 h1.cs, l_345 h1.cs, l_346 h1.cs, l_348 h1.cs, l_350 h1.cs, l_352 h1.cs, l_353 h1.cs, l_355 h1.cs, l_356 h1.cs, l_357 h1.cs, l_358 h1.cs, l_359 h1.cs, l_360 h1.cs, l_361 h1.cs, l_362 h1.cs, l_363 h1.cs, l_364 h1.cs, l_365 h1.cs, l_366 h1.cs, l_367 h1.cs, l_368 h1.cs, l_369 h1.cs, l_370 h1.cs, l_371 h1.cs, l_372 h1.cs, l_373 h1.cs, h1.gnf, h1.gP, h1.gy, h1.gx, h1.gt, h1.gns, h1.gnt, h1.gru, h1.gnp, h1.gnd, h1.gne, hN1, Int.lt_irrefl, ↓reduceIte, hh_wr, hl_wr, b10, b11, ite_not, ne_eq, Int.reduceEq, Int.reduceLE, Int.reduceLT, Int.reduceNe, Int.reduceNeg, Int.reduceAdd, Int.reduceSub, Int.reduceMul, not_false_eq_true, not_true_eq_false, false_and, and_false, true_and, and_true, and_self, true_or, or_true, false_or, or_false, if_true, if_false, ite_true, ite_false, mj_tl_some, mj_tl_none, mj_cs0, mj_cs1, mj_cs2, mj_cs3, mj_cs4]
    exact f1
theorem RR.txs (h : RR M) : ∃ Ls : Nat → Option (Env → Int), ∀ j : Nat, (j : Int) < hh M 355 3 → TxL M (hh M 20 (j : Int)) (j : Int) 0 2 (Ls j) := by
  have key : ∀ j : Nat, ∃ L, (j : Int) < hh M 355 3 → TxL M (hh M 20 (j : Int)) (j : Int) 0 2 L := by
    intro j
    by_cases hj : (j : Int) < hh M 355 3
    · obtain ⟨L, hL⟩ := h.tx (j := (j : Int)) ⟨by omega, hj⟩
      exact ⟨L, fun _ => hL⟩
    · exact ⟨none, fun g => absurd g hj⟩
  exact ⟨fun j => Classical.choose (key j), fun j hj => Classical.choose_spec (key j) hj⟩
def whB (A : Int → Int) (Ls : Nat → Option (Env → Int)) (j : Nat) : Bool := ap2 (whF A (Ls j)) (A 7).toNat
theorem c_textsFit {Ls : Nat → Option (Env → Int)} (h : RR M) (t : ∀ j : Nat, (j : Int) < hh M 355 3 → TxL M (hh M 20 (j : Int)) (j : Int) 0 2 (Ls j)) : wc X (d + 5) 173 [(20, 349)] M (fun q M1 => q = some (0, (bt (whB (hh M 355) Ls) (hh M 355 3).toNat : Int)) ∧ fz [8] M M1) := by
  obtain ⟨N, hN⟩ := nat_of h.T0
  have h4 := h.T4
  have eN : (hh M 355 3).toNat = N := by omega
  rw [eN]
  show wp X (d + 5) 173 0 [(20, 349), (9, 0), (9, 0)] [] M _
  simp only [w173_0, w173_1, w173_2, w173_3]
  refine loop1 (S := fun j M1 => wp X (d + 5) 173 4 [(20, 349), (0, (bt (whB (hh M 355) Ls) j : Int)), (0, (j : Int))] [] M1 (fun q M2 => q = some (0, (bt (whB (hh M 355) Ls) N : Int)) ∧ fz [8] M M2)) (I := fun j M1 => fz [8] M M1) (P := N) ?_ ?_ M fz.rfl'
  · intro j M1 hj f1 ih
    have h1 := h.s8 f1
    have e5 := fz8_355 f1
    have hN1 : hh M1 355 3 = (N : Int) := by rw [e5]; exact hN
    have e20 : hh M1 20 = hh M 20 := f1.row (z := 1) (fun j => rfl) (by decide)
    have ho := fun Q => c_textOf (X := X) (d := d + 3) (M := M1) (Q := Q) (j := (j : Int)) h1.cs (by rw [h1.gnt]; exact h1.T4)
    rw [h1.gnt, if_pos ⟨by omega, by omega⟩, e20] at ho
    rw [w173_4]
    simp only [w173_5, w173_6, w173_9, w173_12, w173_15, w173_16, w173_17, w173_20, w173_21, w173_24, c_1_0 h1.cs, c_1_1 h1.cs, c_1_2 h1.cs, c_1_3 h1.cs, c_1_4 h1.cs, c_1_5 h1.cs, c_1_6 h1.cs, c_1_7 h1.cs, c_1_8 h1.cs, c_2_0 h1.cs, c_2_1 h1.cs, c_5_0 h1.cs, c_5_1 h1.cs, c_5_2 h1.cs, c_5_3 h1.cs, c_5_5 h1.cs, c_5_8 h1.cs, c_5_11 h1.cs, c_6_1 h1.cs, c_6_2 h1.cs, c_6_3 h1.cs, c_10_4 h1.cs, c_10_5 h1.cs, c_10_6 h1.cs, c_10_7 h1.cs, c_15_1 h1.cs, c_17_1 h1.cs, c_339_0 h1.cs, c_341_0 h1.cs, c_341_1 h1.cs, c_341_2 h1.cs, c_342_4 h1.cs, c_342_5 h1.cs, c_342_6 h1.cs, c_342_7 h1.cs, c_347_0 h1.cs, c_347_2 h1.cs, c_347_3 h1.cs, c_349_0 h1.cs, c_349_1 h1.cs, c_349_2 h1.cs, c_351_2 h1.cs, c_351_10 h1.cs, c_351_12 h1.cs, c_354_0 h1.cs, c_354_1 h1.cs, c_354_2 h1.cs, c_354_3 h1.cs, c_354_4 h1.cs, c_354_5 h1.cs, c_354_6 h1.cs, c_354_7 h1.cs, c_354_8 h1.cs, c_354_20 h1.cs, c_354_25 h1.cs, c_354_26 h1.cs, c_354_27 h1.cs, c_354_28 h1.cs, c_354_32 h1.cs, c_354_33 h1.cs, c_354_34 h1.cs, c_354_35 h1.cs, c_354_38 h1.cs, l_3 h1.cs, l_4 h1.cs, l_7 h1.cs, l_8 h1.cs, l_9 h1.cs, l_11 h1.cs, l_12 h1.cs, l_13 h1.cs, l_14 h1.cs, l_16 h1.cs, l_18 h1.cs, l_19 h1.cs, l_20 h1.cs, l_21 h1.cs, l_340 h1.cs, l_343 h1.cs, l_344 h1.cs, l_345 h1.cs, l_346 h1.cs, l_348 h1.cs, l_350 h1.cs, l_352 h1.cs, l_353 h1.cs, l_355 h1.cs, l_356 h1.cs, l_357 h1.cs, l_358 h1.cs, l_359 h1.cs, l_360 h1.cs, l_361 h1.cs, l_362 h1.cs, l_363 h1.cs, l_364 h1.cs, l_365 h1.cs, l_366 h1.cs, l_367 h1.cs, l_368 h1.cs, l_369 h1.cs, l_370 h1.cs, l_371 h1.cs, l_372 h1.cs, l_373 h1.cs, h1.gnf, h1.gP, h1.gy, h1.gx, h1.gt, h1.gns, h1.gnt, h1.gru, h1.gnp, h1.gnd, h1.gne, hN1, ho, show (j : Int) < (N : Int) by omega, ↓reduceIte, hh_wr, hl_wr, b10, b11, ite_not, ne_eq, Int.reduceEq, Int.reduceLE, Int.reduceLT, Int.reduceNe, Int.reduceNeg, Int.reduceAdd, Int.reduceSub, Int.reduceMul, not_false_eq_true, not_true_eq_false, false_and, and_false, true_and, and_true, and_self, true_or, or_true, false_or, or_false, if_true, if_false, ite_true, ite_false, mj_tl_some, mj_tl_none, mj_cs0, mj_cs1, mj_cs2, mj_cs3, mj_cs4]
    refine wc.mono (c_fitsAll (d := d) h1 ((t j (by omega)).fz f1 (by decide))) ?_
    rintro s M2 ⟨rfl, f2⟩
    rw [e5]
    have hS := ih M2 (f1.tr f2)
    cases hb : whB (hh M 355) Ls j
    · rw [bt_e hb] at hS
      unfold whB at hb
      simp only [w173_27, w173_36, w173_39, hb, jp1 (p := j) (by omega), Bool.false_eq_true, ↓reduceIte, hh_wr, hl_wr, b10, b11, ite_not, ne_eq, Int.reduceEq, Int.reduceLE, Int.reduceLT, Int.reduceNe, Int.reduceNeg, Int.reduceAdd, Int.reduceSub, Int.reduceMul, not_false_eq_true, not_true_eq_false, false_and, and_false, true_and, and_true, and_self, true_or, or_true, false_or, or_false, if_true, if_false, ite_true, ite_false, mj_tl_some, mj_tl_none, mj_cs0, mj_cs1, mj_cs2, mj_cs3, mj_cs4]
      exact hS
    · rw [← bt_t hb (by omega)] at hS
      unfold whB at hb
      simp only [w173_27, w173_30, w173_31, w173_32, w173_33, w173_34, w173_35, w173_36, w173_39, hb, jp1 (p := j) (by omega), ↓reduceIte, hh_wr, hl_wr, b10, b11, ite_not, ne_eq, Int.reduceEq, Int.reduceLE, Int.reduceLT, Int.reduceNe, Int.reduceNeg, Int.reduceAdd, Int.reduceSub, Int.reduceMul, not_false_eq_true, not_true_eq_false, false_and, and_false, true_and, and_true, and_self, true_or, or_true, false_or, or_false, if_true, if_false, ite_true, ite_false, mj_tl_some, mj_tl_none, mj_cs0, mj_cs1, mj_cs2, mj_cs3, mj_cs4]
      exact hS
  · intro M1 f1
    have h1 := h.s8 f1
    have hN1 : hh M1 355 3 = (N : Int) := by rw [fz8_355 f1]; exact hN
    simp only [w173_0, w173_1, w173_2, w173_3, w173_4, w173_5, w173_6, w173_9, w173_12, w173_15, w173_16, w173_17, w173_20, w173_21, w173_24, w173_27, w173_30, w173_31, w173_32, w173_33, w173_34, w173_35, w173_36, w173_39, w173_42, w173_43, c_1_0 h1.cs, c_1_1 h1.cs, c_1_2 h1.cs, c_1_3 h1.cs, c_1_4 h1.cs, c_1_5 h1.cs, c_1_6 h1.cs, c_1_7 h1.cs, c_1_8 h1.cs, c_2_0 h1.cs, c_2_1 h1.cs, c_5_0 h1.cs, c_5_1 h1.cs, c_5_2 h1.cs, c_5_3 h1.cs, c_5_5 h1.cs, c_5_8 h1.cs, c_5_11 h1.cs, c_6_1 h1.cs, c_6_2 h1.cs, c_6_3 h1.cs, c_10_4 h1.cs, c_10_5 h1.cs, c_10_6 h1.cs, c_10_7 h1.cs, c_15_1 h1.cs, c_17_1 h1.cs, c_339_0 h1.cs, c_341_0 h1.cs, c_341_1 h1.cs, c_341_2 h1.cs, c_342_4 h1.cs, c_342_5 h1.cs, c_342_6 h1.cs, c_342_7 h1.cs, c_347_0 h1.cs, c_347_2 h1.cs, c_347_3 h1.cs, c_349_0 h1.cs, c_349_1 h1.cs, c_349_2 h1.cs, c_351_2 h1.cs, c_351_10 h1.cs, c_351_12 h1.cs, c_354_0 h1.cs, c_354_1 h1.cs, c_354_2 h1.cs, c_354_3 h1.cs, c_354_4 h1.cs, c_354_5 h1.cs, c_354_6 h1.cs, c_354_7 h1.cs, c_354_8 h1.cs, c_354_20 h1.cs, c_354_25 h1.cs, c_354_26 h1.cs, c_354_27 h1.cs, c_354_28 h1.cs, c_354_32 h1.cs, c_354_33 h1.cs, c_354_34 h1.cs, c_354_35 h1.cs, c_354_38 h1.cs, l_3 h1.cs, l_4 h1.cs, l_7 h1.cs, l_8 h1.cs, l_9 h1.cs, l_11 h1.cs, l_12 h1.cs, l_13 h1.cs, l_14 h1.cs, l_16 h1.cs, l_18 h1.cs, l_19 h1.cs, l_20 h1.cs, l_21 h1.cs, l_340 h1.cs, l_343 h1.cs, l_344 h1.cs, l_345 h1.cs, l_346 h1.cs, l_348 h1.cs, l_350 h1.cs, l_352 h1.cs, l_353 h1.cs, l_355 h1.cs, l_356 h1.cs, l_357 h1.cs, l_358 h1.cs, l_359 h1.cs, l_360 h1.cs, l_361 h1.cs, l_362 h1.cs, l_363 h1.cs, l_364 h1.cs, l_365 h1.cs, l_366 h1.cs, l_367 h1.cs, l_368 h1.cs, l_369 h1.cs, l_370 h1.cs, l_371 h1.cs, l_372 h1.cs, l_373 h1.cs, h1.gnf, h1.gP, h1.gy, h1.gx, h1.gt, h1.gns, h1.gnt, h1.gru, h1.gnp, h1.gnd, h1.gne, hN1, Int.lt_irrefl, ↓reduceIte, hh_wr, hl_wr, b10, b11, ite_not, ne_eq, Int.reduceEq, Int.reduceLE, Int.reduceLT, Int.reduceNe, Int.reduceNeg, Int.reduceAdd, Int.reduceSub, Int.reduceMul, not_false_eq_true, not_true_eq_false, false_and, and_false, true_and, and_true, and_self, true_or, or_true, false_or, or_false, if_true, if_false, ite_true, ite_false, mj_tl_some, mj_tl_none, mj_cs0, mj_cs1, mj_cs2, mj_cs3, mj_cs4]
    exact f1
theorem m_whose {Ls : Nat → Option (Env → Int)} {rs : Nat → Int} (h : RR M) (t : ∀ j : Nat, (j : Int) < hh M 355 3 → TxL M (rs j) (j : Int) 0 2 (Ls j)) : wc X (d + 7) 331 [(32, 354)] M (fun q M1 => q = some (0, (bt (whB (hh M 355) Ls) (hh M 355 3).toNat : Int)) ∧ fz [8] M M1) := by
  obtain ⟨N, hN⟩ := nat_of h.T0
  have h4 := h.T4
  have eN : (hh M 355 3).toNat = N := by omega
  obtain ⟨K, hK⟩ := nat_of h.ai.e0
  have h8 := h.ai.e8
  have eK : (hh M 355 7).toNat = K := by omega
  rw [eN]
  show wp X (d + 7) 331 0 [(32, 354), (9, 0), (9, 0), (9, 0), (9, 0)] [] M _
  simp only [w331_0, w331_1, w331_2, w331_3]
  refine loop1 (S := fun j (s : mj_M × mj_V × mj_V) => wp X (d + 7) 331 4 [(32, 354), (0, (bt (whB (hh M 355) Ls) j : Int)), (0, (j : Int)), s.2.1, s.2.2] [] s.1 (fun q M2 => q = some (0, (bt (whB (hh M 355) Ls) N : Int)) ∧ fz [8] M M2)) (I := fun j s => fz [8] M s.1) (P := N) ?_ ?_ (M, (9, 0), (9, 0)) fz.rfl'
  · rintro j ⟨M1, w1, w2⟩ hj f1 ih
    have h1 := h.s8 f1
    have hN1 : hh M1 355 3 = (N : Int) := by rw [fz8_355 f1]; exact hN
    have hlt := bt_lt (whB (hh M 355) Ls) j
    have h30 := pow30 (show j < 30 by omega)
    have inner := loop1 (S := fun k M2 => wp X (d + 7) 331 19 [(32, 354), (0, (bt (whB (hh M 355) Ls) j : Int)), (0, (j : Int)), (0, if ap2 (whF (hh M 355) (Ls j)) k then 1 else 0), (0, (k : Int))] [] M2 (fun q M2 => q = some (0, (bt (whB (hh M 355) Ls) N : Int)) ∧ fz [8] M M2)) (I := fun k M2 => fz [8] M M2) (P := K) ?_ ?_
    · rw [w331_4]
      simp only [w331_5, w331_6, w331_9, w331_10, w331_11, w331_14, w331_15, w331_16, w331_17, c_1_0 h1.cs, c_1_1 h1.cs, c_1_2 h1.cs, c_1_3 h1.cs, c_1_4 h1.cs, c_1_5 h1.cs, c_1_6 h1.cs, c_1_7 h1.cs, c_1_8 h1.cs, c_2_0 h1.cs, c_2_1 h1.cs, c_5_0 h1.cs, c_5_1 h1.cs, c_5_2 h1.cs, c_5_3 h1.cs, c_5_5 h1.cs, c_5_8 h1.cs, c_5_11 h1.cs, c_6_1 h1.cs, c_6_2 h1.cs, c_6_3 h1.cs, c_10_4 h1.cs, c_10_5 h1.cs, c_10_6 h1.cs, c_10_7 h1.cs, c_15_1 h1.cs, c_17_1 h1.cs, c_339_0 h1.cs, c_341_0 h1.cs, c_341_1 h1.cs, c_341_2 h1.cs, c_342_4 h1.cs, c_342_5 h1.cs, c_342_6 h1.cs, c_342_7 h1.cs, c_347_0 h1.cs, c_347_2 h1.cs, c_347_3 h1.cs, c_349_0 h1.cs, c_349_1 h1.cs, c_349_2 h1.cs, c_351_2 h1.cs, c_351_10 h1.cs, c_351_12 h1.cs, c_354_0 h1.cs, c_354_1 h1.cs, c_354_2 h1.cs, c_354_3 h1.cs, c_354_4 h1.cs, c_354_5 h1.cs, c_354_6 h1.cs, c_354_7 h1.cs, c_354_8 h1.cs, c_354_20 h1.cs, c_354_25 h1.cs, c_354_26 h1.cs, c_354_27 h1.cs, c_354_28 h1.cs, c_354_32 h1.cs, c_354_33 h1.cs, c_354_34 h1.cs, c_354_35 h1.cs, c_354_38 h1.cs, l_3 h1.cs, l_4 h1.cs, l_7 h1.cs, l_8 h1.cs, l_9 h1.cs, l_11 h1.cs, l_12 h1.cs, l_13 h1.cs, l_14 h1.cs, l_16 h1.cs, l_18 h1.cs, l_19 h1.cs, l_20 h1.cs, l_21 h1.cs, l_340 h1.cs, l_343 h1.cs, l_344 h1.cs, l_345 h1.cs, l_346 h1.cs, l_348 h1.cs, l_350 h1.cs, l_352 h1.cs, l_353 h1.cs, l_355 h1.cs, l_356 h1.cs, l_357 h1.cs, l_358 h1.cs, l_359 h1.cs, l_360 h1.cs, l_361 h1.cs, l_362 h1.cs, l_363 h1.cs, l_364 h1.cs, l_365 h1.cs, l_366 h1.cs, l_367 h1.cs, l_368 h1.cs, l_369 h1.cs, l_370 h1.cs, l_371 h1.cs, l_372 h1.cs, l_373 h1.cs, h1.gnf, h1.gP, h1.gy, h1.gx, h1.gt, h1.gns, h1.gnt, h1.gru, h1.gnp, h1.gnd, h1.gne, hN1, show (j : Int) < (N : Int) by omega, ↓reduceIte, hh_wr, hl_wr, b10, b11, ite_not, ne_eq, Int.reduceEq, Int.reduceLE, Int.reduceLT, Int.reduceNe, Int.reduceNeg, Int.reduceAdd, Int.reduceSub, Int.reduceMul, not_false_eq_true, not_true_eq_false, false_and, and_false, true_and, and_true, and_self, true_or, or_true, false_or, or_false, if_true, if_false, ite_true, ite_false, mj_tl_some, mj_tl_none, mj_cs0, mj_cs1, mj_cs2, mj_cs3, mj_cs4]
      exact inner M1 f1
    · intro k M2 hk f2 ihk
      have h2 := h.s8 f2
      have e52 := fz8_355 f2
      have hK2 : hh M2 355 7 = (K : Int) := by rw [e52]; exact hK
      obtain ⟨r1, r2⟩ := h.ai.e (k : Int) (by omega) (by omega)
      have ea : ap2 (whF (hh M 355) (Ls j)) (k + 1) = (ap2 (whF (hh M 355) (Ls j)) k && whF (hh M 355) (Ls j) k) := rfl
      rw [w331_19]
      cases hb : ap2 (whF (hh M 355) (Ls j)) k
      · have hS := ihk M2 f2
        rw [ea, hb] at hS
        simp only [Bool.false_and, Bool.false_eq_true, if_false] at hS
        simp only [w331_0, w331_1, w331_2, w331_3, w331_5, w331_6, w331_9, w331_10, w331_11, w331_14, w331_15, w331_16, w331_17, w331_21, w331_22, w331_25, w331_27, w331_28, w331_31, w331_32, w331_35, w331_36, w331_37, w331_38, w331_41, w331_43, w331_44, w331_46, w331_47, w331_48, w331_49, w331_50, w331_53, w331_54, w331_57, w331_59, w331_60, w331_62, w331_63, w331_64, w331_65, w331_66, w331_67, w331_70, w331_71, w331_74, w331_75, w331_76, w331_79, w331_82, w331_83, w331_84, w331_87, w331_88, w331_89, w331_90, w331_93, w331_94, w331_95, w331_96, w331_99, w331_102, w331_103, c_1_0 h2.cs, c_1_1 h2.cs, c_1_2 h2.cs, c_1_3 h2.cs, c_1_4 h2.cs, c_1_5 h2.cs, c_1_6 h2.cs, c_1_7 h2.cs, c_1_8 h2.cs, c_2_0 h2.cs, c_2_1 h2.cs, c_5_0 h2.cs, c_5_1 h2.cs, c_5_2 h2.cs, c_5_3 h2.cs, c_5_5 h2.cs, c_5_8 h2.cs, c_5_11 h2.cs, c_6_1 h2.cs, c_6_2 h2.cs, c_6_3 h2.cs, c_10_4 h2.cs, c_10_5 h2.cs, c_10_6 h2.cs, c_10_7 h2.cs, c_15_1 h2.cs, c_17_1 h2.cs, c_339_0 h2.cs, c_341_0 h2.cs, c_341_1 h2.cs, c_341_2 h2.cs, c_342_4 h2.cs, c_342_5 h2.cs, c_342_6 h2.cs, c_342_7 h2.cs, c_347_0 h2.cs, c_347_2 h2.cs, c_347_3 h2.cs, c_349_0 h2.cs, c_349_1 h2.cs, c_349_2 h2.cs, c_351_2 h2.cs, c_351_10 h2.cs, c_351_12 h2.cs, c_354_0 h2.cs, c_354_1 h2.cs, c_354_2 h2.cs, c_354_3 h2.cs, c_354_4 h2.cs, c_354_5 h2.cs, c_354_6 h2.cs, c_354_7 h2.cs, c_354_8 h2.cs, c_354_20 h2.cs, c_354_25 h2.cs, c_354_26 h2.cs, c_354_27 h2.cs, c_354_28 h2.cs, c_354_32 h2.cs, c_354_33 h2.cs, c_354_34 h2.cs, c_354_35 h2.cs, c_354_38 h2.cs, l_3 h2.cs, l_4 h2.cs, l_7 h2.cs, l_8 h2.cs, l_9 h2.cs, l_11 h2.cs, l_12 h2.cs, l_13 h2.cs, l_14 h2.cs, l_16 h2.cs, l_18 h2.cs, l_19 h2.cs, l_20 h2.cs, l_21 h2.cs, l_340 h2.cs, l_343 h2.cs, l_344 h2.cs, l_345 h2.cs, l_346 h2.cs, l_348 h2.cs, l_350 h2.cs, l_352 h2.cs, l_353 h2.cs, l_355 h2.cs, l_356 h2.cs, l_357 h2.cs, l_358 h2.cs, l_359 h2.cs, l_360 h2.cs, l_361 h2.cs, l_362 h2.cs, l_363 h2.cs, l_364 h2.cs, l_365 h2.cs, l_366 h2.cs, l_367 h2.cs, l_368 h2.cs, l_369 h2.cs, l_370 h2.cs, l_371 h2.cs, l_372 h2.cs, l_373 h2.cs, h2.gnf, h2.gP, h2.gy, h2.gx, h2.gt, h2.gns, h2.gnt, h2.gru, h2.gnp, h2.gnd, h2.gne, hK2, show (k : Int) < (K : Int) by omega, jp1 (p := k) (by omega), Bool.false_eq_true, ↓reduceIte, hh_wr, hl_wr, b10, b11, ite_not, ne_eq, Int.reduceEq, Int.reduceLE, Int.reduceLT, Int.reduceNe, Int.reduceNeg, Int.reduceAdd, Int.reduceSub, Int.reduceMul, not_false_eq_true, not_true_eq_false, false_and, and_false, true_and, and_true, and_self, true_or, or_true, false_or, or_false, if_true, if_false, ite_true, ite_false, mj_tl_some, mj_tl_none, mj_cs0, mj_cs1, mj_cs2, mj_cs3, mj_cs4]
        exact hS
      · have hr1 : 0 ≤ hh M 355 (85 + 2 * (k : Int)) ∧ hh M 355 (85 + 2 * (k : Int)) < hh M2 355 1 := by rw [e52]; exact r1
        simp only [w331_21, w331_22, w331_25, w331_27, w331_28, w331_31, w331_32, w331_35, w331_36, w331_37, w331_38, w331_41, w331_43, w331_44, w331_46, w331_47, w331_48, w331_49, w331_50, c_1_0 h2.cs, c_1_1 h2.cs, c_1_2 h2.cs, c_1_3 h2.cs, c_1_4 h2.cs, c_1_5 h2.cs, c_1_6 h2.cs, c_1_7 h2.cs, c_1_8 h2.cs, c_2_0 h2.cs, c_2_1 h2.cs, c_5_0 h2.cs, c_5_1 h2.cs, c_5_2 h2.cs, c_5_3 h2.cs, c_5_5 h2.cs, c_5_8 h2.cs, c_5_11 h2.cs, c_6_1 h2.cs, c_6_2 h2.cs, c_6_3 h2.cs, c_10_4 h2.cs, c_10_5 h2.cs, c_10_6 h2.cs, c_10_7 h2.cs, c_15_1 h2.cs, c_17_1 h2.cs, c_339_0 h2.cs, c_341_0 h2.cs, c_341_1 h2.cs, c_341_2 h2.cs, c_342_4 h2.cs, c_342_5 h2.cs, c_342_6 h2.cs, c_342_7 h2.cs, c_347_0 h2.cs, c_347_2 h2.cs, c_347_3 h2.cs, c_349_0 h2.cs, c_349_1 h2.cs, c_349_2 h2.cs, c_351_2 h2.cs, c_351_10 h2.cs, c_351_12 h2.cs, c_354_0 h2.cs, c_354_1 h2.cs, c_354_2 h2.cs, c_354_3 h2.cs, c_354_4 h2.cs, c_354_5 h2.cs, c_354_6 h2.cs, c_354_7 h2.cs, c_354_8 h2.cs, c_354_20 h2.cs, c_354_25 h2.cs, c_354_26 h2.cs, c_354_27 h2.cs, c_354_28 h2.cs, c_354_32 h2.cs, c_354_33 h2.cs, c_354_34 h2.cs, c_354_35 h2.cs, c_354_38 h2.cs, l_3 h2.cs, l_4 h2.cs, l_7 h2.cs, l_8 h2.cs, l_9 h2.cs, l_11 h2.cs, l_12 h2.cs, l_13 h2.cs, l_14 h2.cs, l_16 h2.cs, l_18 h2.cs, l_19 h2.cs, l_20 h2.cs, l_21 h2.cs, l_340 h2.cs, l_343 h2.cs, l_344 h2.cs, l_345 h2.cs, l_346 h2.cs, l_348 h2.cs, l_350 h2.cs, l_352 h2.cs, l_353 h2.cs, l_355 h2.cs, l_356 h2.cs, l_357 h2.cs, l_358 h2.cs, l_359 h2.cs, l_360 h2.cs, l_361 h2.cs, l_362 h2.cs, l_363 h2.cs, l_364 h2.cs, l_365 h2.cs, l_366 h2.cs, l_367 h2.cs, l_368 h2.cs, l_369 h2.cs, l_370 h2.cs, l_371 h2.cs, l_372 h2.cs, l_373 h2.cs, h2.gnf, h2.gP, h2.gy, h2.gx, h2.gt, h2.gns, h2.gnt, h2.gru, h2.gnp, h2.gnd, h2.gne, hK2, e52, show (k : Int) < (K : Int) by omega, m2l (p := (k : Int)) ⟨by omega, by omega⟩, aj (x := 85) (y := 2 * (k : Int)) ⟨by omega, by omega⟩, show (0 : Int) ≤ 85 + 2 * (k : Int) by omega, show 85 + 2 * (k : Int) < 1691 by omega, hK, ↓reduceIte, hh_wr, hl_wr, b10, b11, ite_not, ne_eq, Int.reduceEq, Int.reduceLE, Int.reduceLT, Int.reduceNe, Int.reduceNeg, Int.reduceAdd, Int.reduceSub, Int.reduceMul, not_false_eq_true, not_true_eq_false, false_and, and_false, true_and, and_true, and_self, true_or, or_true, false_or, or_false, if_true, if_false, ite_true, ite_false, mj_tl_some, mj_tl_none, mj_cs0, mj_cs1, mj_cs2, mj_cs3, mj_cs4]
        refine wc.mono (m_fadesOf (d := d) (SE0.of h2.cs h2.ai hr1 ⟨by decide, by decide⟩) ((t j (by omega)).fz f2 (by decide))) ?_
        rintro s M3 ⟨rfl, f3⟩
        have f23 := f2.tr f3
        have h3 := h.s8 f23
        have e53 := fz8_355 f23
        rw [e52]
        have hS := ihk M3 f23
        rw [ea, hb, Bool.true_and] at hS
        unfold whF at hS
        by_cases hE : fdV (Ls j) (envA (hh M 355) (mn (hh M 355)) (hh M 355 (85 + 2 * (k : Int))) 0) = hh M 355 (85 + 2 * (k : Int) + 1)
        · simp only [hE, decide_true, if_true] at hS
          simp only [w331_53, w331_54, w331_57, w331_59, w331_60, w331_62, w331_63, w331_64, w331_65, w331_66, w331_67, w331_70, w331_71, w331_75, w331_76, w331_79, c_1_0 h3.cs, c_1_1 h3.cs, c_1_2 h3.cs, c_1_3 h3.cs, c_1_4 h3.cs, c_1_5 h3.cs, c_1_6 h3.cs, c_1_7 h3.cs, c_1_8 h3.cs, c_2_0 h3.cs, c_2_1 h3.cs, c_5_0 h3.cs, c_5_1 h3.cs, c_5_2 h3.cs, c_5_3 h3.cs, c_5_5 h3.cs, c_5_8 h3.cs, c_5_11 h3.cs, c_6_1 h3.cs, c_6_2 h3.cs, c_6_3 h3.cs, c_10_4 h3.cs, c_10_5 h3.cs, c_10_6 h3.cs, c_10_7 h3.cs, c_15_1 h3.cs, c_17_1 h3.cs, c_339_0 h3.cs, c_341_0 h3.cs, c_341_1 h3.cs, c_341_2 h3.cs, c_342_4 h3.cs, c_342_5 h3.cs, c_342_6 h3.cs, c_342_7 h3.cs, c_347_0 h3.cs, c_347_2 h3.cs, c_347_3 h3.cs, c_349_0 h3.cs, c_349_1 h3.cs, c_349_2 h3.cs, c_351_2 h3.cs, c_351_10 h3.cs, c_351_12 h3.cs, c_354_0 h3.cs, c_354_1 h3.cs, c_354_2 h3.cs, c_354_3 h3.cs, c_354_4 h3.cs, c_354_5 h3.cs, c_354_6 h3.cs, c_354_7 h3.cs, c_354_8 h3.cs, c_354_20 h3.cs, c_354_25 h3.cs, c_354_26 h3.cs, c_354_27 h3.cs, c_354_28 h3.cs, c_354_32 h3.cs, c_354_33 h3.cs, c_354_34 h3.cs, c_354_35 h3.cs, c_354_38 h3.cs, l_3 h3.cs, l_4 h3.cs, l_7 h3.cs, l_8 h3.cs, l_9 h3.cs, l_11 h3.cs, l_12 h3.cs, l_13 h3.cs, l_14 h3.cs, l_16 h3.cs, l_18 h3.cs, l_19 h3.cs, l_20 h3.cs, l_21 h3.cs, l_340 h3.cs, l_343 h3.cs, l_344 h3.cs, l_345 h3.cs, l_346 h3.cs, l_348 h3.cs, l_350 h3.cs, l_352 h3.cs, l_353 h3.cs, l_355 h3.cs, l_356 h3.cs, l_357 h3.cs, l_358 h3.cs, l_359 h3.cs, l_360 h3.cs, l_361 h3.cs, l_362 h3.cs, l_363 h3.cs, l_364 h3.cs, l_365 h3.cs, l_366 h3.cs, l_367 h3.cs, l_368 h3.cs, l_369 h3.cs, l_370 h3.cs, l_371 h3.cs, l_372 h3.cs, l_373 h3.cs, e53, hE, m2l (p := (k : Int)) ⟨by omega, by omega⟩, aj (x := 85) (y := 2 * (k : Int)) ⟨by omega, by omega⟩, aj (x := 85 + 2 * (k : Int)) (y := 1) ⟨by omega, by omega⟩, show (0 : Int) ≤ 85 + 2 * (k : Int) + 1 by omega, show 85 + 2 * (k : Int) + 1 < 1691 by omega, jp1 (p := k) (by omega), ↓reduceIte, hh_wr, hl_wr, b10, b11, ite_not, ne_eq, Int.reduceEq, Int.reduceLE, Int.reduceLT, Int.reduceNe, Int.reduceNeg, Int.reduceAdd, Int.reduceSub, Int.reduceMul, not_false_eq_true, not_true_eq_false, false_and, and_false, true_and, and_true, and_self, true_or, or_true, false_or, or_false, if_true, if_false, ite_true, ite_false, mj_tl_some, mj_tl_none, mj_cs0, mj_cs1, mj_cs2, mj_cs3, mj_cs4]
          exact hS
        · simp only [hE, decide_false, Bool.false_eq_true, if_false] at hS
          simp only [w331_53, w331_54, w331_57, w331_59, w331_60, w331_62, w331_63, w331_64, w331_65, w331_66, w331_67, w331_74, w331_75, w331_76, w331_79, c_1_0 h3.cs, c_1_1 h3.cs, c_1_2 h3.cs, c_1_3 h3.cs, c_1_4 h3.cs, c_1_5 h3.cs, c_1_6 h3.cs, c_1_7 h3.cs, c_1_8 h3.cs, c_2_0 h3.cs, c_2_1 h3.cs, c_5_0 h3.cs, c_5_1 h3.cs, c_5_2 h3.cs, c_5_3 h3.cs, c_5_5 h3.cs, c_5_8 h3.cs, c_5_11 h3.cs, c_6_1 h3.cs, c_6_2 h3.cs, c_6_3 h3.cs, c_10_4 h3.cs, c_10_5 h3.cs, c_10_6 h3.cs, c_10_7 h3.cs, c_15_1 h3.cs, c_17_1 h3.cs, c_339_0 h3.cs, c_341_0 h3.cs, c_341_1 h3.cs, c_341_2 h3.cs, c_342_4 h3.cs, c_342_5 h3.cs, c_342_6 h3.cs, c_342_7 h3.cs, c_347_0 h3.cs, c_347_2 h3.cs, c_347_3 h3.cs, c_349_0 h3.cs, c_349_1 h3.cs, c_349_2 h3.cs, c_351_2 h3.cs, c_351_10 h3.cs, c_351_12 h3.cs, c_354_0 h3.cs, c_354_1 h3.cs, c_354_2 h3.cs, c_354_3 h3.cs, c_354_4 h3.cs, c_354_5 h3.cs, c_354_6 h3.cs, c_354_7 h3.cs, c_354_8 h3.cs, c_354_20 h3.cs, c_354_25 h3.cs, c_354_26 h3.cs, c_354_27 h3.cs, c_354_28 h3.cs, c_354_32 h3.cs, c_354_33 h3.cs, c_354_34 h3.cs, c_354_35 h3.cs, c_354_38 h3.cs, l_3 h3.cs, l_4 h3.cs, l_7 h3.cs, l_8 h3.cs, l_9 h3.cs, l_11 h3.cs, l_12 h3.cs, l_13 h3.cs, l_14 h3.cs, l_16 h3.cs, l_18 h3.cs, l_19 h3.cs, l_20 h3.cs, l_21 h3.cs, l_340 h3.cs, l_343 h3.cs, l_344 h3.cs, l_345 h3.cs, l_346 h3.cs, l_348 h3.cs, l_350 h3.cs, l_352 h3.cs, l_353 h3.cs, l_355 h3.cs, l_356 h3.cs, l_357 h3.cs, l_358 h3.cs, l_359 h3.cs, l_360 h3.cs, l_361 h3.cs, l_362 h3.cs, l_363 h3.cs, l_364 h3.cs, l_365 h3.cs, l_366 h3.cs, l_367 h3.cs, l_368 h3.cs, l_369 h3.cs, l_370 h3.cs, l_371 h3.cs, l_372 h3.cs, l_373 h3.cs, e53, hE, m2l (p := (k : Int)) ⟨by omega, by omega⟩, aj (x := 85) (y := 2 * (k : Int)) ⟨by omega, by omega⟩, aj (x := 85 + 2 * (k : Int)) (y := 1) ⟨by omega, by omega⟩, show (0 : Int) ≤ 85 + 2 * (k : Int) + 1 by omega, show 85 + 2 * (k : Int) + 1 < 1691 by omega, jp1 (p := k) (by omega), ↓reduceIte, hh_wr, hl_wr, b10, b11, ite_not, ne_eq, Int.reduceEq, Int.reduceLE, Int.reduceLT, Int.reduceNe, Int.reduceNeg, Int.reduceAdd, Int.reduceSub, Int.reduceMul, not_false_eq_true, not_true_eq_false, false_and, and_false, true_and, and_true, and_self, true_or, or_true, false_or, or_false, if_true, if_false, ite_true, ite_false, mj_tl_some, mj_tl_none, mj_cs0, mj_cs1, mj_cs2, mj_cs3, mj_cs4]
          exact hS
    · intro M2 f2
      have h2 := h.s8 f2
      have hK2 : hh M2 355 7 = (K : Int) := by rw [fz8_355 f2]; exact hK
      have hS := ih (M2, (0, if ap2 (whF (hh M 355) (Ls j)) K then 1 else 0), (0, (K : Int))) f2
      cases hb : ap2 (whF (hh M 355) (Ls j)) K
      · rw [hb] at hS
        rw [← bt_f (c := whB (hh M 355) Ls) (p := j) (by unfold whB; rw [eK]; exact hb) (by omega)] at hS
        simp only [Bool.false_eq_true, if_false] at hS
        simp only [w331_19, w331_21, w331_22, w331_25, w331_27, w331_28, w331_82, w331_83, w331_84, w331_87, w331_88, w331_89, w331_90, w331_93, w331_94, w331_95, w331_96, w331_99, c_1_0 h2.cs, c_1_1 h2.cs, c_1_2 h2.cs, c_1_3 h2.cs, c_1_4 h2.cs, c_1_5 h2.cs, c_1_6 h2.cs, c_1_7 h2.cs, c_1_8 h2.cs, c_2_0 h2.cs, c_2_1 h2.cs, c_5_0 h2.cs, c_5_1 h2.cs, c_5_2 h2.cs, c_5_3 h2.cs, c_5_5 h2.cs, c_5_8 h2.cs, c_5_11 h2.cs, c_6_1 h2.cs, c_6_2 h2.cs, c_6_3 h2.cs, c_10_4 h2.cs, c_10_5 h2.cs, c_10_6 h2.cs, c_10_7 h2.cs, c_15_1 h2.cs, c_17_1 h2.cs, c_339_0 h2.cs, c_341_0 h2.cs, c_341_1 h2.cs, c_341_2 h2.cs, c_342_4 h2.cs, c_342_5 h2.cs, c_342_6 h2.cs, c_342_7 h2.cs, c_347_0 h2.cs, c_347_2 h2.cs, c_347_3 h2.cs, c_349_0 h2.cs, c_349_1 h2.cs, c_349_2 h2.cs, c_351_2 h2.cs, c_351_10 h2.cs, c_351_12 h2.cs, c_354_0 h2.cs, c_354_1 h2.cs, c_354_2 h2.cs, c_354_3 h2.cs, c_354_4 h2.cs, c_354_5 h2.cs, c_354_6 h2.cs, c_354_7 h2.cs, c_354_8 h2.cs, c_354_20 h2.cs, c_354_25 h2.cs, c_354_26 h2.cs, c_354_27 h2.cs, c_354_28 h2.cs, c_354_32 h2.cs, c_354_33 h2.cs, c_354_34 h2.cs, c_354_35 h2.cs, c_354_38 h2.cs, l_3 h2.cs, l_4 h2.cs, l_7 h2.cs, l_8 h2.cs, l_9 h2.cs, l_11 h2.cs, l_12 h2.cs, l_13 h2.cs, l_14 h2.cs, l_16 h2.cs, l_18 h2.cs, l_19 h2.cs, l_20 h2.cs, l_21 h2.cs, l_340 h2.cs, l_343 h2.cs, l_344 h2.cs, l_345 h2.cs, l_346 h2.cs, l_348 h2.cs, l_350 h2.cs, l_352 h2.cs, l_353 h2.cs, l_355 h2.cs, l_356 h2.cs, l_357 h2.cs, l_358 h2.cs, l_359 h2.cs, l_360 h2.cs, l_361 h2.cs, l_362 h2.cs, l_363 h2.cs, l_364 h2.cs, l_365 h2.cs, l_366 h2.cs, l_367 h2.cs, l_368 h2.cs, l_369 h2.cs, l_370 h2.cs, l_371 h2.cs, l_372 h2.cs, l_373 h2.cs, h2.gnf, h2.gP, h2.gy, h2.gx, h2.gt, h2.gns, h2.gnt, h2.gru, h2.gnp, h2.gnd, h2.gne, hK2, Int.lt_irrefl, jp1 (p := j) (by omega), Bool.false_eq_true, ↓reduceIte, hh_wr, hl_wr, b10, b11, ite_not, ne_eq, Int.reduceEq, Int.reduceLE, Int.reduceLT, Int.reduceNe, Int.reduceNeg, Int.reduceAdd, Int.reduceSub, Int.reduceMul, not_false_eq_true, not_true_eq_false, false_and, and_false, true_and, and_true, and_self, true_or, or_true, false_or, or_false, if_true, if_false, ite_true, ite_false, mj_tl_some, mj_tl_none, mj_cs0, mj_cs1, mj_cs2, mj_cs3, mj_cs4]
        exact hS
      · rw [hb] at hS
        rw [← bt_t (c := whB (hh M 355) Ls) (p := j) (by unfold whB; rw [eK]; exact hb) (by omega)] at hS
        simp only [if_true] at hS
        simp only [w331_19, w331_21, w331_22, w331_25, w331_27, w331_28, w331_82, w331_83, w331_84, w331_87, w331_88, w331_89, w331_90, w331_93, w331_94, w331_95, w331_96, w331_99, c_1_0 h2.cs, c_1_1 h2.cs, c_1_2 h2.cs, c_1_3 h2.cs, c_1_4 h2.cs, c_1_5 h2.cs, c_1_6 h2.cs, c_1_7 h2.cs, c_1_8 h2.cs, c_2_0 h2.cs, c_2_1 h2.cs, c_5_0 h2.cs, c_5_1 h2.cs, c_5_2 h2.cs, c_5_3 h2.cs, c_5_5 h2.cs, c_5_8 h2.cs, c_5_11 h2.cs, c_6_1 h2.cs, c_6_2 h2.cs, c_6_3 h2.cs, c_10_4 h2.cs, c_10_5 h2.cs, c_10_6 h2.cs, c_10_7 h2.cs, c_15_1 h2.cs, c_17_1 h2.cs, c_339_0 h2.cs, c_341_0 h2.cs, c_341_1 h2.cs, c_341_2 h2.cs, c_342_4 h2.cs, c_342_5 h2.cs, c_342_6 h2.cs, c_342_7 h2.cs, c_347_0 h2.cs, c_347_2 h2.cs, c_347_3 h2.cs, c_349_0 h2.cs, c_349_1 h2.cs, c_349_2 h2.cs, c_351_2 h2.cs, c_351_10 h2.cs, c_351_12 h2.cs, c_354_0 h2.cs, c_354_1 h2.cs, c_354_2 h2.cs, c_354_3 h2.cs, c_354_4 h2.cs, c_354_5 h2.cs, c_354_6 h2.cs, c_354_7 h2.cs, c_354_8 h2.cs, c_354_20 h2.cs, c_354_25 h2.cs, c_354_26 h2.cs, c_354_27 h2.cs, c_354_28 h2.cs, c_354_32 h2.cs, c_354_33 h2.cs, c_354_34 h2.cs, c_354_35 h2.cs, c_354_38 h2.cs, l_3 h2.cs, l_4 h2.cs, l_7 h2.cs, l_8 h2.cs, l_9 h2.cs, l_11 h2.cs, l_12 h2.cs, l_13 h2.cs, l_14 h2.cs, l_16 h2.cs, l_18 h2.cs, l_19 h2.cs, l_20 h2.cs, l_21 h2.cs, l_340 h2.cs, l_343 h2.cs, l_344 h2.cs, l_345 h2.cs, l_346 h2.cs, l_348 h2.cs, l_350 h2.cs, l_352 h2.cs, l_353 h2.cs, l_355 h2.cs, l_356 h2.cs, l_357 h2.cs, l_358 h2.cs, l_359 h2.cs, l_360 h2.cs, l_361 h2.cs, l_362 h2.cs, l_363 h2.cs, l_364 h2.cs, l_365 h2.cs, l_366 h2.cs, l_367 h2.cs, l_368 h2.cs, l_369 h2.cs, l_370 h2.cs, l_371 h2.cs, l_372 h2.cs, l_373 h2.cs, h2.gnf, h2.gP, h2.gy, h2.gx, h2.gt, h2.gns, h2.gnt, h2.gru, h2.gnp, h2.gnd, h2.gne, hK2, Int.lt_irrefl, jp1 (p := j) (by omega), ↓reduceIte, hh_wr, hl_wr, b10, b11, ite_not, ne_eq, Int.reduceEq, Int.reduceLE, Int.reduceLT, Int.reduceNe, Int.reduceNeg, Int.reduceAdd, Int.reduceSub, Int.reduceMul, not_false_eq_true, not_true_eq_false, false_and, and_false, true_and, and_true, and_self, true_or, or_true, false_or, or_false, if_true, if_false, ite_true, ite_false, mj_tl_some, mj_tl_none, mj_cs0, mj_cs1, mj_cs2, mj_cs3, mj_cs4]
        exact hS
  · rintro ⟨M1, w1, w2⟩ f1
    have h1 := h.s8 f1
    have hN1 : hh M1 355 3 = (N : Int) := by rw [fz8_355 f1]; exact hN
    simp only [w331_0, w331_1, w331_2, w331_3, w331_4, w331_5, w331_6, w331_9, w331_10, w331_11, w331_14, w331_15, w331_16, w331_17, w331_19, w331_21, w331_22, w331_25, w331_27, w331_28, w331_31, w331_32, w331_35, w331_36, w331_37, w331_38, w331_41, w331_43, w331_44, w331_46, w331_47, w331_48, w331_49, w331_50, w331_53, w331_54, w331_57, w331_59, w331_60, w331_62, w331_63, w331_64, w331_65, w331_66, w331_67, w331_70, w331_71, w331_74, w331_75, w331_76, w331_79, w331_82, w331_83, w331_84, w331_87, w331_88, w331_89, w331_90, w331_93, w331_94, w331_95, w331_96, w331_99, w331_102, w331_103, c_1_0 h1.cs, c_1_1 h1.cs, c_1_2 h1.cs, c_1_3 h1.cs, c_1_4 h1.cs, c_1_5 h1.cs, c_1_6 h1.cs, c_1_7 h1.cs, c_1_8 h1.cs, c_2_0 h1.cs, c_2_1 h1.cs, c_5_0 h1.cs, c_5_1 h1.cs, c_5_2 h1.cs, c_5_3 h1.cs, c_5_5 h1.cs, c_5_8 h1.cs, c_5_11 h1.cs, c_6_1 h1.cs, c_6_2 h1.cs, c_6_3 h1.cs, c_10_4 h1.cs, c_10_5 h1.cs, c_10_6 h1.cs, c_10_7 h1.cs, c_15_1 h1.cs, c_17_1 h1.cs, c_339_0 h1.cs, c_341_0 h1.cs, c_341_1 h1.cs, c_341_2 h1.cs, c_342_4 h1.cs, c_342_5 h1.cs, c_342_6 h1.cs, c_342_7 h1.cs, c_347_0 h1.cs, c_347_2 h1.cs, c_347_3 h1.cs, c_349_0 h1.cs, c_349_1 h1.cs, c_349_2 h1.cs, c_351_2 h1.cs, c_351_10 h1.cs, c_351_12 h1.cs, c_354_0 h1.cs, c_354_1 h1.cs, c_354_2 h1.cs, c_354_3 h1.cs, c_354_4 h1.cs, c_354_5 h1.cs, c_354_6 h1.cs, c_354_7 h1.cs, c_354_8 h1.cs, c_354_20 h1.cs, c_354_25 h1.cs, c_354_26 h1.cs, c_354_27 h1.cs, c_354_28 h1.cs, c_354_32 h1.cs, c_354_33 h1.cs, c_354_34 h1.cs, c_354_35 h1.cs, c_354_38 h1.cs, l_3 h1.cs, l_4 h1.cs, l_7 h1.cs, l_8 h1.cs, l_9 h1.cs, l_11 h1.cs, l_12 h1.cs, l_13 h1.cs, l_14 h1.cs, l_16 h1.cs, l_18 h1.cs, l_19 h1.cs, l_20 h1.cs, l_21 h1.cs, l_340 h1.cs, l_343 h1.cs, l_344 h1.cs, l_345 h1.cs, l_346 h1.cs, l_348 h1.cs, l_350 h1.cs, l_352 h1.cs, l_353 h1.cs, l_355 h1.cs, l_356 h1.cs, l_357 h1.cs, l_358 h1.cs, l_359 h1.cs, l_360 h1.cs, l_361 h1.cs, l_362 h1.cs, l_363 h1.cs, l_364 h1.cs, l_365 h1.cs, l_366 h1.cs, l_367 h1.cs, l_368 h1.cs, l_369 h1.cs, l_370 h1.cs, l_371 h1.cs, l_372 h1.cs, l_373 h1.cs, h1.gnf, h1.gP, h1.gy, h1.gx, h1.gt, h1.gns, h1.gnt, h1.gru, h1.gnp, h1.gnd, h1.gne, hN1, Int.lt_irrefl, ↓reduceIte, hh_wr, hl_wr, b10, b11, ite_not, ne_eq, Int.reduceEq, Int.reduceLE, Int.reduceLT, Int.reduceNe, Int.reduceNeg, Int.reduceAdd, Int.reduceSub, Int.reduceMul, not_false_eq_true, not_true_eq_false, false_and, and_false, true_and, and_true, and_self, true_or, or_true, false_or, or_false, if_true, if_false, ite_true, ite_false, mj_tl_some, mj_tl_none, mj_cs0, mj_cs1, mj_cs2, mj_cs3, mj_cs4]
    exact f1
theorem st39 : St39 RR (d + 60) := by
  intro X M h
  obtain ⟨Ls, t⟩ := h.txs
  unfold LS2
  show wp X (d + 60) 172 0 [(31, 1)] [] M _
  simp only [w172_0, w172_1, w172_4, c_1_0 h.cs, c_1_1 h.cs, c_1_2 h.cs, c_1_3 h.cs, c_1_4 h.cs, c_1_5 h.cs, c_1_6 h.cs, c_1_7 h.cs, c_1_8 h.cs, c_2_0 h.cs, c_2_1 h.cs, c_5_0 h.cs, c_5_1 h.cs, c_5_2 h.cs, c_5_3 h.cs, c_5_5 h.cs, c_5_8 h.cs, c_5_11 h.cs, c_6_1 h.cs, c_6_2 h.cs, c_6_3 h.cs, c_10_4 h.cs, c_10_5 h.cs, c_10_6 h.cs, c_10_7 h.cs, c_15_1 h.cs, c_17_1 h.cs, c_339_0 h.cs, c_341_0 h.cs, c_341_1 h.cs, c_341_2 h.cs, c_342_4 h.cs, c_342_5 h.cs, c_342_6 h.cs, c_342_7 h.cs, c_347_0 h.cs, c_347_2 h.cs, c_347_3 h.cs, c_349_0 h.cs, c_349_1 h.cs, c_349_2 h.cs, c_351_2 h.cs, c_351_10 h.cs, c_351_12 h.cs, c_354_0 h.cs, c_354_1 h.cs, c_354_2 h.cs, c_354_3 h.cs, c_354_4 h.cs, c_354_5 h.cs, c_354_6 h.cs, c_354_7 h.cs, c_354_8 h.cs, c_354_20 h.cs, c_354_25 h.cs, c_354_26 h.cs, c_354_27 h.cs, c_354_28 h.cs, c_354_32 h.cs, c_354_33 h.cs, c_354_34 h.cs, c_354_35 h.cs, c_354_38 h.cs, l_3 h.cs, l_4 h.cs, l_7 h.cs, l_8 h.cs, l_9 h.cs, l_11 h.cs, l_12 h.cs, l_13 h.cs, l_14 h.cs, l_16 h.cs, l_18 h.cs, l_19 h.cs, l_20 h.cs, l_21 h.cs, l_340 h.cs, l_343 h.cs, l_344 h.cs, l_345 h.cs, l_346 h.cs, l_348 h.cs, l_350 h.cs, l_352 h.cs, l_353 h.cs, l_355 h.cs, l_356 h.cs, l_357 h.cs, l_358 h.cs, l_359 h.cs, l_360 h.cs, l_361 h.cs, l_362 h.cs, l_363 h.cs, l_364 h.cs, l_365 h.cs, l_366 h.cs, l_367 h.cs, l_368 h.cs, l_369 h.cs, l_370 h.cs, l_371 h.cs, l_372 h.cs, l_373 h.cs, h.gnf, h.gP, h.gy, h.gx, h.gt, h.gns, h.gnt, h.gru, h.gnp, h.gnd, h.gne, ↓reduceIte, hh_wr, hl_wr, b10, b11, ite_not, ne_eq, Int.reduceEq, Int.reduceLE, Int.reduceLT, Int.reduceNe, Int.reduceNeg, Int.reduceAdd, Int.reduceSub, Int.reduceMul, not_false_eq_true, not_true_eq_false, false_and, and_false, true_and, and_true, and_self, true_or, or_true, false_or, or_false, if_true, if_false, ite_true, ite_false, mj_tl_some, mj_tl_none, mj_cs0, mj_cs1, mj_cs2, mj_cs3, mj_cs4]
  refine wc.mono (c_textsFit (d := d + 54) h t) ?_
  rintro q M1 ⟨rfl, f1⟩
  have h1 := h.s8 f1
  have e5 := fz8_355 f1
  simp only [w172_7, ↓reduceIte, hh_wr, hl_wr, b10, b11, ite_not, ne_eq, Int.reduceEq, Int.reduceLE, Int.reduceLT, Int.reduceNe, Int.reduceNeg, Int.reduceAdd, Int.reduceSub, Int.reduceMul, not_false_eq_true, not_true_eq_false, false_and, and_false, true_and, and_true, and_self, true_or, or_true, false_or, or_false, if_true, if_false, ite_true, ite_false, mj_tl_some, mj_tl_none, mj_cs0, mj_cs1, mj_cs2, mj_cs3, mj_cs4]
  refine wc.mono (m_whose (d := d + 53) (Ls := Ls) (rs := fun j => hh M 20 (j : Int)) h1 (fun j hj => (t j (by rw [e5] at hj; exact hj)).fz f1 (by decide))) ?_
  rintro q M2 ⟨rfl, f2⟩
  rw [e5]
  exact ⟨_, rfl, rfl, Pst.of (h.s8 (f1.tr f2)) (f1.tr f2)⟩
end Whose
