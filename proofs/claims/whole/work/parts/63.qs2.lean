/-! QUESTIONS 2: rarest, could, likely, sure, ask, middle -/
set_option maxRecDepth 20000 in
theorem bits_64 : ∀ v : Nat, v < 64 → pcI (v : Int) ≤ 6 := by decide +kernel
/-- rarest: the best of those below f -/
def raS (A : Int → Int) (f : Nat) (b : Int) : Int := if kwn A (f : Int) ≠ 0 ∧ (b = -1 ∨ pcI (kwn A (f : Int) : Int) < pcI (kwn A b : Int)) then (f : Int) else b
def ra (A : Int → Int) : Nat → Int := it (raS A) (-1)
theorem ra_r (A : Int → Int) : ∀ p, -1 ≤ ra A p ∧ ra A p < p
  | 0 => by simp [ra, it]
  | p + 1 => by
    have h := ra_r A p
    have e : ra A (p + 1) = raS A p (ra A p) := rfl
    rw [e]
    unfold raS
    split <;> omega
theorem cn_and_le {c g : Nat → Bool} : ∀ n, cn (fun p => c p && g p) n ≤ cn c n
  | 0 => Nat.le_refl _
  | n + 1 => by
    have := cn_and_le (c := c) (g := g) n
    rw [cn, cn]
    cases c n <;> cases g n <;> simp <;> omega
theorem cn_split {c g : Nat → Bool} : ∀ n, cn (fun p => c p && g p) n + cn (fun p => c p && !(g p)) n = cn c n
  | 0 => rfl
  | n + 1 => by
    have := cn_split (c := c) (g := g) n
    rw [cn, cn, cn]
    cases c n <;> cases g n <;> simp <;> omega
theorem ah_le (A : Int → Int) (d e : Int) : ah A d e ≤ nCb A := cn_and_le _
theorem pT_ne : ∀ p : Nat, p < 120 → ∀ d : Nat, d < 5 → ∀ e : Nat, e < 5 → d ≠ e → pT (5 * (p : Int) + (d : Int)) ≠ pT (5 * (p : Int) + (e : Int)) := by decide +kernel
theorem ah_flip (A : Int → Int) {d e : Nat} (hd : d < 5) (he : e < 5) (hn : d ≠ e) : ah A (d : Int) (e : Int) + ah A (e : Int) (d : Int) = nCb A := by
  have h := cn_split (c := cb A) (g := fun p => decide (pT (5 * (p : Int) + (d : Int)) < pT (5 * (p : Int) + (e : Int)))) 120
  have e2 : cn (fun p => cb A p && decide (pT (5 * (p : Int) + (e : Int)) < pT (5 * (p : Int) + (d : Int)))) 120 = cn (fun p => cb A p && !(decide (pT (5 * (p : Int) + (d : Int)) < pT (5 * (p : Int) + (e : Int))))) 120 := by
    refine cn_congr (fun p hp => ?_)
    have := pT_ne p hp d hd e he hn
    by_cases g : pT (5 * (p : Int) + (d : Int)) < pT (5 * (p : Int) + (e : Int))
    · simp only [g, show ¬ pT (5 * (p : Int) + (e : Int)) < pT (5 * (p : Int) + (d : Int)) by omega, decide_true, decide_false, Bool.not_true]
    · simp only [g, show pT (5 * (p : Int) + (e : Int)) < pT (5 * (p : Int) + (d : Int)) by omega, decide_true, decide_false, Bool.not_false]
  have e3 : ah A (e : Int) (d : Int) = cn (fun p => cb A p && !(decide (pT (5 * (p : Int) + (d : Int)) < pT (5 * (p : Int) + (e : Int))))) 120 := e2
  rw [e3]
  exact h
theorem nCb_le (A : Int → Int) : nCb A ≤ 120 := cn_le _ _
/-- could -/
def coV (A : Int → Int) (i : Int) : Int := fr (fun p => cb A p && decide ((cn (cb A) p : Int) = i)) (fun p => (p : Int)) (if i = -1 then (nCb A : Int) else -2) 120 0
theorem coV_n (A : Int → Int) : coV A (-1) = (nCb A : Int) := by
  unfold coV
  rw [fr_none (fun p _ => by simp)]
  rfl
theorem coV_o (A : Int → Int) {i : Int} (h : i ≠ -1) (h2 : ¬ (0 ≤ i ∧ i < (nCb A : Int))) : coV A i = -2 := by
  unfold coV
  rw [fr_none (fun p hp => ?_), if_neg h]
  cases hc : cb A p
  · rfl
  · have := cn_lt (c := cb A) (show p < 120 from hp) hc
    have e : cn (cb A) 120 = nCb A := rfl
    simp
    omega
theorem coV_p (A : Int → Int) {p : Nat} (hp : p < 120) (hc : cb A p = true) : coV A (cn (cb A) p : Int) = (p : Int) := by
  unfold coV
  refine fr_eq hp (by simp [hc]) (fun q hq => ?_)
  cases h : cb A q
  · rfl
  · have := cn_lt (c := cb A) hq h
    simp
    omega
/-- sure -/
def suF (A : Int → Int) (a : Int) (b : Nat) : Bool := decide ((b : Int) ≠ a ∧ ah A (b : Int) a = nCb A)
section Qt
variable {X : mj_X} {d : Nat} {M : mj_M} {Q : Option mj_V → mj_M → Prop}
theorem c_knownLeast (h : RR M) : wc X (d + 2) 178 [(20, 349)] M Q ↔ Q (some (0, ra (hh M 355) (hh M 355 0).toNat)) M := by
  obtain ⟨P, hP⟩ := nat_of h.F0
  have h8 := h.F8
  have e : (hh M 355 0).toNat = P := by omega
  rw [e]
  show wp X (d + 2) 178 0 [(20, 349), (9, 0), (9, 0), (9, 0), (9, 0)] [] M Q ↔ _
  refine wp.det ?_
  simp only [w178_0, w178_1, w178_2, w178_4, w178_5, w178_6]
  have key := loop3 (S := fun (p : Nat) (b m : Int) (w : mj_V) => wp X (d + 2) 178 7 [(20, 349), (0, b), (0, m), (0, (p : Int)), w] [] M (fun r M' => r = some (0, ra (hh M 355) P) ∧ M' = M)) (I := fun p b m w => b = ra (hh M 355) p ∧ m = if b = -1 then 7 else pcI (kwn (hh M 355) b : Int)) (P := P) ?_ ?_
  · exact key (-1) 7 _ ⟨rfl, rfl⟩
  · rintro p b m w hp ⟨h1, h2⟩ ih
    have e2 : ra (hh M 355) (p + 1) = raS (hh M 355) p (ra (hh M 355) p) := rfl
    rw [← h1] at e2
    have k1 := fun Q => c_knowers10 (X := X) (d := d) (M := M) (Q := Q) (f := (p : Int)) h ⟨by omega, by omega⟩
    have hl := kwn_lt h (p : Int)
    have hz := pc_z (v := (kwn (hh M 355) (p : Int) : Int)) ⟨by omega, by omega⟩
    have h00 := pc_0 (v := (kwn (hh M 355) (p : Int) : Int)) ⟨by omega, by omega⟩
    have h66 := bits_64 _ hl
    rw [w178_7]
    simp only [w178_0, w178_1, w178_2, w178_4, w178_5, w178_6, w178_8, w178_9, w178_12, w178_15, w178_18, w178_21, w178_22, w178_25, w178_28, w178_29, w178_32, w178_35, w178_37, w178_39, w178_42, w178_44, w178_45, w178_48, w178_49, w178_50, w178_52, w178_53, w178_56, w178_59, w178_60, c_1_0 h.cs, c_1_1 h.cs, c_1_2 h.cs, c_1_3 h.cs, c_1_4 h.cs, c_1_5 h.cs, c_1_6 h.cs, c_1_7 h.cs, c_1_8 h.cs, c_2_0 h.cs, c_2_1 h.cs, c_5_0 h.cs, c_5_1 h.cs, c_5_2 h.cs, c_5_3 h.cs, c_5_5 h.cs, c_5_8 h.cs, c_5_11 h.cs, c_6_1 h.cs, c_6_2 h.cs, c_6_3 h.cs, c_10_4 h.cs, c_10_5 h.cs, c_10_6 h.cs, c_10_7 h.cs, c_15_1 h.cs, c_17_1 h.cs, c_339_0 h.cs, c_341_0 h.cs, c_341_1 h.cs, c_341_2 h.cs, c_342_4 h.cs, c_342_5 h.cs, c_342_6 h.cs, c_342_7 h.cs, c_347_0 h.cs, c_347_2 h.cs, c_347_3 h.cs, c_349_0 h.cs, c_349_1 h.cs, c_349_2 h.cs, c_351_2 h.cs, c_351_10 h.cs, c_351_12 h.cs, c_354_0 h.cs, c_354_1 h.cs, c_354_2 h.cs, c_354_3 h.cs, c_354_4 h.cs, c_354_5 h.cs, c_354_6 h.cs, c_354_7 h.cs, c_354_8 h.cs, c_354_20 h.cs, c_354_25 h.cs, c_354_26 h.cs, c_354_27 h.cs, c_354_28 h.cs, c_354_32 h.cs, c_354_33 h.cs, c_354_34 h.cs, c_354_35 h.cs, c_354_38 h.cs, l_3 h.cs, l_4 h.cs, l_7 h.cs, l_8 h.cs, l_9 h.cs, l_11 h.cs, l_12 h.cs, l_13 h.cs, l_14 h.cs, l_16 h.cs, l_18 h.cs, l_19 h.cs, l_20 h.cs, l_21 h.cs, l_340 h.cs, l_343 h.cs, l_344 h.cs, l_345 h.cs, l_346 h.cs, l_348 h.cs, l_350 h.cs, l_352 h.cs, l_353 h.cs, l_355 h.cs, l_356 h.cs, l_357 h.cs, l_358 h.cs, l_359 h.cs, l_360 h.cs, l_361 h.cs, l_362 h.cs, l_363 h.cs, l_364 h.cs, l_365 h.cs, l_366 h.cs, l_367 h.cs, l_368 h.cs, l_369 h.cs, l_370 h.cs, l_371 h.cs, l_372 h.cs, l_373 h.cs, h.gnf, h.gP, h.gy, h.gx, h.gt, h.gns, h.gnt, h.gru, h.gnp, h.gnd, h.gne, hP, k1, c_bitCount, show (p : Int) < (P : Int) by omega, jp1 (p := p) (by omega), ↓reduceIte, hh_wr, hl_wr, b10, b11, ite_not, ne_eq, Int.reduceEq, Int.reduceLE, Int.reduceLT, Int.reduceNe, Int.reduceNeg, Int.reduceAdd, Int.reduceSub, Int.reduceMul, not_false_eq_true, not_true_eq_false, false_and, and_false, true_and, and_true, and_self, true_or, or_true, false_or, or_false, if_true, if_false, ite_true, ite_false, mj_tl_some, mj_tl_none, mj_cs0, mj_cs1, mj_cs2, mj_cs3, mj_cs4]
    unfold raS at e2
    by_cases hC : kwn (hh M 355) (p : Int) ≠ 0 ∧ (b = -1 ∨ pcI (kwn (hh M 355) (p : Int) : Int) < pcI (kwn (hh M 355) b : Int))
    · rw [if_pos hC] at e2
      have q1 : ¬ pcI (kwn (hh M 355) (p : Int) : Int) ≤ 0 := by omega
      have q2 : pcI (kwn (hh M 355) (p : Int) : Int) < m := by
        rw [h2]
        by_cases hb : b = -1
        · rw [if_pos hb]; omega
        · rw [if_neg hb]; omega
      simp only [q1, q2, ↓reduceIte, hh_wr, hl_wr, b10, b11, ite_not, ne_eq, Int.reduceEq, Int.reduceLE, Int.reduceLT, Int.reduceNe, Int.reduceNeg, Int.reduceAdd, Int.reduceSub, Int.reduceMul, not_false_eq_true, not_true_eq_false, false_and, and_false, true_and, and_true, and_self, true_or, or_true, false_or, or_false, if_true, if_false, ite_true, ite_false, mj_tl_some, mj_tl_none, mj_cs0, mj_cs1, mj_cs2, mj_cs3, mj_cs4]
      exact ih _ _ _ ⟨e2.symm, by rw [if_neg (by omega)]⟩
    · rw [if_neg hC] at e2
      by_cases q1 : pcI (kwn (hh M 355) (p : Int) : Int) ≤ 0
      · simp only [q1, ↓reduceIte, hh_wr, hl_wr, b10, b11, ite_not, ne_eq, Int.reduceEq, Int.reduceLE, Int.reduceLT, Int.reduceNe, Int.reduceNeg, Int.reduceAdd, Int.reduceSub, Int.reduceMul, not_false_eq_true, not_true_eq_false, false_and, and_false, true_and, and_true, and_self, true_or, or_true, false_or, or_false, if_true, if_false, ite_true, ite_false, mj_tl_some, mj_tl_none, mj_cs0, mj_cs1, mj_cs2, mj_cs3, mj_cs4]
        exact ih _ _ _ ⟨e2.symm, h2⟩
      · have q2 : ¬ pcI (kwn (hh M 355) (p : Int) : Int) < m := by
          rw [h2]
          by_cases hb : b = -1
          · exfalso; exact hC ⟨by omega, Or.inl hb⟩
          · rw [if_neg hb]; intro hlt; exact hC ⟨by omega, Or.inr hlt⟩
        simp only [q1, q2, ↓reduceIte, hh_wr, hl_wr, b10, b11, ite_not, ne_eq, Int.reduceEq, Int.reduceLE, Int.reduceLT, Int.reduceNe, Int.reduceNeg, Int.reduceAdd, Int.reduceSub, Int.reduceMul, not_false_eq_true, not_true_eq_false, false_and, and_false, true_and, and_true, and_self, true_or, or_true, false_or, or_false, if_true, if_false, ite_true, ite_false, mj_tl_some, mj_tl_none, mj_cs0, mj_cs1, mj_cs2, mj_cs3, mj_cs4]
        exact ih _ _ _ ⟨e2.symm, h2⟩
  · rintro b m w ⟨h1, h2⟩
    simp only [w178_0, w178_1, w178_2, w178_4, w178_5, w178_6, w178_7, w178_8, w178_9, w178_12, w178_15, w178_18, w178_21, w178_22, w178_25, w178_28, w178_29, w178_32, w178_35, w178_37, w178_39, w178_42, w178_44, w178_45, w178_48, w178_49, w178_50, w178_52, w178_53, w178_56, w178_59, w178_60, c_1_0 h.cs, c_1_1 h.cs, c_1_2 h.cs, c_1_3 h.cs, c_1_4 h.cs, c_1_5 h.cs, c_1_6 h.cs, c_1_7 h.cs, c_1_8 h.cs, c_2_0 h.cs, c_2_1 h.cs, c_5_0 h.cs, c_5_1 h.cs, c_5_2 h.cs, c_5_3 h.cs, c_5_5 h.cs, c_5_8 h.cs, c_5_11 h.cs, c_6_1 h.cs, c_6_2 h.cs, c_6_3 h.cs, c_10_4 h.cs, c_10_5 h.cs, c_10_6 h.cs, c_10_7 h.cs, c_15_1 h.cs, c_17_1 h.cs, c_339_0 h.cs, c_341_0 h.cs, c_341_1 h.cs, c_341_2 h.cs, c_342_4 h.cs, c_342_5 h.cs, c_342_6 h.cs, c_342_7 h.cs, c_347_0 h.cs, c_347_2 h.cs, c_347_3 h.cs, c_349_0 h.cs, c_349_1 h.cs, c_349_2 h.cs, c_351_2 h.cs, c_351_10 h.cs, c_351_12 h.cs, c_354_0 h.cs, c_354_1 h.cs, c_354_2 h.cs, c_354_3 h.cs, c_354_4 h.cs, c_354_5 h.cs, c_354_6 h.cs, c_354_7 h.cs, c_354_8 h.cs, c_354_20 h.cs, c_354_25 h.cs, c_354_26 h.cs, c_354_27 h.cs, c_354_28 h.cs, c_354_32 h.cs, c_354_33 h.cs, c_354_34 h.cs, c_354_35 h.cs, c_354_38 h.cs, l_3 h.cs, l_4 h.cs, l_7 h.cs, l_8 h.cs, l_9 h.cs, l_11 h.cs, l_12 h.cs, l_13 h.cs, l_14 h.cs, l_16 h.cs, l_18 h.cs, l_19 h.cs, l_20 h.cs, l_21 h.cs, l_340 h.cs, l_343 h.cs, l_344 h.cs, l_345 h.cs, l_346 h.cs, l_348 h.cs, l_350 h.cs, l_352 h.cs, l_353 h.cs, l_355 h.cs, l_356 h.cs, l_357 h.cs, l_358 h.cs, l_359 h.cs, l_360 h.cs, l_361 h.cs, l_362 h.cs, l_363 h.cs, l_364 h.cs, l_365 h.cs, l_366 h.cs, l_367 h.cs, l_368 h.cs, l_369 h.cs, l_370 h.cs, l_371 h.cs, l_372 h.cs, l_373 h.cs, h.gnf, h.gP, h.gy, h.gx, h.gt, h.gns, h.gnt, h.gru, h.gnp, h.gnd, h.gne, hP, Int.lt_irrefl, ↓reduceIte, hh_wr, hl_wr, b10, b11, ite_not, ne_eq, Int.reduceEq, Int.reduceLE, Int.reduceLT, Int.reduceNe, Int.reduceNeg, Int.reduceAdd, Int.reduceSub, Int.reduceMul, not_false_eq_true, not_true_eq_false, false_and, and_false, true_and, and_true, and_self, true_or, or_true, false_or, or_false, if_true, if_false, ite_true, ite_false, mj_tl_some, mj_tl_none, mj_cs0, mj_cs1, mj_cs2, mj_cs3, mj_cs4]
    rw [h1]
theorem m_rarest (h : RR M) : wc X (d + 2) 305 [(32, 354)] M Q ↔ Q (some (0, ra (hh M 355) (hh M 355 0).toNat)) M := by
  obtain ⟨P, hP⟩ := nat_of h.F0
  have h8 := h.F8
  have e : (hh M 355 0).toNat = P := by omega
  rw [e]
  show wp X (d + 2) 305 0 [(32, 354), (9, 0), (9, 0)] [] M Q ↔ _
  refine wp.det ?_
  simp only [w305_0, w305_1, w305_2, w305_3]
  have key := loop1 (S := fun (p : Nat) (b : Int) => wp X (d + 2) 305 4 [(32, 354), (0, b), (0, (p : Int))] [] M (fun r M' => r = some (0, ra (hh M 355) P) ∧ M' = M)) (I := fun p b => b = ra (hh M 355) p) (P := P) ?_ ?_
  · exact key (-1) rfl
  · rintro p b hp h1 ih
    have e2 : ra (hh M 355) (p + 1) = raS (hh M 355) p (ra (hh M 355) p) := rfl
    rw [← h1] at e2
    have k1 := fun Q f => m_knownBy (X := X) (d := d) (M := M) (Q := Q) (f := f) h
    have hl := kwn_lt h (p : Int)
    have hl2 := kwn_lt h b
    have b1 := fun Q => m_bits (X := X) (d := d + 1) (M := M) (Q := Q) (v := (kwn (hh M 355) (p : Int) : Int)) ⟨by omega, by omega⟩
    have b2 := fun Q => m_bits (X := X) (d := d + 1) (M := M) (Q := Q) (v := (kwn (hh M 355) b : Int)) ⟨by omega, by omega⟩
    rw [w305_4]
    unfold raS at e2
    by_cases hz : kwn (hh M 355) (p : Int) = 0
    · rw [if_neg (by omega)] at e2
      simp only [w305_0, w305_1, w305_2, w305_3, w305_5, w305_6, w305_9, w305_10, w305_11, w305_14, w305_15, w305_16, w305_19, w305_22, w305_23, w305_24, w305_27, w305_28, w305_29, w305_32, w305_35, w305_36, w305_37, w305_40, w305_43, w305_46, w305_47, w305_48, w305_51, w305_54, w305_55, c_1_0 h.cs, c_1_1 h.cs, c_1_2 h.cs, c_1_3 h.cs, c_1_4 h.cs, c_1_5 h.cs, c_1_6 h.cs, c_1_7 h.cs, c_1_8 h.cs, c_2_0 h.cs, c_2_1 h.cs, c_5_0 h.cs, c_5_1 h.cs, c_5_2 h.cs, c_5_3 h.cs, c_5_5 h.cs, c_5_8 h.cs, c_5_11 h.cs, c_6_1 h.cs, c_6_2 h.cs, c_6_3 h.cs, c_10_4 h.cs, c_10_5 h.cs, c_10_6 h.cs, c_10_7 h.cs, c_15_1 h.cs, c_17_1 h.cs, c_339_0 h.cs, c_341_0 h.cs, c_341_1 h.cs, c_341_2 h.cs, c_342_4 h.cs, c_342_5 h.cs, c_342_6 h.cs, c_342_7 h.cs, c_347_0 h.cs, c_347_2 h.cs, c_347_3 h.cs, c_349_0 h.cs, c_349_1 h.cs, c_349_2 h.cs, c_351_2 h.cs, c_351_10 h.cs, c_351_12 h.cs, c_354_0 h.cs, c_354_1 h.cs, c_354_2 h.cs, c_354_3 h.cs, c_354_4 h.cs, c_354_5 h.cs, c_354_6 h.cs, c_354_7 h.cs, c_354_8 h.cs, c_354_20 h.cs, c_354_25 h.cs, c_354_26 h.cs, c_354_27 h.cs, c_354_28 h.cs, c_354_32 h.cs, c_354_33 h.cs, c_354_34 h.cs, c_354_35 h.cs, c_354_38 h.cs, l_3 h.cs, l_4 h.cs, l_7 h.cs, l_8 h.cs, l_9 h.cs, l_11 h.cs, l_12 h.cs, l_13 h.cs, l_14 h.cs, l_16 h.cs, l_18 h.cs, l_19 h.cs, l_20 h.cs, l_21 h.cs, l_340 h.cs, l_343 h.cs, l_344 h.cs, l_345 h.cs, l_346 h.cs, l_348 h.cs, l_350 h.cs, l_352 h.cs, l_353 h.cs, l_355 h.cs, l_356 h.cs, l_357 h.cs, l_358 h.cs, l_359 h.cs, l_360 h.cs, l_361 h.cs, l_362 h.cs, l_363 h.cs, l_364 h.cs, l_365 h.cs, l_366 h.cs, l_367 h.cs, l_368 h.cs, l_369 h.cs, l_370 h.cs, l_371 h.cs, l_372 h.cs, l_373 h.cs, h.gnf, h.gP, h.gy, h.gx, h.gt, h.gns, h.gnt, h.gru, h.gnp, h.gnd, h.gne, hP, k1, hz, show (p : Int) < (P : Int) by omega, jp1 (p := p) (by omega), ct0, ↓reduceIte, hh_wr, hl_wr, b10, b11, ite_not, ne_eq, Int.reduceEq, Int.reduceLE, Int.reduceLT, Int.reduceNe, Int.reduceNeg, Int.reduceAdd, Int.reduceSub, Int.reduceMul, not_false_eq_true, not_true_eq_false, false_and, and_false, true_and, and_true, and_self, true_or, or_true, false_or, or_false, if_true, if_false, ite_true, ite_false, mj_tl_some, mj_tl_none, mj_cs0, mj_cs1, mj_cs2, mj_cs3, mj_cs4]
      exact ih _ e2.symm
    · by_cases hb : b = -1
      · rw [if_pos ⟨hz, Or.inl hb⟩] at e2
        simp only [w305_0, w305_1, w305_2, w305_3, w305_5, w305_6, w305_9, w305_10, w305_11, w305_14, w305_15, w305_16, w305_19, w305_22, w305_23, w305_24, w305_27, w305_28, w305_29, w305_32, w305_35, w305_36, w305_37, w305_40, w305_43, w305_46, w305_47, w305_48, w305_51, w305_54, w305_55, c_1_0 h.cs, c_1_1 h.cs, c_1_2 h.cs, c_1_3 h.cs, c_1_4 h.cs, c_1_5 h.cs, c_1_6 h.cs, c_1_7 h.cs, c_1_8 h.cs, c_2_0 h.cs, c_2_1 h.cs, c_5_0 h.cs, c_5_1 h.cs, c_5_2 h.cs, c_5_3 h.cs, c_5_5 h.cs, c_5_8 h.cs, c_5_11 h.cs, c_6_1 h.cs, c_6_2 h.cs, c_6_3 h.cs, c_10_4 h.cs, c_10_5 h.cs, c_10_6 h.cs, c_10_7 h.cs, c_15_1 h.cs, c_17_1 h.cs, c_339_0 h.cs, c_341_0 h.cs, c_341_1 h.cs, c_341_2 h.cs, c_342_4 h.cs, c_342_5 h.cs, c_342_6 h.cs, c_342_7 h.cs, c_347_0 h.cs, c_347_2 h.cs, c_347_3 h.cs, c_349_0 h.cs, c_349_1 h.cs, c_349_2 h.cs, c_351_2 h.cs, c_351_10 h.cs, c_351_12 h.cs, c_354_0 h.cs, c_354_1 h.cs, c_354_2 h.cs, c_354_3 h.cs, c_354_4 h.cs, c_354_5 h.cs, c_354_6 h.cs, c_354_7 h.cs, c_354_8 h.cs, c_354_20 h.cs, c_354_25 h.cs, c_354_26 h.cs, c_354_27 h.cs, c_354_28 h.cs, c_354_32 h.cs, c_354_33 h.cs, c_354_34 h.cs, c_354_35 h.cs, c_354_38 h.cs, l_3 h.cs, l_4 h.cs, l_7 h.cs, l_8 h.cs, l_9 h.cs, l_11 h.cs, l_12 h.cs, l_13 h.cs, l_14 h.cs, l_16 h.cs, l_18 h.cs, l_19 h.cs, l_20 h.cs, l_21 h.cs, l_340 h.cs, l_343 h.cs, l_344 h.cs, l_345 h.cs, l_346 h.cs, l_348 h.cs, l_350 h.cs, l_352 h.cs, l_353 h.cs, l_355 h.cs, l_356 h.cs, l_357 h.cs, l_358 h.cs, l_359 h.cs, l_360 h.cs, l_361 h.cs, l_362 h.cs, l_363 h.cs, l_364 h.cs, l_365 h.cs, l_366 h.cs, l_367 h.cs, l_368 h.cs, l_369 h.cs, l_370 h.cs, l_371 h.cs, l_372 h.cs, l_373 h.cs, h.gnf, h.gP, h.gy, h.gx, h.gt, h.gns, h.gnt, h.gru, h.gnp, h.gnd, h.gne, hP, k1, show ¬ (kwn (hh M 355) (p : Int) : Int) = 0 by omega, hb, show (p : Int) < (P : Int) by omega, jp1 (p := p) (by omega), ↓reduceIte, hh_wr, hl_wr, b10, b11, ite_not, ne_eq, Int.reduceEq, Int.reduceLE, Int.reduceLT, Int.reduceNe, Int.reduceNeg, Int.reduceAdd, Int.reduceSub, Int.reduceMul, not_false_eq_true, not_true_eq_false, false_and, and_false, true_and, and_true, and_self, true_or, or_true, false_or, or_false, if_true, if_false, ite_true, ite_false, mj_tl_some, mj_tl_none, mj_cs0, mj_cs1, mj_cs2, mj_cs3, mj_cs4]
        exact ih _ e2.symm
      · by_cases hC : pcI (kwn (hh M 355) (p : Int) : Int) < pcI (kwn (hh M 355) b : Int)
        · rw [if_pos ⟨hz, Or.inr hC⟩] at e2
          simp only [w305_0, w305_1, w305_2, w305_3, w305_5, w305_6, w305_9, w305_10, w305_11, w305_14, w305_15, w305_16, w305_19, w305_22, w305_23, w305_24, w305_27, w305_28, w305_29, w305_32, w305_35, w305_36, w305_37, w305_40, w305_43, w305_46, w305_47, w305_48, w305_51, w305_54, w305_55, c_1_0 h.cs, c_1_1 h.cs, c_1_2 h.cs, c_1_3 h.cs, c_1_4 h.cs, c_1_5 h.cs, c_1_6 h.cs, c_1_7 h.cs, c_1_8 h.cs, c_2_0 h.cs, c_2_1 h.cs, c_5_0 h.cs, c_5_1 h.cs, c_5_2 h.cs, c_5_3 h.cs, c_5_5 h.cs, c_5_8 h.cs, c_5_11 h.cs, c_6_1 h.cs, c_6_2 h.cs, c_6_3 h.cs, c_10_4 h.cs, c_10_5 h.cs, c_10_6 h.cs, c_10_7 h.cs, c_15_1 h.cs, c_17_1 h.cs, c_339_0 h.cs, c_341_0 h.cs, c_341_1 h.cs, c_341_2 h.cs, c_342_4 h.cs, c_342_5 h.cs, c_342_6 h.cs, c_342_7 h.cs, c_347_0 h.cs, c_347_2 h.cs, c_347_3 h.cs, c_349_0 h.cs, c_349_1 h.cs, c_349_2 h.cs, c_351_2 h.cs, c_351_10 h.cs, c_351_12 h.cs, c_354_0 h.cs, c_354_1 h.cs, c_354_2 h.cs, c_354_3 h.cs, c_354_4 h.cs, c_354_5 h.cs, c_354_6 h.cs, c_354_7 h.cs, c_354_8 h.cs, c_354_20 h.cs, c_354_25 h.cs, c_354_26 h.cs, c_354_27 h.cs, c_354_28 h.cs, c_354_32 h.cs, c_354_33 h.cs, c_354_34 h.cs, c_354_35 h.cs, c_354_38 h.cs, l_3 h.cs, l_4 h.cs, l_7 h.cs, l_8 h.cs, l_9 h.cs, l_11 h.cs, l_12 h.cs, l_13 h.cs, l_14 h.cs, l_16 h.cs, l_18 h.cs, l_19 h.cs, l_20 h.cs, l_21 h.cs, l_340 h.cs, l_343 h.cs, l_344 h.cs, l_345 h.cs, l_346 h.cs, l_348 h.cs, l_350 h.cs, l_352 h.cs, l_353 h.cs, l_355 h.cs, l_356 h.cs, l_357 h.cs, l_358 h.cs, l_359 h.cs, l_360 h.cs, l_361 h.cs, l_362 h.cs, l_363 h.cs, l_364 h.cs, l_365 h.cs, l_366 h.cs, l_367 h.cs, l_368 h.cs, l_369 h.cs, l_370 h.cs, l_371 h.cs, l_372 h.cs, l_373 h.cs, h.gnf, h.gP, h.gy, h.gx, h.gt, h.gns, h.gnt, h.gru, h.gnp, h.gnd, h.gne, hP, k1, b1, b2, show ¬ (kwn (hh M 355) (p : Int) : Int) = 0 by omega, hb, hC, show (p : Int) < (P : Int) by omega, jp1 (p := p) (by omega), ↓reduceIte, hh_wr, hl_wr, b10, b11, ite_not, ne_eq, Int.reduceEq, Int.reduceLE, Int.reduceLT, Int.reduceNe, Int.reduceNeg, Int.reduceAdd, Int.reduceSub, Int.reduceMul, not_false_eq_true, not_true_eq_false, false_and, and_false, true_and, and_true, and_self, true_or, or_true, false_or, or_false, if_true, if_false, ite_true, ite_false, mj_tl_some, mj_tl_none, mj_cs0, mj_cs1, mj_cs2, mj_cs3, mj_cs4]
          exact ih _ e2.symm
        · rw [if_neg (by omega)] at e2
          simp only [w305_0, w305_1, w305_2, w305_3, w305_5, w305_6, w305_9, w305_10, w305_11, w305_14, w305_15, w305_16, w305_19, w305_22, w305_23, w305_24, w305_27, w305_28, w305_29, w305_32, w305_35, w305_36, w305_37, w305_40, w305_43, w305_46, w305_47, w305_48, w305_51, w305_54, w305_55, c_1_0 h.cs, c_1_1 h.cs, c_1_2 h.cs, c_1_3 h.cs, c_1_4 h.cs, c_1_5 h.cs, c_1_6 h.cs, c_1_7 h.cs, c_1_8 h.cs, c_2_0 h.cs, c_2_1 h.cs, c_5_0 h.cs, c_5_1 h.cs, c_5_2 h.cs, c_5_3 h.cs, c_5_5 h.cs, c_5_8 h.cs, c_5_11 h.cs, c_6_1 h.cs, c_6_2 h.cs, c_6_3 h.cs, c_10_4 h.cs, c_10_5 h.cs, c_10_6 h.cs, c_10_7 h.cs, c_15_1 h.cs, c_17_1 h.cs, c_339_0 h.cs, c_341_0 h.cs, c_341_1 h.cs, c_341_2 h.cs, c_342_4 h.cs, c_342_5 h.cs, c_342_6 h.cs, c_342_7 h.cs, c_347_0 h.cs, c_347_2 h.cs, c_347_3 h.cs, c_349_0 h.cs, c_349_1 h.cs, c_349_2 h.cs, c_351_2 h.cs, c_351_10 h.cs, c_351_12 h.cs, c_354_0 h.cs, c_354_1 h.cs, c_354_2 h.cs, c_354_3 h.cs, c_354_4 h.cs, c_354_5 h.cs, c_354_6 h.cs, c_354_7 h.cs, c_354_8 h.cs, c_354_20 h.cs, c_354_25 h.cs, c_354_26 h.cs, c_354_27 h.cs, c_354_28 h.cs, c_354_32 h.cs, c_354_33 h.cs, c_354_34 h.cs, c_354_35 h.cs, c_354_38 h.cs, l_3 h.cs, l_4 h.cs, l_7 h.cs, l_8 h.cs, l_9 h.cs, l_11 h.cs, l_12 h.cs, l_13 h.cs, l_14 h.cs, l_16 h.cs, l_18 h.cs, l_19 h.cs, l_20 h.cs, l_21 h.cs, l_340 h.cs, l_343 h.cs, l_344 h.cs, l_345 h.cs, l_346 h.cs, l_348 h.cs, l_350 h.cs, l_352 h.cs, l_353 h.cs, l_355 h.cs, l_356 h.cs, l_357 h.cs, l_358 h.cs, l_359 h.cs, l_360 h.cs, l_361 h.cs, l_362 h.cs, l_363 h.cs, l_364 h.cs, l_365 h.cs, l_366 h.cs, l_367 h.cs, l_368 h.cs, l_369 h.cs, l_370 h.cs, l_371 h.cs, l_372 h.cs, l_373 h.cs, h.gnf, h.gP, h.gy, h.gx, h.gt, h.gns, h.gnt, h.gru, h.gnp, h.gnd, h.gne, hP, k1, b1, b2, show ¬ (kwn (hh M 355) (p : Int) : Int) = 0 by omega, hb, hC, show (p : Int) < (P : Int) by omega, jp1 (p := p) (by omega), ↓reduceIte, hh_wr, hl_wr, b10, b11, ite_not, ne_eq, Int.reduceEq, Int.reduceLE, Int.reduceLT, Int.reduceNe, Int.reduceNeg, Int.reduceAdd, Int.reduceSub, Int.reduceMul, not_false_eq_true, not_true_eq_false, false_and, and_false, true_and, and_true, and_self, true_or, or_true, false_or, or_false, if_true, if_false, ite_true, ite_false, mj_tl_some, mj_tl_none, mj_cs0, mj_cs1, mj_cs2, mj_cs3, mj_cs4]
          exact ih _ e2.symm
  · rintro b h1
    simp only [w305_0, w305_1, w305_2, w305_3, w305_4, w305_5, w305_6, w305_9, w305_10, w305_11, w305_14, w305_15, w305_16, w305_19, w305_22, w305_23, w305_24, w305_27, w305_28, w305_29, w305_32, w305_35, w305_36, w305_37, w305_40, w305_43, w305_46, w305_47, w305_48, w305_51, w305_54, w305_55, c_1_0 h.cs, c_1_1 h.cs, c_1_2 h.cs, c_1_3 h.cs, c_1_4 h.cs, c_1_5 h.cs, c_1_6 h.cs, c_1_7 h.cs, c_1_8 h.cs, c_2_0 h.cs, c_2_1 h.cs, c_5_0 h.cs, c_5_1 h.cs, c_5_2 h.cs, c_5_3 h.cs, c_5_5 h.cs, c_5_8 h.cs, c_5_11 h.cs, c_6_1 h.cs, c_6_2 h.cs, c_6_3 h.cs, c_10_4 h.cs, c_10_5 h.cs, c_10_6 h.cs, c_10_7 h.cs, c_15_1 h.cs, c_17_1 h.cs, c_339_0 h.cs, c_341_0 h.cs, c_341_1 h.cs, c_341_2 h.cs, c_342_4 h.cs, c_342_5 h.cs, c_342_6 h.cs, c_342_7 h.cs, c_347_0 h.cs, c_347_2 h.cs, c_347_3 h.cs, c_349_0 h.cs, c_349_1 h.cs, c_349_2 h.cs, c_351_2 h.cs, c_351_10 h.cs, c_351_12 h.cs, c_354_0 h.cs, c_354_1 h.cs, c_354_2 h.cs, c_354_3 h.cs, c_354_4 h.cs, c_354_5 h.cs, c_354_6 h.cs, c_354_7 h.cs, c_354_8 h.cs, c_354_20 h.cs, c_354_25 h.cs, c_354_26 h.cs, c_354_27 h.cs, c_354_28 h.cs, c_354_32 h.cs, c_354_33 h.cs, c_354_34 h.cs, c_354_35 h.cs, c_354_38 h.cs, l_3 h.cs, l_4 h.cs, l_7 h.cs, l_8 h.cs, l_9 h.cs, l_11 h.cs, l_12 h.cs, l_13 h.cs, l_14 h.cs, l_16 h.cs, l_18 h.cs, l_19 h.cs, l_20 h.cs, l_21 h.cs, l_340 h.cs, l_343 h.cs, l_344 h.cs, l_345 h.cs, l_346 h.cs, l_348 h.cs, l_350 h.cs, l_352 h.cs, l_353 h.cs, l_355 h.cs, l_356 h.cs, l_357 h.cs, l_358 h.cs, l_359 h.cs, l_360 h.cs, l_361 h.cs, l_362 h.cs, l_363 h.cs, l_364 h.cs, l_365 h.cs, l_366 h.cs, l_367 h.cs, l_368 h.cs, l_369 h.cs, l_370 h.cs, l_371 h.cs, l_372 h.cs, l_373 h.cs, h.gnf, h.gP, h.gy, h.gx, h.gt, h.gns, h.gnt, h.gru, h.gnp, h.gnd, h.gne, hP, Int.lt_irrefl, ↓reduceIte, hh_wr, hl_wr, b10, b11, ite_not, ne_eq, Int.reduceEq, Int.reduceLE, Int.reduceLT, Int.reduceNe, Int.reduceNeg, Int.reduceAdd, Int.reduceSub, Int.reduceMul, not_false_eq_true, not_true_eq_false, false_and, and_false, true_and, and_true, and_self, true_or, or_true, false_or, or_false, if_true, if_false, ite_true, ite_false, mj_tl_some, mj_tl_none, mj_cs0, mj_cs1, mj_cs2, mj_cs3, mj_cs4]
    rw [h1]
theorem st41 : St41 RR (d + 60) := by
  intro X M h
  unfold LS2
  show wp X (d + 60) 177 0 [(31, 1)] [] M _
  simp only [w177_0, w177_1, w177_4, w177_7, c_1_0 h.cs, c_1_1 h.cs, c_1_2 h.cs, c_1_3 h.cs, c_1_4 h.cs, c_1_5 h.cs, c_1_6 h.cs, c_1_7 h.cs, c_1_8 h.cs, c_2_0 h.cs, c_2_1 h.cs, c_5_0 h.cs, c_5_1 h.cs, c_5_2 h.cs, c_5_3 h.cs, c_5_5 h.cs, c_5_8 h.cs, c_5_11 h.cs, c_6_1 h.cs, c_6_2 h.cs, c_6_3 h.cs, c_10_4 h.cs, c_10_5 h.cs, c_10_6 h.cs, c_10_7 h.cs, c_15_1 h.cs, c_17_1 h.cs, c_339_0 h.cs, c_341_0 h.cs, c_341_1 h.cs, c_341_2 h.cs, c_342_4 h.cs, c_342_5 h.cs, c_342_6 h.cs, c_342_7 h.cs, c_347_0 h.cs, c_347_2 h.cs, c_347_3 h.cs, c_349_0 h.cs, c_349_1 h.cs, c_349_2 h.cs, c_351_2 h.cs, c_351_10 h.cs, c_351_12 h.cs, c_354_0 h.cs, c_354_1 h.cs, c_354_2 h.cs, c_354_3 h.cs, c_354_4 h.cs, c_354_5 h.cs, c_354_6 h.cs, c_354_7 h.cs, c_354_8 h.cs, c_354_20 h.cs, c_354_25 h.cs, c_354_26 h.cs, c_354_27 h.cs, c_354_28 h.cs, c_354_32 h.cs, c_354_33 h.cs, c_354_34 h.cs, c_354_35 h.cs, c_354_38 h.cs, l_3 h.cs, l_4 h.cs, l_7 h.cs, l_8 h.cs, l_9 h.cs, l_11 h.cs, l_12 h.cs, l_13 h.cs, l_14 h.cs, l_16 h.cs, l_18 h.cs, l_19 h.cs, l_20 h.cs, l_21 h.cs, l_340 h.cs, l_343 h.cs, l_344 h.cs, l_345 h.cs, l_346 h.cs, l_348 h.cs, l_350 h.cs, l_352 h.cs, l_353 h.cs, l_355 h.cs, l_356 h.cs, l_357 h.cs, l_358 h.cs, l_359 h.cs, l_360 h.cs, l_361 h.cs, l_362 h.cs, l_363 h.cs, l_364 h.cs, l_365 h.cs, l_366 h.cs, l_367 h.cs, l_368 h.cs, l_369 h.cs, l_370 h.cs, l_371 h.cs, l_372 h.cs, l_373 h.cs, h.gnf, h.gP, h.gy, h.gx, h.gt, h.gns, h.gnt, h.gru, h.gnp, h.gnd, h.gne, c_knownLeast h, m_rarest h, ↓reduceIte, hh_wr, hl_wr, b10, b11, ite_not, ne_eq, Int.reduceEq, Int.reduceLE, Int.reduceLT, Int.reduceNe, Int.reduceNeg, Int.reduceAdd, Int.reduceSub, Int.reduceMul, not_false_eq_true, not_true_eq_false, false_and, and_false, true_and, and_true, and_self, true_or, or_true, false_or, or_false, if_true, if_false, ite_true, ite_false, mj_tl_some, mj_tl_none, mj_cs0, mj_cs1, mj_cs2, mj_cs3, mj_cs4]
  exact ls_id h rfl
theorem m_could {i : Int} (h : RR M) : wc X (d + 3) 313 [(32, 354), (0, i)] M Q ↔ Q (some (0, coV (hh M 355) i)) M := by
  show wp X (d + 3) 313 0 [(32, 354), (0, i), (9, 0), (9, 0)] [] M Q ↔ _
  refine wp.det ?_
  simp only [w313_0, w313_1, w313_2, w313_3]
  unfold coV
  have key := loopF (S := fun p v => wp X (d + 3) 313 4 [(32, 354), (0, i), (0, (cn (cb (hh M 355)) p : Int)), (0, (p : Int))] [] M (fun r M' => r = some (0, v) ∧ M' = M)) (c := fun p => cb (hh M 355) p && decide ((cn (cb (hh M 355)) p : Int) = i)) (r := fun p => (p : Int)) (z := if i = -1 then (nCb (hh M 355) : Int) else -2) (P := 120) ?_ ?_ ?_
  · exact key
  · intro p hp hc
    simp only [Bool.and_eq_true, decide_eq_true_eq] at hc
    have c1 := fun Q => m_canBe (X := X) (d := d) (M := M) (Q := Q) h hp
    simp only [w313_0, w313_1, w313_2, w313_3, w313_4, w313_5, w313_7, w313_10, w313_11, w313_12, w313_15, w313_18, w313_21, w313_22, w313_23, w313_26, w313_27, w313_28, w313_31, w313_34, w313_37, w313_38, w313_39, w313_42, w313_43, w313_46, w313_48, c1, hc.1, hc.2, show (p : Int) < 120 by omega, ↓reduceIte, hh_wr, hl_wr, b10, b11, ite_not, ne_eq, Int.reduceEq, Int.reduceLE, Int.reduceLT, Int.reduceNe, Int.reduceNeg, Int.reduceAdd, Int.reduceSub, Int.reduceMul, not_false_eq_true, not_true_eq_false, false_and, and_false, true_and, and_true, and_self, true_or, or_true, false_or, or_false, if_true, if_false, ite_true, ite_false, mj_tl_some, mj_tl_none, mj_cs0, mj_cs1, mj_cs2, mj_cs3, mj_cs4]
  · intro p v hp hc hS
    have c1 := fun Q => m_canBe (X := X) (d := d) (M := M) (Q := Q) h hp
    have hle := cn_le (cb (hh M 355)) p
    rw [w313_4]
    cases h1 : cb (hh M 355) p
    · rw [cn_f h1] at hS
      simp only [w313_0, w313_1, w313_2, w313_3, w313_5, w313_7, w313_10, w313_11, w313_12, w313_15, w313_18, w313_21, w313_22, w313_23, w313_26, w313_27, w313_28, w313_31, w313_34, w313_37, w313_38, w313_39, w313_42, w313_43, w313_46, w313_48, c1, h1, Bool.false_eq_true, show (p : Int) < 120 by omega, jp1 (p := p) (by omega), ↓reduceIte, hh_wr, hl_wr, b10, b11, ite_not, ne_eq, Int.reduceEq, Int.reduceLE, Int.reduceLT, Int.reduceNe, Int.reduceNeg, Int.reduceAdd, Int.reduceSub, Int.reduceMul, not_false_eq_true, not_true_eq_false, false_and, and_false, true_and, and_true, and_self, true_or, or_true, false_or, or_false, if_true, if_false, ite_true, ite_false, mj_tl_some, mj_tl_none, mj_cs0, mj_cs1, mj_cs2, mj_cs3, mj_cs4]
      exact hS
    · rw [h1] at hc
      simp only [Bool.true_and, decide_eq_false_iff_not] at hc
      rw [cn_t h1] at hS
      simp only [w313_0, w313_1, w313_2, w313_3, w313_5, w313_7, w313_10, w313_11, w313_12, w313_15, w313_18, w313_21, w313_22, w313_23, w313_26, w313_27, w313_28, w313_31, w313_34, w313_37, w313_38, w313_39, w313_42, w313_43, w313_46, w313_48, c1, h1, hc, show (p : Int) < 120 by omega, jp1 (p := p) (by omega), jp1 (p := cn (cb (hh M 355)) p) (by omega), ↓reduceIte, hh_wr, hl_wr, b10, b11, ite_not, ne_eq, Int.reduceEq, Int.reduceLE, Int.reduceLT, Int.reduceNe, Int.reduceNeg, Int.reduceAdd, Int.reduceSub, Int.reduceMul, not_false_eq_true, not_true_eq_false, false_and, and_false, true_and, and_true, and_self, true_or, or_true, false_or, or_false, if_true, if_false, ite_true, ite_false, mj_tl_some, mj_tl_none, mj_cs0, mj_cs1, mj_cs2, mj_cs3, mj_cs4]
      exact hS
  · by_cases hi : i = -1
    · simp only [w313_0, w313_1, w313_2, w313_3, w313_4, w313_5, w313_7, w313_10, w313_11, w313_12, w313_15, w313_18, w313_21, w313_22, w313_23, w313_26, w313_27, w313_28, w313_31, w313_34, w313_37, w313_38, w313_39, w313_42, w313_43, w313_46, w313_48, hi, ct120, ↓reduceIte, hh_wr, hl_wr, b10, b11, ite_not, ne_eq, Int.reduceEq, Int.reduceLE, Int.reduceLT, Int.reduceNe, Int.reduceNeg, Int.reduceAdd, Int.reduceSub, Int.reduceMul, not_false_eq_true, not_true_eq_false, false_and, and_false, true_and, and_true, and_self, true_or, or_true, false_or, or_false, if_true, if_false, ite_true, ite_false, mj_tl_some, mj_tl_none, mj_cs0, mj_cs1, mj_cs2, mj_cs3, mj_cs4]
      rfl
    · simp only [w313_0, w313_1, w313_2, w313_3, w313_4, w313_5, w313_7, w313_10, w313_11, w313_12, w313_15, w313_18, w313_21, w313_22, w313_23, w313_26, w313_27, w313_28, w313_31, w313_34, w313_37, w313_38, w313_39, w313_42, w313_43, w313_46, w313_48, hi, ct120, ↓reduceIte, hh_wr, hl_wr, b10, b11, ite_not, ne_eq, Int.reduceEq, Int.reduceLE, Int.reduceLT, Int.reduceNe, Int.reduceNeg, Int.reduceAdd, Int.reduceSub, Int.reduceMul, not_false_eq_true, not_true_eq_false, false_and, and_false, true_and, and_true, and_self, true_or, or_true, false_or, or_false, if_true, if_false, ite_true, ite_false, mj_tl_some, mj_tl_none, mj_cs0, mj_cs1, mj_cs2, mj_cs3, mj_cs4]
theorem st25 : St25 RR (d + 60) := by
  intro X M a1 h i1
  unfold LS2
  show wp X (d + 60) 140 0 [(31, 1), (0, a1), (9, 0)] [] M _
  simp only [w140_0, w140_1, w140_4, c_1_0 h.cs, c_1_1 h.cs, c_1_2 h.cs, c_1_3 h.cs, c_1_4 h.cs, c_1_5 h.cs, c_1_6 h.cs, c_1_7 h.cs, c_1_8 h.cs, c_2_0 h.cs, c_2_1 h.cs, c_5_0 h.cs, c_5_1 h.cs, c_5_2 h.cs, c_5_3 h.cs, c_5_5 h.cs, c_5_8 h.cs, c_5_11 h.cs, c_6_1 h.cs, c_6_2 h.cs, c_6_3 h.cs, c_10_4 h.cs, c_10_5 h.cs, c_10_6 h.cs, c_10_7 h.cs, c_15_1 h.cs, c_17_1 h.cs, c_339_0 h.cs, c_341_0 h.cs, c_341_1 h.cs, c_341_2 h.cs, c_342_4 h.cs, c_342_5 h.cs, c_342_6 h.cs, c_342_7 h.cs, c_347_0 h.cs, c_347_2 h.cs, c_347_3 h.cs, c_349_0 h.cs, c_349_1 h.cs, c_349_2 h.cs, c_351_2 h.cs, c_351_10 h.cs, c_351_12 h.cs, c_354_0 h.cs, c_354_1 h.cs, c_354_2 h.cs, c_354_3 h.cs, c_354_4 h.cs, c_354_5 h.cs, c_354_6 h.cs, c_354_7 h.cs, c_354_8 h.cs, c_354_20 h.cs, c_354_25 h.cs, c_354_26 h.cs, c_354_27 h.cs, c_354_28 h.cs, c_354_32 h.cs, c_354_33 h.cs, c_354_34 h.cs, c_354_35 h.cs, c_354_38 h.cs, l_3 h.cs, l_4 h.cs, l_7 h.cs, l_8 h.cs, l_9 h.cs, l_11 h.cs, l_12 h.cs, l_13 h.cs, l_14 h.cs, l_16 h.cs, l_18 h.cs, l_19 h.cs, l_20 h.cs, l_21 h.cs, l_340 h.cs, l_343 h.cs, l_344 h.cs, l_345 h.cs, l_346 h.cs, l_348 h.cs, l_350 h.cs, l_352 h.cs, l_353 h.cs, l_355 h.cs, l_356 h.cs, l_357 h.cs, l_358 h.cs, l_359 h.cs, l_360 h.cs, l_361 h.cs, l_362 h.cs, l_363 h.cs, l_364 h.cs, l_365 h.cs, l_366 h.cs, l_367 h.cs, l_368 h.cs, l_369 h.cs, l_370 h.cs, l_371 h.cs, l_372 h.cs, l_373 h.cs, h.gnf, h.gP, h.gy, h.gx, h.gt, h.gns, h.gnt, h.gru, h.gnp, h.gnd, h.gne, ↓reduceIte, hh_wr, hl_wr, b10, b11, ite_not, ne_eq, Int.reduceEq, Int.reduceLE, Int.reduceLT, Int.reduceNe, Int.reduceNeg, Int.reduceAdd, Int.reduceSub, Int.reduceMul, not_false_eq_true, not_true_eq_false, false_and, and_false, true_and, and_true, and_self, true_or, or_true, false_or, or_false, if_true, if_false, ite_true, ite_false, mj_tl_some, mj_tl_none, mj_cs0, mj_cs1, mj_cs2, mj_cs3, mj_cs4]
  refine wc.mono (c_find (d := d + 55) h) ?_
  rintro r M1 ⟨rfl, g⟩
  obtain ⟨f, g1, g2⟩ := id g
  have h' := h.s8 f
  have e5 := fz8_355 f
  have hn := nCb_le (hh M 355)
  have fin : ∀ v, v = coV (hh M 355) a1 → wc X (d + 60) 313 [(32, 354), (0, a1)] M1 (fun r2 M2 => ∃ x, some ((0 : Nat), v) = some (0, x) ∧ r2 = some (0, x) ∧ Pst RR M M2) := by
    intro v hv
    rw [show d + 60 = d + 57 + 3 from rfl, m_could h', e5]
    exact ⟨v, rfl, by rw [hv], Pst.of h' f⟩
  by_cases hi : a1 = -1
  · subst hi
    simp only [w140_7, w140_8, w140_9, w140_10, w140_13, w140_14, w140_15, w140_16, w140_19, w140_20, w140_21, w140_24, w140_26, w140_29, w140_30, w140_33, w140_36, w140_37, w140_38, ↓reduceIte, hh_wr, hl_wr, b10, b11, ite_not, ne_eq, Int.reduceEq, Int.reduceLE, Int.reduceLT, Int.reduceNe, Int.reduceNeg, Int.reduceAdd, Int.reduceSub, Int.reduceMul, not_false_eq_true, not_true_eq_false, false_and, and_false, true_and, and_true, and_self, true_or, or_true, false_or, or_false, if_true, if_false, ite_true, ite_false, mj_tl_some, mj_tl_none, mj_cs0, mj_cs1, mj_cs2, mj_cs3, mj_cs4]
    exact fin _ (coV_n _).symm
  · by_cases h2 : 0 ≤ a1 ∧ a1 < (nCb (hh M 355) : Int)
    · obtain ⟨p, q1, q2, q3⟩ := cn_ex (c := cb (hh M 355)) (P := 120) (j := a1.toNat) (by have e : cn (cb (hh M 355)) 120 = nCb (hh M 355) := rfl; omega)
      have e1 : a1 = (cn (cb (hh M 355)) p : Int) := by omega
      have e2 := g2 p q1 q2
      rw [← e1] at e2
      simp only [w140_7, w140_8, w140_9, w140_10, w140_13, w140_14, w140_15, w140_16, w140_19, w140_20, w140_21, w140_24, w140_26, w140_29, w140_30, w140_33, w140_36, w140_37, w140_38, c_1_0 h'.cs, c_1_1 h'.cs, c_1_2 h'.cs, c_1_3 h'.cs, c_1_4 h'.cs, c_1_5 h'.cs, c_1_6 h'.cs, c_1_7 h'.cs, c_1_8 h'.cs, c_2_0 h'.cs, c_2_1 h'.cs, c_5_0 h'.cs, c_5_1 h'.cs, c_5_2 h'.cs, c_5_3 h'.cs, c_5_5 h'.cs, c_5_8 h'.cs, c_5_11 h'.cs, c_6_1 h'.cs, c_6_2 h'.cs, c_6_3 h'.cs, c_10_4 h'.cs, c_10_5 h'.cs, c_10_6 h'.cs, c_10_7 h'.cs, c_15_1 h'.cs, c_17_1 h'.cs, c_339_0 h'.cs, c_341_0 h'.cs, c_341_1 h'.cs, c_341_2 h'.cs, c_342_4 h'.cs, c_342_5 h'.cs, c_342_6 h'.cs, c_342_7 h'.cs, c_347_0 h'.cs, c_347_2 h'.cs, c_347_3 h'.cs, c_349_0 h'.cs, c_349_1 h'.cs, c_349_2 h'.cs, c_351_2 h'.cs, c_351_10 h'.cs, c_351_12 h'.cs, c_354_0 h'.cs, c_354_1 h'.cs, c_354_2 h'.cs, c_354_3 h'.cs, c_354_4 h'.cs, c_354_5 h'.cs, c_354_6 h'.cs, c_354_7 h'.cs, c_354_8 h'.cs, c_354_20 h'.cs, c_354_25 h'.cs, c_354_26 h'.cs, c_354_27 h'.cs, c_354_28 h'.cs, c_354_32 h'.cs, c_354_33 h'.cs, c_354_34 h'.cs, c_354_35 h'.cs, c_354_38 h'.cs, l_3 h'.cs, l_4 h'.cs, l_7 h'.cs, l_8 h'.cs, l_9 h'.cs, l_11 h'.cs, l_12 h'.cs, l_13 h'.cs, l_14 h'.cs, l_16 h'.cs, l_18 h'.cs, l_19 h'.cs, l_20 h'.cs, l_21 h'.cs, l_340 h'.cs, l_343 h'.cs, l_344 h'.cs, l_345 h'.cs, l_346 h'.cs, l_348 h'.cs, l_350 h'.cs, l_352 h'.cs, l_353 h'.cs, l_355 h'.cs, l_356 h'.cs, l_357 h'.cs, l_358 h'.cs, l_359 h'.cs, l_360 h'.cs, l_361 h'.cs, l_362 h'.cs, l_363 h'.cs, l_364 h'.cs, l_365 h'.cs, l_366 h'.cs, l_367 h'.cs, l_368 h'.cs, l_369 h'.cs, l_370 h'.cs, l_371 h'.cs, l_372 h'.cs, l_373 h'.cs, h'.gnf, h'.gP, h'.gy, h'.gx, h'.gt, h'.gns, h'.gnt, h'.gru, h'.gnp, h'.gnd, h'.gne, hi, h2, e2, show ¬ a1 < 0 by omega, show a1 < 120 by omega, ↓reduceIte, hh_wr, hl_wr, b10, b11, ite_not, ne_eq, Int.reduceEq, Int.reduceLE, Int.reduceLT, Int.reduceNe, Int.reduceNeg, Int.reduceAdd, Int.reduceSub, Int.reduceMul, not_false_eq_true, not_true_eq_false, false_and, and_false, true_and, and_true, and_self, true_or, or_true, false_or, or_false, if_true, if_false, ite_true, ite_false, mj_tl_some, mj_tl_none, mj_cs0, mj_cs1, mj_cs2, mj_cs3, mj_cs4]
      exact fin _ (by rw [e1, coV_p _ q1 q2])
    · have e3 := coV_o (hh M 355) hi h2
      by_cases h3 : a1 < 0
      · simp only [w140_7, w140_8, w140_9, w140_10, w140_13, w140_14, w140_15, w140_16, w140_19, w140_20, w140_21, w140_24, w140_26, w140_29, w140_30, w140_33, w140_36, w140_37, w140_38, hi, h3, ↓reduceIte, hh_wr, hl_wr, b10, b11, ite_not, ne_eq, Int.reduceEq, Int.reduceLE, Int.reduceLT, Int.reduceNe, Int.reduceNeg, Int.reduceAdd, Int.reduceSub, Int.reduceMul, not_false_eq_true, not_true_eq_false, false_and, and_false, true_and, and_true, and_self, true_or, or_true, false_or, or_false, if_true, if_false, ite_true, ite_false, mj_tl_some, mj_tl_none, mj_cs0, mj_cs1, mj_cs2, mj_cs3, mj_cs4]
        exact fin _ e3.symm
      · simp only [w140_7, w140_8, w140_9, w140_10, w140_13, w140_14, w140_15, w140_16, w140_19, w140_20, w140_21, w140_24, w140_26, w140_29, w140_30, w140_33, w140_36, w140_37, w140_38, hi, h3, show ¬ a1 < (nCb (hh M 355) : Int) by omega, ↓reduceIte, hh_wr, hl_wr, b10, b11, ite_not, ne_eq, Int.reduceEq, Int.reduceLE, Int.reduceLT, Int.reduceNe, Int.reduceNeg, Int.reduceAdd, Int.reduceSub, Int.reduceMul, not_false_eq_true, not_true_eq_false, false_and, and_false, true_and, and_true, and_self, true_or, or_true, false_or, or_false, if_true, if_false, ite_true, ite_false, mj_tl_some, mj_tl_none, mj_cs0, mj_cs1, mj_cs2, mj_cs3, mj_cs4]
        exact fin _ e3.symm
/-- how likely -/
def liV (A : Int → Int) (a b l : Int) : Int := if (0 ≤ a ∧ a ≤ 4) ∧ (0 ≤ b ∧ b ≤ 4) ∧ a ≠ b ∧ nCb A ≠ 0 then ((if l = 0 then ah A a b else nCb A : Nat) / Nat.gcd (ah A a b) (nCb A) : Nat) else -1
theorem ji_div_nat {x y : Nat} (hx : x < 2 ^ 31) (hy : y < 2 ^ 31) : ji_div (x : Int) (y : Int) = ((x / y : Nat) : Int) := by
  rw [ji_div_nn ⟨by omega, by omega⟩ ⟨by omega, by omega⟩ (by omega)]
  omega
theorem st26 : St26 RR (d + 60) := by
  intro X M a b l h i1 i2 i3
  unfold LS2
  show wp X (d + 60) 144 0 [(31, 1), (0, a), (0, b), (0, l), (9, 0), (9, 0), (9, 0)] [] M _
  have hm : ∀ M1 Q, RR M1 → hh M1 355 = hh M 355 → (wc X (d + 60) 315 [(32, 354), (0, a), (0, b), (0, l)] M1 Q ↔ Q (some (0, liV (hh M 355) a b l)) M1) := by
    intro M1 Q h' e5
    show wp X (d + 60) 315 0 [(32, 354), (0, a), (0, b), (0, l), (9, 0), (9, 0)] [] M1 Q ↔ _
    have mc := fun Q => m_could (X := X) (d := d + 56) (M := M1) (Q := Q) (i := -1) h'
    rw [e5, coV_n] at mc
    have hn := nCb_le (hh M 355)
    unfold liV
    by_cases ha : 0 ≤ a ∧ a ≤ 4
    · by_cases hb : 0 ≤ b ∧ b ≤ 4
      · by_cases hab : a = b
        · subst hab
          simp only [w315_0, w315_1, w315_4, w315_7, w315_8, w315_11, w315_14, w315_15, w315_16, w315_19, w315_20, w315_21, w315_24, w315_27, w315_28, w315_29, w315_30, w315_31, w315_32, w315_35, w315_37, w315_38, w315_39, w315_42, w315_44, w315_45, w315_48, w315_50, w315_53, w315_55, w315_57, w315_58, w315_60, w315_61, w315_64, w315_65, w315_66, m_isDoing, ha, ↓reduceIte, hh_wr, hl_wr, b10, b11, ite_not, ne_eq, Int.reduceEq, Int.reduceLE, Int.reduceLT, Int.reduceNe, Int.reduceNeg, Int.reduceAdd, Int.reduceSub, Int.reduceMul, not_false_eq_true, not_true_eq_false, false_and, and_false, true_and, and_true, and_self, true_or, or_true, false_or, or_false, if_true, if_false, ite_true, ite_false, mj_tl_some, mj_tl_none, mj_cs0, mj_cs1, mj_cs2, mj_cs3, mj_cs4]
        · by_cases hz : nCb (hh M 355) = 0
          · simp only [w315_0, w315_1, w315_4, w315_7, w315_8, w315_11, w315_14, w315_15, w315_16, w315_19, w315_20, w315_21, w315_24, w315_27, w315_28, w315_29, w315_30, w315_31, w315_32, w315_35, w315_37, w315_38, w315_39, w315_42, w315_44, w315_45, w315_48, w315_50, w315_53, w315_55, w315_57, w315_58, w315_60, w315_61, w315_64, w315_65, w315_66, m_isDoing, ha, hb, hab, mc, hz, ct0, ↓reduceIte, hh_wr, hl_wr, b10, b11, ite_not, ne_eq, Int.reduceEq, Int.reduceLE, Int.reduceLT, Int.reduceNe, Int.reduceNeg, Int.reduceAdd, Int.reduceSub, Int.reduceMul, not_false_eq_true, not_true_eq_false, false_and, and_false, true_and, and_true, and_self, true_or, or_true, false_or, or_false, if_true, if_false, ite_true, ite_false, mj_tl_some, mj_tl_none, mj_cs0, mj_cs1, mj_cs2, mj_cs3, mj_cs4]
          · have m1 := fun Q => m_aheadIn (X := X) (d := d + 56) (M := M1) (Q := Q) h' ha hb
            rw [e5] at m1
            have hle := ah_le (hh M 355) a b
            generalize hU : ah (hh M 355) a b = u at m1 hle ⊢
            generalize hN : nCb (hh M 355) = n at mc hle hz hn ⊢
            have hg : 0 < Nat.gcd u n := Nat.gcd_pos_of_pos_right _ (by omega)
            have hg2 : Nat.gcd u n ≤ n := Nat.le_of_dvd (by omega) (Nat.gcd_dvd_right _ _)
            have md := fun Q => m_divisor (X := X) (d := d + 59) (M := M1) (Q := Q) (a := u) (b := n) (by omega) (by omega)
            simp only [w315_0, w315_1, w315_4, w315_7, w315_8, w315_11, w315_14, w315_15, w315_16, w315_19, w315_20, w315_21, w315_24, w315_27, w315_28, w315_29, w315_30, w315_31, w315_32, w315_35, w315_37, w315_38, w315_39, w315_42, w315_44, w315_45, w315_48, w315_50, w315_53, w315_55, w315_57, w315_58, w315_60, w315_61, w315_64, w315_65, w315_66, m_isDoing, ha, hb, hab, mc, m1, md, hz, show ¬ (n : Int) = 0 by omega, ji_2l_eq (x := (u : Int)) ⟨by omega, by omega⟩, ji_2l_eq (x := (n : Int)) ⟨by omega, by omega⟩, jl_2i_eq (x := (Nat.gcd u n : Int)) ⟨by omega, by omega⟩, show ¬ (Nat.gcd u n : Int) = 0 by omega, ji_div_nat (x := u) (y := Nat.gcd u n) (by omega) (by omega), ji_div_nat (x := n) (y := Nat.gcd u n) (by omega) (by omega), ↓reduceIte, hh_wr, hl_wr, b10, b11, ite_not, ne_eq, Int.reduceEq, Int.reduceLE, Int.reduceLT, Int.reduceNe, Int.reduceNeg, Int.reduceAdd, Int.reduceSub, Int.reduceMul, not_false_eq_true, not_true_eq_false, false_and, and_false, true_and, and_true, and_self, true_or, or_true, false_or, or_false, if_true, if_false, ite_true, ite_false, mj_tl_some, mj_tl_none, mj_cs0, mj_cs1, mj_cs2, mj_cs3, mj_cs4]
            rcases i3 with rfl | rfl
            · simp only [↓reduceIte, hh_wr, hl_wr, b10, b11, ite_not, ne_eq, Int.reduceEq, Int.reduceLE, Int.reduceLT, Int.reduceNe, Int.reduceNeg, Int.reduceAdd, Int.reduceSub, Int.reduceMul, not_false_eq_true, not_true_eq_false, false_and, and_false, true_and, and_true, and_self, true_or, or_true, false_or, or_false, if_true, if_false, ite_true, ite_false, mj_tl_some, mj_tl_none, mj_cs0, mj_cs1, mj_cs2, mj_cs3, mj_cs4]
            · simp only [↓reduceIte, hh_wr, hl_wr, b10, b11, ite_not, ne_eq, Int.reduceEq, Int.reduceLE, Int.reduceLT, Int.reduceNe, Int.reduceNeg, Int.reduceAdd, Int.reduceSub, Int.reduceMul, not_false_eq_true, not_true_eq_false, false_and, and_false, true_and, and_true, and_self, true_or, or_true, false_or, or_false, if_true, if_false, ite_true, ite_false, mj_tl_some, mj_tl_none, mj_cs0, mj_cs1, mj_cs2, mj_cs3, mj_cs4]
      · simp only [w315_0, w315_1, w315_4, w315_7, w315_8, w315_11, w315_14, w315_15, w315_16, w315_19, w315_20, w315_21, w315_24, w315_27, w315_28, w315_29, w315_30, w315_31, w315_32, w315_35, w315_37, w315_38, w315_39, w315_42, w315_44, w315_45, w315_48, w315_50, w315_53, w315_55, w315_57, w315_58, w315_60, w315_61, w315_64, w315_65, w315_66, m_isDoing, ha, hb, ↓reduceIte, hh_wr, hl_wr, b10, b11, ite_not, ne_eq, Int.reduceEq, Int.reduceLE, Int.reduceLT, Int.reduceNe, Int.reduceNeg, Int.reduceAdd, Int.reduceSub, Int.reduceMul, not_false_eq_true, not_true_eq_false, false_and, and_false, true_and, and_true, and_self, true_or, or_true, false_or, or_false, if_true, if_false, ite_true, ite_false, mj_tl_some, mj_tl_none, mj_cs0, mj_cs1, mj_cs2, mj_cs3, mj_cs4]
    · simp only [w315_0, w315_1, w315_4, w315_7, w315_8, w315_11, w315_14, w315_15, w315_16, w315_19, w315_20, w315_21, w315_24, w315_27, w315_28, w315_29, w315_30, w315_31, w315_32, w315_35, w315_37, w315_38, w315_39, w315_42, w315_44, w315_45, w315_48, w315_50, w315_53, w315_55, w315_57, w315_58, w315_60, w315_61, w315_64, w315_65, w315_66, m_isDoing, ha, ↓reduceIte, hh_wr, hl_wr, b10, b11, ite_not, ne_eq, Int.reduceEq, Int.reduceLE, Int.reduceLT, Int.reduceNe, Int.reduceNeg, Int.reduceAdd, Int.reduceSub, Int.reduceMul, not_false_eq_true, not_true_eq_false, false_and, and_false, true_and, and_true, and_self, true_or, or_true, false_or, or_false, if_true, if_false, ite_true, ite_false, mj_tl_some, mj_tl_none, mj_cs0, mj_cs1, mj_cs2, mj_cs3, mj_cs4]
  have hm0 : ∀ Q, (wc X (d + 60) 315 [(32, 354), (0, a), (0, b), (0, l)] M Q ↔ Q (some (0, liV (hh M 355) a b l)) M) := fun Q => hm M Q h rfl
  by_cases ha : 0 ≤ a ∧ a ≤ 4
  · by_cases hb : 0 ≤ b ∧ b ≤ 4
    · by_cases hab : a = b
      · have e : liV (hh M 355) a b l = -1 := if_neg (fun q => q.2.2.1 hab)
        rw [e] at hm0
        simp only [w144_0, w144_1, w144_4, w144_7, w144_8, w144_11, w144_14, w144_15, w144_16, w144_19, w144_20, w144_21, w144_22, w144_25, w144_28, w144_30, w144_32, w144_33, w144_36, w144_37, w144_38, w144_39, w144_42, w144_43, w144_44, w144_47, w144_49, w144_51, w144_52, w144_54, w144_55, w144_58, w144_59, w144_61, w144_63, w144_64, w144_67, w144_68, w144_71, w144_72, w144_75, w144_77, w144_80, w144_82, w144_84, w144_85, c_isDoing, ha, hb, hab, ↓reduceIte, hh_wr, hl_wr, b10, b11, ite_not, ne_eq, Int.reduceEq, Int.reduceLE, Int.reduceLT, Int.reduceNe, Int.reduceNeg, Int.reduceAdd, Int.reduceSub, Int.reduceMul, not_false_eq_true, not_true_eq_false, false_and, and_false, true_and, and_true, and_self, true_or, or_true, false_or, or_false, if_true, if_false, ite_true, ite_false, mj_tl_some, mj_tl_none, mj_cs0, mj_cs1, mj_cs2, mj_cs3, mj_cs4] at hm0 ⊢
        rw [hm0]
        exact ⟨_, rfl, rfl, Pst.id h⟩
      · simp only [w144_0, w144_1, w144_4, w144_7, w144_8, w144_11, w144_14, w144_15, w144_16, w144_21, w144_22, w144_25, c_isDoing, ha, hb, hab, c_1_0 h.cs, c_1_1 h.cs, c_1_2 h.cs, c_1_3 h.cs, c_1_4 h.cs, c_1_5 h.cs, c_1_6 h.cs, c_1_7 h.cs, c_1_8 h.cs, c_2_0 h.cs, c_2_1 h.cs, c_5_0 h.cs, c_5_1 h.cs, c_5_2 h.cs, c_5_3 h.cs, c_5_5 h.cs, c_5_8 h.cs, c_5_11 h.cs, c_6_1 h.cs, c_6_2 h.cs, c_6_3 h.cs, c_10_4 h.cs, c_10_5 h.cs, c_10_6 h.cs, c_10_7 h.cs, c_15_1 h.cs, c_17_1 h.cs, c_339_0 h.cs, c_341_0 h.cs, c_341_1 h.cs, c_341_2 h.cs, c_342_4 h.cs, c_342_5 h.cs, c_342_6 h.cs, c_342_7 h.cs, c_347_0 h.cs, c_347_2 h.cs, c_347_3 h.cs, c_349_0 h.cs, c_349_1 h.cs, c_349_2 h.cs, c_351_2 h.cs, c_351_10 h.cs, c_351_12 h.cs, c_354_0 h.cs, c_354_1 h.cs, c_354_2 h.cs, c_354_3 h.cs, c_354_4 h.cs, c_354_5 h.cs, c_354_6 h.cs, c_354_7 h.cs, c_354_8 h.cs, c_354_20 h.cs, c_354_25 h.cs, c_354_26 h.cs, c_354_27 h.cs, c_354_28 h.cs, c_354_32 h.cs, c_354_33 h.cs, c_354_34 h.cs, c_354_35 h.cs, c_354_38 h.cs, l_3 h.cs, l_4 h.cs, l_7 h.cs, l_8 h.cs, l_9 h.cs, l_11 h.cs, l_12 h.cs, l_13 h.cs, l_14 h.cs, l_16 h.cs, l_18 h.cs, l_19 h.cs, l_20 h.cs, l_21 h.cs, l_340 h.cs, l_343 h.cs, l_344 h.cs, l_345 h.cs, l_346 h.cs, l_348 h.cs, l_350 h.cs, l_352 h.cs, l_353 h.cs, l_355 h.cs, l_356 h.cs, l_357 h.cs, l_358 h.cs, l_359 h.cs, l_360 h.cs, l_361 h.cs, l_362 h.cs, l_363 h.cs, l_364 h.cs, l_365 h.cs, l_366 h.cs, l_367 h.cs, l_368 h.cs, l_369 h.cs, l_370 h.cs, l_371 h.cs, l_372 h.cs, l_373 h.cs, h.gnf, h.gP, h.gy, h.gx, h.gt, h.gns, h.gnt, h.gru, h.gnp, h.gnd, h.gne, ↓reduceIte, hh_wr, hl_wr, b10, b11, ite_not, ne_eq, Int.reduceEq, Int.reduceLE, Int.reduceLT, Int.reduceNe, Int.reduceNeg, Int.reduceAdd, Int.reduceSub, Int.reduceMul, not_false_eq_true, not_true_eq_false, false_and, and_false, true_and, and_true, and_self, true_or, or_true, false_or, or_false, if_true, if_false, ite_true, ite_false, mj_tl_some, mj_tl_none, mj_cs0, mj_cs1, mj_cs2, mj_cs3, mj_cs4]
        refine wc.mono (c_find (d := d + 55) h) ?_
        rintro r M1 ⟨rfl, g⟩
        obtain ⟨f, g1, g2⟩ := id g
        have h' := h.s8 f
        have e5 := fz8_355 f
        have hn := nCb_le (hh M 355)
        have hle := ah_le (hh M 355) a b
        have hm1 : ∀ Q, (wc X (d + 60) 315 [(32, 354), (0, a), (0, b), (0, l)] M1 Q ↔ Q (some (0, liV (hh M 355) a b l)) M1) := fun Q => hm M1 Q h' e5
        by_cases hz : nCb (hh M 355) = 0
        · have e : liV (hh M 355) a b l = -1 := if_neg (fun q => q.2.2.2 hz)
          rw [e] at hm1
          simp only [w144_0, w144_1, w144_4, w144_7, w144_8, w144_11, w144_14, w144_15, w144_16, w144_19, w144_20, w144_21, w144_22, w144_25, w144_28, w144_30, w144_32, w144_33, w144_36, w144_37, w144_38, w144_39, w144_42, w144_43, w144_44, w144_47, w144_49, w144_51, w144_52, w144_54, w144_55, w144_58, w144_59, w144_61, w144_63, w144_64, w144_67, w144_68, w144_71, w144_72, w144_75, w144_77, w144_80, w144_82, w144_84, w144_85, hz, ct0, hm1, ↓reduceIte, hh_wr, hl_wr, b10, b11, ite_not, ne_eq, Int.reduceEq, Int.reduceLE, Int.reduceLT, Int.reduceNe, Int.reduceNeg, Int.reduceAdd, Int.reduceSub, Int.reduceMul, not_false_eq_true, not_true_eq_false, false_and, and_false, true_and, and_true, and_self, true_or, or_true, false_or, or_false, if_true, if_false, ite_true, ite_false, mj_tl_some, mj_tl_none, mj_cs0, mj_cs1, mj_cs2, mj_cs3, mj_cs4]
          exact ⟨_, rfl, rfl, Pst.of h' f⟩
        · have c1 := fun Q => c_howMany (X := X) (d := d + 56) (M := M) (M1 := M1) (Q := Q) h g ha hb
          have e : liV (hh M 355) a b l = (((if l = 0 then ah (hh M 355) a b else nCb (hh M 355) : Nat) / Nat.gcd (ah (hh M 355) a b) (nCb (hh M 355)) : Nat) : Int) := if_pos ⟨ha, hb, hab, hz⟩
          rw [e] at hm1
          generalize hU : ah (hh M 355) a b = u at c1 hle hm1 ⊢
          generalize hN : nCb (hh M 355) = n at hle hz hn hm1 ⊢
          have hg : 0 < Nat.gcd u n := Nat.gcd_pos_of_pos_right _ (by omega)
          have hg2 : Nat.gcd u n ≤ n := Nat.le_of_dvd (by omega) (Nat.gcd_dvd_right _ _)
          have md := fun Q => c_common (X := X) (d := d + 59) (M := M1) (Q := Q) (a := u) (b := n) hle (by omega)
          simp only [w144_0, w144_1, w144_4, w144_7, w144_8, w144_11, w144_14, w144_15, w144_16, w144_19, w144_20, w144_21, w144_22, w144_25, w144_28, w144_30, w144_32, w144_33, w144_36, w144_37, w144_38, w144_39, w144_42, w144_43, w144_44, w144_47, w144_49, w144_51, w144_52, w144_54, w144_55, w144_58, w144_59, w144_61, w144_63, w144_64, w144_67, w144_68, w144_71, w144_72, w144_75, w144_77, w144_80, w144_82, w144_84, w144_85, c_1_0 h'.cs, c_1_1 h'.cs, c_1_2 h'.cs, c_1_3 h'.cs, c_1_4 h'.cs, c_1_5 h'.cs, c_1_6 h'.cs, c_1_7 h'.cs, c_1_8 h'.cs, c_2_0 h'.cs, c_2_1 h'.cs, c_5_0 h'.cs, c_5_1 h'.cs, c_5_2 h'.cs, c_5_3 h'.cs, c_5_5 h'.cs, c_5_8 h'.cs, c_5_11 h'.cs, c_6_1 h'.cs, c_6_2 h'.cs, c_6_3 h'.cs, c_10_4 h'.cs, c_10_5 h'.cs, c_10_6 h'.cs, c_10_7 h'.cs, c_15_1 h'.cs, c_17_1 h'.cs, c_339_0 h'.cs, c_341_0 h'.cs, c_341_1 h'.cs, c_341_2 h'.cs, c_342_4 h'.cs, c_342_5 h'.cs, c_342_6 h'.cs, c_342_7 h'.cs, c_347_0 h'.cs, c_347_2 h'.cs, c_347_3 h'.cs, c_349_0 h'.cs, c_349_1 h'.cs, c_349_2 h'.cs, c_351_2 h'.cs, c_351_10 h'.cs, c_351_12 h'.cs, c_354_0 h'.cs, c_354_1 h'.cs, c_354_2 h'.cs, c_354_3 h'.cs, c_354_4 h'.cs, c_354_5 h'.cs, c_354_6 h'.cs, c_354_7 h'.cs, c_354_8 h'.cs, c_354_20 h'.cs, c_354_25 h'.cs, c_354_26 h'.cs, c_354_27 h'.cs, c_354_28 h'.cs, c_354_32 h'.cs, c_354_33 h'.cs, c_354_34 h'.cs, c_354_35 h'.cs, c_354_38 h'.cs, l_3 h'.cs, l_4 h'.cs, l_7 h'.cs, l_8 h'.cs, l_9 h'.cs, l_11 h'.cs, l_12 h'.cs, l_13 h'.cs, l_14 h'.cs, l_16 h'.cs, l_18 h'.cs, l_19 h'.cs, l_20 h'.cs, l_21 h'.cs, l_340 h'.cs, l_343 h'.cs, l_344 h'.cs, l_345 h'.cs, l_346 h'.cs, l_348 h'.cs, l_350 h'.cs, l_352 h'.cs, l_353 h'.cs, l_355 h'.cs, l_356 h'.cs, l_357 h'.cs, l_358 h'.cs, l_359 h'.cs, l_360 h'.cs, l_361 h'.cs, l_362 h'.cs, l_363 h'.cs, l_364 h'.cs, l_365 h'.cs, l_366 h'.cs, l_367 h'.cs, l_368 h'.cs, l_369 h'.cs, l_370 h'.cs, l_371 h'.cs, l_372 h'.cs, l_373 h'.cs, h'.gnf, h'.gP, h'.gy, h'.gx, h'.gt, h'.gns, h'.gnt, h'.gru, h'.gnp, h'.gnd, h'.gne, c1, md, show ¬ (n : Int) < 1 by omega, ji_2l_eq (x := (u : Int)) ⟨by omega, by omega⟩, ji_2l_eq (x := (n : Int)) ⟨by omega, by omega⟩, jl_2i_eq (x := (Nat.gcd u n : Int)) ⟨by omega, by omega⟩, show ¬ (Nat.gcd u n : Int) < 1 by omega, show ¬ (Nat.gcd u n : Int) = 0 by omega, ji_div_nat (x := u) (y := Nat.gcd u n) (by omega) (by omega), ji_div_nat (x := n) (y := Nat.gcd u n) (by omega) (by omega), hm1, ↓reduceIte, hh_wr, hl_wr, b10, b11, ite_not, ne_eq, Int.reduceEq, Int.reduceLE, Int.reduceLT, Int.reduceNe, Int.reduceNeg, Int.reduceAdd, Int.reduceSub, Int.reduceMul, not_false_eq_true, not_true_eq_false, false_and, and_false, true_and, and_true, and_self, true_or, or_true, false_or, or_false, if_true, if_false, ite_true, ite_false, mj_tl_some, mj_tl_none, mj_cs0, mj_cs1, mj_cs2, mj_cs3, mj_cs4]
          rcases i3 with rfl | rfl
          · simp only [↓reduceIte, hh_wr, hl_wr, b10, b11, ite_not, ne_eq, Int.reduceEq, Int.reduceLE, Int.reduceLT, Int.reduceNe, Int.reduceNeg, Int.reduceAdd, Int.reduceSub, Int.reduceMul, not_false_eq_true, not_true_eq_false, false_and, and_false, true_and, and_true, and_self, true_or, or_true, false_or, or_false, if_true, if_false, ite_true, ite_false, mj_tl_some, mj_tl_none, mj_cs0, mj_cs1, mj_cs2, mj_cs3, mj_cs4]
            exact ⟨_, rfl, rfl, Pst.of h' f⟩
          · simp only [↓reduceIte, hh_wr, hl_wr, b10, b11, ite_not, ne_eq, Int.reduceEq, Int.reduceLE, Int.reduceLT, Int.reduceNe, Int.reduceNeg, Int.reduceAdd, Int.reduceSub, Int.reduceMul, not_false_eq_true, not_true_eq_false, false_and, and_false, true_and, and_true, and_self, true_or, or_true, false_or, or_false, if_true, if_false, ite_true, ite_false, mj_tl_some, mj_tl_none, mj_cs0, mj_cs1, mj_cs2, mj_cs3, mj_cs4]
            exact ⟨_, rfl, rfl, Pst.of h' f⟩
    · have e : liV (hh M 355) a b l = -1 := if_neg (fun q => hb q.2.1)
      rw [e] at hm0
      simp only [w144_0, w144_1, w144_4, w144_7, w144_8, w144_11, w144_14, w144_15, w144_16, w144_19, w144_20, w144_21, w144_22, w144_25, w144_28, w144_30, w144_32, w144_33, w144_36, w144_37, w144_38, w144_39, w144_42, w144_43, w144_44, w144_47, w144_49, w144_51, w144_52, w144_54, w144_55, w144_58, w144_59, w144_61, w144_63, w144_64, w144_67, w144_68, w144_71, w144_72, w144_75, w144_77, w144_80, w144_82, w144_84, w144_85, c_isDoing, ha, hb, hm0, ↓reduceIte, hh_wr, hl_wr, b10, b11, ite_not, ne_eq, Int.reduceEq, Int.reduceLE, Int.reduceLT, Int.reduceNe, Int.reduceNeg, Int.reduceAdd, Int.reduceSub, Int.reduceMul, not_false_eq_true, not_true_eq_false, false_and, and_false, true_and, and_true, and_self, true_or, or_true, false_or, or_false, if_true, if_false, ite_true, ite_false, mj_tl_some, mj_tl_none, mj_cs0, mj_cs1, mj_cs2, mj_cs3, mj_cs4]
      exact ⟨_, rfl, rfl, Pst.id h⟩
  · have e : liV (hh M 355) a b l = -1 := if_neg (fun q => ha q.1)
    rw [e] at hm0
    simp only [w144_0, w144_1, w144_4, w144_7, w144_8, w144_11, w144_14, w144_15, w144_16, w144_19, w144_20, w144_21, w144_22, w144_25, w144_28, w144_30, w144_32, w144_33, w144_36, w144_37, w144_38, w144_39, w144_42, w144_43, w144_44, w144_47, w144_49, w144_51, w144_52, w144_54, w144_55, w144_58, w144_59, w144_61, w144_63, w144_64, w144_67, w144_68, w144_71, w144_72, w144_75, w144_77, w144_80, w144_82, w144_84, w144_85, c_isDoing, ha, hm0, ↓reduceIte, hh_wr, hl_wr, b10, b11, ite_not, ne_eq, Int.reduceEq, Int.reduceLE, Int.reduceLT, Int.reduceNe, Int.reduceNeg, Int.reduceAdd, Int.reduceSub, Int.reduceMul, not_false_eq_true, not_true_eq_false, false_and, and_false, true_and, and_true, and_self, true_or, or_true, false_or, or_false, if_true, if_false, ite_true, ite_false, mj_tl_some, mj_tl_none, mj_cs0, mj_cs1, mj_cs2, mj_cs3, mj_cs4]
    exact ⟨_, rfl, rfl, Pst.id h⟩
/-- sure -/
def suV (A : Int → Int) (a : Int) : Int := if (0 ≤ a ∧ a ≤ 4) ∧ nCb A ≠ 0 then (bt (suF A a) 5 : Int) else -1
theorem m_sure {a : Int} (h : RR M) : wc X (d + 4) 318 [(32, 354), (0, a)] M Q ↔ Q (some (0, suV (hh M 355) a)) M := by
  show wp X (d + 4) 318 0 [(32, 354), (0, a), (9, 0), (9, 0)] [] M Q ↔ _
  have mc := fun Q => m_could (X := X) (d := d) (M := M) (Q := Q) (i := -1) h
  rw [coV_n] at mc
  unfold suV
  by_cases ha : 0 ≤ a ∧ a ≤ 4
  · by_cases hz : nCb (hh M 355) = 0
    · simp only [w318_0, w318_1, w318_4, w318_7, w318_8, w318_9, w318_12, w318_15, w318_16, w318_17, w318_18, w318_19, w318_20, w318_21, w318_22, w318_23, w318_26, w318_27, w318_28, w318_29, w318_32, w318_33, w318_34, w318_35, w318_38, w318_39, w318_40, w318_43, w318_46, w318_47, w318_48, w318_49, w318_52, w318_53, w318_54, w318_55, w318_58, w318_61, w318_62, m_isDoing, ha, mc, hz, ct0, ↓reduceIte, hh_wr, hl_wr, b10, b11, ite_not, ne_eq, Int.reduceEq, Int.reduceLE, Int.reduceLT, Int.reduceNe, Int.reduceNeg, Int.reduceAdd, Int.reduceSub, Int.reduceMul, not_false_eq_true, not_true_eq_false, false_and, and_false, true_and, and_true, and_self, true_or, or_true, false_or, or_false, if_true, if_false, ite_true, ite_false, mj_tl_some, mj_tl_none, mj_cs0, mj_cs1, mj_cs2, mj_cs3, mj_cs4]
    · refine wp.det ?_
      rw [if_pos ⟨ha, hz⟩]
      have key := loop0 (S := fun p => wp X (d + 4) 318 21 [(32, 354), (0, a), (0, (bt (suF (hh M 355) a) p : Int)), (0, (p : Int))] [] M (fun r M' => r = some (0, (bt (suF (hh M 355) a) 5 : Int)) ∧ M' = M)) (P := 5) ?_ ?_
      · simp only [w318_0, w318_1, w318_4, w318_7, w318_8, w318_9, w318_12, w318_17, w318_18, w318_19, w318_20, m_isDoing, ha, mc, show ¬ (nCb (hh M 355) : Int) = 0 by omega, ↓reduceIte, hh_wr, hl_wr, b10, b11, ite_not, ne_eq, Int.reduceEq, Int.reduceLE, Int.reduceLT, Int.reduceNe, Int.reduceNeg, Int.reduceAdd, Int.reduceSub, Int.reduceMul, not_false_eq_true, not_true_eq_false, false_and, and_false, true_and, and_true, and_self, true_or, or_true, false_or, or_false, if_true, if_false, ite_true, ite_false, mj_tl_some, mj_tl_none, mj_cs0, mj_cs1, mj_cs2, mj_cs3, mj_cs4]
        exact key
      · intro p hp hS
        have m1 := fun Q => m_aheadIn (X := X) (d := d) (M := M) (Q := Q) (a := (p : Int)) (b := a) h ⟨by omega, by omega⟩ ha
        rw [w318_21]
        by_cases hpa : (p : Int) = a
        · rw [← bt_f (c := suF (hh M 355) a) (p := p) (by unfold suF; simp [hpa]) (by omega)] at hS
          simp only [w318_0, w318_1, w318_4, w318_7, w318_8, w318_9, w318_12, w318_15, w318_16, w318_17, w318_18, w318_19, w318_20, w318_22, w318_23, w318_26, w318_27, w318_28, w318_29, w318_32, w318_33, w318_34, w318_35, w318_38, w318_39, w318_40, w318_43, w318_46, w318_47, w318_48, w318_49, w318_52, w318_53, w318_54, w318_55, w318_58, w318_61, w318_62, hpa, show (p : Int) < 5 by omega, show a < 5 by omega, ↓reduceIte, hh_wr, hl_wr, b10, b11, ite_not, ne_eq, Int.reduceEq, Int.reduceLE, Int.reduceLT, Int.reduceNe, Int.reduceNeg, Int.reduceAdd, Int.reduceSub, Int.reduceMul, not_false_eq_true, not_true_eq_false, false_and, and_false, true_and, and_true, and_self, true_or, or_true, false_or, or_false, if_true, if_false, ite_true, ite_false, mj_tl_some, mj_tl_none, mj_cs0, mj_cs1, mj_cs2, mj_cs3, mj_cs4] at hS ⊢
          rw [← hpa]
          rw [← hpa] at hS
          simp only [jp1 (p := p) (by omega)]
          exact hS
        · by_cases hq : ah (hh M 355) (p : Int) a = nCb (hh M 355)
          · rw [← bt_t (c := suF (hh M 355) a) (p := p) (by unfold suF; simp [hpa, hq]) (by omega)] at hS
            simp only [w318_0, w318_1, w318_4, w318_7, w318_8, w318_9, w318_12, w318_15, w318_16, w318_17, w318_18, w318_19, w318_20, w318_22, w318_23, w318_26, w318_27, w318_28, w318_29, w318_32, w318_33, w318_34, w318_35, w318_38, w318_39, w318_40, w318_43, w318_46, w318_47, w318_48, w318_49, w318_52, w318_53, w318_54, w318_55, w318_58, w318_61, w318_62, hpa, mc, m1, hq, show (p : Int) < 5 by omega, jp1 (p := p) (by omega), ↓reduceIte, hh_wr, hl_wr, b10, b11, ite_not, ne_eq, Int.reduceEq, Int.reduceLE, Int.reduceLT, Int.reduceNe, Int.reduceNeg, Int.reduceAdd, Int.reduceSub, Int.reduceMul, not_false_eq_true, not_true_eq_false, false_and, and_false, true_and, and_true, and_self, true_or, or_true, false_or, or_false, if_true, if_false, ite_true, ite_false, mj_tl_some, mj_tl_none, mj_cs0, mj_cs1, mj_cs2, mj_cs3, mj_cs4]
            exact hS
          · rw [← bt_f (c := suF (hh M 355) a) (p := p) (by unfold suF; simp [hq]) (by omega)] at hS
            simp only [w318_0, w318_1, w318_4, w318_7, w318_8, w318_9, w318_12, w318_15, w318_16, w318_17, w318_18, w318_19, w318_20, w318_22, w318_23, w318_26, w318_27, w318_28, w318_29, w318_32, w318_33, w318_34, w318_35, w318_38, w318_39, w318_40, w318_43, w318_46, w318_47, w318_48, w318_49, w318_52, w318_53, w318_54, w318_55, w318_58, w318_61, w318_62, hpa, mc, m1, show ¬ (ah (hh M 355) (p : Int) a : Int) = (nCb (hh M 355) : Int) by omega, show (p : Int) < 5 by omega, jp1 (p := p) (by omega), ↓reduceIte, hh_wr, hl_wr, b10, b11, ite_not, ne_eq, Int.reduceEq, Int.reduceLE, Int.reduceLT, Int.reduceNe, Int.reduceNeg, Int.reduceAdd, Int.reduceSub, Int.reduceMul, not_false_eq_true, not_true_eq_false, false_and, and_false, true_and, and_true, and_self, true_or, or_true, false_or, or_false, if_true, if_false, ite_true, ite_false, mj_tl_some, mj_tl_none, mj_cs0, mj_cs1, mj_cs2, mj_cs3, mj_cs4]
            exact hS
      · simp only [w318_0, w318_1, w318_4, w318_7, w318_8, w318_9, w318_12, w318_15, w318_16, w318_17, w318_18, w318_19, w318_20, w318_21, w318_22, w318_23, w318_26, w318_27, w318_28, w318_29, w318_32, w318_33, w318_34, w318_35, w318_38, w318_39, w318_40, w318_43, w318_46, w318_47, w318_48, w318_49, w318_52, w318_53, w318_54, w318_55, w318_58, w318_61, w318_62, ct5, ↓reduceIte, hh_wr, hl_wr, b10, b11, ite_not, ne_eq, Int.reduceEq, Int.reduceLE, Int.reduceLT, Int.reduceNe, Int.reduceNeg, Int.reduceAdd, Int.reduceSub, Int.reduceMul, not_false_eq_true, not_true_eq_false, false_and, and_false, true_and, and_true, and_self, true_or, or_true, false_or, or_false, if_true, if_false, ite_true, ite_false, mj_tl_some, mj_tl_none, mj_cs0, mj_cs1, mj_cs2, mj_cs3, mj_cs4]
  · simp only [w318_0, w318_1, w318_4, w318_7, w318_8, w318_9, w318_12, w318_15, w318_16, w318_17, w318_18, w318_19, w318_20, w318_21, w318_22, w318_23, w318_26, w318_27, w318_28, w318_29, w318_32, w318_33, w318_34, w318_35, w318_38, w318_39, w318_40, w318_43, w318_46, w318_47, w318_48, w318_49, w318_52, w318_53, w318_54, w318_55, w318_58, w318_61, w318_62, m_isDoing, ha, ↓reduceIte, hh_wr, hl_wr, b10, b11, ite_not, ne_eq, Int.reduceEq, Int.reduceLE, Int.reduceLT, Int.reduceNe, Int.reduceNeg, Int.reduceAdd, Int.reduceSub, Int.reduceMul, not_false_eq_true, not_true_eq_false, false_and, and_false, true_and, and_true, and_self, true_or, or_true, false_or, or_false, if_true, if_false, ite_true, ite_false, mj_tl_some, mj_tl_none, mj_cs0, mj_cs1, mj_cs2, mj_cs3, mj_cs4]
theorem c_surely {M1 : mj_M} {a : Int} (h : RR M) (g : Found M M1) (ha : 0 ≤ a ∧ a ≤ 4) : wc X (d + 4) 149 [(21, 347), (0, a)] M1 Q ↔ Q (some (0, (bt (suF (hh M 355) a) 5 : Int))) M1 := by
  show wp X (d + 4) 149 0 [(21, 347), (0, a), (9, 0), (9, 0)] [] M1 Q ↔ _
  refine wp.det ?_
  obtain ⟨f, g1, g2⟩ := id g
  have key := loop0 (S := fun p => wp X (d + 4) 149 4 [(21, 347), (0, a), (0, (bt (suF (hh M 355) a) p : Int)), (0, (p : Int))] [] M1 (fun r M' => r = some (0, (bt (suF (hh M 355) a) 5 : Int)) ∧ M' = M1)) (P := 5) ?_ ?_
  · simp only [w149_0, w149_1, w149_2, w149_3, ↓reduceIte, hh_wr, hl_wr, b10, b11, ite_not, ne_eq, Int.reduceEq, Int.reduceLE, Int.reduceLT, Int.reduceNe, Int.reduceNeg, Int.reduceAdd, Int.reduceSub, Int.reduceMul, not_false_eq_true, not_true_eq_false, false_and, and_false, true_and, and_true, and_self, true_or, or_true, false_or, or_false, if_true, if_false, ite_true, ite_false, mj_tl_some, mj_tl_none, mj_cs0, mj_cs1, mj_cs2, mj_cs3, mj_cs4]
    exact key
  · intro p hp hS
    have m1 := fun Q => c_howMany (X := X) (d := d) (M := M) (M1 := M1) (Q := Q) (a := (p : Int)) (b := a) h g ⟨by omega, by omega⟩ ha
    rw [w149_4]
    by_cases hpa : (p : Int) = a
    · rw [bt_e (c := suF (hh M 355) a) (p := p) (by unfold suF; simp [hpa])] at hS
      simp only [w149_5, w149_6, w149_9, w149_10, w149_11, w149_33, w149_36, show (p : Int) < 5 by omega, jp1 (p := p) (by omega), if_pos hpa, ↓reduceIte, hh_wr, hl_wr, b10, b11, ite_not, ne_eq, Int.reduceEq, Int.reduceLE, Int.reduceLT, Int.reduceNe, Int.reduceNeg, Int.reduceAdd, Int.reduceSub, Int.reduceMul, not_false_eq_true, not_true_eq_false, false_and, and_false, true_and, and_true, and_self, true_or, or_true, false_or, or_false, if_true, if_false, ite_true, ite_false, mj_tl_some, mj_tl_none, mj_cs0, mj_cs1, mj_cs2, mj_cs3, mj_cs4]
      exact hS
    · by_cases hq : ah (hh M 355) (p : Int) a = nCb (hh M 355)
      · rw [← bt_t (c := suF (hh M 355) a) (p := p) (by unfold suF; simp [hpa, hq]) (by omega)] at hS
        simp only [w149_0, w149_1, w149_2, w149_3, w149_5, w149_6, w149_9, w149_10, w149_11, w149_14, w149_15, w149_16, w149_17, w149_20, w149_21, w149_24, w149_27, w149_28, w149_29, w149_30, w149_31, w149_32, w149_33, w149_36, w149_39, w149_40, hpa, g1, m1, hq, show (p : Int) < 5 by omega, jp1 (p := p) (by omega), ↓reduceIte, hh_wr, hl_wr, b10, b11, ite_not, ne_eq, Int.reduceEq, Int.reduceLE, Int.reduceLT, Int.reduceNe, Int.reduceNeg, Int.reduceAdd, Int.reduceSub, Int.reduceMul, not_false_eq_true, not_true_eq_false, false_and, and_false, true_and, and_true, and_self, true_or, or_true, false_or, or_false, if_true, if_false, ite_true, ite_false, mj_tl_some, mj_tl_none, mj_cs0, mj_cs1, mj_cs2, mj_cs3, mj_cs4]
        exact hS
      · rw [bt_e (c := suF (hh M 355) a) (p := p) (by unfold suF; simp [hq])] at hS
        simp only [w149_0, w149_1, w149_2, w149_3, w149_5, w149_6, w149_9, w149_10, w149_11, w149_14, w149_15, w149_16, w149_17, w149_20, w149_21, w149_24, w149_27, w149_28, w149_29, w149_30, w149_31, w149_32, w149_33, w149_36, w149_39, w149_40, hpa, g1, m1, show ¬ (ah (hh M 355) (p : Int) a : Int) = (nCb (hh M 355) : Int) by omega, show (p : Int) < 5 by omega, jp1 (p := p) (by omega), ↓reduceIte, hh_wr, hl_wr, b10, b11, ite_not, ne_eq, Int.reduceEq, Int.reduceLE, Int.reduceLT, Int.reduceNe, Int.reduceNeg, Int.reduceAdd, Int.reduceSub, Int.reduceMul, not_false_eq_true, not_true_eq_false, false_and, and_false, true_and, and_true, and_self, true_or, or_true, false_or, or_false, if_true, if_false, ite_true, ite_false, mj_tl_some, mj_tl_none, mj_cs0, mj_cs1, mj_cs2, mj_cs3, mj_cs4]
        exact hS
  · simp only [w149_0, w149_1, w149_2, w149_3, w149_4, w149_5, w149_6, w149_9, w149_10, w149_11, w149_14, w149_15, w149_16, w149_17, w149_20, w149_21, w149_24, w149_27, w149_28, w149_29, w149_30, w149_31, w149_32, w149_33, w149_36, w149_39, w149_40, ct5, ↓reduceIte, hh_wr, hl_wr, b10, b11, ite_not, ne_eq, Int.reduceEq, Int.reduceLE, Int.reduceLT, Int.reduceNe, Int.reduceNeg, Int.reduceAdd, Int.reduceSub, Int.reduceMul, not_false_eq_true, not_true_eq_false, false_and, and_false, true_and, and_true, and_self, true_or, or_true, false_or, or_false, if_true, if_false, ite_true, ite_false, mj_tl_some, mj_tl_none, mj_cs0, mj_cs1, mj_cs2, mj_cs3, mj_cs4]
theorem st27 : St27 RR (d + 60) := by
  intro X M a h i1
  unfold LS2
  show wp X (d + 60) 148 0 [(31, 1), (0, a)] [] M _
  by_cases ha : 0 ≤ a ∧ a ≤ 4
  · simp only [w148_0, w148_1, w148_4, w148_7, w148_8, w148_11, c_isDoing, ha, c_1_0 h.cs, c_1_1 h.cs, c_1_2 h.cs, c_1_3 h.cs, c_1_4 h.cs, c_1_5 h.cs, c_1_6 h.cs, c_1_7 h.cs, c_1_8 h.cs, c_2_0 h.cs, c_2_1 h.cs, c_5_0 h.cs, c_5_1 h.cs, c_5_2 h.cs, c_5_3 h.cs, c_5_5 h.cs, c_5_8 h.cs, c_5_11 h.cs, c_6_1 h.cs, c_6_2 h.cs, c_6_3 h.cs, c_10_4 h.cs, c_10_5 h.cs, c_10_6 h.cs, c_10_7 h.cs, c_15_1 h.cs, c_17_1 h.cs, c_339_0 h.cs, c_341_0 h.cs, c_341_1 h.cs, c_341_2 h.cs, c_342_4 h.cs, c_342_5 h.cs, c_342_6 h.cs, c_342_7 h.cs, c_347_0 h.cs, c_347_2 h.cs, c_347_3 h.cs, c_349_0 h.cs, c_349_1 h.cs, c_349_2 h.cs, c_351_2 h.cs, c_351_10 h.cs, c_351_12 h.cs, c_354_0 h.cs, c_354_1 h.cs, c_354_2 h.cs, c_354_3 h.cs, c_354_4 h.cs, c_354_5 h.cs, c_354_6 h.cs, c_354_7 h.cs, c_354_8 h.cs, c_354_20 h.cs, c_354_25 h.cs, c_354_26 h.cs, c_354_27 h.cs, c_354_28 h.cs, c_354_32 h.cs, c_354_33 h.cs, c_354_34 h.cs, c_354_35 h.cs, c_354_38 h.cs, l_3 h.cs, l_4 h.cs, l_7 h.cs, l_8 h.cs, l_9 h.cs, l_11 h.cs, l_12 h.cs, l_13 h.cs, l_14 h.cs, l_16 h.cs, l_18 h.cs, l_19 h.cs, l_20 h.cs, l_21 h.cs, l_340 h.cs, l_343 h.cs, l_344 h.cs, l_345 h.cs, l_346 h.cs, l_348 h.cs, l_350 h.cs, l_352 h.cs, l_353 h.cs, l_355 h.cs, l_356 h.cs, l_357 h.cs, l_358 h.cs, l_359 h.cs, l_360 h.cs, l_361 h.cs, l_362 h.cs, l_363 h.cs, l_364 h.cs, l_365 h.cs, l_366 h.cs, l_367 h.cs, l_368 h.cs, l_369 h.cs, l_370 h.cs, l_371 h.cs, l_372 h.cs, l_373 h.cs, h.gnf, h.gP, h.gy, h.gx, h.gt, h.gns, h.gnt, h.gru, h.gnp, h.gnd, h.gne, ↓reduceIte, hh_wr, hl_wr, b10, b11, ite_not, ne_eq, Int.reduceEq, Int.reduceLE, Int.reduceLT, Int.reduceNe, Int.reduceNeg, Int.reduceAdd, Int.reduceSub, Int.reduceMul, not_false_eq_true, not_true_eq_false, false_and, and_false, true_and, and_true, and_self, true_or, or_true, false_or, or_false, if_true, if_false, ite_true, ite_false, mj_tl_some, mj_tl_none, mj_cs0, mj_cs1, mj_cs2, mj_cs3, mj_cs4]
    refine wc.mono (c_find (d := d + 55) h) ?_
    rintro r M1 ⟨rfl, g⟩
    obtain ⟨f, g1, g2⟩ := id g
    have h' := h.s8 f
    have e5 := fz8_355 f
    have m1 := fun Q => m_sure (X := X) (d := d + 56) (M := M1) (Q := Q) (a := a) h'
    rw [e5] at m1
    by_cases hz : nCb (hh M 355) = 0
    · have e : suV (hh M 355) a = -1 := if_neg (fun q => q.2 hz)
      rw [e] at m1
      simp only [w148_0, w148_1, w148_4, w148_7, w148_8, w148_11, w148_14, w148_15, w148_18, w148_19, w148_20, w148_21, w148_24, w148_25, w148_28, hz, ct0, m1, ↓reduceIte, hh_wr, hl_wr, b10, b11, ite_not, ne_eq, Int.reduceEq, Int.reduceLE, Int.reduceLT, Int.reduceNe, Int.reduceNeg, Int.reduceAdd, Int.reduceSub, Int.reduceMul, not_false_eq_true, not_true_eq_false, false_and, and_false, true_and, and_true, and_self, true_or, or_true, false_or, or_false, if_true, if_false, ite_true, ite_false, mj_tl_some, mj_tl_none, mj_cs0, mj_cs1, mj_cs2, mj_cs3, mj_cs4]
      exact ⟨_, rfl, rfl, Pst.of h' f⟩
    · have e : suV (hh M 355) a = (bt (suF (hh M 355) a) 5 : Int) := if_pos ⟨ha, hz⟩
      rw [e] at m1
      have c1 := fun Q => c_surely (X := X) (d := d + 55) (M := M) (M1 := M1) (Q := Q) h g ha
      simp only [w148_0, w148_1, w148_4, w148_7, w148_8, w148_11, w148_14, w148_15, w148_18, w148_19, w148_20, w148_21, w148_24, w148_25, w148_28, c_1_0 h'.cs, c_1_1 h'.cs, c_1_2 h'.cs, c_1_3 h'.cs, c_1_4 h'.cs, c_1_5 h'.cs, c_1_6 h'.cs, c_1_7 h'.cs, c_1_8 h'.cs, c_2_0 h'.cs, c_2_1 h'.cs, c_5_0 h'.cs, c_5_1 h'.cs, c_5_2 h'.cs, c_5_3 h'.cs, c_5_5 h'.cs, c_5_8 h'.cs, c_5_11 h'.cs, c_6_1 h'.cs, c_6_2 h'.cs, c_6_3 h'.cs, c_10_4 h'.cs, c_10_5 h'.cs, c_10_6 h'.cs, c_10_7 h'.cs, c_15_1 h'.cs, c_17_1 h'.cs, c_339_0 h'.cs, c_341_0 h'.cs, c_341_1 h'.cs, c_341_2 h'.cs, c_342_4 h'.cs, c_342_5 h'.cs, c_342_6 h'.cs, c_342_7 h'.cs, c_347_0 h'.cs, c_347_2 h'.cs, c_347_3 h'.cs, c_349_0 h'.cs, c_349_1 h'.cs, c_349_2 h'.cs, c_351_2 h'.cs, c_351_10 h'.cs, c_351_12 h'.cs, c_354_0 h'.cs, c_354_1 h'.cs, c_354_2 h'.cs, c_354_3 h'.cs, c_354_4 h'.cs, c_354_5 h'.cs, c_354_6 h'.cs, c_354_7 h'.cs, c_354_8 h'.cs, c_354_20 h'.cs, c_354_25 h'.cs, c_354_26 h'.cs, c_354_27 h'.cs, c_354_28 h'.cs, c_354_32 h'.cs, c_354_33 h'.cs, c_354_34 h'.cs, c_354_35 h'.cs, c_354_38 h'.cs, l_3 h'.cs, l_4 h'.cs, l_7 h'.cs, l_8 h'.cs, l_9 h'.cs, l_11 h'.cs, l_12 h'.cs, l_13 h'.cs, l_14 h'.cs, l_16 h'.cs, l_18 h'.cs, l_19 h'.cs, l_20 h'.cs, l_21 h'.cs, l_340 h'.cs, l_343 h'.cs, l_344 h'.cs, l_345 h'.cs, l_346 h'.cs, l_348 h'.cs, l_350 h'.cs, l_352 h'.cs, l_353 h'.cs, l_355 h'.cs, l_356 h'.cs, l_357 h'.cs, l_358 h'.cs, l_359 h'.cs, l_360 h'.cs, l_361 h'.cs, l_362 h'.cs, l_363 h'.cs, l_364 h'.cs, l_365 h'.cs, l_366 h'.cs, l_367 h'.cs, l_368 h'.cs, l_369 h'.cs, l_370 h'.cs, l_371 h'.cs, l_372 h'.cs, l_373 h'.cs, h'.gnf, h'.gP, h'.gy, h'.gx, h'.gt, h'.gns, h'.gnt, h'.gru, h'.gnp, h'.gnd, h'.gne, show ¬ (nCb (hh M 355) : Int) < 1 by omega, c1, m1, ↓reduceIte, hh_wr, hl_wr, b10, b11, ite_not, ne_eq, Int.reduceEq, Int.reduceLE, Int.reduceLT, Int.reduceNe, Int.reduceNeg, Int.reduceAdd, Int.reduceSub, Int.reduceMul, not_false_eq_true, not_true_eq_false, false_and, and_false, true_and, and_true, and_self, true_or, or_true, false_or, or_false, if_true, if_false, ite_true, ite_false, mj_tl_some, mj_tl_none, mj_cs0, mj_cs1, mj_cs2, mj_cs3, mj_cs4]
      exact ⟨_, rfl, rfl, Pst.of h' f⟩
  · have e : suV (hh M 355) a = -1 := if_neg (fun q => ha q.1)
    have m1 := fun Q => m_sure (X := X) (d := d + 56) (M := M) (Q := Q) (a := a) h
    rw [e] at m1
    simp only [w148_0, w148_1, w148_4, w148_7, w148_8, w148_11, w148_14, w148_15, w148_18, w148_19, w148_20, w148_21, w148_24, w148_25, w148_28, c_isDoing, ha, m1, ↓reduceIte, hh_wr, hl_wr, b10, b11, ite_not, ne_eq, Int.reduceEq, Int.reduceLE, Int.reduceLT, Int.reduceNe, Int.reduceNeg, Int.reduceAdd, Int.reduceSub, Int.reduceMul, not_false_eq_true, not_true_eq_false, false_and, and_false, true_and, and_true, and_self, true_or, or_true, false_or, or_false, if_true, if_false, ite_true, ite_false, mj_tl_some, mj_tl_none, mj_cs0, mj_cs1, mj_cs2, mj_cs3, mj_cs4]
    exact ⟨_, rfl, rfl, Pst.id h⟩
end Qt
