/-! DOINGS: told -/
def bsh (B : Int → Int) (k : Int) : Int → Int := fun j => if 1661 ≤ j ∧ j < 1661 + k then B (j + 1) else B j
def wrC (B : Int → Int) : Int → Int := if B 10 = 30 then up (bsh B 29) 10 29 else B
def wrA (B : Int → Int) (p s n : Int) : Int → Int := up (up (wrC B) (1661 + wrC B 10) (2400 * wrC B 8 + 400 * p + 100 * s + n)) 10 (wrC B 10 + 1)
def tlA (B : Int → Int) (p s n : Int) : Int → Int := wrA (up B (11 + 5 * p + 2) (B (11 + 5 * p + 2) - n)) p s n
/-- how long it is (-1: it can't be) -/
def tlV (A : Int → Int) (p s : Int) : Int := if (0 ≤ p ∧ p < A 1) ∧ (0 ≤ s ∧ s < A 2) ∧ llV A (A (11 + 5 * p + 1)) ≠ -1 ∧ llV A (A (11 + 5 * p + 1)) ≤ A (11 + 5 * p + 2) then llV A (A (11 + 5 * p + 1)) else -1
theorem ll_congr {A A1 : Int → Int} (h : ∀ j, (j = 0 ∨ (41 ≤ j ∧ j ≤ 56)) → A1 j = A j) (f8 : A 0 ≤ 8) (v : Int) : llV A1 v = llV A v := by
  have e : ∀ (k : Int) (n : Nat), (n : Int) ≤ 8 → co A1 v k n = co A v k n := by
    intro k n
    induction n with
    | zero => intro _; rfl
    | succ n ih =>
      intro hn
      have e1 : co A1 v k (n + 1) = coS A1 v k n (co A1 v k n) := rfl
      have e2 : co A v k (n + 1) = coS A v k n (co A v k n) := rfl
      rw [e1, e2, ih (by omega)]
      unfold coS
      rw [h (41 + 2 * (n : Int)) (by omega), h (41 + 2 * (n : Int) + 1) (by omega)]
  have ec : ∀ k, coF A1 v k = coF A v k := by
    intro k
    unfold coF
    rw [h 0 (by omega)]
    exact e k _ (by omega)
  unfold llV
  rw [bw_congr (c := coF A1 v) (c' := coF A v) (fun k _ _ => ec k)]
theorem ll_r {A : Int → Int} (ai : AI A) {v : Int} (h : llV A v ≠ -1) : 0 ≤ llV A v ∧ llV A v ≤ 50 := by
  unfold llV at h ⊢
  by_cases hb : bw (coF A v) = -1
  · rw [if_pos hb] at h; exact absurd rfl h
  · rw [if_neg hb]
    have := bw_r (coF_hc ai v) hb
    omega
theorem wrC_o {B : Int → Int} {j : Int} (h : j ≠ 10) (h2 : j < 1661 ∨ 1690 < j) : wrC B j = B j := by
  unfold wrC
  split
  · rw [up_ne h]; unfold bsh; rw [if_neg (by omega)]
  · rfl
theorem wrC_10 (B : Int → Int) : wrC B 10 = if B 10 = 30 then 29 else B 10 := by
  unfold wrC
  split
  · exact up_eq
  · rfl
theorem wrA_nwE {B : Int → Int} {p s n : Int} (h : 0 ≤ B 10 ∧ B 10 ≤ 30) : nwE B (wrA B p s n) := by
  intro j hj
  unfold nwi at hj
  have h10 := wrC_10 B
  unfold wrA
  have : 0 ≤ wrC B 10 ∧ wrC B 10 ≤ 29 := by rw [h10]; split <;> omega
  rw [up_ne (by omega), up_ne (by omega), wrC_o (by omega) (by omega)]
theorem wrA_mi {B : Int → Int} {F p s n : Int} (h : MI F (mn B)) (hp : 0 ≤ p ∧ p < 6) (hs : 0 ≤ s ∧ s < 4) (hn : 0 ≤ n ∧ n ≤ 99) : MI F (mn (wrA B p s n)) := by
  have t0 : 0 ≤ B 10 := h.t0
  have t3 : B 10 ≤ 30 := h.t3
  have y0 : 0 ≤ B 8 := h.y0
  have y9 : B 8 ≤ 9999 := h.y9
  have p6 : B 1 ≤ 6 := h.p6
  have h10 := wrC_10 B
  have e8 : wrC B 8 = B 8 := wrC_o (by omega) (by omega)
  have r10 : 0 ≤ wrC B 10 ∧ wrC B 10 ≤ 29 := by rw [h10]; split <;> omega
  have e : ∀ j, (j < 10 ∨ (10 < j ∧ j < 1661)) → wrA B p s n j = B j := fun j hj => by
    unfold wrA; rw [up_ne (by omega), up_ne (by omega), wrC_o (by omega) (by omega)]
  have eP : (mn (wrA B p s n)).P = (mn B).P := e 1 (by omega)
  have eY : (mn (wrA B p s n)).y = (mn B).y := e 8 (by omega)
  have eX : (mn (wrA B p s n)).x = (mn B).x := e 9 (by omega)
  have eT : (mn (wrA B p s n)).t = wrC B 10 + 1 := show wrA B p s n 10 = _ from up_eq
  have ep : ∀ q k, 0 ≤ q → q < 6 → 0 ≤ k → k < 3 → (mn (wrA B p s n)).ps q k = (mn B).ps q k := fun q k a b c d => e (11 + 5 * q + k) (by omega)
  refine ⟨by rw [eP]; exact h.p0, by rw [eP]; exact h.p6, by rw [eY]; exact h.y0, by rw [eY]; exact h.y9, by rw [eX]; exact h.x0, by rw [eX]; exact h.x9, by rw [eT]; omega, by rw [eT]; omega, fun q a b => ?_, fun q a b => ?_, fun q a b => ?_, fun i a b => ?_⟩
  · rw [eP] at b
    have b6 : q < 6 := Int.lt_of_lt_of_le b p6
    rw [ep q 0 a b6 (by decide) (by decide)]; exact h.a q a b
  · rw [eP] at b
    have b6 : q < 6 := Int.lt_of_lt_of_le b p6
    rw [ep q 1 a b6 (by decide) (by decide)]; exact h.k q a b
  · rw [eP] at b
    have b6 : q < 6 := Int.lt_of_lt_of_le b p6
    rw [ep q 2 a b6 (by decide) (by decide)]; exact h.b q a b
  · rw [eT] at b
    show 0 ≤ wrA B p s n (1661 + i) ∧ wrA B p s n (1661 + i) ≤ 24000000
    unfold wrA
    rw [up_ne (by omega)]
    by_cases ei : i = wrC B 10
    · rw [ei, up_eq, e8]; omega
    · rw [up_ne (by omega)]
      unfold wrC
      by_cases h30 : B 10 = 30
      · rw [h10, if_pos h30] at b ei
        rw [if_pos h30, up_ne (by omega)]
        unfold bsh
        rw [if_pos (by omega), show 1661 + i + 1 = 1661 + (i + 1) by omega]
        exact h.bo (i + 1) (by omega) (by show i + 1 < B 10; omega)
      · rw [h10, if_neg h30] at b ei
        rw [if_neg h30]
        exact h.bo i a (by show i < B 10; omega)
theorem bk_code {y p s n k : Int} (hp : 0 ≤ p ∧ p < 6) (hs : 0 ≤ s ∧ s < 4) (hn : 0 ≤ n ∧ n ≤ 99) : bk (2400 * y + 400 * p + 100 * s + n) k = if k = 0 then y else if k = 1 then p else if k = 2 then s else n := by
  unfold bk
  repeat' split
  all_goals omega
section Tell
variable {X : mj_X} {d : Nat} {M : mj_M} {A : Int → Int} {Q : Option mj_V → mj_M → Prop}
theorem c_write {B : Int → Int} {p s n : Int} (h : CW M B) (hst : stp B) (hp : 0 ≤ p ∧ p < 6) (hs : 0 ≤ s ∧ s < 4) (hn : 0 ≤ n ∧ n ≤ 99) : wc X d 102 [(24, 10), (0, p), (0, s), (0, n)] M (fun r M1 => r = none ∧ CW M1 (wrA B p s n) ∧ Cf M M1 ∧ stp (wrA B p s n)) := by
  show wp X d 102 0 [(24, 10), (0, p), (0, s), (0, n), (9, 0)] [] M _
  have t0 : 0 ≤ B 10 := h.ai.now.t0
  have t3 : B 10 ≤ 30 := h.ai.now.t3
  have p6 := h.P6
  have h10 := wrC_10 B
  have r10 : 0 ≤ wrC B 10 ∧ wrC B 10 ≤ 29 := by rw [h10]; split <;> omega
  have e8 : wrC B 8 = B 8 := wrC_o (by omega) (by omega)
  have ne := wrA_nwE (B := B) (p := p) (s := s) (n := n) ⟨t0, t3⟩
  have fin : ∀ M1, Fc 10 M M1 → hh M1 10 2 = B 1 → hh M1 10 0 = B 8 → hh M1 10 1 = B 9 → hh M1 10 3 = wrC B 10 + 1 → (∀ w q, 1 ≤ w → w ≤ 3 → hh M1 (10 + w) q = hh M (10 + w) q) → (∀ i k, 0 ≤ i → i < wrC B 10 → 0 ≤ k → k < 4 → hh M1 14 (4 * i + k) = bk (wrC B (1661 + i)) k) → (∀ k, 0 ≤ k → k < 4 → hh M1 14 (4 * wrC B 10 + k) = if k = 0 then B 8 else if k = 1 then p else if k = 2 then s else n) → (CW M1 (wrA B p s n) ∧ Cf M M1 ∧ stp (wrA B p s n)) := by
    intro M1 fc a2 a0 a1 a3 aw ab ac
    have e : ∀ j, (j < 10 ∨ (10 < j ∧ j < 1661)) → wrA B p s n j = B j := fun j hj => by
      unfold wrA; rw [up_ne (by omega), up_ne (by omega), wrC_o (by omega) (by omega)]
    have eP : (mn (wrA B p s n)).P = B 1 := e 1 (by omega)
    have eT : (mn (wrA B p s n)).t = wrC B 10 + 1 := show wrA B p s n 10 = _ from up_eq
    refine ⟨h.nw hst fc ne ⟨?_, ?_, ?_, ?_, fun q a b => ?_, fun q a b => ?_, fun q a b => ?_, fun i a b k u v => ?_⟩ (wrA_mi h.ai.now hp hs hn), Cf.fc fc, hst.of h.ai ne⟩
    · rw [a2, eP]
    · rw [a0]; exact (e 8 (by omega)).symm
    · rw [a1]; exact (e 9 (by omega)).symm
    · rw [a3, eT]
    · rw [eP] at b
      rw [aw 1 q (by decide) (by decide)]
      exact (h.ga ⟨a, b⟩).trans (e (11 + 5 * q + 0) (by omega)).symm
    · rw [eP] at b
      rw [aw 2 q (by decide) (by decide)]
      exact (h.gk ⟨a, b⟩).trans (e (11 + 5 * q + 1) (by omega)).symm
    · rw [eP] at b
      rw [aw 3 q (by decide) (by decide)]
      exact (h.gb ⟨a, b⟩).trans (e (11 + 5 * q + 2) (by omega)).symm
    · rw [eT] at b
      show hh M1 14 (4 * i + k) = bk (wrA B p s n (1661 + i)) k
      unfold wrA
      rw [up_ne (by omega)]
      by_cases ei : i = wrC B 10
      · rw [ei, up_eq, ac k u v, bk_code hp hs hn, e8]
      · rw [up_ne (by omega)]
        exact ab i k a (by omega) u v
  have main : ∀ M0 : mj_M, Fc 10 M M0 → CS M0 → (∀ j, j ≠ 3 → hh M0 10 j = hh M 10 j) → hh M0 10 3 = wrC B 10 → (∀ w q, 1 ≤ w → w ≤ 3 → hh M0 (10 + w) q = hh M (10 + w) q) → (∀ i k, 0 ≤ i → i < wrC B 10 → 0 ≤ k → k < 4 → hh M0 14 (4 * i + k) = bk (wrC B (1661 + i)) k) → wp X d 102 30 [(24, 10), (0, p), (0, s), (0, n), (9, 0)] [] M0 (fun r M1 => r = none ∧ CW M1 (wrA B p s n) ∧ Cf M M1 ∧ stp (wrA B p s n)) := by
    intro M0 fc hc0 b1 b3 bw ab
    have y0 : hh M0 10 0 = B 8 := (b1 0 (by decide)).trans h.gy
    have m4 : ji_mul (wrC B 10) 4 = 4 * wrC B 10 := by rw [ji_mul_eq (nn ⟨by omega, by omega⟩)]; omega
    simp only [w102_0, w102_1, w102_4, w102_6, w102_9, w102_10, w102_13, w102_14, w102_15, w102_18, w102_19, w102_21, w102_24, w102_25, w102_27, w102_30, w102_31, w102_34, w102_35, w102_36, w102_38, w102_39, w102_42, w102_44, w102_45, w102_48, w102_49, w102_50, w102_53, w102_55, w102_56, w102_57, w102_58, w102_59, w102_60, w102_63, w102_65, w102_66, w102_67, w102_68, w102_69, w102_70, w102_73, w102_75, w102_76, w102_77, w102_78, w102_79, w102_80, w102_81, w102_84, w102_85, w102_86, w102_89, c_1_0 hc0, c_1_1 hc0, c_1_2 hc0, c_1_3 hc0, c_1_4 hc0, c_1_5 hc0, c_1_6 hc0, c_1_7 hc0, c_1_8 hc0, c_2_0 hc0, c_2_1 hc0, c_5_0 hc0, c_5_1 hc0, c_5_2 hc0, c_5_3 hc0, c_5_5 hc0, c_5_8 hc0, c_5_11 hc0, c_6_1 hc0, c_6_2 hc0, c_6_3 hc0, c_10_4 hc0, c_10_5 hc0, c_10_6 hc0, c_10_7 hc0, c_15_1 hc0, c_17_1 hc0, c_339_0 hc0, c_341_0 hc0, c_341_1 hc0, c_341_2 hc0, c_342_4 hc0, c_342_5 hc0, c_342_6 hc0, c_342_7 hc0, c_347_0 hc0, c_347_2 hc0, c_347_3 hc0, c_349_0 hc0, c_349_1 hc0, c_349_2 hc0, c_351_2 hc0, c_351_10 hc0, c_351_12 hc0, c_354_0 hc0, c_354_1 hc0, c_354_2 hc0, c_354_3 hc0, c_354_4 hc0, c_354_5 hc0, c_354_6 hc0, c_354_7 hc0, c_354_8 hc0, c_354_20 hc0, c_354_25 hc0, c_354_26 hc0, c_354_27 hc0, c_354_28 hc0, c_354_32 hc0, c_354_33 hc0, c_354_34 hc0, c_354_35 hc0, c_354_38 hc0, l_3 hc0, l_4 hc0, l_7 hc0, l_8 hc0, l_9 hc0, l_11 hc0, l_12 hc0, l_13 hc0, l_14 hc0, l_16 hc0, l_18 hc0, l_19 hc0, l_20 hc0, l_21 hc0, l_340 hc0, l_343 hc0, l_344 hc0, l_345 hc0, l_346 hc0, l_348 hc0, l_350 hc0, l_352 hc0, l_353 hc0, l_355 hc0, l_356 hc0, l_357 hc0, l_358 hc0, l_359 hc0, l_360 hc0, l_361 hc0, l_362 hc0, l_363 hc0, l_364 hc0, l_365 hc0, l_366 hc0, l_367 hc0, l_368 hc0, l_369 hc0, l_370 hc0, l_371 hc0, l_372 hc0, l_373 hc0, b3, m4, y0, aj (x := 4 * wrC B 10) (y := 1) ⟨by omega, by omega⟩, aj (x := 4 * wrC B 10) (y := 2) ⟨by omega, by omega⟩, aj (x := 4 * wrC B 10) (y := 3) ⟨by omega, by omega⟩, aj (x := wrC B 10) (y := 1) ⟨by omega, by omega⟩, show (0 : Int) ≤ 4 * wrC B 10 by omega, show 4 * wrC B 10 < 120 by omega, show (0 : Int) ≤ 4 * wrC B 10 + 1 by omega, show 4 * wrC B 10 + 1 < 120 by omega, show (0 : Int) ≤ 4 * wrC B 10 + 2 by omega, show 4 * wrC B 10 + 2 < 120 by omega, show (0 : Int) ≤ 4 * wrC B 10 + 3 by omega, show 4 * wrC B 10 + 3 < 120 by omega, ↓reduceIte, hh_wr, hl_wr, b10, b11, ite_not, ne_eq, Int.reduceEq, Int.reduceLE, Int.reduceLT, Int.reduceNe, Int.reduceNeg, Int.reduceAdd, Int.reduceSub, Int.reduceMul, not_false_eq_true, not_true_eq_false, false_and, and_false, true_and, and_true, and_self, true_or, or_true, false_or, or_false, if_true, if_false, ite_true, ite_false, mj_tl_some, mj_tl_none, mj_cs0, mj_cs1, mj_cs2, mj_cs3, mj_cs4]
    generalize hM1 : mj_wr (mj_wr (mj_wr (mj_wr (mj_wr M0 14 (4 * wrC B 10) (B 8)) 14 (4 * wrC B 10 + 1) p) 14 (4 * wrC B 10 + 2) s) 14 (4 * wrC B 10 + 3) n) 10 3 (wrC B 10 + 1) = M1
    have R : ∀ x j, hh M1 x j = if x = 10 ∧ j = 3 then wrC B 10 + 1 else if x = 14 ∧ j = 4 * wrC B 10 + 3 then n else if x = 14 ∧ j = 4 * wrC B 10 + 2 then s else if x = 14 ∧ j = 4 * wrC B 10 + 1 then p else if x = 14 ∧ j = 4 * wrC B 10 then B 8 else hh M0 x j := by subst hM1; exact fun x j => rfl
    have fc1 : Fc 10 M M1 := by subst hM1; exact ((((fc.wr (by omega)).wr (by omega)).wr (by omega)).wr (by omega)).wr (by omega)
    clear hM1
    have KK : ∀ x j, (x ≠ 10 ∨ j ≠ 3) → x ≠ 14 → hh M1 x j = hh M0 x j := fun x j h1 h2 => by rw [R, if_neg (by omega), if_neg (by omega), if_neg (by omega), if_neg (by omega), if_neg (by omega)]
    refine fin M1 fc1 ?_ ?_ ?_ ?_ (fun w q w1 w3 => ?_) (fun i k a b c e => ?_) (fun k a b => ?_)
    · rw [KK 10 2 (by omega) (by omega), b1 2 (by decide)]; exact h.gP
    · rw [KK 10 0 (by omega) (by omega)]; exact y0
    · rw [KK 10 1 (by omega) (by omega), b1 1 (by decide)]; exact h.gx
    · rw [R, if_pos ⟨rfl, rfl⟩]
    · rw [KK (10 + w) q (by omega) (by omega)]; exact bw w q w1 w3
    · rw [R, if_neg (by omega), if_neg (by omega), if_neg (by omega), if_neg (by omega), if_neg (by omega)]; exact ab i k a b c e
    · rcases (show k = 0 ∨ k = 1 ∨ k = 2 ∨ k = 3 by omega) with rfl | rfl | rfl | rfl
      · rw [Int.add_zero, R, if_neg (by omega), if_neg (by omega), if_neg (by omega), if_neg (by omega), if_pos (by omega)]; rfl
      · rw [R, if_neg (by omega), if_neg (by omega), if_neg (by omega), if_pos (by omega)]; rfl
      · rw [R, if_neg (by omega), if_neg (by omega), if_pos (by omega)]; rfl
      · rw [R, if_neg (by omega), if_pos (by omega)]; rfl
  have gt : hh M 10 3 = B 10 := h.gt
  have hbk : ∀ i k, 0 ≤ i → i < B 10 → 0 ≤ k → k < 4 → hh M 14 (4 * i + k) = bk (B (1661 + i)) k := fun i k a b c e => h.wr.now.hbk i a b k c e
  by_cases h30 : B 10 = 30
  · have ec : wrC B 10 = 29 := by rw [h10, if_pos h30]
    simp only [w102_0, w102_1, w102_4, w102_6, w102_9, w102_10, w102_13, w102_14, w102_15, w102_18, w102_19, w102_21, w102_24, w102_25, w102_27, c_1_0 h.cs, c_1_1 h.cs, c_1_2 h.cs, c_1_3 h.cs, c_1_4 h.cs, c_1_5 h.cs, c_1_6 h.cs, c_1_7 h.cs, c_1_8 h.cs, c_2_0 h.cs, c_2_1 h.cs, c_5_0 h.cs, c_5_1 h.cs, c_5_2 h.cs, c_5_3 h.cs, c_5_5 h.cs, c_5_8 h.cs, c_5_11 h.cs, c_6_1 h.cs, c_6_2 h.cs, c_6_3 h.cs, c_10_4 h.cs, c_10_5 h.cs, c_10_6 h.cs, c_10_7 h.cs, c_15_1 h.cs, c_17_1 h.cs, c_339_0 h.cs, c_341_0 h.cs, c_341_1 h.cs, c_341_2 h.cs, c_342_4 h.cs, c_342_5 h.cs, c_342_6 h.cs, c_342_7 h.cs, c_347_0 h.cs, c_347_2 h.cs, c_347_3 h.cs, c_349_0 h.cs, c_349_1 h.cs, c_349_2 h.cs, c_351_2 h.cs, c_351_10 h.cs, c_351_12 h.cs, c_354_0 h.cs, c_354_1 h.cs, c_354_2 h.cs, c_354_3 h.cs, c_354_4 h.cs, c_354_5 h.cs, c_354_6 h.cs, c_354_7 h.cs, c_354_8 h.cs, c_354_20 h.cs, c_354_25 h.cs, c_354_26 h.cs, c_354_27 h.cs, c_354_28 h.cs, c_354_32 h.cs, c_354_33 h.cs, c_354_34 h.cs, c_354_35 h.cs, c_354_38 h.cs, l_3 h.cs, l_4 h.cs, l_7 h.cs, l_8 h.cs, l_9 h.cs, l_11 h.cs, l_12 h.cs, l_13 h.cs, l_14 h.cs, l_16 h.cs, l_18 h.cs, l_19 h.cs, l_20 h.cs, l_21 h.cs, l_340 h.cs, l_343 h.cs, l_344 h.cs, l_345 h.cs, l_346 h.cs, l_348 h.cs, l_350 h.cs, l_352 h.cs, l_353 h.cs, l_355 h.cs, l_356 h.cs, l_357 h.cs, l_358 h.cs, l_359 h.cs, l_360 h.cs, l_361 h.cs, l_362 h.cs, l_363 h.cs, l_364 h.cs, l_365 h.cs, l_366 h.cs, l_367 h.cs, l_368 h.cs, l_369 h.cs, l_370 h.cs, l_371 h.cs, l_372 h.cs, l_373 h.cs, gt, h30, ↓reduceIte, hh_wr, hl_wr, b10, b11, ite_not, ne_eq, Int.reduceEq, Int.reduceLE, Int.reduceLT, Int.reduceNe, Int.reduceNeg, Int.reduceAdd, Int.reduceSub, Int.reduceMul, not_false_eq_true, not_true_eq_false, false_and, and_false, true_and, and_true, and_self, true_or, or_true, false_or, or_false, if_true, if_false, ite_true, ite_false, mj_tl_some, mj_tl_none, mj_cs0, mj_cs1, mj_cs2, mj_cs3, mj_cs4]
    generalize hM0 : mj_wr (mj_cp M 14 4 14 0 116) 10 3 29 = M0
    have R : ∀ x j, hh M0 x j = if x = 10 ∧ j = 3 then 29 else if x = 14 ∧ 0 ≤ j ∧ j < 0 + 116 then hh M 14 (4 + (j - 0)) else hh M x j := by subst hM0; exact fun x j => rfl
    have L : ∀ x, hl M0 x = hl M x := by subst hM0; exact fun x => rfl
    have N : M0.1 = M.1 ∧ M0.2.1 = M.2.1 := by subst hM0; exact ⟨rfl, rfl⟩
    clear hM0
    have fc : Fc 10 M M0 := ⟨fun x j hx _ => by rw [R, if_neg (by omega), if_neg (by omega)], L, N.1, N.2⟩
    refine main M0 fc (h.cs.fz fc.fz10 (by decide)) (fun j hj => by rw [R, if_neg (by omega), if_neg (by omega)]) (by rw [R, if_pos ⟨rfl, rfl⟩, ec]) (fun w q w1 w3 => by rw [R, if_neg (by omega), if_neg (by omega)]) (fun i k a b c e => ?_)
    rw [ec] at b
    rw [R, if_neg (by omega), if_pos (by omega), show 4 + (4 * i + k - 0) = 4 * (i + 1) + k by omega, hbk (i + 1) k (by omega) (by omega) c e]
    unfold wrC
    rw [if_pos h30, up_ne (by omega)]
    unfold bsh
    rw [if_pos (by omega), show 1661 + i + 1 = 1661 + (i + 1) by omega]
  · have ec : wrC B 10 = B 10 := by rw [h10, if_neg h30]
    have eB : wrC B = B := by unfold wrC; rw [if_neg h30]
    simp only [w102_0, w102_1, w102_4, w102_6, gt, show B 10 < 30 by omega, ↓reduceIte, hh_wr, hl_wr, b10, b11, ite_not, ne_eq, Int.reduceEq, Int.reduceLE, Int.reduceLT, Int.reduceNe, Int.reduceNeg, Int.reduceAdd, Int.reduceSub, Int.reduceMul, not_false_eq_true, not_true_eq_false, false_and, and_false, true_and, and_true, and_self, true_or, or_true, false_or, or_false, if_true, if_false, ite_true, ite_false, mj_tl_some, mj_tl_none, mj_cs0, mj_cs1, mj_cs2, mj_cs3, mj_cs4]
    exact main M Fc.rfl' h.cs (fun _ _ => rfl) (by rw [ec]; exact gt) (fun _ _ _ _ => rfl) (fun i k a b c e => by rw [ec] at b; rw [eB]; exact hbk i k a b c e)
theorem c_tells {p s b : Int} (h : CW M A) (hb : b = 1 ∨ (b = 0 ∧ stp A)) : wc X (d + 5) 95 [(22, 341), (0, p), (0, s), (0, b)] M (fun r M1 => r = some (0, tlV A p s) ∧ CW M1 (if tlV A p s = -1 then A else tlA (if b = 1 then kst A else A) p s (tlV A p s)) ∧ Cf M M1 ∧ (tlV A p s ≠ -1 → stp (tlA (if b = 1 then kst A else A) p s (tlV A p s)))) := by
  show wp X (d + 5) 95 0 [(22, 341), (0, p), (0, s), (0, b), (9, 0), (9, 0)] [] M _
  have p6 := h.P6
  have s4 := h.ai.s4
  by_cases hp : 0 ≤ p ∧ p < A 1
  · by_cases hs : 0 ≤ s ∧ s < A 2
    · have hp6 : p < 6 := by omega
      have gk := h.gk hp
      have gb := h.gb hp
      simp only [w95_0, w95_1, w95_4, w95_7, w95_9, w95_11, w95_12, w95_15, w95_18, w95_19, w95_22, w95_23, w95_26, w95_31, w95_32, w95_35, w95_38, w95_40, w95_43, w95_44, w95_45, c_1_0 h.cs, c_1_1 h.cs, c_1_2 h.cs, c_1_3 h.cs, c_1_4 h.cs, c_1_5 h.cs, c_1_6 h.cs, c_1_7 h.cs, c_1_8 h.cs, c_2_0 h.cs, c_2_1 h.cs, c_5_0 h.cs, c_5_1 h.cs, c_5_2 h.cs, c_5_3 h.cs, c_5_5 h.cs, c_5_8 h.cs, c_5_11 h.cs, c_6_1 h.cs, c_6_2 h.cs, c_6_3 h.cs, c_10_4 h.cs, c_10_5 h.cs, c_10_6 h.cs, c_10_7 h.cs, c_15_1 h.cs, c_17_1 h.cs, c_339_0 h.cs, c_341_0 h.cs, c_341_1 h.cs, c_341_2 h.cs, c_342_4 h.cs, c_342_5 h.cs, c_342_6 h.cs, c_342_7 h.cs, c_347_0 h.cs, c_347_2 h.cs, c_347_3 h.cs, c_349_0 h.cs, c_349_1 h.cs, c_349_2 h.cs, c_351_2 h.cs, c_351_10 h.cs, c_351_12 h.cs, c_354_0 h.cs, c_354_1 h.cs, c_354_2 h.cs, c_354_3 h.cs, c_354_4 h.cs, c_354_5 h.cs, c_354_6 h.cs, c_354_7 h.cs, c_354_8 h.cs, c_354_20 h.cs, c_354_25 h.cs, c_354_26 h.cs, c_354_27 h.cs, c_354_28 h.cs, c_354_32 h.cs, c_354_33 h.cs, c_354_34 h.cs, c_354_35 h.cs, c_354_38 h.cs, l_3 h.cs, l_4 h.cs, l_7 h.cs, l_8 h.cs, l_9 h.cs, l_11 h.cs, l_12 h.cs, l_13 h.cs, l_14 h.cs, l_16 h.cs, l_18 h.cs, l_19 h.cs, l_20 h.cs, l_21 h.cs, l_340 h.cs, l_343 h.cs, l_344 h.cs, l_345 h.cs, l_346 h.cs, l_348 h.cs, l_350 h.cs, l_352 h.cs, l_353 h.cs, l_355 h.cs, l_356 h.cs, l_357 h.cs, l_358 h.cs, l_359 h.cs, l_360 h.cs, l_361 h.cs, l_362 h.cs, l_363 h.cs, l_364 h.cs, l_365 h.cs, l_366 h.cs, l_367 h.cs, l_368 h.cs, l_369 h.cs, l_370 h.cs, l_371 h.cs, l_372 h.cs, l_373 h.cs, h.gnf, h.gP, h.gy, h.gx, h.gt, h.gns, h.gnt, h.gru, h.gnp, h.gnd, h.gne, c_hasPerson (c := 10) (by decide), c_hasStory, hp, hs, gk, hp6, ↓reduceIte, hh_wr, hl_wr, b10, b11, ite_not, ne_eq, Int.reduceEq, Int.reduceLE, Int.reduceLT, Int.reduceNe, Int.reduceNeg, Int.reduceAdd, Int.reduceSub, Int.reduceMul, not_false_eq_true, not_true_eq_false, false_and, and_false, true_and, and_true, and_self, true_or, or_true, false_or, or_false, if_true, if_false, ite_true, ite_false, mj_tl_some, mj_tl_none, mj_cs0, mj_cs1, mj_cs2, mj_cs3, mj_cs4]
      refine wc.mono (c_leastLength (d := d + 1) h) ?_
      rintro r M1 ⟨rfl, sk⟩
      have f1 := sk.fz z9
      have h1 := h.s8 f1
      have gb1 := h1.gb hp
      generalize hL : llV A (A (11 + 5 * p + 1)) = L
      by_cases hm : L = -1
      · have et : tlV A p s = -1 := by unfold tlV; rw [hL]; exact if_neg (fun g => g.2.2.1 hm)
        rw [et]
        simp only [w95_0, w95_1, w95_4, w95_7, w95_9, w95_11, w95_12, w95_15, w95_18, w95_19, w95_22, w95_23, w95_26, w95_29, w95_30, w95_31, w95_32, w95_35, w95_38, w95_40, w95_43, w95_44, w95_45, w95_48, w95_50, w95_52, w95_53, w95_56, w95_58, w95_60, w95_63, w95_64, w95_65, w95_68, w95_69, w95_70, w95_71, w95_74, w95_75, w95_78, w95_81, w95_83, w95_86, w95_87, w95_88, w95_89, w95_91, w95_92, w95_93, w95_95, w95_96, w95_97, w95_99, w95_102, w95_104, hm, ↓reduceIte, hh_wr, hl_wr, b10, b11, ite_not, ne_eq, Int.reduceEq, Int.reduceLE, Int.reduceLT, Int.reduceNe, Int.reduceNeg, Int.reduceAdd, Int.reduceSub, Int.reduceMul, not_false_eq_true, not_true_eq_false, false_and, and_false, true_and, and_true, and_self, true_or, or_true, false_or, or_false, if_true, if_false, ite_true, ite_false, mj_tl_some, mj_tl_none, mj_cs0, mj_cs1, mj_cs2, mj_cs3, mj_cs4]
        exact ⟨h1, Cf.s8 f1, fun g => g.elim⟩
      · have lr := ll_r h.ai (v := A (11 + 5 * p + 1)) (by rw [hL]; exact hm)
        rw [hL] at lr
        by_cases hle : L ≤ A (11 + 5 * p + 2)
        · have et : tlV A p s = L := by unfold tlV; rw [hL]; exact if_pos ⟨hp, hs, hm, hle⟩
          rw [et]
          have tail : ∀ (M2 : mj_M) (B : Int → Int), CW M2 B → stp B → (∀ j, j ≠ 5 ∧ (j < 101 ∨ 1661 ≤ j) → B j = A j) → Cf M M2 → wp X (d + 5) 95 81 [(22, 341), (0, p), (0, s), (0, b), (24, 10), (0, L)] [] M2 (fun r M1 => r = some (0, L) ∧ CW M1 (tlA B p s L) ∧ Cf M M1 ∧ stp (tlA B p s L)) := by
            intro M2 B h2 st2 q2 c2
            have hpB : 0 ≤ p ∧ p < B 1 := by rw [q2 1 (by omega)]; exact hp
            have gb2 := h2.gb hpB
            have br : 0 ≤ B (11 + 5 * p + 2) ∧ B (11 + 5 * p + 2) ≤ 99 := h2.ai.now.b p hpB.1 hpB.2
            have hleB : L ≤ B (11 + 5 * p + 2) := by rw [q2 _ (by omega)]; exact hle
            have mr1 := MR_p (p := p) (k := 2) (v := B (11 + 5 * p + 2) - L) h2.wr.now h2.ai.now ⟨hp.1, hp6⟩ (by decide)
            have mi1 := MI_p (p := p) (k := 2) (v := B (11 + 5 * p + 2) - L) h2.ai.now ⟨hp.1, hp6⟩ (by decide) (fun g => absurd g (by decide)) (fun g => absurd g (by decide)) (fun _ => ⟨by omega, by omega⟩)
            have fc : Fc 10 M2 (mj_wr M2 13 p (B (11 + 5 * p + 2) - L)) := Fc.rfl'.wr (by omega)
            have e : nwE B (up B (11 + 5 * p + 2) (B (11 + 5 * p + 2) - L)) := nwE.rfl'.up (nwi_k ⟨hp.1, hp6⟩ (by decide))
            have h3 := h2.nw st2 fc e mr1 mi1
            have st3 := st2.of h2.ai e
            simp only [w95_81, w95_83, w95_86, w95_87, w95_88, w95_89, w95_91, w95_92, w95_93, w95_95, w95_96, w95_97, w95_99, c_1_0 h2.cs, c_1_1 h2.cs, c_1_2 h2.cs, c_1_3 h2.cs, c_1_4 h2.cs, c_1_5 h2.cs, c_1_6 h2.cs, c_1_7 h2.cs, c_1_8 h2.cs, c_2_0 h2.cs, c_2_1 h2.cs, c_5_0 h2.cs, c_5_1 h2.cs, c_5_2 h2.cs, c_5_3 h2.cs, c_5_5 h2.cs, c_5_8 h2.cs, c_5_11 h2.cs, c_6_1 h2.cs, c_6_2 h2.cs, c_6_3 h2.cs, c_10_4 h2.cs, c_10_5 h2.cs, c_10_6 h2.cs, c_10_7 h2.cs, c_15_1 h2.cs, c_17_1 h2.cs, c_339_0 h2.cs, c_341_0 h2.cs, c_341_1 h2.cs, c_341_2 h2.cs, c_342_4 h2.cs, c_342_5 h2.cs, c_342_6 h2.cs, c_342_7 h2.cs, c_347_0 h2.cs, c_347_2 h2.cs, c_347_3 h2.cs, c_349_0 h2.cs, c_349_1 h2.cs, c_349_2 h2.cs, c_351_2 h2.cs, c_351_10 h2.cs, c_351_12 h2.cs, c_354_0 h2.cs, c_354_1 h2.cs, c_354_2 h2.cs, c_354_3 h2.cs, c_354_4 h2.cs, c_354_5 h2.cs, c_354_6 h2.cs, c_354_7 h2.cs, c_354_8 h2.cs, c_354_20 h2.cs, c_354_25 h2.cs, c_354_26 h2.cs, c_354_27 h2.cs, c_354_28 h2.cs, c_354_32 h2.cs, c_354_33 h2.cs, c_354_34 h2.cs, c_354_35 h2.cs, c_354_38 h2.cs, l_3 h2.cs, l_4 h2.cs, l_7 h2.cs, l_8 h2.cs, l_9 h2.cs, l_11 h2.cs, l_12 h2.cs, l_13 h2.cs, l_14 h2.cs, l_16 h2.cs, l_18 h2.cs, l_19 h2.cs, l_20 h2.cs, l_21 h2.cs, l_340 h2.cs, l_343 h2.cs, l_344 h2.cs, l_345 h2.cs, l_346 h2.cs, l_348 h2.cs, l_350 h2.cs, l_352 h2.cs, l_353 h2.cs, l_355 h2.cs, l_356 h2.cs, l_357 h2.cs, l_358 h2.cs, l_359 h2.cs, l_360 h2.cs, l_361 h2.cs, l_362 h2.cs, l_363 h2.cs, l_364 h2.cs, l_365 h2.cs, l_366 h2.cs, l_367 h2.cs, l_368 h2.cs, l_369 h2.cs, l_370 h2.cs, l_371 h2.cs, l_372 h2.cs, l_373 h2.cs, h2.gnf, h2.gP, h2.gy, h2.gx, h2.gt, h2.gns, h2.gnt, h2.gru, h2.gnp, h2.gnd, h2.gne, gb2, hp.1, hp6, sj (x := B (11 + 5 * p + 2)) (y := L) ⟨by omega, by omega⟩, ↓reduceIte, hh_wr, hl_wr, b10, b11, ite_not, ne_eq, Int.reduceEq, Int.reduceLE, Int.reduceLT, Int.reduceNe, Int.reduceNeg, Int.reduceAdd, Int.reduceSub, Int.reduceMul, not_false_eq_true, not_true_eq_false, false_and, and_false, true_and, and_true, and_self, true_or, or_true, false_or, or_false, if_true, if_false, ite_true, ite_false, mj_tl_some, mj_tl_none, mj_cs0, mj_cs1, mj_cs2, mj_cs3, mj_cs4]
            refine wc.mono (c_write (d := d + 4) h3 st3 ⟨hp.1, hp6⟩ ⟨hs.1, by omega⟩ ⟨lr.1, by omega⟩) ?_
            rintro r M3 ⟨rfl, h4, c4, st4⟩
            simp only [w95_0, w95_1, w95_4, w95_7, w95_9, w95_11, w95_12, w95_15, w95_18, w95_19, w95_22, w95_23, w95_26, w95_29, w95_30, w95_31, w95_32, w95_35, w95_38, w95_40, w95_43, w95_44, w95_45, w95_48, w95_50, w95_52, w95_53, w95_56, w95_58, w95_60, w95_63, w95_64, w95_65, w95_68, w95_69, w95_70, w95_71, w95_74, w95_75, w95_78, w95_81, w95_83, w95_86, w95_87, w95_88, w95_89, w95_91, w95_92, w95_93, w95_95, w95_96, w95_97, w95_99, w95_102, w95_104, ↓reduceIte, hh_wr, hl_wr, b10, b11, ite_not, ne_eq, Int.reduceEq, Int.reduceLE, Int.reduceLT, Int.reduceNe, Int.reduceNeg, Int.reduceAdd, Int.reduceSub, Int.reduceMul, not_false_eq_true, not_true_eq_false, false_and, and_false, true_and, and_true, and_self, true_or, or_true, false_or, or_false, if_true, if_false, ite_true, ite_false, mj_tl_some, mj_tl_none, mj_cs0, mj_cs1, mj_cs2, mj_cs3, mj_cs4]
            exact ⟨h4, (c2.tr (Cf.fc fc)).tr c4, st4⟩
          rcases hb with rfl | ⟨rfl, hst⟩
          · simp only [w95_48, w95_50, w95_52, w95_53, w95_56, w95_58, w95_60, w95_63, w95_64, w95_65, w95_70, w95_71, w95_74, w95_75, w95_78, c_1_0 h1.cs, c_1_1 h1.cs, c_1_2 h1.cs, c_1_3 h1.cs, c_1_4 h1.cs, c_1_5 h1.cs, c_1_6 h1.cs, c_1_7 h1.cs, c_1_8 h1.cs, c_2_0 h1.cs, c_2_1 h1.cs, c_5_0 h1.cs, c_5_1 h1.cs, c_5_2 h1.cs, c_5_3 h1.cs, c_5_5 h1.cs, c_5_8 h1.cs, c_5_11 h1.cs, c_6_1 h1.cs, c_6_2 h1.cs, c_6_3 h1.cs, c_10_4 h1.cs, c_10_5 h1.cs, c_10_6 h1.cs, c_10_7 h1.cs, c_15_1 h1.cs, c_17_1 h1.cs, c_339_0 h1.cs, c_341_0 h1.cs, c_341_1 h1.cs, c_341_2 h1.cs, c_342_4 h1.cs, c_342_5 h1.cs, c_342_6 h1.cs, c_342_7 h1.cs, c_347_0 h1.cs, c_347_2 h1.cs, c_347_3 h1.cs, c_349_0 h1.cs, c_349_1 h1.cs, c_349_2 h1.cs, c_351_2 h1.cs, c_351_10 h1.cs, c_351_12 h1.cs, c_354_0 h1.cs, c_354_1 h1.cs, c_354_2 h1.cs, c_354_3 h1.cs, c_354_4 h1.cs, c_354_5 h1.cs, c_354_6 h1.cs, c_354_7 h1.cs, c_354_8 h1.cs, c_354_20 h1.cs, c_354_25 h1.cs, c_354_26 h1.cs, c_354_27 h1.cs, c_354_28 h1.cs, c_354_32 h1.cs, c_354_33 h1.cs, c_354_34 h1.cs, c_354_35 h1.cs, c_354_38 h1.cs, l_3 h1.cs, l_4 h1.cs, l_7 h1.cs, l_8 h1.cs, l_9 h1.cs, l_11 h1.cs, l_12 h1.cs, l_13 h1.cs, l_14 h1.cs, l_16 h1.cs, l_18 h1.cs, l_19 h1.cs, l_20 h1.cs, l_21 h1.cs, l_340 h1.cs, l_343 h1.cs, l_344 h1.cs, l_345 h1.cs, l_346 h1.cs, l_348 h1.cs, l_350 h1.cs, l_352 h1.cs, l_353 h1.cs, l_355 h1.cs, l_356 h1.cs, l_357 h1.cs, l_358 h1.cs, l_359 h1.cs, l_360 h1.cs, l_361 h1.cs, l_362 h1.cs, l_363 h1.cs, l_364 h1.cs, l_365 h1.cs, l_366 h1.cs, l_367 h1.cs, l_368 h1.cs, l_369 h1.cs, l_370 h1.cs, l_371 h1.cs, l_372 h1.cs, l_373 h1.cs, h1.gnf, h1.gP, h1.gy, h1.gx, h1.gt, h1.gns, h1.gnt, h1.gru, h1.gnp, h1.gnd, h1.gne, gb1, hp.1, hp6, hm, hle, ↓reduceIte, hh_wr, hl_wr, b10, b11, ite_not, ne_eq, Int.reduceEq, Int.reduceLE, Int.reduceLT, Int.reduceNe, Int.reduceNeg, Int.reduceAdd, Int.reduceSub, Int.reduceMul, not_false_eq_true, not_true_eq_false, false_and, and_false, true_and, and_true, and_self, true_or, or_true, false_or, or_false, if_true, if_false, ite_true, ite_false, mj_tl_some, mj_tl_none, mj_cs0, mj_cs1, mj_cs2, mj_cs3, mj_cs4]
            refine wc.mono (c_addStep (d := d + 2) h1) ?_
            rintro r M2 ⟨rfl, h2, c2⟩
            simp only [mj_tl_none]
            refine wp.mono (tail M2 (kst A) h2 (kst_stp h.ai) (fun j hj => kst_k h.ai hj) ((Cf.s8 f1).tr c2)) ?_
            rintro r M3 ⟨rfl, h3, c3, s3⟩
            exact ⟨rfl, h3, c3, fun _ => s3⟩
          · simp only [w95_48, w95_50, w95_52, w95_53, w95_56, w95_58, w95_60, w95_63, w95_64, w95_65, w95_70, w95_71, c_1_0 h1.cs, c_1_1 h1.cs, c_1_2 h1.cs, c_1_3 h1.cs, c_1_4 h1.cs, c_1_5 h1.cs, c_1_6 h1.cs, c_1_7 h1.cs, c_1_8 h1.cs, c_2_0 h1.cs, c_2_1 h1.cs, c_5_0 h1.cs, c_5_1 h1.cs, c_5_2 h1.cs, c_5_3 h1.cs, c_5_5 h1.cs, c_5_8 h1.cs, c_5_11 h1.cs, c_6_1 h1.cs, c_6_2 h1.cs, c_6_3 h1.cs, c_10_4 h1.cs, c_10_5 h1.cs, c_10_6 h1.cs, c_10_7 h1.cs, c_15_1 h1.cs, c_17_1 h1.cs, c_339_0 h1.cs, c_341_0 h1.cs, c_341_1 h1.cs, c_341_2 h1.cs, c_342_4 h1.cs, c_342_5 h1.cs, c_342_6 h1.cs, c_342_7 h1.cs, c_347_0 h1.cs, c_347_2 h1.cs, c_347_3 h1.cs, c_349_0 h1.cs, c_349_1 h1.cs, c_349_2 h1.cs, c_351_2 h1.cs, c_351_10 h1.cs, c_351_12 h1.cs, c_354_0 h1.cs, c_354_1 h1.cs, c_354_2 h1.cs, c_354_3 h1.cs, c_354_4 h1.cs, c_354_5 h1.cs, c_354_6 h1.cs, c_354_7 h1.cs, c_354_8 h1.cs, c_354_20 h1.cs, c_354_25 h1.cs, c_354_26 h1.cs, c_354_27 h1.cs, c_354_28 h1.cs, c_354_32 h1.cs, c_354_33 h1.cs, c_354_34 h1.cs, c_354_35 h1.cs, c_354_38 h1.cs, l_3 h1.cs, l_4 h1.cs, l_7 h1.cs, l_8 h1.cs, l_9 h1.cs, l_11 h1.cs, l_12 h1.cs, l_13 h1.cs, l_14 h1.cs, l_16 h1.cs, l_18 h1.cs, l_19 h1.cs, l_20 h1.cs, l_21 h1.cs, l_340 h1.cs, l_343 h1.cs, l_344 h1.cs, l_345 h1.cs, l_346 h1.cs, l_348 h1.cs, l_350 h1.cs, l_352 h1.cs, l_353 h1.cs, l_355 h1.cs, l_356 h1.cs, l_357 h1.cs, l_358 h1.cs, l_359 h1.cs, l_360 h1.cs, l_361 h1.cs, l_362 h1.cs, l_363 h1.cs, l_364 h1.cs, l_365 h1.cs, l_366 h1.cs, l_367 h1.cs, l_368 h1.cs, l_369 h1.cs, l_370 h1.cs, l_371 h1.cs, l_372 h1.cs, l_373 h1.cs, h1.gnf, h1.gP, h1.gy, h1.gx, h1.gt, h1.gns, h1.gnt, h1.gru, h1.gnp, h1.gnd, h1.gne, gb1, hp.1, hp6, hm, hle, ↓reduceIte, hh_wr, hl_wr, b10, b11, ite_not, ne_eq, Int.reduceEq, Int.reduceLE, Int.reduceLT, Int.reduceNe, Int.reduceNeg, Int.reduceAdd, Int.reduceSub, Int.reduceMul, not_false_eq_true, not_true_eq_false, false_and, and_false, true_and, and_true, and_self, true_or, or_true, false_or, or_false, if_true, if_false, ite_true, ite_false, mj_tl_some, mj_tl_none, mj_cs0, mj_cs1, mj_cs2, mj_cs3, mj_cs4]
            refine wp.mono (tail M1 A h1 hst (fun _ _ => rfl) (Cf.s8 f1)) ?_
            rintro r M3 ⟨rfl, h3, c3, s3⟩
            exact ⟨rfl, h3, c3, fun _ => s3⟩
        · have et : tlV A p s = -1 := by unfold tlV; rw [hL]; exact if_neg (fun g => hle g.2.2.2)
          rw [et]
          simp only [w95_0, w95_1, w95_4, w95_7, w95_9, w95_11, w95_12, w95_15, w95_18, w95_19, w95_22, w95_23, w95_26, w95_29, w95_30, w95_31, w95_32, w95_35, w95_38, w95_40, w95_43, w95_44, w95_45, w95_48, w95_50, w95_52, w95_53, w95_56, w95_58, w95_60, w95_63, w95_64, w95_65, w95_68, w95_69, w95_70, w95_71, w95_74, w95_75, w95_78, w95_81, w95_83, w95_86, w95_87, w95_88, w95_89, w95_91, w95_92, w95_93, w95_95, w95_96, w95_97, w95_99, w95_102, w95_104, c_1_0 h1.cs, c_1_1 h1.cs, c_1_2 h1.cs, c_1_3 h1.cs, c_1_4 h1.cs, c_1_5 h1.cs, c_1_6 h1.cs, c_1_7 h1.cs, c_1_8 h1.cs, c_2_0 h1.cs, c_2_1 h1.cs, c_5_0 h1.cs, c_5_1 h1.cs, c_5_2 h1.cs, c_5_3 h1.cs, c_5_5 h1.cs, c_5_8 h1.cs, c_5_11 h1.cs, c_6_1 h1.cs, c_6_2 h1.cs, c_6_3 h1.cs, c_10_4 h1.cs, c_10_5 h1.cs, c_10_6 h1.cs, c_10_7 h1.cs, c_15_1 h1.cs, c_17_1 h1.cs, c_339_0 h1.cs, c_341_0 h1.cs, c_341_1 h1.cs, c_341_2 h1.cs, c_342_4 h1.cs, c_342_5 h1.cs, c_342_6 h1.cs, c_342_7 h1.cs, c_347_0 h1.cs, c_347_2 h1.cs, c_347_3 h1.cs, c_349_0 h1.cs, c_349_1 h1.cs, c_349_2 h1.cs, c_351_2 h1.cs, c_351_10 h1.cs, c_351_12 h1.cs, c_354_0 h1.cs, c_354_1 h1.cs, c_354_2 h1.cs, c_354_3 h1.cs, c_354_4 h1.cs, c_354_5 h1.cs, c_354_6 h1.cs, c_354_7 h1.cs, c_354_8 h1.cs, c_354_20 h1.cs, c_354_25 h1.cs, c_354_26 h1.cs, c_354_27 h1.cs, c_354_28 h1.cs, c_354_32 h1.cs, c_354_33 h1.cs, c_354_34 h1.cs, c_354_35 h1.cs, c_354_38 h1.cs, l_3 h1.cs, l_4 h1.cs, l_7 h1.cs, l_8 h1.cs, l_9 h1.cs, l_11 h1.cs, l_12 h1.cs, l_13 h1.cs, l_14 h1.cs, l_16 h1.cs, l_18 h1.cs, l_19 h1.cs, l_20 h1.cs, l_21 h1.cs, l_340 h1.cs, l_343 h1.cs, l_344 h1.cs, l_345 h1.cs, l_346 h1.cs, l_348 h1.cs, l_350 h1.cs, l_352 h1.cs, l_353 h1.cs, l_355 h1.cs, l_356 h1.cs, l_357 h1.cs, l_358 h1.cs, l_359 h1.cs, l_360 h1.cs, l_361 h1.cs, l_362 h1.cs, l_363 h1.cs, l_364 h1.cs, l_365 h1.cs, l_366 h1.cs, l_367 h1.cs, l_368 h1.cs, l_369 h1.cs, l_370 h1.cs, l_371 h1.cs, l_372 h1.cs, l_373 h1.cs, h1.gnf, h1.gP, h1.gy, h1.gx, h1.gt, h1.gns, h1.gnt, h1.gru, h1.gnp, h1.gnd, h1.gne, gb1, hp.1, hp6, hm, hle, ↓reduceIte, hh_wr, hl_wr, b10, b11, ite_not, ne_eq, Int.reduceEq, Int.reduceLE, Int.reduceLT, Int.reduceNe, Int.reduceNeg, Int.reduceAdd, Int.reduceSub, Int.reduceMul, not_false_eq_true, not_true_eq_false, false_and, and_false, true_and, and_true, and_self, true_or, or_true, false_or, or_false, if_true, if_false, ite_true, ite_false, mj_tl_some, mj_tl_none, mj_cs0, mj_cs1, mj_cs2, mj_cs3, mj_cs4]
          exact ⟨h1, Cf.s8 f1, fun g => g.elim⟩
    · have et : tlV A p s = -1 := if_neg (fun g => hs g.2.1)
      rw [et]
      simp only [w95_0, w95_1, w95_4, w95_7, w95_9, w95_11, w95_12, w95_15, w95_18, w95_19, w95_22, w95_23, w95_26, w95_29, w95_30, w95_31, w95_32, w95_35, w95_38, w95_40, w95_43, w95_44, w95_45, w95_48, w95_50, w95_52, w95_53, w95_56, w95_58, w95_60, w95_63, w95_64, w95_65, w95_68, w95_69, w95_70, w95_71, w95_74, w95_75, w95_78, w95_81, w95_83, w95_86, w95_87, w95_88, w95_89, w95_91, w95_92, w95_93, w95_95, w95_96, w95_97, w95_99, w95_102, w95_104, c_1_0 h.cs, c_1_1 h.cs, c_1_2 h.cs, c_1_3 h.cs, c_1_4 h.cs, c_1_5 h.cs, c_1_6 h.cs, c_1_7 h.cs, c_1_8 h.cs, c_2_0 h.cs, c_2_1 h.cs, c_5_0 h.cs, c_5_1 h.cs, c_5_2 h.cs, c_5_3 h.cs, c_5_5 h.cs, c_5_8 h.cs, c_5_11 h.cs, c_6_1 h.cs, c_6_2 h.cs, c_6_3 h.cs, c_10_4 h.cs, c_10_5 h.cs, c_10_6 h.cs, c_10_7 h.cs, c_15_1 h.cs, c_17_1 h.cs, c_339_0 h.cs, c_341_0 h.cs, c_341_1 h.cs, c_341_2 h.cs, c_342_4 h.cs, c_342_5 h.cs, c_342_6 h.cs, c_342_7 h.cs, c_347_0 h.cs, c_347_2 h.cs, c_347_3 h.cs, c_349_0 h.cs, c_349_1 h.cs, c_349_2 h.cs, c_351_2 h.cs, c_351_10 h.cs, c_351_12 h.cs, c_354_0 h.cs, c_354_1 h.cs, c_354_2 h.cs, c_354_3 h.cs, c_354_4 h.cs, c_354_5 h.cs, c_354_6 h.cs, c_354_7 h.cs, c_354_8 h.cs, c_354_20 h.cs, c_354_25 h.cs, c_354_26 h.cs, c_354_27 h.cs, c_354_28 h.cs, c_354_32 h.cs, c_354_33 h.cs, c_354_34 h.cs, c_354_35 h.cs, c_354_38 h.cs, l_3 h.cs, l_4 h.cs, l_7 h.cs, l_8 h.cs, l_9 h.cs, l_11 h.cs, l_12 h.cs, l_13 h.cs, l_14 h.cs, l_16 h.cs, l_18 h.cs, l_19 h.cs, l_20 h.cs, l_21 h.cs, l_340 h.cs, l_343 h.cs, l_344 h.cs, l_345 h.cs, l_346 h.cs, l_348 h.cs, l_350 h.cs, l_352 h.cs, l_353 h.cs, l_355 h.cs, l_356 h.cs, l_357 h.cs, l_358 h.cs, l_359 h.cs, l_360 h.cs, l_361 h.cs, l_362 h.cs, l_363 h.cs, l_364 h.cs, l_365 h.cs, l_366 h.cs, l_367 h.cs, l_368 h.cs, l_369 h.cs, l_370 h.cs, l_371 h.cs, l_372 h.cs, l_373 h.cs, h.gnf, h.gP, h.gy, h.gx, h.gt, h.gns, h.gnt, h.gru, h.gnp, h.gnd, h.gne, c_hasPerson (c := 10) (by decide), c_hasStory, hp, hs, ↓reduceIte, hh_wr, hl_wr, b10, b11, ite_not, ne_eq, Int.reduceEq, Int.reduceLE, Int.reduceLT, Int.reduceNe, Int.reduceNeg, Int.reduceAdd, Int.reduceSub, Int.reduceMul, not_false_eq_true, not_true_eq_false, false_and, and_false, true_and, and_true, and_self, true_or, or_true, false_or, or_false, if_true, if_false, ite_true, ite_false, mj_tl_some, mj_tl_none, mj_cs0, mj_cs1, mj_cs2, mj_cs3, mj_cs4]
      exact ⟨h, Cf.rfl', fun g => g.elim⟩
  · have et : tlV A p s = -1 := if_neg (fun g => hp g.1)
    rw [et]
    simp only [w95_0, w95_1, w95_4, w95_7, w95_9, w95_11, w95_12, w95_15, w95_18, w95_19, w95_22, w95_23, w95_26, w95_29, w95_30, w95_31, w95_32, w95_35, w95_38, w95_40, w95_43, w95_44, w95_45, w95_48, w95_50, w95_52, w95_53, w95_56, w95_58, w95_60, w95_63, w95_64, w95_65, w95_68, w95_69, w95_70, w95_71, w95_74, w95_75, w95_78, w95_81, w95_83, w95_86, w95_87, w95_88, w95_89, w95_91, w95_92, w95_93, w95_95, w95_96, w95_97, w95_99, w95_102, w95_104, c_1_0 h.cs, c_1_1 h.cs, c_1_2 h.cs, c_1_3 h.cs, c_1_4 h.cs, c_1_5 h.cs, c_1_6 h.cs, c_1_7 h.cs, c_1_8 h.cs, c_2_0 h.cs, c_2_1 h.cs, c_5_0 h.cs, c_5_1 h.cs, c_5_2 h.cs, c_5_3 h.cs, c_5_5 h.cs, c_5_8 h.cs, c_5_11 h.cs, c_6_1 h.cs, c_6_2 h.cs, c_6_3 h.cs, c_10_4 h.cs, c_10_5 h.cs, c_10_6 h.cs, c_10_7 h.cs, c_15_1 h.cs, c_17_1 h.cs, c_339_0 h.cs, c_341_0 h.cs, c_341_1 h.cs, c_341_2 h.cs, c_342_4 h.cs, c_342_5 h.cs, c_342_6 h.cs, c_342_7 h.cs, c_347_0 h.cs, c_347_2 h.cs, c_347_3 h.cs, c_349_0 h.cs, c_349_1 h.cs, c_349_2 h.cs, c_351_2 h.cs, c_351_10 h.cs, c_351_12 h.cs, c_354_0 h.cs, c_354_1 h.cs, c_354_2 h.cs, c_354_3 h.cs, c_354_4 h.cs, c_354_5 h.cs, c_354_6 h.cs, c_354_7 h.cs, c_354_8 h.cs, c_354_20 h.cs, c_354_25 h.cs, c_354_26 h.cs, c_354_27 h.cs, c_354_28 h.cs, c_354_32 h.cs, c_354_33 h.cs, c_354_34 h.cs, c_354_35 h.cs, c_354_38 h.cs, l_3 h.cs, l_4 h.cs, l_7 h.cs, l_8 h.cs, l_9 h.cs, l_11 h.cs, l_12 h.cs, l_13 h.cs, l_14 h.cs, l_16 h.cs, l_18 h.cs, l_19 h.cs, l_20 h.cs, l_21 h.cs, l_340 h.cs, l_343 h.cs, l_344 h.cs, l_345 h.cs, l_346 h.cs, l_348 h.cs, l_350 h.cs, l_352 h.cs, l_353 h.cs, l_355 h.cs, l_356 h.cs, l_357 h.cs, l_358 h.cs, l_359 h.cs, l_360 h.cs, l_361 h.cs, l_362 h.cs, l_363 h.cs, l_364 h.cs, l_365 h.cs, l_366 h.cs, l_367 h.cs, l_368 h.cs, l_369 h.cs, l_370 h.cs, l_371 h.cs, l_372 h.cs, l_373 h.cs, h.gnf, h.gP, h.gy, h.gx, h.gt, h.gns, h.gnt, h.gru, h.gnp, h.gnd, h.gne, c_hasPerson (c := 10) (by decide), hp, ↓reduceIte, hh_wr, hl_wr, b10, b11, ite_not, ne_eq, Int.reduceEq, Int.reduceLE, Int.reduceLT, Int.reduceNe, Int.reduceNeg, Int.reduceAdd, Int.reduceSub, Int.reduceMul, not_false_eq_true, not_true_eq_false, false_and, and_false, true_and, and_true, and_self, true_or, or_true, false_or, or_false, if_true, if_false, ite_true, ite_false, mj_tl_some, mj_tl_none, mj_cs0, mj_cs1, mj_cs2, mj_cs3, mj_cs4]
    exact ⟨h, Cf.rfl', fun g => g.elim⟩
end Tell
