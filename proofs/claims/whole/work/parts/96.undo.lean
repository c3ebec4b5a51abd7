/-! A STEP BACK -/
def unA (A : Int → Int) : Int → Int := fun j => if j = 5 then A 5 - 1 else if 8 ≤ j ∧ j ≤ 10 then A (94 + 52 * (A 5 - 1) + j) else if 11 ≤ j ∧ j ≤ 40 ∧ (j - 11) % 5 < 3 ∧ (j - 11) / 5 < A (101 + 52 * (A 5 - 1)) then A (105 + 52 * (A 5 - 1) + 3 * ((j - 11) / 5) + (j - 11) % 5) else if 1661 ≤ j ∧ j ≤ 1690 then A (123 + 52 * (A 5 - 1) + (j - 1661)) else A j
section UndoP
variable {A : Int → Int}
theorem un_5 : unA A 5 = A 5 - 1 := if_pos rfl
theorem un_c {j : Int} (h : 8 ≤ j ∧ j ≤ 10) : unA A j = A (94 + 52 * (A 5 - 1) + j) := by
  unfold unA; rw [if_neg (by omega), if_pos h]
theorem un_p {p k : Int} (hp : 0 ≤ p ∧ p < 6) (hP : p < (ms A (A 5 - 1)).P) (hk : 0 ≤ k ∧ k < 3) : unA A (11 + 5 * p + k) = (ms A (A 5 - 1)).ps p k := by
  have hP' : p < A (101 + 52 * (A 5 - 1)) := hP
  have e1 : (11 + 5 * p + k - 11) / 5 = p := by omega
  have e2 : (11 + 5 * p + k - 11) % 5 = k := by omega
  unfold unA
  rw [if_neg (by omega), if_neg (by omega), e1, e2, if_pos ⟨by omega, by omega, hk.2, hP'⟩]
  rfl
theorem un_o {p k : Int} (hp : 0 ≤ p ∧ p < 6) (hP : (ms A (A 5 - 1)).P ≤ p) (hk : 0 ≤ k ∧ k < 3) : unA A (11 + 5 * p + k) = A (11 + 5 * p + k) := by
  have hP' : A (101 + 52 * (A 5 - 1)) ≤ p := hP
  have e1 : (11 + 5 * p + k - 11) / 5 = p := by omega
  unfold unA
  rw [if_neg (by omega), if_neg (by omega), e1, if_neg (by omega), if_neg (by omega)]
theorem un_b {j : Int} (h : 0 ≤ j ∧ j < 30) : unA A (1661 + j) = (ms A (A 5 - 1)).bo j := by
  unfold unA
  rw [if_neg (by omega), if_neg (by omega), if_neg (by omega), if_pos (by omega), show 1661 + j - 1661 = j by omega]
  rfl
theorem un_q {j : Int} (h : (j < 5 ∨ j = 6 ∨ j = 7) ∨ (11 ≤ j ∧ j ≤ 40 ∧ 3 ≤ (j - 11) % 5) ∨ (41 ≤ j ∧ j ≤ 1660) ∨ 1690 < j) : unA A j = A j := by
  unfold unA
  rw [if_neg (by omega), if_neg (by omega), if_neg (by omega), if_neg (by omega)]
theorem un_P : (mn (unA A)).P = A 1 := un_q (A := A) (j := 1) (by omega)
theorem un_y : (mn (unA A)).y = (ms A (A 5 - 1)).y := by
  show unA A 8 = A (102 + 52 * (A 5 - 1))
  rw [un_c (by omega)]; exact congrArg A (by omega)
theorem un_x : (mn (unA A)).x = (ms A (A 5 - 1)).x := by
  show unA A 9 = A (103 + 52 * (A 5 - 1))
  rw [un_c (by omega)]; exact congrArg A (by omega)
theorem un_t : (mn (unA A)).t = (ms A (A 5 - 1)).t := by
  show unA A 10 = A (104 + 52 * (A 5 - 1))
  rw [un_c (by omega)]; exact congrArg A (by omega)
theorem un_mi (h : AI A) (h1 : 1 ≤ A 5) : MI (A 0) (mn (unA A)) := by
  have n3 := h.n3
  have hs := h.sp (A 5 - 1) (by omega) (by omega)
  have p6 : A 1 ≤ 6 := h.now.p6
  have hP : (mn (unA A)).P = A 1 := un_P
  have hY : (mn (unA A)).y = (ms A (A 5 - 1)).y := un_y
  have hX : (mn (unA A)).x = (ms A (A 5 - 1)).x := un_x
  have hT : (mn (unA A)).t = (ms A (A 5 - 1)).t := un_t
  refine ⟨by rw [hP]; exact h.now.p0, by rw [hP]; exact p6, by rw [hY]; exact hs.y0, by rw [hY]; exact hs.y9, by rw [hX]; exact hs.x0, by rw [hX]; exact hs.x9, by rw [hT]; exact hs.t0, by rw [hT]; exact hs.t3, fun p a c => ?_, fun p a c => ?_, fun p a c => ?_, fun i a c => ?_⟩
  · rw [hP] at c
    show 0 ≤ unA A (11 + 5 * p + 0) ∧ unA A (11 + 5 * p + 0) ≤ 99
    by_cases e : p < (ms A (A 5 - 1)).P
    · rw [un_p ⟨a, by omega⟩ e (by decide)]; exact hs.a p a e
    · rw [un_o ⟨a, by omega⟩ (Int.not_lt.mp e) (by decide)]; exact h.now.a p a c
  · rw [hP] at c
    show 0 ≤ unA A (11 + 5 * p + 1) ∧ unA A (11 + 5 * p + 1) < _
    by_cases e : p < (ms A (A 5 - 1)).P
    · rw [un_p ⟨a, by omega⟩ e (by decide)]; exact hs.k p a e
    · rw [un_o ⟨a, by omega⟩ (Int.not_lt.mp e) (by decide)]; exact h.now.k p a c
  · rw [hP] at c
    show 0 ≤ unA A (11 + 5 * p + 2) ∧ unA A (11 + 5 * p + 2) ≤ 99
    by_cases e : p < (ms A (A 5 - 1)).P
    · rw [un_p ⟨a, by omega⟩ e (by decide)]; exact hs.b p a e
    · rw [un_o ⟨a, by omega⟩ (Int.not_lt.mp e) (by decide)]; exact h.now.b p a c
  · rw [hT] at c
    have t3 := hs.t3
    show 0 ≤ unA A (1661 + i) ∧ unA A (1661 + i) ≤ 24000000
    rw [un_b ⟨a, Int.lt_of_lt_of_le c t3⟩]
    exact hs.bo i a c
theorem un_ai (h : AI A) (h1 : 1 ≤ A 5) : AI (unA A) := by
  have n3 := h.n3
  have p6 : A 1 ≤ 6 := h.now.p6
  have hs := h.sp (A 5 - 1) (by omega) (by omega)
  have mi := un_mi h h1
  have lt := ms_le h (A 5 - 1) (by omega) (by omega)
  have e5 : unA A 5 = A 5 - 1 := un_5
  have q : ∀ j, ((j < 5 ∨ j = 6 ∨ j = 7) ∨ (11 ≤ j ∧ j ≤ 40 ∧ 3 ≤ (j - 11) % 5) ∨ (41 ≤ j ∧ j ≤ 1660)) → unA A j = A j := fun j hj => un_q (by omega)
  have mse : ∀ i, 0 ≤ i → i < A 5 → MEq (ms A i) (ms (unA A) i) := fun i a c => ms_eq (h.sp i a c) ⟨a, by omega⟩ (fun j j1 j2 => q j (by omega))
  have tlast : ∀ p, (ms A (A 5 - 1)).P ≤ p → p < A 1 → told A (mn A) p := by
    intro p a c
    have := h.ti (A 5 - 1) (by omega) (by omega) p a
    unfold mnx at this
    rw [if_neg (by omega)] at this
    exact this c
  have mp : (mn (unA A)).P = A 1 := q 1 (by omega)
  exact ⟨(by rw [q 0 (by omega)]; exact h.f0), (by rw [q 0 (by omega)]; exact h.f8), (fun i a b => by rw [q (41 + 2 * i) (by omega)]; exact h.fk i a b), (fun i a b => by rw [q (42 + 2 * i) (by omega)]; exact h.fl i a b), (fun i a b => by have := h.f8; rw [q 0 (by omega)] at b; rw [q (42 + 2 * i) (by omega)]; exact h.fl1 i a b), (by rw [q 0 (by omega)]; exact mi), (fun p a b => by have h6 : _ ≤ (6 : Int) := h.now.p6; rw [q 1 (by omega)] at b; have hp5 : p < 6 := Int.lt_of_lt_of_le b h6; rw [q 0 (by omega), q (14 + 5 * p) (by omega), q (15 + 5 * p) (by omega)]; exact h.tl p a b), (by rw [q 2 (by omega)]; exact h.s0), (by rw [q 2 (by omega)]; exact h.s4), (fun i a b => by have := h.s4; rw [q 2 (by omega)] at b; rw [q (57 + i) (by omega)]; exact h.st i a b), (by rw [q 3 (by omega)]; exact h.t0), (by rw [q 3 (by omega)]; exact h.t4), (by rw [q 4 (by omega)]; exact h.r0), (by rw [q 4 (by omega), q 3 (by omega)]; exact h.r4), (by rw [e5]; omega), (by rw [e5]; omega), (fun i a c => by
    rw [e5] at c
    rw [q 0 (by omega)]
    exact (h.sp i a (by omega)).eq (mse i a (by omega))), (fun i a c => by
    rw [e5] at c
    rw [(mse i a (by omega)).P]
    have ho := h.sm i a (by omega)
    unfold mnx at ho ⊢
    rw [e5]
    rw [if_pos (by omega)] at ho
    by_cases el : i + 1 < A 5 - 1
    · rw [if_pos el, (mse (i + 1) (by omega) (by omega)).P]
      exact ho
    · rw [if_neg el, mp]
      have : i + 1 = A 5 - 1 := by omega
      rw [this] at ho
      exact Int.le_trans ho lt), (fun i a c p u v => by
    rw [e5] at c
    rw [(mse i a (by omega)).P] at u
    have u0 := (h.sp i a (by omega)).p0
    have hp0 : 0 ≤ p := Int.le_trans u0 u
    have ht := h.ti i a (by omega) p u
    have m2 : mnx A i = ms A (i + 1) := by unfold mnx; rw [if_pos (by omega)]
    rw [m2] at ht
    by_cases el : i + 1 < A 5 - 1
    · have m1 : mnx (unA A) i = ms (unA A) (i + 1) := by unfold mnx; rw [e5, if_pos el]
      have me := mse (i + 1) (by omega) (by omega)
      rw [m1, me.P] at v
      have le1 : (ms A (i + 1)).P ≤ A 1 := ms_le h (i + 1) (by omega) (by omega)
      have hp1 : p < A 1 := Int.lt_of_lt_of_le v le1
      rw [m1]
      exact (ht v).eq me ⟨hp0, v⟩ (q _ (by omega)) (q _ (by omega))
    · have m1 : mnx (unA A) i = mn (unA A) := by unfold mnx; rw [e5, if_neg el]
      rw [m1, mp] at v
      rw [m1]
      have ei : i + 1 = A 5 - 1 := by omega
      rw [ei] at ht
      have q3 : unA A (14 + 5 * p) = A (14 + 5 * p) := q _ (by omega)
      have q4 : unA A (15 + 5 * p) = A (15 + 5 * p) := q _ (by omega)
      unfold told
      rw [q3, q4]
      by_cases e : p < (ms A (A 5 - 1)).P
      · have t := ht e
        exact ⟨(un_p (k := 0) ⟨hp0, by omega⟩ e (by decide)).trans t.1, (un_p (k := 1) ⟨hp0, by omega⟩ e (by decide)).trans t.2.1, (un_p (k := 2) ⟨hp0, by omega⟩ e (by decide)).trans t.2.2⟩
      · have e' := Int.not_lt.mp e
        have t := tlast p e' v
        exact ⟨(un_o (k := 0) ⟨hp0, by omega⟩ e' (by decide)).trans t.1, (un_o (k := 1) ⟨hp0, by omega⟩ e' (by decide)).trans t.2.1, (un_o (k := 2) ⟨hp0, by omega⟩ e' (by decide)).trans t.2.2⟩), (by rw [q 6 (by omega)]; exact h.d0), (by rw [q 6 (by omega)]; exact h.d8), (fun i a b => by have := h.d8; rw [q 6 (by omega)] at b; rw [q (61 + 3 * i) (by omega), q (62 + 3 * i) (by omega), q (63 + 3 * i) (by omega)]; exact h.d i a b), (by rw [q 7 (by omega)]; exact h.e0), (by rw [q 7 (by omega)]; exact h.e8), (fun i a b => by have := h.e8; rw [q 7 (by omega)] at b; rw [q (85 + 2 * i) (by omega), q (86 + 2 * i) (by omega), q 1 (by omega)]; exact h.e i a b)⟩
end UndoP
section Undo
variable {X : mj_X} {d : Nat} {M : mj_M} {A : Int → Int}
theorem c_undo (h : CW M A) (h1 : 1 ≤ A 5) : wc X (d + 1) 114 [(30, 5)] M (fun q M1 => q = some (0, A 5 - 1) ∧ CW M1 (unA A) ∧ Cf M M1) := by
  have hw := h.wr
  have hai := h.ai
  have n3 := hai.n3
  have el0 := hw.e0
  have el3 := hw.e3
  have p6 : A 1 ≤ 6 := hai.now.p6
  generalize hel : hh M 5 10 = el at el0 el3
  have hsp := hw.sp (A 5 - 1) (by omega) (by omega)
  have hmi := hai.sp (A 5 - 1) (by omega) (by omega)
  have lt := ms_le hai (A 5 - 1) (by omega) (by omega)
  rw [hel] at hsp
  obtain ⟨r, hr, r0, r30⟩ : ∃ r, r = (el + (A 5 - 1)) % 30 ∧ 0 ≤ r ∧ r < 30 := ⟨_, rfl, by omega, by omega⟩
  rw [← hr] at hsp
  have hsp' : MR M (22 + 5 * r) (ms A (A 5 - 1)) := hsp
  clear hsp
  have np : hh M 5 9 = A 5 := hw.np
  have idx : ji_add el (A 5 - 1) = el + (A 5 - 1) := aj ⟨by omega, by omega⟩
  have idr : ji_rem (el + (A 5 - 1)) 30 = r := by rw [hr]; exact ji_rem_nn ⟨by omega, by omega⟩ ⟨by decide, by decide⟩ (by omega)
  show wp X (d + 1) 114 0 [(30, 5)] [] M _
  simp only [w114_0, w114_1, w114_4, w114_5, w114_10, w114_11, w114_12, w114_15, w114_16, w114_17, np, sj (x := A 5) (y := 1) ⟨by omega, by omega⟩, h1, show ¬ A 5 < 1 by omega, ↓reduceIte, hh_wr, hl_wr, b10, b11, ite_not, ne_eq, Int.reduceEq, Int.reduceLE, Int.reduceLT, Int.reduceNe, Int.reduceNeg, Int.reduceAdd, Int.reduceSub, Int.reduceMul, not_false_eq_true, not_true_eq_false, false_and, and_false, true_and, and_true, and_self, true_or, or_true, false_or, or_false, if_true, if_false, ite_true, ite_false, mj_tl_some, mj_tl_none, mj_cs0, mj_cs1, mj_cs2, mj_cs3, mj_cs4]
  have f1 : fz [1] M (mj_wr M 5 9 (A 5 - 1)) := fz.rfl'.wr (by decide)
  have R1 : ∀ x j, hh (mj_wr M 5 9 (A 5 - 1)) x j = if x = 5 ∧ j = 9 then A 5 - 1 else hh M x j := fun x j => rfl
  generalize mj_wr M 5 9 (A 5 - 1) = M1 at f1 R1 ⊢
  have hc1 := h.cs.fz f1 (by decide)
  have g9 : hh M1 5 9 = A 5 - 1 := by rw [R1, if_pos ⟨rfl, rfl⟩]
  have g10 : hh M1 5 10 = el := by rw [R1, if_neg (by omega)]; exact hel
  obtain ⟨msr, ms2⟩ := hc1.ms22 (i := r) ⟨r0, r30⟩
  have mr1 : MR M1 (22 + 5 * r) (ms A (A 5 - 1)) := hsp'.keep (fun x j a b => Or.inl (by rw [R1, if_neg (by omega)]))
  simp only [w114_20, w114_21, w114_24, w114_25, w114_28, w114_29, w114_32, w114_33, w114_36, w114_37, w114_39, w114_40_6, w114_41, c_1_0 hc1, c_1_1 hc1, c_1_2 hc1, c_1_3 hc1, c_1_4 hc1, c_1_5 hc1, c_1_6 hc1, c_1_7 hc1, c_1_8 hc1, c_2_0 hc1, c_2_1 hc1, c_5_0 hc1, c_5_1 hc1, c_5_2 hc1, c_5_3 hc1, c_5_5 hc1, c_5_8 hc1, c_5_11 hc1, c_6_1 hc1, c_6_2 hc1, c_6_3 hc1, c_10_4 hc1, c_10_5 hc1, c_10_6 hc1, c_10_7 hc1, c_15_1 hc1, c_17_1 hc1, c_339_0 hc1, c_341_0 hc1, c_341_1 hc1, c_341_2 hc1, c_342_4 hc1, c_342_5 hc1, c_342_6 hc1, c_342_7 hc1, c_347_0 hc1, c_347_2 hc1, c_347_3 hc1, c_349_0 hc1, c_349_1 hc1, c_349_2 hc1, c_351_2 hc1, c_351_10 hc1, c_351_12 hc1, c_354_0 hc1, c_354_1 hc1, c_354_2 hc1, c_354_3 hc1, c_354_4 hc1, c_354_5 hc1, c_354_6 hc1, c_354_7 hc1, c_354_8 hc1, c_354_20 hc1, c_354_25 hc1, c_354_26 hc1, c_354_27 hc1, c_354_28 hc1, c_354_32 hc1, c_354_33 hc1, c_354_34 hc1, c_354_35 hc1, c_354_38 hc1, l_3 hc1, l_4 hc1, l_7 hc1, l_8 hc1, l_9 hc1, l_11 hc1, l_12 hc1, l_13 hc1, l_14 hc1, l_16 hc1, l_18 hc1, l_19 hc1, l_20 hc1, l_21 hc1, l_340 hc1, l_343 hc1, l_344 hc1, l_345 hc1, l_346 hc1, l_348 hc1, l_350 hc1, l_352 hc1, l_353 hc1, l_355 hc1, l_356 hc1, l_357 hc1, l_358 hc1, l_359 hc1, l_360 hc1, l_361 hc1, l_362 hc1, l_363 hc1, l_364 hc1, l_365 hc1, l_366 hc1, l_367 hc1, l_368 hc1, l_369 hc1, l_370 hc1, l_371 hc1, l_372 hc1, l_373 hc1, g9, g10, idx, idr, ms2, r0, r30, show ¬ 22 + 5 * r = 0 by omega, ↓reduceIte, hh_wr, hl_wr, b10, b11, ite_not, ne_eq, Int.reduceEq, Int.reduceLE, Int.reduceLT, Int.reduceNe, Int.reduceNeg, Int.reduceAdd, Int.reduceSub, Int.reduceMul, not_false_eq_true, not_true_eq_false, false_and, and_false, true_and, and_true, and_self, true_or, or_true, false_or, or_false, if_true, if_false, ite_true, ite_false, mj_tl_some, mj_tl_none, mj_cs0, mj_cs1, mj_cs2, mj_cs3, mj_cs4]
  refine wc.mono (c_goBack (d := d) (c1 := 22 + 5 * r) (c2 := 10) msr hc1.ms10 (by omega) (by rw [mr1.hp]; exact ⟨hmi.p0, hmi.p6⟩) (by rw [mr1.ht]; exact ⟨hmi.t0, hmi.t3⟩)) ?_
  rintro q M2 ⟨rfl, gb⟩
  have g92 : hh M2 5 9 = A 5 - 1 := (gb.f.h 5 9 (by omega)).trans g9
  simp only [w114_0, w114_1, w114_4, w114_5, w114_8, w114_9, w114_10, w114_11, w114_12, w114_15, w114_16, w114_17, w114_20, w114_21, w114_24, w114_25, w114_28, w114_29, w114_32, w114_33, w114_36, w114_37, w114_39, w114_40_6, w114_40_7, w114_41, w114_44, w114_45, w114_48, g92, ↓reduceIte, hh_wr, hl_wr, b10, b11, ite_not, ne_eq, Int.reduceEq, Int.reduceLE, Int.reduceLT, Int.reduceNe, Int.reduceNeg, Int.reduceAdd, Int.reduceSub, Int.reduceMul, not_false_eq_true, not_true_eq_false, false_and, and_false, true_and, and_true, and_self, true_or, or_true, false_or, or_false, if_true, if_false, ite_true, ite_false, mj_tl_some, mj_tl_none, mj_cs0, mj_cs1, mj_cs2, mj_cs3, mj_cs4]
  have K : ∀ x j, (x < 10 ∨ 14 < x) ∧ (x ≠ 5 ∨ j ≠ 9) → hh M2 x j = hh M x j := fun x j hx => by rw [gb.f.h x j (by omega), R1, if_neg (by omega)]
  have q : ∀ j, ((j < 5 ∨ j = 6 ∨ j = 7) ∨ (11 ≤ j ∧ j ≤ 40 ∧ 3 ≤ (j - 11) % 5) ∨ (41 ≤ j ∧ j ≤ 1660)) → unA A j = A j := fun j hj => un_q (by omega)
  have f2 : fz [1, 8] M M2 := (f1.mono (fun z hz => by simp at hz; subst hz; decide)).tr gb.f.fc.fz10
  have hP1 : hh M1 (22 + 5 * r) 2 = (ms A (A 5 - 1)).P := mr1.hp
  have hT1 : hh M1 (22 + 5 * r) 3 = (ms A (A 5 - 1)).t := mr1.ht
  have hY : (mn (unA A)).y = (ms A (A 5 - 1)).y := un_y
  have hX : (mn (unA A)).x = (ms A (A 5 - 1)).x := un_x
  have hT : (mn (unA A)).t = (ms A (A 5 - 1)).t := un_t
  have hP : (mn (unA A)).P = A 1 := un_P
  have now10 : ∀ w p, 1 ≤ w → w ≤ 3 → hh M1 (10 + w) p = hh M (10 + w) p := fun w p a c => by rw [R1, if_neg (by omega)]
  have mr : MR M2 10 (mn (unA A)) := by
    refine ⟨?_, ?_, ?_, ?_, fun p a c => ?_, fun p a c => ?_, fun p a c => ?_, fun i a c k u v => ?_⟩
    · rw [gb.p, R1, if_neg (by omega), hP]; exact h.gP
    · rw [gb.y, mr1.hy, hY]
    · rw [gb.x, mr1.hx, hX]
    · rw [gb.t, mr1.ht, hT]
    · rw [hP] at c
      rw [gb.a 1 p (by decide) (by decide) a, hP1]
      show _ = unA A (11 + 5 * p + 0)
      by_cases e : p < (ms A (A 5 - 1)).P
      · rw [if_pos e, un_p ⟨a, by omega⟩ e (by decide)]; exact mr1.ha p a e
      · rw [if_neg e, un_o ⟨a, by omega⟩ (Int.not_lt.mp e) (by decide), now10 1 p (by decide) (by decide)]; exact h.ga ⟨a, c⟩
    · rw [hP] at c
      rw [gb.a 2 p (by decide) (by decide) a, hP1]
      show _ = unA A (11 + 5 * p + 1)
      by_cases e : p < (ms A (A 5 - 1)).P
      · rw [if_pos e, un_p ⟨a, by omega⟩ e (by decide)]; exact mr1.hk p a e
      · rw [if_neg e, un_o ⟨a, by omega⟩ (Int.not_lt.mp e) (by decide), now10 2 p (by decide) (by decide)]; exact h.gk ⟨a, c⟩
    · rw [hP] at c
      rw [gb.a 3 p (by decide) (by decide) a, hP1]
      show _ = unA A (11 + 5 * p + 2)
      by_cases e : p < (ms A (A 5 - 1)).P
      · rw [if_pos e, un_p ⟨a, by omega⟩ e (by decide)]; exact mr1.hb p a e
      · rw [if_neg e, un_o ⟨a, by omega⟩ (Int.not_lt.mp e) (by decide), now10 3 p (by decide) (by decide)]; exact h.gb ⟨a, c⟩
    · rw [hT] at c
      have t3 := hmi.t3
      rw [gb.b (4 * i + k) (by omega) (by rw [hT1]; omega)]
      show _ = bk (unA A (1661 + i)) k
      rw [un_b ⟨a, Int.lt_of_lt_of_le c t3⟩]
      exact mr1.hbk i a c k u v
  refine ⟨⟨h.cs.fz f2 (by decide), ?_, un_ai hai h1⟩, f2, fun j => K 20 j (by omega)⟩
  have v10 : hh M2 5 10 = hh M 5 10 := K 5 10 (by omega)
  exact ⟨((K 6 0 (by omega)).trans (hw.nf.trans (q 0 (by omega)).symm)), (fun i a b => (K 7 i (by omega)).trans ((hw.fk i a b).trans (q (41 + 2 * i) (by omega)).symm)), (fun i a b => (K 8 i (by omega)).trans ((hw.fl i a b).trans (q (42 + 2 * i) (by omega)).symm)), (mr), ((K 5 4 (by omega)).trans (hw.ns.trans (q 2 (by omega)).symm)), (fun i a b => by have := hai.s4; rw [q 2 (by omega)] at b; exact (K 19 i (by omega)).trans ((hw.st i a b).trans (q (57 + i) (by omega)).symm)), ((K 5 6 (by omega)).trans (hw.nt.trans (q 3 (by omega)).symm)), ((K 5 7 (by omega)).trans (hw.ru.trans (q 4 (by omega)).symm)), (by rw [un_5]; exact g92), (by rw [K 5 10 (by omega)]; exact hw.e0), (by rw [K 5 10 (by omega)]; exact hw.e3), (fun i a c => by
    rw [un_5] at c
    show MR M2 (22 + 5 * ((hh M2 5 10 + i) % 30)) _
    rw [v10]
    have m0 := (hw.sp i a (by omega)).eq (ms_eq (A1 := unA A) (hai.sp i a (by omega)) ⟨a, by omega⟩ (fun j j1 j2 => q j (by omega)))
    exact m0.keep (fun x j a b => Or.inl (K x j (by omega)))), ((K 15 0 (by omega)).trans (hw.nd.trans (q 6 (by omega)).symm)), (fun i a b k c e => by have := hai.d8; rw [q 6 (by omega)] at b; exact (K 16 _ (by omega)).trans ((hw.d i a b k c e).trans (q _ (by omega)).symm)), ((K 17 0 (by omega)).trans (hw.ne.trans (q 7 (by omega)).symm)), (fun i a b k c e => by have := hai.e8; rw [q 7 (by omega)] at b; exact (K 18 _ (by omega)).trans ((hw.e i a b k c e).trans (q _ (by omega)).symm))⟩
end Undo
