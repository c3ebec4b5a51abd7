/-! TEXT: the class reads if, brackets, operands -/
section CIf
variable {X : mj_X} {D e : Nat} {T : Int → Int} {L t0 so : Int} {m : Nat}
theorem c_readIf (hE : Sp X e T L t0 so 62 13 1 true 6 m) (hS : Sp X e T L t0 so 53 10 5 false 3 m) (hm : m + 1 ≤ 8) : ∀ (M : mj_M) (a b : Int) (D : Nat), 14 + 8 * m ≤ D → tK T L a = 19 → 0 ≤ a → a ≤ L → CP M T L (tE T L a) b → b ≤ a → hh M 351 8 = 1 - so → wc X D 61 [(26, 351), (0, 8 - (m : Int))] M (fun r M1 => r = none ∧ PO X e T L t0 so (5 * (m + 1) + 1) (8 - ((m + 1 : Nat) : Int)) a b M M1) := by
  intro M a b D hD hk a0 aL h ba hin
  obtain ⟨D, rfl⟩ : ∃ D', D = D' + 1 := ⟨D - 1, by omega⟩
  show wp X (D + 1) 61 0 [(26, 351), (0, 8 - (m : Int)), (9, 0), (9, 0)] [] M _
  have l9 := h.cx.tz.l9
  have lt0 := tE_lt aL (show tK T L a ≠ 40 by omega)
  have e8 : 8 - ((m + 1 : Nat) : Int) + 1 = 8 - (m : Int) := by omega
  have ho : 0 ≤ 8 - ((m + 1 : Nat) : Int) ∧ 8 - ((m + 1 : Nat) : Int) < 8 := ⟨by omega, by omega⟩
  have b0 := h.c0
  simp only [w61_0, w61_1, w61_2, ↓reduceIte, hh_wr, hl_wr, b10, b11, ite_not, ne_eq, Int.reduceEq, Int.reduceLE, Int.reduceLT, Int.reduceNe, Int.reduceNeg, Int.reduceAdd, Int.reduceSub, Int.reduceMul, not_false_eq_true, not_true_eq_false, false_and, and_false, true_and, and_true, and_self, true_or, or_true, false_or, or_false, if_true, if_false, ite_true, ite_false, mj_tl_some, mj_tl_none, mj_cs0, mj_cs1, mj_cs2, mj_cs3, mj_cs4]
  refine wc.mono (hE M _ b D (by omega) h hin) ?_
  rintro r M1 ⟨rfl, ⟨c1, a1, cl1, rl1, f1, p1, l1, s1, x1, g1, fo1⟩ | ⟨r1, k, q, fl, bd⟩⟩
  rotate_left
  · rw [mj_tl_none]
    refine wp.mono (if5 (by omega) M1 r1 fl) ?_
    rintro r M9 ⟨rfl, r9, fl9⟩
    exact ⟨rfl, Or.inr ⟨r9, k, q, fl9, bd_if1 hk ho (by rw [e8]; exact bd)⟩⟩
  have G1 : Gd X e T L t0 so 1 (8 - ((m + 1 : Nat) : Int) + 1) (tE T L a) a1 rl1 := by rw [e8]; exact g1
  have a1L := p1.aL
  have ca1 := p1.ca
  have F1 : na (tK T L a1) ∧ tK T L a1 ≠ 24 ∧ tK T L a1 ≠ 23 := by unfold fol at fo1; unfold na; omega
  simp only [w61_5, w61_6, w61_8, ↓reduceIte, hh_wr, hl_wr, b10, b11, ite_not, ne_eq, Int.reduceEq, Int.reduceLE, Int.reduceLT, Int.reduceNe, Int.reduceNeg, Int.reduceAdd, Int.reduceSub, Int.reduceMul, not_false_eq_true, not_true_eq_false, false_and, and_false, true_and, and_true, and_self, true_or, or_true, false_or, or_false, if_true, if_false, ite_true, ite_false, mj_tl_some, mj_tl_none, mj_cs0, mj_cs1, mj_cs2, mj_cs3, mj_cs4]
  refine wc.mono (c_expect (by omega) p1 (by decide)) ?_
  rintro r M2 ⟨rfl, ⟨hk1, k2, p2⟩ | ⟨hk1, r2, fl2⟩⟩
  rotate_left
  · rw [mj_tl_none]
    refine wp.mono (if11 (by omega) M2 (c1.r.tr r2) fl2) ?_
    rintro r M9 ⟨rfl, r9, fl9⟩
    exact ⟨rfl, Or.inr ⟨r9, _, _, fl9, bd_if2 hk ho G1 hk1 F1.1 F1.2.1 F1.2.2⟩⟩
  have lt1 := tE_lt a1L (show tK T L a1 ≠ 40 by omega)
  have hput := fun Q => c_put0 (X := X) (D := D) (Q := Q) (t := 20) p2.cx.cs p2.c p2.c0 (by omega) (by decide)
  simp only [w61_11, w61_12, w61_14, w61_15, w61_18, w61_19, w61_20, w61_21, hput, ↓reduceIte, hh_wr, hl_wr, b10, b11, ite_not, ne_eq, Int.reduceEq, Int.reduceLE, Int.reduceLT, Int.reduceNe, Int.reduceNeg, Int.reduceAdd, Int.reduceSub, Int.reduceMul, not_false_eq_true, not_true_eq_false, false_and, and_false, true_and, and_true, and_self, true_or, or_true, false_or, or_false, if_true, if_false, ite_true, ite_false, mj_tl_some, mj_tl_none, mj_cs0, mj_cs1, mj_cs2, mj_cs3, mj_cs4]
  have p3 := p2.put (v := 20) (by omega)
  have c3 : Cn b M (mj_wr (mj_wr M2 353 (b + (cl1.length : Int)) 20) 351 11 (b + (cl1.length : Int) + 1)) := (c1.tr (k2.cn (b := b)) (Int.le_refl _)).put (by omega)
  have d3a : ∀ j, j < b + (cl1.length : Int) → hh (mj_wr (mj_wr M2 353 (b + (cl1.length : Int)) 20) 351 11 (b + (cl1.length : Int) + 1)) 353 j = hh M1 353 j := fun j hj => by
    simp only [hh_wr, show ¬ j = b + (cl1.length : Int) by omega, ↓reduceIte, hh_wr, hl_wr, b10, b11, ite_not, ne_eq, Int.reduceEq, Int.reduceLE, Int.reduceLT, Int.reduceNe, Int.reduceNeg, Int.reduceAdd, Int.reduceSub, Int.reduceMul, not_false_eq_true, not_true_eq_false, false_and, and_false, true_and, and_true, and_self, true_or, or_true, false_or, or_false, if_true, if_false, ite_true, ite_false, mj_tl_some, mj_tl_none, mj_cs0, mj_cs1, mj_cs2, mj_cs3, mj_cs4]
    exact k2.h _ _ (by omega)
  have d3b : hh (mj_wr (mj_wr M2 353 (b + (cl1.length : Int)) 20) 351 11 (b + (cl1.length : Int) + 1)) 353 (b + (cl1.length : Int)) = 20 := by simp only [hh_wr, ↓reduceIte, hh_wr, hl_wr, b10, b11, ite_not, ne_eq, Int.reduceEq, Int.reduceLE, Int.reduceLT, Int.reduceNe, Int.reduceNeg, Int.reduceAdd, Int.reduceSub, Int.reduceMul, not_false_eq_true, not_true_eq_false, false_and, and_false, true_and, and_true, and_self, true_or, or_true, false_or, or_false, if_true, if_false, ite_true, ite_false, mj_tl_some, mj_tl_none, mj_cs0, mj_cs1, mj_cs2, mj_cs3, mj_cs4]
  generalize mj_wr (mj_wr M2 353 (b + (cl1.length : Int)) 20) 351 11 (b + (cl1.length : Int) + 1) = M3 at *
  clear hput
  refine wc.mono (hS M3 _ _ D (by omega) p3 ((c3.f 8 (by omega)).trans hin)) ?_
  rintro r M4 ⟨rfl, ⟨c4, a2, cl2, rl2, f2, p4, l4, s4, x4, g4, fo4⟩ | ⟨r4, k, q, fl, bd⟩⟩
  rotate_left
  · rw [mj_tl_none]
    refine wp.mono (if24 (by omega) M4 (c3.r.tr r4) fl) ?_
    rintro r M9 ⟨rfl, r9, fl9⟩
    exact ⟨rfl, Or.inr ⟨r9, k, q, fl9, bd_if3 hk ho G1 hk1 (by rw [e8]; exact bd)⟩⟩
  have G2 : Gd X e T L t0 so 5 (8 - ((m + 1 : Nat) : Int) + 1) (tE T L a1) a2 rl2 := by rw [e8]; exact g4
  have a2L := p4.aL
  have ca4 := p4.ca
  simp only [w61_24, w61_25, w61_27, ↓reduceIte, hh_wr, hl_wr, b10, b11, ite_not, ne_eq, Int.reduceEq, Int.reduceLE, Int.reduceLT, Int.reduceNe, Int.reduceNeg, Int.reduceAdd, Int.reduceSub, Int.reduceMul, not_false_eq_true, not_true_eq_false, false_and, and_false, true_and, and_true, and_self, true_or, or_true, false_or, or_false, if_true, if_false, ite_true, ite_false, mj_tl_some, mj_tl_none, mj_cs0, mj_cs1, mj_cs2, mj_cs3, mj_cs4]
  refine wc.mono (c_expect (by omega) p4 (by decide)) ?_
  rintro r M5 ⟨rfl, ⟨hk2, k5, p5⟩ | ⟨hk2, r5, fl5⟩⟩
  rotate_left
  · rw [mj_tl_none]
    refine wp.mono (if30 (by omega) M5 ((c3.r.tr c4.r).tr r5) fl5) ?_
    rintro r M9 ⟨rfl, r9, fl9⟩
    exact ⟨rfl, Or.inr ⟨r9, _, _, fl9, bd_if4 hk ho G1 hk1 G2 hk2 (fol_na fo4)⟩⟩
  have lt2 := tE_lt a2L (show tK T L a2 ≠ 40 by omega)
  generalize ec2 : b + (cl1.length : Int) + 1 + (cl2.length : Int) = C2 at *
  generalize ec1 : b + (cl1.length : Int) = C1 at *
  have hput := fun Q => c_put0 (X := X) (D := D) (Q := Q) (t := 21) p5.cx.cs p5.c p5.c0 (by omega) (by decide)
  have p6 := p5.put (v := 21) (by omega)
  have d6 : ∀ j, j ≠ C2 → hh (mj_wr (mj_wr M5 353 C2 21) 351 11 (C2 + 1)) 353 j = hh M4 353 j := fun j hj => by
    simp only [hh_wr, show ¬ j = C2 by omega, ↓reduceIte, hh_wr, hl_wr, b10, b11, ite_not, ne_eq, Int.reduceEq, Int.reduceLE, Int.reduceLT, Int.reduceNe, Int.reduceNeg, Int.reduceAdd, Int.reduceSub, Int.reduceMul, not_false_eq_true, not_true_eq_false, false_and, and_false, true_and, and_true, and_self, true_or, or_true, false_or, or_false, if_true, if_false, ite_true, ite_false, mj_tl_some, mj_tl_none, mj_cs0, mj_cs1, mj_cs2, mj_cs3, mj_cs4]
    exact k5.h _ _ (by omega)
  have d6b : hh (mj_wr (mj_wr M5 353 C2 21) 351 11 (C2 + 1)) 353 C2 = 21 := by simp only [hh_wr, ↓reduceIte, hh_wr, hl_wr, b10, b11, ite_not, ne_eq, Int.reduceEq, Int.reduceLE, Int.reduceLT, Int.reduceNe, Int.reduceNeg, Int.reduceAdd, Int.reduceSub, Int.reduceMul, not_false_eq_true, not_true_eq_false, false_and, and_false, true_and, and_true, and_self, true_or, or_true, false_or, or_false, if_true, if_false, ite_true, ite_false, mj_tl_some, mj_tl_none, mj_cs0, mj_cs1, mj_cs2, mj_cs3, mj_cs4]
  have c6 : Cn b M (mj_wr (mj_wr M5 353 C2 21) 351 11 (C2 + 1)) := ((c3.tr c4 (by omega)).tr (k5.cn (b := b)) (Int.le_refl _)).put (by omega)
  have hlp := fun Q => c_leap (X := X) (D := D) (Q := Q) (i := C1) (t := 20) p6.cx.cs p6.c ⟨by omega, by omega⟩ (by omega) (by rw [d6 C1 (by omega), c4.c C1 (by omega)]; exact d3b) (by decide)
  simp only [w61_30, w61_31, w61_33, w61_34, w61_37, w61_38, w61_39, w61_40, w61_43, w61_44, w61_45, hput, hlp, ↓reduceIte, hh_wr, hl_wr, b10, b11, ite_not, ne_eq, Int.reduceEq, Int.reduceLE, Int.reduceLT, Int.reduceNe, Int.reduceNeg, Int.reduceAdd, Int.reduceSub, Int.reduceMul, not_false_eq_true, not_true_eq_false, false_and, and_false, true_and, and_true, and_self, true_or, or_true, false_or, or_false, if_true, if_false, ite_true, ite_false, mj_tl_some, mj_tl_none, mj_cs0, mj_cs1, mj_cs2, mj_cs3, mj_cs4]
  have p7 := p6.leap (i := C1) (v := 20 + 64 * (C2 + 1))
  have c7 := c6.leap (c := C1) (v := 20 + 64 * (C2 + 1)) (by omega)
  have d7 : ∀ j, j ≠ C2 → j ≠ C1 → hh (mj_wr (mj_wr (mj_wr M5 353 C2 21) 351 11 (C2 + 1)) 353 C1 (20 + 64 * (C2 + 1))) 353 j = hh M4 353 j := fun j h1 h2 => by
    rw [hh_wr, if_neg (fun q => h2 q.2)]; exact d6 j h1
  have d7a : hh (mj_wr (mj_wr (mj_wr M5 353 C2 21) 351 11 (C2 + 1)) 353 C1 (20 + 64 * (C2 + 1))) 353 C1 = 20 + 64 * (C2 + 1) := by simp only [hh_wr, ↓reduceIte, hh_wr, hl_wr, b10, b11, ite_not, ne_eq, Int.reduceEq, Int.reduceLE, Int.reduceLT, Int.reduceNe, Int.reduceNeg, Int.reduceAdd, Int.reduceSub, Int.reduceMul, not_false_eq_true, not_true_eq_false, false_and, and_false, true_and, and_true, and_self, true_or, or_true, false_or, or_false, if_true, if_false, ite_true, ite_false, mj_tl_some, mj_tl_none, mj_cs0, mj_cs1, mj_cs2, mj_cs3, mj_cs4]
  have d7b : hh (mj_wr (mj_wr (mj_wr M5 353 C2 21) 351 11 (C2 + 1)) 353 C1 (20 + 64 * (C2 + 1))) 353 C2 = 21 := by
    rw [hh_wr, if_neg (fun q => by have := q.2; omega)]; exact d6b
  generalize mj_wr (mj_wr (mj_wr M5 353 C2 21) 351 11 (C2 + 1)) 353 C1 (20 + 64 * (C2 + 1)) = M7 at *
  clear hput hlp d6 d6b
  refine wc.mono (hS M7 _ _ D (by omega) p7 ((c7.f 8 (by omega)).trans hin)) ?_
  rintro r M8 ⟨rfl, ⟨c8, a3, cl3, rl3, f3, p8, l8, s8, x8, g8, fo8⟩ | ⟨r8, k, q, fl, bd⟩⟩
  rotate_left
  · rw [mj_tl_none]
    refine wp.mono (if48 (by omega) M8 (c7.r.tr r8) fl) ?_
    rintro r M9 ⟨rfl, r9, fl9⟩
    exact ⟨rfl, Or.inr ⟨r9, k, q, fl9, bd_if5 hk ho G1 hk1 G2 hk2 (by rw [e8]; exact bd)⟩⟩
  have G3 : Gd X e T L t0 so 5 (8 - ((m + 1 : Nat) : Int) + 1) (tE T L a2) a3 rl3 := by rw [e8]; exact g8
  have a3L := p8.aL
  simp only [w61_48, w61_49, w61_51, ↓reduceIte, hh_wr, hl_wr, b10, b11, ite_not, ne_eq, Int.reduceEq, Int.reduceLE, Int.reduceLT, Int.reduceNe, Int.reduceNeg, Int.reduceAdd, Int.reduceSub, Int.reduceMul, not_false_eq_true, not_true_eq_false, false_and, and_false, true_and, and_true, and_self, true_or, or_true, false_or, or_false, if_true, if_false, ite_true, ite_false, mj_tl_some, mj_tl_none, mj_cs0, mj_cs1, mj_cs2, mj_cs3, mj_cs4]
  refine wc.mono (c_expect (by omega) p8 (by decide)) ?_
  rintro r M9 ⟨rfl, ⟨hk3, k9, p9⟩ | ⟨hk3, r9, fl9⟩⟩
  rotate_left
  · rw [mj_tl_none]
    refine wp.mono (if54 M9 ((c7.r.tr c8.r).tr r9) fl9) ?_
    rintro r M10 ⟨rfl, r10, fl10⟩
    exact ⟨rfl, Or.inr ⟨r10, _, _, fl10, bd_if6 hk ho G1 hk1 G2 hk2 G3 hk3 (fol_na fo8)⟩⟩
  have lt3 := tE_lt a3L (show tK T L a3 ≠ 40 by omega)
  have hlp := fun Q => c_leap (X := X) (D := D) (Q := Q) (i := C2) (t := 21) p9.cx.cs p9.c ⟨by omega, by omega⟩ (by have := p9.ca; have := p9.aL; omega) (by rw [k9.h _ _ (by omega), c8.c C2 (by omega)]; exact d7b) (by decide)
  simp only [w61_54, w61_55, w61_56, w61_59, hlp, ↓reduceIte, hh_wr, hl_wr, b10, b11, ite_not, ne_eq, Int.reduceEq, Int.reduceLE, Int.reduceLT, Int.reduceNe, Int.reduceNeg, Int.reduceAdd, Int.reduceSub, Int.reduceMul, not_false_eq_true, not_true_eq_false, false_and, and_false, true_and, and_true, and_self, true_or, or_true, false_or, or_false, if_true, if_false, ite_true, ite_false, mj_tl_some, mj_tl_none, mj_cs0, mj_cs1, mj_cs2, mj_cs3, mj_cs4]
  have el : b + ((cl1 ++ (20 + 64 * (b + (cl1.length : Int) + 1 + (cl2.length : Int) + 1)) :: (cl2 ++ (21 + 64 * (b + (cl1.length : Int) + 1 + (cl2.length : Int) + 1 + (cl3.length : Int))) :: cl3)).length : Int) = C2 + 1 + (cl3.length : Int) := by
    simp only [List.length_append, List.length_cons]
    omega
  refine Or.inl ⟨((c7.tr c8 (by omega)).tr (k9.cn (b := b)) (Int.le_refl _)).leap (by omega), tE T L a3, cl1 ++ (20 + 64 * (b + (cl1.length : Int) + 1 + (cl2.length : Int) + 1)) :: (cl2 ++ (21 + 64 * (b + (cl1.length : Int) + 1 + (cl2.length : Int) + 1 + (cl3.length : Int))) :: cl3), rl1 ++ (rl2 ++ (rl3 ++ [(3, 0)])), fun E => if f1 E = 0 then f3 E else f2 E, ?_, ?_, ?_, ?_, gd_if hk ho G1 hk1 G2 hk2 G3 hk3, ?_⟩
  · rw [el]; exact p9.leap
  · omega
  · have y9 : ∀ j, j ≠ C2 → hh (mj_wr M9 353 C2 (21 + 64 * (C2 + 1 + (cl3.length : Int)))) 353 j = hh M8 353 j := fun j hj => by
      rw [hh_wr, if_neg (fun q => hj q.2)]; exact k9.h _ _ (by omega)
    refine standsA.mpr ⟨s1.keep (fun j h1 h2 => ?_), stands_c ?_ (standsA.mpr ⟨(by rw [ec1]; exact s4.keep (fun j h1 h2 => by rw [y9 j (by omega), c8.c j (by omega), d7 j (by omega) (by omega)])), stands_c ?_ ?_⟩)⟩
    · rw [y9 j (by omega), c8.c j (by omega), d7 j (by omega) (by omega), c4.c j (by omega)]; exact d3a j (by omega)
    · rw [ec1, y9 C1 (by omega), c8.c C1 (by omega), d7a, ec2]
    · rw [ec1, ec2]; simp only [hh_wr, ↓reduceIte, hh_wr, hl_wr, b10, b11, ite_not, ne_eq, Int.reduceEq, Int.reduceLE, Int.reduceLT, Int.reduceNe, Int.reduceNeg, Int.reduceAdd, Int.reduceSub, Int.reduceMul, not_false_eq_true, not_true_eq_false, false_and, and_false, true_and, and_true, and_self, true_or, or_true, false_or, or_false, if_true, if_false, ite_true, ite_false, mj_tl_some, mj_tl_none, mj_cs0, mj_cs1, mj_cs2, mj_cs3, mj_cs4]
    · rw [ec1, ec2]
      exact s8.keep (fun j h1 h2 => y9 j (by omega))
  · subst ec1; subst ec2
    exact ex_if x1 x4 x8 (by omega) (by omega) (by omega)
  · unfold fol; omega
/-- what opens: the class's token and code, the reference's -/
theorem opr_ix {K : Int} (h : opr K ≠ -1) : K = 34 ∨ K = 19 ∨ ∃ o : Nat, o < 3 ∧ (K = 17 ∨ K = 31 ∨ K = 18) ∧ tk1 o = (if K = 31 then 42 else K) ∧ rk1 o = opr K ∧ rk (opr K) = 7 := by
  have h5 : K = 34 ∨ K = 19 ∨ K = 17 ∨ K = 31 ∨ K = 18 := by
    unfold opr at h
    revert h
    repeat' split
    all_goals intro h
    all_goals first | omega | exact absurd rfl h
  rcases h5 with rfl | rfl | rfl | rfl | rfl
  · exact Or.inl rfl
  · exact Or.inr (Or.inl rfl)
  · exact Or.inr (Or.inr ⟨0, by decide, by decide, rfl, rfl, rfl⟩)
  · exact Or.inr (Or.inr ⟨1, by decide, by decide, rfl, rfl, rfl⟩)
  · exact Or.inr (Or.inr ⟨2, by decide, by decide, rfl, rfl, rfl⟩)
def SpI (X : mj_X) (e : Nat) (T : Int → Int) (L t0 so : Int) (m : Nat) : Prop := ∀ (M : mj_M) (a b : Int) (D : Nat), 7 + 8 * m ≤ D → CP M T L a b → hh M 351 8 = 1 - so → opr (tK T L a) ≠ -1 → wc X D 59 [(26, 351), (0, 8 - (m : Int))] M (fun r M1 => r = none ∧ PO X e T L t0 so (5 * m + 1) (8 - (m : Int)) a b M M1)
theorem c_in0 : SpI X e T L t0 so 0 := by
  intro M a b D hD h hin hop
  obtain ⟨D, rfl⟩ : ∃ D', D = D' + 1 := ⟨D - 1, by omega⟩
  show wp X (D + 1) 59 0 [(26, 351), (0, 8 - ((0 : Nat) : Int)), (9, 0)] [] M _
  simp only [w59_0, w59_1, w59_4, w59_5, w59_6, w59_8, w59_11, w59_12, w59_13, show ¬ (8 - ((0 : Nat) : Int) < 8) by decide, ↓reduceIte, hh_wr, hl_wr, b10, b11, ite_not, ne_eq, Int.reduceEq, Int.reduceLE, Int.reduceLT, Int.reduceNe, Int.reduceNeg, Int.reduceAdd, Int.reduceSub, Int.reduceMul, not_false_eq_true, not_true_eq_false, false_and, and_false, true_and, and_true, and_self, true_or, or_true, false_or, or_false, if_true, if_false, ite_true, ite_false, mj_tl_some, mj_tl_none, mj_cs0, mj_cs1, mj_cs2, mj_cs3, mj_cs4]
  refine wc.mono (c_fail h (by decide)) ?_
  rintro r M1 ⟨rfl, r1, p1⟩
  simp only [w59_16, ↓reduceIte, hh_wr, hl_wr, b10, b11, ite_not, ne_eq, Int.reduceEq, Int.reduceLE, Int.reduceLT, Int.reduceNe, Int.reduceNeg, Int.reduceAdd, Int.reduceSub, Int.reduceMul, not_false_eq_true, not_true_eq_false, false_and, and_false, true_and, and_true, and_self, true_or, or_true, false_or, or_false, if_true, if_false, ite_true, ite_false, mj_tl_some, mj_tl_none, mj_cs0, mj_cs1, mj_cs2, mj_cs3, mj_cs4]
  exact Or.inr ⟨r1, 3, _, p1, bd_deep rfl hop⟩
theorem c_in1 (hE : Sp X e T L t0 so 62 13 1 true 6 m) (hS : Sp X e T L t0 so 53 10 5 false 3 m) (hO : SpO X e T L t0 so m) (hm : m + 1 ≤ 8) : SpI X e T L t0 so (m + 1) := by
  intro M a b D hD h hin hop
  obtain ⟨D, rfl⟩ : ∃ D', D = D' + 1 := ⟨D - 1, by omega⟩
  show wp X (D + 1) 59 0 [(26, 351), (0, 8 - ((m + 1 : Nat) : Int)), (9, 0)] [] M _
  have aL := h.aL
  have ca := h.ca
  have c0 := h.c0
  have l9 := h.cx.tz.l9
  have k40 : tK T L a ≠ 40 := fun q => hop (by rw [q]; rfl)
  have lt := tE_lt aL k40
  have a8 : ji_add (8 - ((m + 1 : Nat) : Int)) 1 = 8 - (m : Int) := by rw [aj ⟨by omega, by omega⟩]; omega
  have e8 : 8 - ((m + 1 : Nat) : Int) + 1 = 8 - (m : Int) := by omega
  have ho : 0 ≤ 8 - ((m + 1 : Nat) : Int) ∧ 8 - ((m + 1 : Nat) : Int) < 8 := ⟨by omega, by omega⟩
  simp only [w59_0, w59_1, w59_4, w59_5, w59_6, w59_8, w59_11, w59_12, w59_13, w59_16, w59_17, w59_18, h.e6, ho.2, ↓reduceIte, hh_wr, hl_wr, b10, b11, ite_not, ne_eq, Int.reduceEq, Int.reduceLE, Int.reduceLT, Int.reduceNe, Int.reduceNeg, Int.reduceAdd, Int.reduceSub, Int.reduceMul, not_false_eq_true, not_true_eq_false, false_and, and_false, true_and, and_true, and_self, true_or, or_true, false_or, or_false, if_true, if_false, ite_true, ite_false, mj_tl_some, mj_tl_none, mj_cs0, mj_cs1, mj_cs2, mj_cs3, mj_cs4]
  refine wc.mono (c_nxP (by omega) h k40) ?_
  rintro r M1 ⟨rfl, k1, p1⟩
  have in1 : hh M1 351 8 = 1 - so := (k1.h _ _ (by decide)).trans hin
  rcases opr_ix hop with hk | hk | ⟨o, o3, hk, et, er, hr⟩
  · simp only [w59_21, w59_22, w59_24, w59_27, w59_28, w59_29, w59_30, w59_31, hk, a8, ↓reduceIte, hh_wr, hl_wr, b10, b11, ite_not, ne_eq, Int.reduceEq, Int.reduceLE, Int.reduceLT, Int.reduceNe, Int.reduceNeg, Int.reduceAdd, Int.reduceSub, Int.reduceMul, not_false_eq_true, not_true_eq_false, false_and, and_false, true_and, and_true, and_self, true_or, or_true, false_or, or_false, if_true, if_false, ite_true, ite_false, mj_tl_some, mj_tl_none, mj_cs0, mj_cs1, mj_cs2, mj_cs3, mj_cs4]
    refine wc.mono (hS M1 _ b D (by omega) p1 in1) ?_
    rintro r M2 ⟨rfl, ⟨c2, a2, cl, rl, f, p2, l2, s2, x2, g2, fo2⟩ | ⟨r2, k, q, fl, bd⟩⟩
    · simp only [w59_34, w59_35, w59_37, ↓reduceIte, hh_wr, hl_wr, b10, b11, ite_not, ne_eq, Int.reduceEq, Int.reduceLE, Int.reduceLT, Int.reduceNe, Int.reduceNeg, Int.reduceAdd, Int.reduceSub, Int.reduceMul, not_false_eq_true, not_true_eq_false, false_and, and_false, true_and, and_true, and_self, true_or, or_true, false_or, or_false, if_true, if_false, ite_true, ite_false, mj_tl_some, mj_tl_none, mj_cs0, mj_cs1, mj_cs2, mj_cs3, mj_cs4]
      refine wc.mono (c_expect (by omega) p2 (by decide)) ?_
      rintro r M3 ⟨rfl, ⟨hk2, k3, p3⟩ | ⟨hk2, r3, fl3⟩⟩
      · have lt2 := tE_lt p2.aL (show tK T L a2 ≠ 40 by omega)
        simp only [w59_40, w59_84, ↓reduceIte, hh_wr, hl_wr, b10, b11, ite_not, ne_eq, Int.reduceEq, Int.reduceLE, Int.reduceLT, Int.reduceNe, Int.reduceNeg, Int.reduceAdd, Int.reduceSub, Int.reduceMul, not_false_eq_true, not_true_eq_false, false_and, and_false, true_and, and_true, and_self, true_or, or_true, false_or, or_false, if_true, if_false, ite_true, ite_false, mj_tl_some, mj_tl_none, mj_cs0, mj_cs1, mj_cs2, mj_cs3, mj_cs4]
        exact Or.inl ⟨((k1.cn (b := b)).tr c2 (Int.le_refl _)).tr (k3.cn (b := b)) (Int.le_refl _), tE T L a2, cl, rl, f, p3, by omega, s2.keep (fun j _ _ => k3.h _ _ (by omega)), x2.up (by omega), gd_par hk ho (by rw [e8]; exact g2) hk2, by unfold fol; omega⟩
      · simp only [w59_40, w59_84, ↓reduceIte, hh_wr, hl_wr, b10, b11, ite_not, ne_eq, Int.reduceEq, Int.reduceLE, Int.reduceLT, Int.reduceNe, Int.reduceNeg, Int.reduceAdd, Int.reduceSub, Int.reduceMul, not_false_eq_true, not_true_eq_false, false_and, and_false, true_and, and_true, and_self, true_or, or_true, false_or, or_false, if_true, if_false, ite_true, ite_false, mj_tl_some, mj_tl_none, mj_cs0, mj_cs1, mj_cs2, mj_cs3, mj_cs4]
        exact Or.inr ⟨(k1.cr.tr c2.r).tr r3, _, _, fl3, bd_par2 hk ho (by rw [e8]; exact g2) hk2 (fol_na fo2)⟩
    · simp only [w59_34, w59_35, w59_37, ↓reduceIte, hh_wr, hl_wr, b10, b11, ite_not, ne_eq, Int.reduceEq, Int.reduceLE, Int.reduceLT, Int.reduceNe, Int.reduceNeg, Int.reduceAdd, Int.reduceSub, Int.reduceMul, not_false_eq_true, not_true_eq_false, false_and, and_false, true_and, and_true, and_self, true_or, or_true, false_or, or_false, if_true, if_false, ite_true, ite_false, mj_tl_some, mj_tl_none, mj_cs0, mj_cs1, mj_cs2, mj_cs3, mj_cs4]
      refine wc.mono (c_expectF (by omega) fl (by decide)) ?_
      rintro r M3 ⟨rfl, r3, fl3⟩
      simp only [w59_40, w59_84, ↓reduceIte, hh_wr, hl_wr, b10, b11, ite_not, ne_eq, Int.reduceEq, Int.reduceLE, Int.reduceLT, Int.reduceNe, Int.reduceNeg, Int.reduceAdd, Int.reduceSub, Int.reduceMul, not_false_eq_true, not_true_eq_false, false_and, and_false, true_and, and_true, and_self, true_or, or_true, false_or, or_false, if_true, if_false, ite_true, ite_false, mj_tl_some, mj_tl_none, mj_cs0, mj_cs1, mj_cs2, mj_cs3, mj_cs4]
      exact Or.inr ⟨(k1.cr.tr r2).tr r3, k, q, fl3, bd_par1 hk ho (by rw [e8]; exact bd)⟩
  · simp only [w59_21, w59_22, w59_24, w59_43, w59_44, w59_46, w59_49, w59_50, w59_51, w59_52, w59_53, hk, a8, ↓reduceIte, hh_wr, hl_wr, b10, b11, ite_not, ne_eq, Int.reduceEq, Int.reduceLE, Int.reduceLT, Int.reduceNe, Int.reduceNeg, Int.reduceAdd, Int.reduceSub, Int.reduceMul, not_false_eq_true, not_true_eq_false, false_and, and_false, true_and, and_true, and_self, true_or, or_true, false_or, or_false, if_true, if_false, ite_true, ite_false, mj_tl_some, mj_tl_none, mj_cs0, mj_cs1, mj_cs2, mj_cs3, mj_cs4]
    refine wc.mono (c_readIf hE hS hm M1 a b D (by omega) hk h.a0 aL p1 ca in1) ?_
    rintro r M2 ⟨rfl, ⟨c2, q⟩ | ⟨r2, q⟩⟩
    · simp only [w59_56, w59_84, ↓reduceIte, hh_wr, hl_wr, b10, b11, ite_not, ne_eq, Int.reduceEq, Int.reduceLE, Int.reduceLT, Int.reduceNe, Int.reduceNeg, Int.reduceAdd, Int.reduceSub, Int.reduceMul, not_false_eq_true, not_true_eq_false, false_and, and_false, true_and, and_true, and_self, true_or, or_true, false_or, or_false, if_true, if_false, ite_true, ite_false, mj_tl_some, mj_tl_none, mj_cs0, mj_cs1, mj_cs2, mj_cs3, mj_cs4]
      exact Or.inl ⟨(k1.cn (b := b)).tr c2 (Int.le_refl _), q⟩
    · simp only [w59_56, w59_84, ↓reduceIte, hh_wr, hl_wr, b10, b11, ite_not, ne_eq, Int.reduceEq, Int.reduceLE, Int.reduceLT, Int.reduceNe, Int.reduceNeg, Int.reduceAdd, Int.reduceSub, Int.reduceMul, not_false_eq_true, not_true_eq_false, false_and, and_false, true_and, and_true, and_self, true_or, or_true, false_or, or_false, if_true, if_false, ite_true, ite_false, mj_tl_some, mj_tl_none, mj_cs0, mj_cs1, mj_cs2, mj_cs3, mj_cs4]
      exact Or.inr ⟨k1.cr.tr r2, q⟩
  · have n34 : ¬ tK T L a = 34 := by omega
    have n19 : ¬ tK T L a = 19 := by omega
    simp only [w59_21, w59_22, w59_24, w59_43, w59_44, w59_46, w59_59, w59_60, w59_61, w59_62, w59_63, n34, n19, a8, ↓reduceIte, hh_wr, hl_wr, b10, b11, ite_not, ne_eq, Int.reduceEq, Int.reduceLE, Int.reduceLT, Int.reduceNe, Int.reduceNeg, Int.reduceAdd, Int.reduceSub, Int.reduceMul, not_false_eq_true, not_true_eq_false, false_and, and_false, true_and, and_true, and_self, true_or, or_true, false_or, or_false, if_true, if_false, ite_true, ite_false, mj_tl_some, mj_tl_none, mj_cs0, mj_cs1, mj_cs2, mj_cs3, mj_cs4]
    refine wc.mono (hO M1 _ b D (by omega) p1 in1) ?_
    rintro r M2 ⟨rfl, ⟨c2, a2, cl, rl, f, p2, l2, s2, x2, g2, fo2⟩ | ⟨r2, k, q, fl, bd⟩⟩
    · have a2L := p2.aL
      have ht : 0 ≤ tk1 o ∧ tk1 o < 64 := by rw [et]; split <;> omega
      have hput := fun Q => c_put0 (X := X) (D := D) (Q := Q) (t := tk1 o) p2.cx.cs p2.c p2.c0 (by omega) ht
      have fin : PO X e T L t0 so (5 * (m + 1) + 1) (8 - ((m + 1 : Nat) : Int)) a b M (mj_wr (mj_wr M2 353 (b + (cl.length : Int)) (tk1 o)) 351 11 (b + (cl.length : Int) + 1)) := by
        refine Or.inl ⟨((k1.cn (b := b)).tr c2 (Int.le_refl _)).put (by omega), a2, cl ++ [tk1 o], rl ++ [(rk1 o, 0)], _, ?_, ?_, ?_, (ex_one (o := o) (by omega) (by constructor; intro q; cases q; omega) x2).up (by omega), ?_, fo2⟩
        · have := p2.put (v := tk1 o) (by omega)
          rw [show b + ((cl ++ [tk1 o]).length : Int) = b + (cl.length : Int) + 1 by simp only [List.length_append, List.length_cons, List.length_nil]; omega]
          exact this
        · simp only [List.length_append, List.length_cons, List.length_nil]; omega
        · refine standsA.mpr ⟨s2.keep (fun j _ _ => ?_), stands_1 ?_⟩
          · simp only [hh_wr, show ¬ j = b + (cl.length : Int) by omega, ↓reduceIte, hh_wr, hl_wr, b10, b11, ite_not, ne_eq, Int.reduceEq, Int.reduceLE, Int.reduceLT, Int.reduceNe, Int.reduceNeg, Int.reduceAdd, Int.reduceSub, Int.reduceMul, not_false_eq_true, not_true_eq_false, false_and, and_false, true_and, and_true, and_self, true_or, or_true, false_or, or_false, if_true, if_false, ite_true, ite_false, mj_tl_some, mj_tl_none, mj_cs0, mj_cs1, mj_cs2, mj_cs3, mj_cs4]
          · simp only [hh_wr, ↓reduceIte, hh_wr, hl_wr, b10, b11, ite_not, ne_eq, Int.reduceEq, Int.reduceLE, Int.reduceLT, Int.reduceNe, Int.reduceNeg, Int.reduceAdd, Int.reduceSub, Int.reduceMul, not_false_eq_true, not_true_eq_false, false_and, and_false, true_and, and_true, and_self, true_or, or_true, false_or, or_false, if_true, if_false, ite_true, ite_false, mj_tl_some, mj_tl_none, mj_cs0, mj_cs1, mj_cs2, mj_cs3, mj_cs4]
        · rw [er]
          exact gd_un rfl hop hr ho.2 (by rw [e8]; exact g2)
      by_cases h31 : tK T L a = 31
      · rw [if_pos h31] at et
        rw [et] at hput fin
        simp only [w59_66, w59_67, w59_68, w59_70, w59_73, w59_75, w59_78, w59_79, w59_80, w59_83, w59_84, h31, hput, ↓reduceIte, hh_wr, hl_wr, b10, b11, ite_not, ne_eq, Int.reduceEq, Int.reduceLE, Int.reduceLT, Int.reduceNe, Int.reduceNeg, Int.reduceAdd, Int.reduceSub, Int.reduceMul, not_false_eq_true, not_true_eq_false, false_and, and_false, true_and, and_true, and_self, true_or, or_true, false_or, or_false, if_true, if_false, ite_true, ite_false, mj_tl_some, mj_tl_none, mj_cs0, mj_cs1, mj_cs2, mj_cs3, mj_cs4]
        exact fin
      · rw [if_neg h31] at et
        rw [et] at hput fin
        simp only [w59_66, w59_67, w59_68, w59_70, w59_73, w59_75, w59_78, w59_79, w59_80, w59_83, w59_84, h31, hput, ↓reduceIte, hh_wr, hl_wr, b10, b11, ite_not, ne_eq, Int.reduceEq, Int.reduceLE, Int.reduceLT, Int.reduceNe, Int.reduceNeg, Int.reduceAdd, Int.reduceSub, Int.reduceMul, not_false_eq_true, not_true_eq_false, false_and, and_false, true_and, and_true, and_self, true_or, or_true, false_or, or_false, if_true, if_false, ite_true, ite_false, mj_tl_some, mj_tl_none, mj_cs0, mj_cs1, mj_cs2, mj_cs3, mj_cs4]
        exact fin
    · have fin : ∀ (v : Int), wp X (D + 1) 59 80 [(26, 351), (0, 8 - ((m + 1 : Nat) : Int)), (0, tK T L a)] [(0, 0), (0, v), (26, 351)] M2 (fun r M1 => r = none ∧ PO X e T L t0 so (5 * (m + 1) + 1) (8 - ((m + 1 : Nat) : Int)) a b M M1) := by
        intro v
        simp only [w59_80, ↓reduceIte, hh_wr, hl_wr, b10, b11, ite_not, ne_eq, Int.reduceEq, Int.reduceLE, Int.reduceLT, Int.reduceNe, Int.reduceNeg, Int.reduceAdd, Int.reduceSub, Int.reduceMul, not_false_eq_true, not_true_eq_false, false_and, and_false, true_and, and_true, and_self, true_or, or_true, false_or, or_false, if_true, if_false, ite_true, ite_false, mj_tl_some, mj_tl_none, mj_cs0, mj_cs1, mj_cs2, mj_cs3, mj_cs4]
        refine wc.mono (c_putF fl) ?_
        rintro r M4 ⟨⟨i', rfl⟩, r4, fl4⟩
        simp only [w59_83, w59_84, ↓reduceIte, hh_wr, hl_wr, b10, b11, ite_not, ne_eq, Int.reduceEq, Int.reduceLE, Int.reduceLT, Int.reduceNe, Int.reduceNeg, Int.reduceAdd, Int.reduceSub, Int.reduceMul, not_false_eq_true, not_true_eq_false, false_and, and_false, true_and, and_true, and_self, true_or, or_true, false_or, or_false, if_true, if_false, ite_true, ite_false, mj_tl_some, mj_tl_none, mj_cs0, mj_cs1, mj_cs2, mj_cs3, mj_cs4]
        exact Or.inr ⟨(k1.cr.tr r2).tr r4, k, q, fl4, bd_un rfl hop hr ho.2 (by rw [e8]; exact bd)⟩
      by_cases h31 : tK T L a = 31
      · have f2 := fin 42
        rw [h31] at f2
        simp only [w59_66, w59_67, w59_68, w59_70, w59_73, w59_75, w59_78, w59_79, h31, ↓reduceIte, hh_wr, hl_wr, b10, b11, ite_not, ne_eq, Int.reduceEq, Int.reduceLE, Int.reduceLT, Int.reduceNe, Int.reduceNeg, Int.reduceAdd, Int.reduceSub, Int.reduceMul, not_false_eq_true, not_true_eq_false, false_and, and_false, true_and, and_true, and_self, true_or, or_true, false_or, or_false, if_true, if_false, ite_true, ite_false, mj_tl_some, mj_tl_none, mj_cs0, mj_cs1, mj_cs2, mj_cs3, mj_cs4]
        exact f2
      · simp only [w59_66, w59_67, w59_68, w59_70, w59_73, w59_75, w59_78, w59_79, h31, ↓reduceIte, hh_wr, hl_wr, b10, b11, ite_not, ne_eq, Int.reduceEq, Int.reduceLE, Int.reduceLT, Int.reduceNe, Int.reduceNeg, Int.reduceAdd, Int.reduceSub, Int.reduceMul, not_false_eq_true, not_true_eq_false, false_and, and_false, true_and, and_true, and_self, true_or, or_true, false_or, or_false, if_true, if_false, ite_true, ite_false, mj_tl_some, mj_tl_none, mj_cs0, mj_cs1, mj_cs2, mj_cs3, mj_cs4]
        exact fin _
theorem nm_ix {K : Int} (h : K = 12 ∨ K = 2 ∨ K = 13 ∨ K = 3 ∨ K = 14 ∨ K = 15 ∨ K = 5 ∨ K = 16) : ∃ j : Nat, j < 8 ∧ K = tkN j ∧ (j = 7 → K = 16) := by
  rcases h with rfl | rfl | rfl | rfl | rfl | rfl | rfl | rfl
  · exact ⟨0, by decide, rfl, by decide⟩
  · exact ⟨1, by decide, rfl, by decide⟩
  · exact ⟨2, by decide, rfl, by decide⟩
  · exact ⟨3, by decide, rfl, by decide⟩
  · exact ⟨4, by decide, rfl, by decide⟩
  · exact ⟨5, by decide, rfl, by decide⟩
  · exact ⟨6, by decide, rfl, by decide⟩
  · exact ⟨7, by decide, rfl, by decide⟩
theorem c_one (hI : SpI X e T L t0 so m) (hm : m ≤ 8) (hso : so = 0 ∨ so = 1) : SpO X e T L t0 so m := by
  intro M a b D hD h hin
  obtain ⟨D, rfl⟩ : ∃ D', D = D' + 1 := ⟨D - 1, by omega⟩
  show wp X (D + 1) 55 0 [(26, 351), (0, 8 - (m : Int))] [] M _
  have aL := h.aL
  have ca := h.ca
  have c0 := h.c0
  have l9 := h.cx.tz.l9
  by_cases k39 : tK T L a = 39
  · have lt := tE_lt aL (show tK T L a ≠ 40 by omega)
    simp only [w55_0, w55_1, w55_4, w55_6, w55_9, w55_10, w55_12, w55_13, w55_14, w55_17, h.e6, k39, ↓reduceIte, hh_wr, hl_wr, b10, b11, ite_not, ne_eq, Int.reduceEq, Int.reduceLE, Int.reduceLT, Int.reduceNe, Int.reduceNeg, Int.reduceAdd, Int.reduceSub, Int.reduceMul, not_false_eq_true, not_true_eq_false, false_and, and_false, true_and, and_true, and_self, true_or, or_true, false_or, or_false, if_true, if_false, ite_true, ite_false, mj_tl_some, mj_tl_none, mj_cs0, mj_cs1, mj_cs2, mj_cs3, mj_cs4]
    refine wc.mono (c_expectN (by omega) h) ?_
    rintro r M1 (⟨_, v0, v9, rfl, k1, p1⟩ | ⟨_, nv, rfl, r1, fl1⟩ | ⟨q, _⟩)
    · have hput := fun Q => c_put (X := X) (D := D) (Q := Q) (t := 39) (v := tV T L a) p1.cx.cs p1.c p1.c0 (by omega) (by decide) ⟨by omega, by omega⟩
      simp only [w55_20, w55_23, w55_24, w55_136, hput, ↓reduceIte, hh_wr, hl_wr, b10, b11, ite_not, ne_eq, Int.reduceEq, Int.reduceLE, Int.reduceLT, Int.reduceNe, Int.reduceNeg, Int.reduceAdd, Int.reduceSub, Int.reduceMul, not_false_eq_true, not_true_eq_false, false_and, and_false, true_and, and_true, and_self, true_or, or_true, false_or, or_false, if_true, if_false, ite_true, ite_false, mj_tl_some, mj_tl_none, mj_cs0, mj_cs1, mj_cs2, mj_cs3, mj_cs4]
      refine Or.inl ⟨(k1.cn (b := b)).put (Int.le_refl _), tE T L a, [39 + 64 * tV T L a], [(0, tV T L a)], _, ?_, ?_, stands_1 ?_, ex_num v0 v9 (by omega), gd_num k39 v9 (by omega), by unfold fol; omega⟩
      · exact p1.put (by omega)
      · simp only [List.length_cons, List.length_nil]; omega
      · simp only [hh_wr, ↓reduceIte, hh_wr, hl_wr, b10, b11, ite_not, ne_eq, Int.reduceEq, Int.reduceLE, Int.reduceLT, Int.reduceNe, Int.reduceNeg, Int.reduceAdd, Int.reduceSub, Int.reduceMul, not_false_eq_true, not_true_eq_false, false_and, and_false, true_and, and_true, and_self, true_or, or_true, false_or, or_false, if_true, if_false, ite_true, ite_false, mj_tl_some, mj_tl_none, mj_cs0, mj_cs1, mj_cs2, mj_cs3, mj_cs4]
    · have v0 : 0 ≤ tV T L a := by
        have s0 := tS_r (T := T) aL
        have hd : dgp (T (tS T L a)) := by
          revert k39
          unfold tK
          by_cases h1 : L ≤ tS T L a
          · rw [if_pos h1]; omega
          rw [if_neg h1]
          by_cases h2 : ltp (T (tS T L a))
          · rw [if_pos h2]
            rcases wtk_r (rwv T (tS T L a) (tE T L a - tS T L a).toNat) with ⟨j, hj, _, e2⟩ | ⟨_, e2⟩ <;> (rw [e2]; omega)
          rw [if_neg h2]
          by_cases h3 : dgp (T (tS T L a))
          · exact fun _ => h3
          rw [if_neg h3]
          have := sgk_ne (T (tS T L a))
          split
          · split <;> omega
          · omega
        have hsl : tS T L a < L := by
          have := (not_congr (tK_40 (T := T) (L := L) (a := a))).mp (by omega)
          omega
        have nl : ¬ ltp (T (tS T L a)) := by unfold ltp; unfold dgp at hd; omega
        have eE : tE T L a = rn (dgc T) L (tS T L a) := by
          unfold tE
          rw [if_neg (by omega), if_neg nl, if_pos hd]
        obtain ⟨q1, q2, q3, q4⟩ := rn_spec (dgc T) L _ (tS T L a) rfl (by omega)
        unfold tV
        exact (nvl_r _ (fun i hi => of_decide_eq_true (q3 _ (by omega) (by omega)))).1
      simp only [w55_20, ↓reduceIte, hh_wr, hl_wr, b10, b11, ite_not, ne_eq, Int.reduceEq, Int.reduceLE, Int.reduceLT, Int.reduceNe, Int.reduceNeg, Int.reduceAdd, Int.reduceSub, Int.reduceMul, not_false_eq_true, not_true_eq_false, false_and, and_false, true_and, and_true, and_self, true_or, or_true, false_or, or_false, if_true, if_false, ite_true, ite_false, mj_tl_some, mj_tl_none, mj_cs0, mj_cs1, mj_cs2, mj_cs3, mj_cs4]
      refine wc.mono (c_putF fl1) ?_
      rintro r M4 ⟨⟨i', rfl⟩, r4, fl4⟩
      simp only [w55_23, w55_24, w55_136, ↓reduceIte, hh_wr, hl_wr, b10, b11, ite_not, ne_eq, Int.reduceEq, Int.reduceLE, Int.reduceLT, Int.reduceNe, Int.reduceNeg, Int.reduceAdd, Int.reduceSub, Int.reduceMul, not_false_eq_true, not_true_eq_false, false_and, and_false, true_and, and_true, and_self, true_or, or_true, false_or, or_false, if_true, if_false, ite_true, ite_false, mj_tl_some, mj_tl_none, mj_cs0, mj_cs1, mj_cs2, mj_cs3, mj_cs4]
      exact Or.inr ⟨r1.tr r4, 2, _, fl4, bd_big k39 (by omega)⟩
    · exact absurd k39 q
  · by_cases hb : tK T L a = 16 ∧ so = 0
    · have in1 : hh M 351 8 = 1 := by rw [hin, hb.2]; rfl
      simp only [w55_0, w55_1, w55_4, w55_6, w55_27, w55_28, w55_31, w55_33, w55_36, w55_37, w55_40, w55_43, w55_44, w55_45, h.e6, hb.1, in1, ↓reduceIte, hh_wr, hl_wr, b10, b11, ite_not, ne_eq, Int.reduceEq, Int.reduceLE, Int.reduceLT, Int.reduceNe, Int.reduceNeg, Int.reduceAdd, Int.reduceSub, Int.reduceMul, not_false_eq_true, not_true_eq_false, false_and, and_false, true_and, and_true, and_self, true_or, or_true, false_or, or_false, if_true, if_false, ite_true, ite_false, mj_tl_some, mj_tl_none, mj_cs0, mj_cs1, mj_cs2, mj_cs3, mj_cs4]
      refine wc.mono (c_fail h (by decide)) ?_
      rintro r M1 ⟨rfl, r1, p1⟩
      simp only [w55_48, w55_136, ↓reduceIte, hh_wr, hl_wr, b10, b11, ite_not, ne_eq, Int.reduceEq, Int.reduceLE, Int.reduceLT, Int.reduceNe, Int.reduceNeg, Int.reduceAdd, Int.reduceSub, Int.reduceMul, not_false_eq_true, not_true_eq_false, false_and, and_false, true_and, and_true, and_self, true_or, or_true, false_or, or_false, if_true, if_false, ite_true, ite_false, mj_tl_some, mj_tl_none, mj_cs0, mj_cs1, mj_cs2, mj_cs3, mj_cs4]
      exact Or.inr ⟨r1, 5, _, p1, bd_breath hb.1 (by rw [hb.2]; decide)⟩
    · have skip : ∀ Q : Option mj_V → mj_M → Prop, wp X (D + 1) 55 51 [(26, 351), (0, 8 - (m : Int))] [] M Q → wp X (D + 1) 55 0 [(26, 351), (0, 8 - (m : Int))] [] M Q := by
        intro Q hq
        by_cases k16 : tK T L a = 16
        · have in0 : hh M 351 8 = 0 := by rw [hin]; omega
          simp only [w55_0, w55_1, w55_4, w55_6, w55_27, w55_28, w55_31, w55_33, w55_36, w55_37, w55_40, h.e6, k16, in0, ↓reduceIte, hh_wr, hl_wr, b10, b11, ite_not, ne_eq, Int.reduceEq, Int.reduceLE, Int.reduceLT, Int.reduceNe, Int.reduceNeg, Int.reduceAdd, Int.reduceSub, Int.reduceMul, not_false_eq_true, not_true_eq_false, false_and, and_false, true_and, and_true, and_self, true_or, or_true, false_or, or_false, if_true, if_false, ite_true, ite_false, mj_tl_some, mj_tl_none, mj_cs0, mj_cs1, mj_cs2, mj_cs3, mj_cs4]
          exact hq
        · simp only [w55_0, w55_1, w55_4, w55_6, w55_27, w55_28, w55_31, w55_33, h.e6, k39, k16, ↓reduceIte, hh_wr, hl_wr, b10, b11, ite_not, ne_eq, Int.reduceEq, Int.reduceLE, Int.reduceLT, Int.reduceNe, Int.reduceNeg, Int.reduceAdd, Int.reduceSub, Int.reduceMul, not_false_eq_true, not_true_eq_false, false_and, and_false, true_and, and_true, and_self, true_or, or_true, false_or, or_false, if_true, if_false, ite_true, ite_false, mj_tl_some, mj_tl_none, mj_cs0, mj_cs1, mj_cs2, mj_cs3, mj_cs4]
          exact hq
      refine skip _ ?_
      by_cases hn : tK T L a = 12 ∨ tK T L a = 2 ∨ tK T L a = 13 ∨ tK T L a = 3 ∨ tK T L a = 14 ∨ tK T L a = 15 ∨ tK T L a = 5 ∨ tK T L a = 16
      · obtain ⟨j, j8, ej, j7⟩ := nm_ix hn
        have lt := tE_lt aL (show tK T L a ≠ 40 by omega)
        have hput := fun Q => c_put0 (X := X) (D := D) (Q := Q) (t := tK T L a) h.cx.cs h.c h.c0 (by omega) (by omega)
        simp only [w55_51, w55_52, w55_55, w55_58, w55_61, w55_62, w55_63, w55_66, w55_67, w55_70, w55_71, w55_72, h.e6, c_isName, hn, hput, ↓reduceIte, hh_wr, hl_wr, b10, b11, ite_not, ne_eq, Int.reduceEq, Int.reduceLE, Int.reduceLT, Int.reduceNe, Int.reduceNeg, Int.reduceAdd, Int.reduceSub, Int.reduceMul, not_false_eq_true, not_true_eq_false, false_and, and_false, true_and, and_true, and_self, true_or, or_true, false_or, or_false, if_true, if_false, ite_true, ite_false, mj_tl_some, mj_tl_none, mj_cs0, mj_cs1, mj_cs2, mj_cs3, mj_cs4]
        have r1 : Cr M (mj_wr (mj_wr M 353 b (tK T L a)) 351 11 (b + 1)) := (Cr.rfl'.w2 (Or.inr rfl)).w1 (by decide)
        have c1 : Cn b M (mj_wr (mj_wr M 353 b (tK T L a)) 351 11 (b + 1)) := Cn.rfl'.put (Int.le_refl _)
        refine wc.mono (c_nx (by omega) (h.cx.cr r1) (by simp only [hh_wr, h.f0, ↓reduceIte, hh_wr, hl_wr, b10, b11, ite_not, ne_eq, Int.reduceEq, Int.reduceLE, Int.reduceLT, Int.reduceNe, Int.reduceNeg, Int.reduceAdd, Int.reduceSub, Int.reduceMul, not_false_eq_true, not_true_eq_false, false_and, and_false, true_and, and_true, and_self, true_or, or_true, false_or, or_false, if_true, if_false, ite_true, ite_false, mj_tl_some, mj_tl_none, mj_cs0, mj_cs1, mj_cs2, mj_cs3, mj_cs4]) (by simp only [hh_wr, h.e4, ↓reduceIte, hh_wr, hl_wr, b10, b11, ite_not, ne_eq, Int.reduceEq, Int.reduceLE, Int.reduceLT, Int.reduceNe, Int.reduceNeg, Int.reduceAdd, Int.reduceSub, Int.reduceMul, not_false_eq_true, not_true_eq_false, false_and, and_false, true_and, and_true, and_self, true_or, or_true, false_or, or_false, if_true, if_false, ite_true, ite_false, mj_tl_some, mj_tl_none, mj_cs0, mj_cs1, mj_cs2, mj_cs3, mj_cs4]) (by have := h.a0; omega) lt.2 (c := b + 1) (by simp only [hh_wr, ↓reduceIte, hh_wr, hl_wr, b10, b11, ite_not, ne_eq, Int.reduceEq, Int.reduceLE, Int.reduceLT, Int.reduceNe, Int.reduceNeg, Int.reduceAdd, Int.reduceSub, Int.reduceMul, not_false_eq_true, not_true_eq_false, false_and, and_false, true_and, and_true, and_self, true_or, or_true, false_or, or_false, if_true, if_false, ite_true, ite_false, mj_tl_some, mj_tl_none, mj_cs0, mj_cs1, mj_cs2, mj_cs3, mj_cs4]) (by omega) (by omega)) ?_
        rintro r M2 ⟨rfl, k2, p2⟩
        simp only [w55_75, w55_136, ↓reduceIte, hh_wr, hl_wr, b10, b11, ite_not, ne_eq, Int.reduceEq, Int.reduceLE, Int.reduceLT, Int.reduceNe, Int.reduceNeg, Int.reduceAdd, Int.reduceSub, Int.reduceMul, not_false_eq_true, not_true_eq_false, false_and, and_false, true_and, and_true, and_self, true_or, or_true, false_or, or_false, if_true, if_false, ite_true, ite_false, mj_tl_some, mj_tl_none, mj_cs0, mj_cs1, mj_cs2, mj_cs3, mj_cs4]
        refine Or.inl ⟨c1.tr (k2.cn (b := b)) (Int.le_refl _), tE T L a, [tkN j], [(1, (j : Int))], _, p2, ?_, stands_1 ?_, ex_name j8 (by omega), gd_name j8 ej (fun q => by have := j7 q; omega) (by omega), by unfold fol; omega⟩
        · simp only [List.length_cons, List.length_nil]; omega
        · rw [k2.h _ _ (by omega), ← ej]; simp only [hh_wr, ↓reduceIte, hh_wr, hl_wr, b10, b11, ite_not, ne_eq, Int.reduceEq, Int.reduceLE, Int.reduceLT, Int.reduceNe, Int.reduceNeg, Int.reduceAdd, Int.reduceSub, Int.reduceMul, not_false_eq_true, not_true_eq_false, false_and, and_false, true_and, and_true, and_self, true_or, or_true, false_or, or_false, if_true, if_false, ite_true, ite_false, mj_tl_some, mj_tl_none, mj_cs0, mj_cs1, mj_cs2, mj_cs3, mj_cs4]
      · have hnx : nmx (tK T L a) = -1 := by
          unfold nmx
          repeat' split
          all_goals omega
        by_cases hop : opr (tK T L a) = -1
        · have h5 : ¬ tK T L a = 34 ∧ ¬ tK T L a = 31 ∧ ¬ tK T L a = 17 ∧ ¬ tK T L a = 18 ∧ ¬ tK T L a = 19 := by
            refine ⟨?_, ?_, ?_, ?_, ?_⟩ <;> (intro q; rw [q] at hop; exact absurd hop (by decide))
          obtain ⟨n34, n31, n17, n18, n19⟩ := h5
          simp only [w55_51, w55_52, w55_55, w55_58, w55_78, w55_79, w55_82, w55_84, w55_87, w55_88, w55_91, w55_93, w55_96, w55_97, w55_100, w55_102, w55_105, w55_106, w55_109, w55_111, w55_114, w55_115, w55_118, w55_120, w55_131, w55_132, w55_133, h.e6, c_isName, hn, n34, n31, n17, n18, n19, ↓reduceIte, hh_wr, hl_wr, b10, b11, ite_not, ne_eq, Int.reduceEq, Int.reduceLE, Int.reduceLT, Int.reduceNe, Int.reduceNeg, Int.reduceAdd, Int.reduceSub, Int.reduceMul, not_false_eq_true, not_true_eq_false, false_and, and_false, true_and, and_true, and_self, true_or, or_true, false_or, or_false, if_true, if_false, ite_true, ite_false, mj_tl_some, mj_tl_none, mj_cs0, mj_cs1, mj_cs2, mj_cs3, mj_cs4]
          refine wc.mono (c_fail h (by decide)) ?_
          rintro r M1 ⟨rfl, r1, p1⟩
          simp only [w55_136, ↓reduceIte, hh_wr, hl_wr, b10, b11, ite_not, ne_eq, Int.reduceEq, Int.reduceLE, Int.reduceLT, Int.reduceNe, Int.reduceNeg, Int.reduceAdd, Int.reduceSub, Int.reduceMul, not_false_eq_true, not_true_eq_false, false_and, and_false, true_and, and_true, and_self, true_or, or_true, false_or, or_false, if_true, if_false, ite_true, ite_false, mj_tl_some, mj_tl_none, mj_cs0, mj_cs1, mj_cs2, mj_cs3, mj_cs4]
          exact Or.inr ⟨r1, 1, _, p1, bd_none k39 hnx hop (by omega)⟩
        · have cont : wp X (D + 1) 55 123 [(26, 351), (0, 8 - (m : Int))] [] M (fun r M1 => r = none ∧ PO X e T L t0 so (5 * m + 1) (8 - (m : Int)) a b M M1) := by
            simp only [w55_123, w55_124, w55_125, ↓reduceIte, hh_wr, hl_wr, b10, b11, ite_not, ne_eq, Int.reduceEq, Int.reduceLE, Int.reduceLT, Int.reduceNe, Int.reduceNeg, Int.reduceAdd, Int.reduceSub, Int.reduceMul, not_false_eq_true, not_true_eq_false, false_and, and_false, true_and, and_true, and_self, true_or, or_true, false_or, or_false, if_true, if_false, ite_true, ite_false, mj_tl_some, mj_tl_none, mj_cs0, mj_cs1, mj_cs2, mj_cs3, mj_cs4]
            refine wc.mono (hI M a b D (by omega) h hin hop) ?_
            rintro r M1 ⟨rfl, q⟩
            simp only [w55_128, w55_136, ↓reduceIte, hh_wr, hl_wr, b10, b11, ite_not, ne_eq, Int.reduceEq, Int.reduceLE, Int.reduceLT, Int.reduceNe, Int.reduceNeg, Int.reduceAdd, Int.reduceSub, Int.reduceMul, not_false_eq_true, not_true_eq_false, false_and, and_false, true_and, and_true, and_self, true_or, or_true, false_or, or_false, if_true, if_false, ite_true, ite_false, mj_tl_some, mj_tl_none, mj_cs0, mj_cs1, mj_cs2, mj_cs3, mj_cs4]
            exact q
          have h5 : tK T L a = 34 ∨ tK T L a = 31 ∨ tK T L a = 17 ∨ tK T L a = 18 ∨ tK T L a = 19 := by
            rcases opr_ix hop with q | q | ⟨o, _, q, _⟩ <;> omega
          rcases h5 with hk | hk | hk | hk | hk
          all_goals simp only [w55_51, w55_52, w55_55, w55_58, w55_78, w55_79, w55_82, w55_84, w55_87, w55_88, w55_91, w55_93, w55_96, w55_97, w55_100, w55_102, w55_105, w55_106, w55_109, w55_111, w55_114, w55_115, w55_118, w55_120, h.e6, c_isName, hk, ↓reduceIte, hh_wr, hl_wr, b10, b11, ite_not, ne_eq, Int.reduceEq, Int.reduceLE, Int.reduceLT, Int.reduceNe, Int.reduceNeg, Int.reduceAdd, Int.reduceSub, Int.reduceMul, not_false_eq_true, not_true_eq_false, false_and, and_false, true_and, and_true, and_self, true_or, or_true, false_or, or_false, if_true, if_false, ite_true, ite_false, mj_tl_some, mj_tl_none, mj_cs0, mj_cs1, mj_cs2, mj_cs3, mj_cs4]
          all_goals exact cont
/-- sums and questions, at every depth -/
theorem c_all (hso : so = 0 ∨ so = 1) : ∀ m : Nat, m ≤ 8 → SpO X e T L t0 so m ∧ Sp X e T L t0 so 53 10 5 false 3 m ∧ Sp X e T L t0 so 64 11 3 true 4 m ∧ Sp X e T L t0 so 62 13 1 true 6 m := by
  intro m
  induction m with
  | zero =>
    intro hm
    have h1 := c_one (c_in0 (X := X) (e := e) (T := T) (L := L) (t0 := t0) (so := so)) hm hso
    have h3 := c_readSum (c_readProduct h1 hm) hm
    have h4 := c_readAsk h3 (fun m' q => by omega) hm
    exact ⟨h1, h3, h4, c_readEither (c_readBoth h4 hm) hm⟩
  | succ m ih =>
    intro hm
    obtain ⟨i1, i2, i3, i4⟩ := ih (by omega)
    have h1 := c_one (c_in1 i4 i2 i1 hm) hm hso
    have h3 := c_readSum (c_readProduct h1 hm) hm
    have h4 := c_readAsk h3 (fun m' q => by have : m' = m := (by omega); rw [this]; exact i3) hm
    exact ⟨h1, h3, h4, c_readEither (c_readBoth h4 hm) hm⟩
end CIf
