/-! TEXT: the class reads questions, if, brackets -/
section CAsk
variable {X : mj_X} {D e : Nat} {T : Int → Int} {L t0 so : Int} {m : Nat}
theorem cmo_ix {K : Int} (h : cmo K ≠ -1) : ∃ o : Nat, (4 ≤ o ∧ o < 10) ∧ tk2 o = K ∧ rk2 o = cmo K ∧ (K = 26 ∨ K = 27 ∨ K = 37 ∨ K = 38 ∨ K = 28 ∨ K = 29) := by
  have h6 : K = 26 ∨ K = 27 ∨ K = 37 ∨ K = 38 ∨ K = 28 ∨ K = 29 := by
    unfold cmo at h
    revert h
    repeat' split
    all_goals intro h
    all_goals first | omega | exact absurd rfl h
  rcases h6 with rfl | rfl | rfl | rfl | rfl | rfl
  · exact ⟨4, by decide, rfl, rfl, by decide⟩
  · exact ⟨5, by decide, rfl, rfl, by decide⟩
  · exact ⟨6, by decide, rfl, rfl, by decide⟩
  · exact ⟨7, by decide, rfl, rfl, by decide⟩
  · exact ⟨8, by decide, rfl, rfl, by decide⟩
  · exact ⟨9, by decide, rfl, rfl, by decide⟩
theorem cmo_not {K : Int} (h : cmo K = -1) : ¬ K = 26 ∧ ¬ K = 27 ∧ ¬ K = 37 ∧ ¬ K = 38 ∧ ¬ K = 28 ∧ ¬ K = 29 := by
  refine ⟨?_, ?_, ?_, ?_, ?_, ?_⟩ <;> (intro e; rw [e] at h; exact absurd h (by decide))
theorem fol_na {K : Int} (h : fol 5 K) : na K := by
  unfold fol at h
  unfold na
  omega
theorem c_readAsk (hS : Sp X e T L t0 so 53 10 5 false 3 m) (hA : ∀ m', m = m' + 1 → Sp X e T L t0 so 64 11 3 true 4 m') (hm : m ≤ 8) : Sp X e T L t0 so 64 11 3 true 4 m := by
  intro M a b D hD h hin
  obtain ⟨D, rfl⟩ : ∃ D', D = D' + 1 := ⟨D - 1, by omega⟩
  show wp X (D + 1) 64 0 [(26, 351), (0, 8 - (m : Int)), (9, 0)] [] M _
  have aL := h.aL
  have l9 := h.cx.tz.l9
  by_cases h25 : tK T L a = 25
  · have lt := tE_lt aL (show tK T L a ≠ 40 by omega)
    cases m with
    | zero =>
      simp only [w64_0, w64_1, w64_4, w64_6, w64_9, w64_10, w64_12, w64_15, w64_16, w64_17, h.e6, h25, show ¬ (8 - ((0 : Nat) : Int) < 8) by decide, ↓reduceIte, hh_wr, hl_wr, b10, b11, ite_not, ne_eq, Int.reduceEq, Int.reduceLE, Int.reduceLT, Int.reduceNe, Int.reduceNeg, Int.reduceAdd, Int.reduceSub, Int.reduceMul, not_false_eq_true, not_true_eq_false, false_and, and_false, true_and, and_true, and_self, true_or, or_true, false_or, or_false, if_true, if_false, ite_true, ite_false, mj_tl_some, mj_tl_none, mj_cs0, mj_cs1, mj_cs2, mj_cs3, mj_cs4]
      refine wc.mono (c_fail h (by decide)) ?_
      rintro r M1 ⟨rfl, r1, p1⟩
      simp only [w64_20, ↓reduceIte, hh_wr, hl_wr, b10, b11, ite_not, ne_eq, Int.reduceEq, Int.reduceLE, Int.reduceLT, Int.reduceNe, Int.reduceNeg, Int.reduceAdd, Int.reduceSub, Int.reduceMul, not_false_eq_true, not_true_eq_false, false_and, and_false, true_and, and_true, and_self, true_or, or_true, false_or, or_false, if_true, if_false, ite_true, ite_false, mj_tl_some, mj_tl_none, mj_cs0, mj_cs1, mj_cs2, mj_cs3, mj_cs4]
      exact Or.inr ⟨r1, 3, _, p1, bd_not1 h25⟩
    | succ m' =>
      have a8 : ji_add (8 - ((m' + 1 : Nat) : Int)) 1 = 8 - (m' : Int) := by rw [aj ⟨by omega, by omega⟩]; omega
      have e8 : 8 - ((m' + 1 : Nat) : Int) + 1 = 8 - (m' : Int) := by omega
      simp only [w64_0, w64_1, w64_4, w64_6, w64_9, w64_10, w64_12, w64_15, w64_16, w64_17, w64_20, w64_21, w64_22, h.e6, h25, show 8 - ((m' + 1 : Nat) : Int) < 8 by omega, ↓reduceIte, hh_wr, hl_wr, b10, b11, ite_not, ne_eq, Int.reduceEq, Int.reduceLE, Int.reduceLT, Int.reduceNe, Int.reduceNeg, Int.reduceAdd, Int.reduceSub, Int.reduceMul, not_false_eq_true, not_true_eq_false, false_and, and_false, true_and, and_true, and_self, true_or, or_true, false_or, or_false, if_true, if_false, ite_true, ite_false, mj_tl_some, mj_tl_none, mj_cs0, mj_cs1, mj_cs2, mj_cs3, mj_cs4]
      refine wc.mono (c_nxP (by omega) h (by omega)) ?_
      rintro r M1 ⟨rfl, k1, p1⟩
      simp only [w64_25, w64_26, w64_27, w64_28, w64_29, a8, ↓reduceIte, hh_wr, hl_wr, b10, b11, ite_not, ne_eq, Int.reduceEq, Int.reduceLE, Int.reduceLT, Int.reduceNe, Int.reduceNeg, Int.reduceAdd, Int.reduceSub, Int.reduceMul, not_false_eq_true, not_true_eq_false, false_and, and_false, true_and, and_true, and_self, true_or, or_true, false_or, or_false, if_true, if_false, ite_true, ite_false, mj_tl_some, mj_tl_none, mj_cs0, mj_cs1, mj_cs2, mj_cs3, mj_cs4]
      refine wc.mono (hA m' rfl M1 _ b D (by omega) p1 ((k1.h _ _ (by decide)).trans hin)) ?_
      rintro r M2 ⟨rfl, ⟨c2, a2, cl, rl, f, p2, l2, s2, x2, g2, fo2⟩ | ⟨r2, k, q, fl, bd⟩⟩
      · have ca := h.ca
        have c0 := h.c0
        have a2L := p2.aL
        have hput := fun Q => c_put0 (X := X) (D := D) (Q := Q) (t := 25) p2.cx.cs p2.c p2.c0 (by omega) (by decide)
        simp only [w64_32, w64_33, w64_35, w64_36, w64_39, w64_40, hput, ↓reduceIte, hh_wr, hl_wr, b10, b11, ite_not, ne_eq, Int.reduceEq, Int.reduceLE, Int.reduceLT, Int.reduceNe, Int.reduceNeg, Int.reduceAdd, Int.reduceSub, Int.reduceMul, not_false_eq_true, not_true_eq_false, false_and, and_false, true_and, and_true, and_self, true_or, or_true, false_or, or_false, if_true, if_false, ite_true, ite_false, mj_tl_some, mj_tl_none, mj_cs0, mj_cs1, mj_cs2, mj_cs3, mj_cs4]
        refine Or.inl ⟨((k1.cn (b := b)).tr c2 (Int.le_refl _)).put (by omega), a2, cl ++ [tk1 3], rl ++ [(rk1 3, 0)], _, ?_, ?_, ?_, (ex_one (o := 3) (by decide) (by decide) x2).up (by omega), gd_not h25 (by omega) (by rw [e8]; exact g2), fo2⟩
        · have := p2.put (v := 25) (by omega)
          rw [show b + ((cl ++ [tk1 3]).length : Int) = b + (cl.length : Int) + 1 by simp only [List.length_append, List.length_cons, List.length_nil]; omega]
          exact this
        · simp only [List.length_append, List.length_cons, List.length_nil]; omega
        · refine standsA.mpr ⟨s2.keep (fun j _ _ => ?_), stands_1 ?_⟩
          · simp only [hh_wr, show ¬ j = b + (cl.length : Int) by omega, ↓reduceIte, hh_wr, hl_wr, b10, b11, ite_not, ne_eq, Int.reduceEq, Int.reduceLE, Int.reduceLT, Int.reduceNe, Int.reduceNeg, Int.reduceAdd, Int.reduceSub, Int.reduceMul, not_false_eq_true, not_true_eq_false, false_and, and_false, true_and, and_true, and_self, true_or, or_true, false_or, or_false, if_true, if_false, ite_true, ite_false, mj_tl_some, mj_tl_none, mj_cs0, mj_cs1, mj_cs2, mj_cs3, mj_cs4]
          · simp only [hh_wr, ↓reduceIte, hh_wr, hl_wr, b10, b11, ite_not, ne_eq, Int.reduceEq, Int.reduceLE, Int.reduceLT, Int.reduceNe, Int.reduceNeg, Int.reduceAdd, Int.reduceSub, Int.reduceMul, not_false_eq_true, not_true_eq_false, false_and, and_false, true_and, and_true, and_self, true_or, or_true, false_or, or_false, if_true, if_false, ite_true, ite_false, mj_tl_some, mj_tl_none, mj_cs0, mj_cs1, mj_cs2, mj_cs3, mj_cs4]; rfl
      · simp only [w64_32, w64_33, w64_35, w64_36, ↓reduceIte, hh_wr, hl_wr, b10, b11, ite_not, ne_eq, Int.reduceEq, Int.reduceLE, Int.reduceLT, Int.reduceNe, Int.reduceNeg, Int.reduceAdd, Int.reduceSub, Int.reduceMul, not_false_eq_true, not_true_eq_false, false_and, and_false, true_and, and_true, and_self, true_or, or_true, false_or, or_false, if_true, if_false, ite_true, ite_false, mj_tl_some, mj_tl_none, mj_cs0, mj_cs1, mj_cs2, mj_cs3, mj_cs4]
        refine wc.mono (c_putF fl) ?_
        rintro r M4 ⟨⟨i', rfl⟩, r4, fl4⟩
        simp only [w64_39, w64_40, ↓reduceIte, hh_wr, hl_wr, b10, b11, ite_not, ne_eq, Int.reduceEq, Int.reduceLE, Int.reduceLT, Int.reduceNe, Int.reduceNeg, Int.reduceAdd, Int.reduceSub, Int.reduceMul, not_false_eq_true, not_true_eq_false, false_and, and_false, true_and, and_true, and_self, true_or, or_true, false_or, or_false, if_true, if_false, ite_true, ite_false, mj_tl_some, mj_tl_none, mj_cs0, mj_cs1, mj_cs2, mj_cs3, mj_cs4]
        exact Or.inr ⟨(k1.cr.tr r2).tr r4, k, q, fl4, bd_not2 h25 (by omega) (by rw [e8]; exact bd)⟩
  · simp only [w64_0, w64_1, w64_4, w64_6, w64_41, w64_42, w64_43, h.e6, h25, ↓reduceIte, hh_wr, hl_wr, b10, b11, ite_not, ne_eq, Int.reduceEq, Int.reduceLE, Int.reduceLT, Int.reduceNe, Int.reduceNeg, Int.reduceAdd, Int.reduceSub, Int.reduceMul, not_false_eq_true, not_true_eq_false, false_and, and_false, true_and, and_true, and_self, true_or, or_true, false_or, or_false, if_true, if_false, ite_true, ite_false, mj_tl_some, mj_tl_none, mj_cs0, mj_cs1, mj_cs2, mj_cs3, mj_cs4]
    refine wc.mono (hS M a b D (by omega) h hin) ?_
    rintro r M1 ⟨rfl, ⟨c1, a1, cl1, rl1, f1, p1, l1, s1, x1, g1, fo1⟩ | ⟨r1, k, q, fl, bd⟩⟩
    · have hna := fol_na fo1
      by_cases hc : cmo (tK T L a1) = -1
      · obtain ⟨n1, n2, n3, n4, n5, n6⟩ := cmo_not hc
        simp only [w64_46, w64_47, w64_50, w64_51, w64_52, w64_54, w64_57, w64_58, w64_60, w64_63, w64_64, w64_66, w64_69, w64_70, w64_72, w64_75, w64_76, w64_78, w64_81, w64_82, w64_84, w64_87, w64_88, w64_89, p1.e6, n1, n2, n3, n4, n5, n6, ↓reduceIte, hh_wr, hl_wr, b10, b11, ite_not, ne_eq, Int.reduceEq, Int.reduceLE, Int.reduceLT, Int.reduceNe, Int.reduceNeg, Int.reduceAdd, Int.reduceSub, Int.reduceMul, not_false_eq_true, not_true_eq_false, false_and, and_false, true_and, and_true, and_self, true_or, or_true, false_or, or_false, if_true, if_false, ite_true, ite_false, mj_tl_some, mj_tl_none, mj_cs0, mj_cs1, mj_cs2, mj_cs3, mj_cs4]
        refine wc.mono (c_fail p1 (by decide)) ?_
        rintro r M2 ⟨rfl, r2, p2⟩
        simp only [w64_92, ↓reduceIte, hh_wr, hl_wr, b10, b11, ite_not, ne_eq, Int.reduceEq, Int.reduceLE, Int.reduceLT, Int.reduceNe, Int.reduceNeg, Int.reduceAdd, Int.reduceSub, Int.reduceMul, not_false_eq_true, not_true_eq_false, false_and, and_false, true_and, and_true, and_self, true_or, or_true, false_or, or_false, if_true, if_false, ite_true, ite_false, mj_tl_some, mj_tl_none, mj_cs0, mj_cs1, mj_cs2, mj_cs3, mj_cs4]
        exact Or.inr ⟨c1.r.tr r2, 1, _, p2, bd_ask2 h25 g1 hc hna⟩
      · obtain ⟨o, ⟨o4, o10⟩, et, er, h6⟩ := cmo_ix hc
        have lt := tE_lt p1.aL (show tK T L a1 ≠ 40 by omega)
        have cont : wp X (D + 1) 64 93 [(26, 351), (0, 8 - (m : Int)), (0, tK T L a1)] [] M1 (fun r M2 => r = none ∧ PG X e T L t0 so 3 true (5 * m + 4) (8 - (m : Int)) a b M M2) := by
          simp only [w64_93, w64_94, ↓reduceIte, hh_wr, hl_wr, b10, b11, ite_not, ne_eq, Int.reduceEq, Int.reduceLE, Int.reduceLT, Int.reduceNe, Int.reduceNeg, Int.reduceAdd, Int.reduceSub, Int.reduceMul, not_false_eq_true, not_true_eq_false, false_and, and_false, true_and, and_true, and_self, true_or, or_true, false_or, or_false, if_true, if_false, ite_true, ite_false, mj_tl_some, mj_tl_none, mj_cs0, mj_cs1, mj_cs2, mj_cs3, mj_cs4]
          refine wc.mono (c_nxP (by omega) p1 (by omega)) ?_
          rintro r M2 ⟨rfl, k2, p2⟩
          simp only [w64_97, w64_98, w64_99, ↓reduceIte, hh_wr, hl_wr, b10, b11, ite_not, ne_eq, Int.reduceEq, Int.reduceLE, Int.reduceLT, Int.reduceNe, Int.reduceNeg, Int.reduceAdd, Int.reduceSub, Int.reduceMul, not_false_eq_true, not_true_eq_false, false_and, and_false, true_and, and_true, and_self, true_or, or_true, false_or, or_false, if_true, if_false, ite_true, ite_false, mj_tl_some, mj_tl_none, mj_cs0, mj_cs1, mj_cs2, mj_cs3, mj_cs4]
          refine wc.mono (hS M2 _ _ D (by omega) p2 ((k2.h _ _ (by decide)).trans ((c1.f 8 (by omega)).trans hin))) ?_
          rintro r M3 ⟨rfl, ⟨c3, a2, cl2, rl2, f2, p3, l2, s2, x2, g2, fo2⟩ | ⟨r3, k, q, fl, bd⟩⟩
          · have ca := p1.ca
            have c0 := p1.c0
            have b0 := h.c0
            have a2L := p3.aL
            have hput := fun Q => c_put0 (X := X) (D := D) (Q := Q) (t := tK T L a1) p3.cx.cs p3.c p3.c0 (by omega) (by omega)
            simp only [w64_102, w64_103, w64_104, w64_105, w64_108, w64_109, hput, ↓reduceIte, hh_wr, hl_wr, b10, b11, ite_not, ne_eq, Int.reduceEq, Int.reduceLE, Int.reduceLT, Int.reduceNe, Int.reduceNeg, Int.reduceAdd, Int.reduceSub, Int.reduceMul, not_false_eq_true, not_true_eq_false, false_and, and_false, true_and, and_true, and_self, true_or, or_true, false_or, or_false, if_true, if_false, ite_true, ite_false, mj_tl_some, mj_tl_none, mj_cs0, mj_cs1, mj_cs2, mj_cs3, mj_cs4]
            have s12 : stands (hh M2 353) b cl1 := s1.keep (fun j _ _ => k2.h _ _ (by omega))
            have s4 := stands2p (M := M) (t := tK T L a1) (n := b + (cl1.length : Int) + (cl2.length : Int) + 1) s12 c3 s2
            have p4 := p3.put (v := tK T L a1) (by omega)
            have x4 := ex_two (o := o) (t := true) (hg := 5 * m + 4) (by omega) (by simp only [true_iff]; omega) (show EX b cl1 rl1 (decide (10 ≤ o)) _ f1 by rw [decide_eq_false (by omega)]; exact x1) (show EX _ cl2 rl2 (decide (10 ≤ o)) _ f2 by rw [decide_eq_false (by omega)]; exact x2) (by omega) (by omega)
            rw [et, er] at x4
            refine Or.inl ⟨((c1.tr (k2.cn (b := b)) (Int.le_refl _)).tr c3 (by omega)).put (by omega), a2, cl1 ++ (cl2 ++ [tK T L a1]), rl1 ++ (rl2 ++ [(cmo (tK T L a1), 0)]), _, ?_, ?_, s4, x4, gd_ask h25 g1 rfl hc g2, ?_⟩
            · rw [show b + ((cl1 ++ (cl2 ++ [tK T L a1])).length : Int) = b + (cl1.length : Int) + (cl2.length : Int) + 1 by simp only [List.length_append, List.length_cons, List.length_nil]; omega]
              exact p4
            · simp only [List.length_append, List.length_cons, List.length_nil]; omega
            · unfold fol at fo2 ⊢; omega
          · simp only [w64_102, w64_103, w64_104, w64_105, ↓reduceIte, hh_wr, hl_wr, b10, b11, ite_not, ne_eq, Int.reduceEq, Int.reduceLE, Int.reduceLT, Int.reduceNe, Int.reduceNeg, Int.reduceAdd, Int.reduceSub, Int.reduceMul, not_false_eq_true, not_true_eq_false, false_and, and_false, true_and, and_true, and_self, true_or, or_true, false_or, or_false, if_true, if_false, ite_true, ite_false, mj_tl_some, mj_tl_none, mj_cs0, mj_cs1, mj_cs2, mj_cs3, mj_cs4]
            refine wc.mono (c_putF fl) ?_
            rintro r M4 ⟨⟨i', rfl⟩, r4, fl4⟩
            simp only [w64_108, w64_109, ↓reduceIte, hh_wr, hl_wr, b10, b11, ite_not, ne_eq, Int.reduceEq, Int.reduceLE, Int.reduceLT, Int.reduceNe, Int.reduceNeg, Int.reduceAdd, Int.reduceSub, Int.reduceMul, not_false_eq_true, not_true_eq_false, false_and, and_false, true_and, and_true, and_self, true_or, or_true, false_or, or_false, if_true, if_false, ite_true, ite_false, mj_tl_some, mj_tl_none, mj_cs0, mj_cs1, mj_cs2, mj_cs3, mj_cs4]
            exact Or.inr ⟨((c1.r.tr k2.cr).tr r3).tr r4, k, q, fl4, bd_ask3 h25 g1 rfl hc bd⟩
        rcases h6 with hk | hk | hk | hk | hk | hk
        all_goals rw [hk] at cont
        all_goals simp only [w64_46, w64_47, w64_50, w64_51, w64_52, w64_54, w64_57, w64_58, w64_60, w64_63, w64_64, w64_66, w64_69, w64_70, w64_72, w64_75, w64_76, w64_78, w64_81, w64_82, w64_84, p1.e6, hk, ↓reduceIte, hh_wr, hl_wr, b10, b11, ite_not, ne_eq, Int.reduceEq, Int.reduceLE, Int.reduceLT, Int.reduceNe, Int.reduceNeg, Int.reduceAdd, Int.reduceSub, Int.reduceMul, not_false_eq_true, not_true_eq_false, false_and, and_false, true_and, and_true, and_self, true_or, or_true, false_or, or_false, if_true, if_false, ite_true, ite_false, mj_tl_some, mj_tl_none, mj_cs0, mj_cs1, mj_cs2, mj_cs3, mj_cs4]
        all_goals exact cont
    · simp only [w64_46, w64_47, w64_50, w64_51, w64_52, w64_54, w64_57, w64_58, w64_60, w64_63, w64_64, w64_66, w64_69, w64_70, w64_72, w64_75, w64_76, w64_78, w64_81, w64_82, w64_84, w64_87, w64_88, w64_89, fl.t, ↓reduceIte, hh_wr, hl_wr, b10, b11, ite_not, ne_eq, Int.reduceEq, Int.reduceLE, Int.reduceLT, Int.reduceNe, Int.reduceNeg, Int.reduceAdd, Int.reduceSub, Int.reduceMul, not_false_eq_true, not_true_eq_false, false_and, and_false, true_and, and_true, and_self, true_or, or_true, false_or, or_false, if_true, if_false, ite_true, ite_false, mj_tl_some, mj_tl_none, mj_cs0, mj_cs1, mj_cs2, mj_cs3, mj_cs4]
      refine wc.mono (c_failF fl) ?_
      rintro r M2 ⟨rfl, r2, p2⟩
      simp only [w64_92, ↓reduceIte, hh_wr, hl_wr, b10, b11, ite_not, ne_eq, Int.reduceEq, Int.reduceLE, Int.reduceLT, Int.reduceNe, Int.reduceNeg, Int.reduceAdd, Int.reduceSub, Int.reduceMul, not_false_eq_true, not_true_eq_false, false_and, and_false, true_and, and_true, and_self, true_or, or_true, false_or, or_false, if_true, if_false, ite_true, ite_false, mj_tl_some, mj_tl_none, mj_cs0, mj_cs1, mj_cs2, mj_cs3, mj_cs4]
      exact Or.inr ⟨r1.tr r2, k, q, p2, bd_ask1 h25 bd⟩
/-! if, behind a fault -/
section IfF
variable {M0 : mj_M} {k q o : Int}
theorem if54 {v2 : mj_V} {i : Int} : ∀ M, Cr M0 M → Fl M T L k q → wp X (D + 1) 61 54 [(26, 351), (0, o), v2, (0, i)] [] M (fun r M1 => r = none ∧ Cr M0 M1 ∧ Fl M1 T L k q) := by
  intro M r0 h
  simp only [w61_54, w61_55, w61_56, ↓reduceIte, hh_wr, hl_wr, b10, b11, ite_not, ne_eq, Int.reduceEq, Int.reduceLE, Int.reduceLT, Int.reduceNe, Int.reduceNeg, Int.reduceAdd, Int.reduceSub, Int.reduceMul, not_false_eq_true, not_true_eq_false, false_and, and_false, true_and, and_true, and_self, true_or, or_true, false_or, or_false, if_true, if_false, ite_true, ite_false, mj_tl_some, mj_tl_none, mj_cs0, mj_cs1, mj_cs2, mj_cs3, mj_cs4]
  refine wc.mono (c_leapF h) ?_
  rintro r M1 ⟨rfl, r1, p1⟩
  simp only [w61_59, ↓reduceIte, hh_wr, hl_wr, b10, b11, ite_not, ne_eq, Int.reduceEq, Int.reduceLE, Int.reduceLT, Int.reduceNe, Int.reduceNeg, Int.reduceAdd, Int.reduceSub, Int.reduceMul, not_false_eq_true, not_true_eq_false, false_and, and_false, true_and, and_true, and_self, true_or, or_true, false_or, or_false, if_true, if_false, ite_true, ite_false, mj_tl_some, mj_tl_none, mj_cs0, mj_cs1, mj_cs2, mj_cs3, mj_cs4]
  exact ⟨r0.tr r1, p1⟩
theorem if48 (hD : 9 ≤ D) {v2 : mj_V} {i : Int} : ∀ M, Cr M0 M → Fl M T L k q → wp X (D + 1) 61 48 [(26, 351), (0, o), v2, (0, i)] [] M (fun r M1 => r = none ∧ Cr M0 M1 ∧ Fl M1 T L k q) := by
  intro M r0 h
  simp only [w61_48, w61_49, w61_51, ↓reduceIte, hh_wr, hl_wr, b10, b11, ite_not, ne_eq, Int.reduceEq, Int.reduceLE, Int.reduceLT, Int.reduceNe, Int.reduceNeg, Int.reduceAdd, Int.reduceSub, Int.reduceMul, not_false_eq_true, not_true_eq_false, false_and, and_false, true_and, and_true, and_self, true_or, or_true, false_or, or_false, if_true, if_false, ite_true, ite_false, mj_tl_some, mj_tl_none, mj_cs0, mj_cs1, mj_cs2, mj_cs3, mj_cs4]
  refine wc.mono (c_expectF (by omega) h (by decide)) ?_
  rintro r M1 ⟨rfl, r1, p1⟩
  rw [mj_tl_none]
  exact if54 M1 (r0.tr r1) p1
theorem if43 (hD : 9 ≤ D) {v2 : mj_V} {i : Int} : ∀ M, Cr M0 M → Fl M T L k q → wp X (D + 1) 61 43 [(26, 351), (0, o), v2, (0, i)] [] M (fun r M1 => r = none ∧ Cr M0 M1 ∧ Fl M1 T L k q) := by
  intro M r0 h
  simp only [w61_43, w61_44, w61_45, ↓reduceIte, hh_wr, hl_wr, b10, b11, ite_not, ne_eq, Int.reduceEq, Int.reduceLE, Int.reduceLT, Int.reduceNe, Int.reduceNeg, Int.reduceAdd, Int.reduceSub, Int.reduceMul, not_false_eq_true, not_true_eq_false, false_and, and_false, true_and, and_true, and_self, true_or, or_true, false_or, or_false, if_true, if_false, ite_true, ite_false, mj_tl_some, mj_tl_none, mj_cs0, mj_cs1, mj_cs2, mj_cs3, mj_cs4]
  refine wc.mono (c_sumF (by omega) h) ?_
  rintro r M1 ⟨rfl, r1, p1⟩
  rw [mj_tl_none]
  exact if48 hD M1 (r0.tr r1) p1
theorem if30 (hD : 9 ≤ D) {w3 : mj_V} {i : Int} : ∀ M, Cr M0 M → Fl M T L k q → wp X (D + 1) 61 30 [(26, 351), (0, o), (0, i), w3] [] M (fun r M1 => r = none ∧ Cr M0 M1 ∧ Fl M1 T L k q) := by
  intro M r0 h
  simp only [w61_30, w61_31, w61_33, w61_34, ↓reduceIte, hh_wr, hl_wr, b10, b11, ite_not, ne_eq, Int.reduceEq, Int.reduceLE, Int.reduceLT, Int.reduceNe, Int.reduceNeg, Int.reduceAdd, Int.reduceSub, Int.reduceMul, not_false_eq_true, not_true_eq_false, false_and, and_false, true_and, and_true, and_self, true_or, or_true, false_or, or_false, if_true, if_false, ite_true, ite_false, mj_tl_some, mj_tl_none, mj_cs0, mj_cs1, mj_cs2, mj_cs3, mj_cs4]
  refine wc.mono (c_putF h) ?_
  rintro r M1 ⟨⟨i', rfl⟩, r1, p1⟩
  simp only [w61_37, w61_38, w61_39, w61_40, ↓reduceIte, hh_wr, hl_wr, b10, b11, ite_not, ne_eq, Int.reduceEq, Int.reduceLE, Int.reduceLT, Int.reduceNe, Int.reduceNeg, Int.reduceAdd, Int.reduceSub, Int.reduceMul, not_false_eq_true, not_true_eq_false, false_and, and_false, true_and, and_true, and_self, true_or, or_true, false_or, or_false, if_true, if_false, ite_true, ite_false, mj_tl_some, mj_tl_none, mj_cs0, mj_cs1, mj_cs2, mj_cs3, mj_cs4]
  refine wc.mono (c_leapF p1) ?_
  rintro r M2 ⟨rfl, r2, p2⟩
  rw [mj_tl_none]
  exact if43 hD M2 ((r0.tr r1).tr r2) p2
theorem if24 (hD : 9 ≤ D) {w3 : mj_V} {i : Int} : ∀ M, Cr M0 M → Fl M T L k q → wp X (D + 1) 61 24 [(26, 351), (0, o), (0, i), w3] [] M (fun r M1 => r = none ∧ Cr M0 M1 ∧ Fl M1 T L k q) := by
  intro M r0 h
  simp only [w61_24, w61_25, w61_27, ↓reduceIte, hh_wr, hl_wr, b10, b11, ite_not, ne_eq, Int.reduceEq, Int.reduceLE, Int.reduceLT, Int.reduceNe, Int.reduceNeg, Int.reduceAdd, Int.reduceSub, Int.reduceMul, not_false_eq_true, not_true_eq_false, false_and, and_false, true_and, and_true, and_self, true_or, or_true, false_or, or_false, if_true, if_false, ite_true, ite_false, mj_tl_some, mj_tl_none, mj_cs0, mj_cs1, mj_cs2, mj_cs3, mj_cs4]
  refine wc.mono (c_expectF (by omega) h (by decide)) ?_
  rintro r M1 ⟨rfl, r1, p1⟩
  rw [mj_tl_none]
  exact if30 hD M1 (r0.tr r1) p1
theorem if11 (hD : 9 ≤ D) {w2 w3 : mj_V} : ∀ M, Cr M0 M → Fl M T L k q → wp X (D + 1) 61 11 [(26, 351), (0, o), w2, w3] [] M (fun r M1 => r = none ∧ Cr M0 M1 ∧ Fl M1 T L k q) := by
  intro M r0 h
  simp only [w61_11, w61_12, w61_14, w61_15, ↓reduceIte, hh_wr, hl_wr, b10, b11, ite_not, ne_eq, Int.reduceEq, Int.reduceLE, Int.reduceLT, Int.reduceNe, Int.reduceNeg, Int.reduceAdd, Int.reduceSub, Int.reduceMul, not_false_eq_true, not_true_eq_false, false_and, and_false, true_and, and_true, and_self, true_or, or_true, false_or, or_false, if_true, if_false, ite_true, ite_false, mj_tl_some, mj_tl_none, mj_cs0, mj_cs1, mj_cs2, mj_cs3, mj_cs4]
  refine wc.mono (c_putF h) ?_
  rintro r M1 ⟨⟨i', rfl⟩, r1, p1⟩
  simp only [w61_18, w61_19, w61_20, w61_21, ↓reduceIte, hh_wr, hl_wr, b10, b11, ite_not, ne_eq, Int.reduceEq, Int.reduceLE, Int.reduceLT, Int.reduceNe, Int.reduceNeg, Int.reduceAdd, Int.reduceSub, Int.reduceMul, not_false_eq_true, not_true_eq_false, false_and, and_false, true_and, and_true, and_self, true_or, or_true, false_or, or_false, if_true, if_false, ite_true, ite_false, mj_tl_some, mj_tl_none, mj_cs0, mj_cs1, mj_cs2, mj_cs3, mj_cs4]
  refine wc.mono (c_sumF (by omega) p1) ?_
  rintro r M2 ⟨rfl, r2, p2⟩
  rw [mj_tl_none]
  exact if24 hD M2 ((r0.tr r1).tr r2) p2
theorem if5 (hD : 9 ≤ D) {w2 w3 : mj_V} : ∀ M, Cr M0 M → Fl M T L k q → wp X (D + 1) 61 5 [(26, 351), (0, o), w2, w3] [] M (fun r M1 => r = none ∧ Cr M0 M1 ∧ Fl M1 T L k q) := by
  intro M r0 h
  simp only [w61_5, w61_6, w61_8, ↓reduceIte, hh_wr, hl_wr, b10, b11, ite_not, ne_eq, Int.reduceEq, Int.reduceLE, Int.reduceLT, Int.reduceNe, Int.reduceNeg, Int.reduceAdd, Int.reduceSub, Int.reduceMul, not_false_eq_true, not_true_eq_false, false_and, and_false, true_and, and_true, and_self, true_or, or_true, false_or, or_false, if_true, if_false, ite_true, ite_false, mj_tl_some, mj_tl_none, mj_cs0, mj_cs1, mj_cs2, mj_cs3, mj_cs4]
  refine wc.mono (c_expectF (by omega) h (by decide)) ?_
  rintro r M1 ⟨rfl, r1, p1⟩
  rw [mj_tl_none]
  exact if11 hD M1 (r0.tr r1) p1
end IfF
end CAsk
