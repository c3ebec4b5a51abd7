/-! CALLS THAT TELL: say, seen, by, person, end, fault -/
section Told2
variable {X : mj_X} {d : Nat} {M : mj_M} {Q : Option mj_V → mj_M → Prop}
theorem cs16 {i v : Int} (h : CS M) : CS (mj_wr M 16 i v) := h.wa (by decide +kernel)
theorem cs18 {i v : Int} (h : CS M) : CS (mj_wr M 18 i v) := h.wa (by decide +kernel)
theorem cs15_0 {v : Int} (h : CS M) : CS (mj_wr M 15 0 v) := h.wr (by decide +kernel)
theorem cs17_0 {v : Int} (h : CS M) : CS (mj_wr M 17 0 v) := h.wr (by decide +kernel)
theorem cs5_7 {v : Int} (h : CS M) : CS (mj_wr M 5 7 v) := h.wr (by decide +kernel)
theorem c_rclear {r : Int} (h0 : 1 ≤ r) : wc X d 138 [(27, r)] M Q ↔ Q none (mj_wr M r 0 0) := by
  show wp X d 138 0 [(27, r)] [] M Q ↔ _
  simp only [w138_0, w138_1, w138_2, w138_5, show ¬ r = 0 by omega, ↓reduceIte, hh_wr, hl_wr, b10, b11, ite_not, ne_eq, Int.reduceEq, Int.reduceLE, Int.reduceLT, Int.reduceNe, Int.reduceNeg, Int.reduceAdd, Int.reduceSub, Int.reduceMul, not_false_eq_true, not_true_eq_false, false_and, and_false, true_and, and_true, and_self, true_or, or_true, false_or, or_false, if_true, if_false, ite_true, ite_false, mj_tl_some, mj_tl_none, mj_cs0, mj_cs1, mj_cs2, mj_cs3, mj_cs4]
theorem c_radd {r a b c : Int} {n : Nat} (h0 : 1 ≤ r) (h1 : hh M r 1 = r + 1) (h2 : hl M (r + 1) = 24) (hn : hh M r 0 = (n : Int)) (hn8 : n ≤ 8) : wc X d 139 [(27, r), (0, a), (0, b), (0, c)] M Q ↔ if n ≠ 8 then Q (some (0, (n : Int) + 1)) (mj_wr (mj_wr (mj_wr (mj_wr M (r + 1) (3 * (n : Int)) a) (r + 1) (3 * (n : Int) + 1) b) (r + 1) (3 * (n : Int) + 2) c) r 0 ((n : Int) + 1)) else Q (some (0, -2)) M := by
  show wp X d 139 0 [(27, r), (0, a), (0, b), (0, c), (9, 0)] [] M Q ↔ _
  have e0 : ¬ r = 0 := by omega
  have e1 : ¬ r + 1 = 0 := by omega
  have e2 : ¬ r = r + 1 := by omega
  by_cases h8 : n = 8
  · subst h8
    simp only [w139_0, w139_1, w139_4, w139_6, w139_9, w139_11, w139_12, w139_13, w139_16, w139_17, w139_18, w139_20, w139_21, w139_24, w139_26, w139_27, w139_28, w139_29, w139_32, w139_34, w139_35, w139_36, w139_37, w139_38, w139_39, w139_42, w139_44, w139_45, w139_46, w139_47, w139_48, w139_49, w139_50, w139_53, w139_54, w139_55, w139_58, w139_59, w139_62, hn, e0, ct8, ↓reduceIte, hh_wr, hl_wr, b10, b11, ite_not, ne_eq, Int.reduceEq, Int.reduceLE, Int.reduceLT, Int.reduceNe, Int.reduceNeg, Int.reduceAdd, Int.reduceSub, Int.reduceMul, not_false_eq_true, not_true_eq_false, false_and, and_false, true_and, and_true, and_self, true_or, or_true, false_or, or_false, if_true, if_false, ite_true, ite_false, mj_tl_some, mj_tl_none, mj_cs0, mj_cs1, mj_cs2, mj_cs3, mj_cs4]
  · have h9 : (n : Int) < 8 := by omega
    simp only [w139_0, w139_1, w139_4, w139_6, w139_9, w139_11, w139_12, w139_13, w139_16, w139_17, w139_18, w139_20, w139_21, w139_24, w139_26, w139_27, w139_28, w139_29, w139_32, w139_34, w139_35, w139_36, w139_37, w139_38, w139_39, w139_42, w139_44, w139_45, w139_46, w139_47, w139_48, w139_49, w139_50, w139_53, w139_54, w139_55, w139_58, w139_59, w139_62, hn, h1, h2, e0, e1, e2, h8, h9, m3r (o := (n : Int)) ⟨by omega, by omega⟩, aj (x := 3 * (n : Int)) (y := 1) ⟨by omega, by omega⟩, aj (x := 3 * (n : Int)) (y := 2) ⟨by omega, by omega⟩, aj (x := (n : Int)) (y := 1) ⟨by omega, by omega⟩, show (0 : Int) ≤ 3 * (n : Int) by omega, show 3 * (n : Int) < 24 by omega, show (0 : Int) ≤ 3 * (n : Int) + 1 by omega, show 3 * (n : Int) + 1 < 24 by omega, show (0 : Int) ≤ 3 * (n : Int) + 2 by omega, show 3 * (n : Int) + 2 < 24 by omega, ↓reduceIte, hh_wr, hl_wr, b10, b11, ite_not, ne_eq, Int.reduceEq, Int.reduceLE, Int.reduceLT, Int.reduceNe, Int.reduceNeg, Int.reduceAdd, Int.reduceSub, Int.reduceMul, not_false_eq_true, not_true_eq_false, false_and, and_false, true_and, and_true, and_self, true_or, or_true, false_or, or_false, if_true, if_false, ite_true, ite_false, mj_tl_some, mj_tl_none, mj_cs0, mj_cs1, mj_cs2, mj_cs3, mj_cs4]
theorem st24 : St24 RR (d + 60) := by
  intro X M a1 a2 a3 h i1 i2 i3
  obtain ⟨n, hn⟩ := nat_of h.ai.d0
  have h8 := h.ai.d8
  have hn8 : n ≤ 8 := by omega
  have hw := h.wr
  have hai := h.ai
  unfold LS2
  show wp X (d + 60) 137 0 [(31, 1), (0, a1), (0, a2), (0, a3)] [] M _
  by_cases hm : a1 = -1
  · subst hm
    simp only [w137_0, w137_1, w137_2, w137_5, w137_6, w137_9, w137_12, w137_15, w137_16, w137_17, w137_18, w137_19, w137_20, w137_23, w137_26, w137_28, w137_29, w137_30, w137_33, w137_36, w137_37, w137_38, w137_39, w137_42, c_1_1 h.cs, c_5_2 h.cs, c_rclear (r := 15) (by decide), ↓reduceIte, hh_wr, hl_wr, b10, b11, ite_not, ne_eq, Int.reduceEq, Int.reduceLE, Int.reduceLT, Int.reduceNe, Int.reduceNeg, Int.reduceAdd, Int.reduceSub, Int.reduceMul, not_false_eq_true, not_true_eq_false, false_and, and_false, true_and, and_true, and_self, true_or, or_true, false_or, or_false, if_true, if_false, ite_true, ite_false, mj_tl_some, mj_tl_none, mj_cs0, mj_cs1, mj_cs2, mj_cs3, mj_cs4]
    show wp X (d + 60) 312 0 [(32, 354), (0, -1), (0, a2), (0, a3), (9, 0)] [] _ _
    simp only [w312_0, w312_1, w312_2, w312_5, w312_6, w312_9, w312_11, w312_12, w312_13, w312_14, w312_15, w312_16, w312_17, w312_18, w312_21, w312_24, w312_25, w312_28, w312_30, w312_31, w312_33, w312_36, w312_38, w312_39, w312_41, w312_42, w312_43, w312_46, w312_48, w312_49, w312_50, w312_51, w312_53, w312_54, w312_57, w312_59, w312_60, w312_61, w312_62, w312_65, w312_67, w312_68, w312_69, w312_70, w312_71, w312_72, w312_75, w312_77, w312_78, w312_79, w312_80, w312_81, w312_82, w312_85, w312_87, w312_88, w312_89, w312_90, w312_91, w312_92, w312_93, w312_96, w312_98, w312_99, c_354_0 h.cs, l_355 h.cs, ↓reduceIte, hh_wr, hl_wr, b10, b11, ite_not, ne_eq, Int.reduceEq, Int.reduceLE, Int.reduceLT, Int.reduceNe, Int.reduceNeg, Int.reduceAdd, Int.reduceSub, Int.reduceMul, not_false_eq_true, not_true_eq_false, false_and, and_false, true_and, and_true, and_self, true_or, or_true, false_or, or_false, if_true, if_false, ite_true, ite_false, mj_tl_some, mj_tl_none, mj_cs0, mj_cs1, mj_cs2, mj_cs3, mj_cs4]
    refine ⟨_, rfl, rfl, ?_⟩
    generalize hM2 : mj_wr (mj_wr M 15 0 0) 355 6 0 = M2
    have K : ∀ x j, (x ≠ 15 ∨ j ≠ 0) ∧ x ≠ 355 → hh M2 x j = hh M x j := by
      intro x j hx
      subst hM2
      simp only [hh_wr, show ¬ (x = 15 ∧ j = 0) by omega, hx.2, false_and, if_false]
    have q : ∀ j, j ≠ 6 → hh M2 355 j = hh M 355 j := by
      intro j hj
      subst hM2
      simp only [hh_wr, hj, Int.reduceEq, false_and, and_false, if_false]
    have v0 : hh M2 355 6 = 0 := by
      subst hM2
      simp only [hh_wr, and_self, if_true]
    have w0 : hh M2 15 0 = 0 := by
      subst hM2
      simp only [hh_wr, Int.reduceEq, false_and, and_self, if_false, if_true]
    have f : fz [1, 3] M M2 := by
      subst hM2
      exact (fz.rfl'.wr (by decide)).wr (by decide)
    clear hM2
    refine h.upd f ?_ ?_ (q 3 (by omega)) (fun j => K 20 j (by omega))
    · exact ⟨((K 6 0 (by omega)).trans (hw.nf.trans (q 0 (by omega)).symm)), (fun i a b => (K 7 i (by omega)).trans ((hw.fk i a b).trans (q (41 + 2 * i) (by omega)).symm)), (fun i a b => (K 8 i (by omega)).trans ((hw.fl i a b).trans (q (42 + 2 * i) (by omega)).symm)), ((hw.now.keep (fun x j a b => Or.inl (K x j (by omega)))).eq (mn_eq hai.now (fun j hj => q j (by omega)))), ((K 5 4 (by omega)).trans (hw.ns.trans (q 2 (by omega)).symm)), (fun i a b => by have := hai.s4; rw [q 2 (by omega)] at b; exact (K 19 i (by omega)).trans ((hw.st i a b).trans (q (57 + i) (by omega)).symm)), ((K 5 6 (by omega)).trans (hw.nt.trans (q 3 (by omega)).symm)), ((K 5 7 (by omega)).trans (hw.ru.trans (q 4 (by omega)).symm)), ((K 5 9 (by omega)).trans (hw.np.trans (q 5 (by omega)).symm)), (by rw [K 5 10 (by omega)]; exact hw.e0), (by rw [K 5 10 (by omega)]; exact hw.e3), (fun i a b => by have := hai.n3; rw [q 5 (by omega)] at b; rw [K 5 10 (by omega)]; exact ((hw.sp i a b).keep (fun x j a b => Or.inl (K x j (by omega)))).eq (ms_eq (hai.sp i a b) ⟨a, by omega⟩ (fun j j1 j2 => q j (by omega)))), (by rw [v0]; exact w0), (fun i a b => by rw [v0] at b; omega), ((K 17 0 (by omega)).trans (hw.ne.trans (q 7 (by omega)).symm)), (fun i a b k c e => by have := hai.e8; rw [q 7 (by omega)] at b; exact (K 18 _ (by omega)).trans ((hw.e i a b k c e).trans (q _ (by omega)).symm))⟩
    · exact ⟨(by rw [q 0 (by omega)]; exact hai.f0), (by rw [q 0 (by omega)]; exact hai.f8), (fun i a b => by rw [q (41 + 2 * i) (by omega)]; exact hai.fk i a b), (fun i a b => by rw [q (42 + 2 * i) (by omega)]; exact hai.fl i a b), (fun i a b => by have := hai.f8; rw [q 0 (by omega)] at b; rw [q (42 + 2 * i) (by omega)]; exact hai.fl1 i a b), (by rw [q 0 (by omega)]; exact hai.now.eq (mn_eq hai.now (fun j hj => q j (by omega)))), (fun p a b => by have h6 : _ ≤ (6 : Int) := hai.now.p6; rw [q 1 (by omega)] at b; have hp5 : p < 6 := Int.lt_of_lt_of_le b h6; rw [q 0 (by omega), q (14 + 5 * p) (by omega), q (15 + 5 * p) (by omega)]; exact hai.tl p a b), (by rw [q 2 (by omega)]; exact hai.s0), (by rw [q 2 (by omega)]; exact hai.s4), (fun i a b => by have := hai.s4; rw [q 2 (by omega)] at b; rw [q (57 + i) (by omega)]; exact hai.st i a b), (by rw [q 3 (by omega)]; exact hai.t0), (by rw [q 3 (by omega)]; exact hai.t4), (by rw [q 4 (by omega)]; exact hai.r0), (by rw [q 4 (by omega), q 3 (by omega)]; exact hai.r4), (by rw [q 5 (by omega)]; exact hai.n0), (by rw [q 5 (by omega)]; exact hai.n3), (fun i a b => by have := hai.n3; rw [q 5 (by omega)] at b; rw [q 0 (by omega)]; exact (hai.sp i a b).eq (ms_eq (hai.sp i a b) ⟨a, by omega⟩ (fun j j1 j2 => q j (by omega)))), (fun i a b => by have := hai.n3; rw [q 5 (by omega)] at b; rw [(ms_eq (hai.sp i a b) ⟨a, by omega⟩ (fun j j1 j2 => q j (by omega))).P, (mnx_eq hai ⟨a, b⟩ (q 5 (by omega)) (fun j j1 j2 => q j (by omega)) (fun j hj => q j (by omega))).P]; exact hai.sm i a b), (fun i a b p c e => by have := hai.n3; rw [q 5 (by omega)] at b; have g := mnx_eq hai ⟨a, b⟩ (q 5 (by omega)) (fun j j1 j2 => q j (by omega)) (fun j hj => q j (by omega)); have g0 := (ms_eq (hai.sp i a b) ⟨a, by omega⟩ (fun j j1 j2 => q j (by omega))).P; rw [g0] at c; rw [g.P] at e; have u0 := (hai.sp i a b).p0; have u6 := (mnx_P hai ⟨a, b⟩).p6; have hp5 : p < 6 := Int.lt_of_lt_of_le e u6; have hp0 : 0 ≤ p := Int.le_trans u0 c; exact (hai.ti i a b p c e).eq g ⟨hp0, e⟩ (q _ (by omega)) (q _ (by omega))), (by rw [v0]; omega), (by rw [v0]; omega), (fun i a b => by rw [v0] at b; omega), (by rw [q 7 (by omega)]; exact hai.e0), (by rw [q 7 (by omega)]; exact hai.e8), (fun i a b => by have := hai.e8; rw [q 7 (by omega)] at b; rw [q (85 + 2 * i) (by omega), q (86 + 2 * i) (by omega), q 1 (by omega)]; exact hai.e i a b)⟩
  · by_cases hs : isS a1 a2 a3 = true
    · by_cases hn' : n = 8
      · subst hn'
        simp only [w137_0, w137_1, w137_2, w137_5, w137_6, w137_9, w137_12, w137_15, w137_16, w137_17, w137_18, w137_19, w137_20, w137_23, w137_26, w137_28, w137_29, w137_30, w137_33, w137_36, w137_37, w137_38, w137_39, w137_42, c_1_1 h.cs, c_5_2 h.cs, hm, c_isSaying, hs, c_radd (r := 15) (n := 8) (by decide) (c_15_1 h.cs) (l_16 h.cs) (h.gnd.trans hn) hn8, ne_eq, not_true_eq_false, if_false, ↓reduceIte, hh_wr, hl_wr, b10, b11, ite_not, ne_eq, Int.reduceEq, Int.reduceLE, Int.reduceLT, Int.reduceNe, Int.reduceNeg, Int.reduceAdd, Int.reduceSub, Int.reduceMul, not_false_eq_true, not_true_eq_false, false_and, and_false, true_and, and_true, and_self, true_or, or_true, false_or, or_false, if_true, if_false, ite_true, ite_false, mj_tl_some, mj_tl_none, mj_cs0, mj_cs1, mj_cs2, mj_cs3, mj_cs4]
        show wp X (d + 60) 312 0 [(32, 354), (0, a1), (0, a2), (0, a3), (9, 0)] [] _ _
        rw [ct8] at hn
        simp only [w312_0, w312_1, w312_2, w312_5, w312_6, w312_9, w312_11, w312_12, w312_13, w312_14, w312_15, w312_16, w312_17, w312_18, w312_21, w312_24, w312_25, w312_28, w312_30, w312_31, w312_33, w312_36, w312_38, w312_39, w312_41, w312_42, w312_43, w312_46, w312_48, w312_49, w312_50, w312_51, w312_53, w312_54, w312_57, w312_59, w312_60, w312_61, w312_62, w312_65, w312_67, w312_68, w312_69, w312_70, w312_71, w312_72, w312_75, w312_77, w312_78, w312_79, w312_80, w312_81, w312_82, w312_85, w312_87, w312_88, w312_89, w312_90, w312_91, w312_92, w312_93, w312_96, w312_98, w312_99, c_354_0 h.cs, l_355 h.cs, hm, m_isSaying, hs, hn, ↓reduceIte, hh_wr, hl_wr, b10, b11, ite_not, ne_eq, Int.reduceEq, Int.reduceLE, Int.reduceLT, Int.reduceNe, Int.reduceNeg, Int.reduceAdd, Int.reduceSub, Int.reduceMul, not_false_eq_true, not_true_eq_false, false_and, and_false, true_and, and_true, and_self, true_or, or_true, false_or, or_false, if_true, if_false, ite_true, ite_false, mj_tl_some, mj_tl_none, mj_cs0, mj_cs1, mj_cs2, mj_cs3, mj_cs4]
        exact ⟨_, rfl, rfl, Pst.id h⟩
      · have hn9 : ¬ (n : Int) = 8 := by omega
        simp only [w137_0, w137_1, w137_2, w137_5, w137_6, w137_9, w137_12, w137_15, w137_16, w137_17, w137_18, w137_19, w137_20, w137_23, w137_26, w137_28, w137_29, w137_30, w137_33, w137_36, w137_37, w137_38, w137_39, w137_42, c_1_1 h.cs, c_5_2 h.cs, hm, c_isSaying, hs, c_radd (r := 15) (n := n) (by decide) (c_15_1 h.cs) (l_16 h.cs) (h.gnd.trans hn) hn8, hn', ↓reduceIte, hh_wr, hl_wr, b10, b11, ite_not, ne_eq, Int.reduceEq, Int.reduceLE, Int.reduceLT, Int.reduceNe, Int.reduceNeg, Int.reduceAdd, Int.reduceSub, Int.reduceMul, not_false_eq_true, not_true_eq_false, false_and, and_false, true_and, and_true, and_self, true_or, or_true, false_or, or_false, if_true, if_false, ite_true, ite_false, mj_tl_some, mj_tl_none, mj_cs0, mj_cs1, mj_cs2, mj_cs3, mj_cs4]
        show wp X (d + 60) 312 0 [(32, 354), (0, a1), (0, a2), (0, a3), (9, 0)] [] _ _
        have hc := cs15_0 (v := (n : Int) + 1) (cs16 (i := 3 * (n : Int) + 2) (v := a3) (cs16 (i := 3 * (n : Int) + 1) (v := a2) (cs16 (i := 3 * (n : Int)) (v := a1) h.cs)))
        have c0 := c_354_0 hc
        have l0 := l_355 hc
        simp only [hh_wr, hl_wr, Int.reduceEq, false_and, if_false] at c0 l0
        simp only [w312_0, w312_1, w312_2, w312_5, w312_6, w312_9, w312_11, w312_12, w312_13, w312_14, w312_15, w312_16, w312_17, w312_18, w312_21, w312_24, w312_25, w312_28, w312_30, w312_31, w312_33, w312_36, w312_38, w312_39, w312_41, w312_42, w312_43, w312_46, w312_48, w312_49, w312_50, w312_51, w312_53, w312_54, w312_57, w312_59, w312_60, w312_61, w312_62, w312_65, w312_67, w312_68, w312_69, w312_70, w312_71, w312_72, w312_75, w312_77, w312_78, w312_79, w312_80, w312_81, w312_82, w312_85, w312_87, w312_88, w312_89, w312_90, w312_91, w312_92, w312_93, w312_96, w312_98, w312_99, c0, l0, hm, m_isSaying, hs, hn, hn9, m3l (o := (n : Int)) ⟨by omega, by omega⟩, aj (x := 61) (y := 3 * (n : Int)) ⟨by omega, by omega⟩, aj (x := 61 + 3 * (n : Int)) (y := 1) ⟨by omega, by omega⟩, aj (x := 61 + 3 * (n : Int)) (y := 2) ⟨by omega, by omega⟩, aj (x := (n : Int)) (y := 1) ⟨by omega, by omega⟩, show ¬ (6 : Int) = 61 + 3 * (n : Int) by omega, show ¬ (6 : Int) = 61 + 3 * (n : Int) + 1 by omega, show ¬ (6 : Int) = 61 + 3 * (n : Int) + 2 by omega, show (0 : Int) ≤ 61 + 3 * (n : Int) by omega, show 61 + 3 * (n : Int) < 1691 by omega, show (0 : Int) ≤ 61 + 3 * (n : Int) + 1 by omega, show 61 + 3 * (n : Int) + 1 < 1691 by omega, show (0 : Int) ≤ 61 + 3 * (n : Int) + 2 by omega, show 61 + 3 * (n : Int) + 2 < 1691 by omega, ↓reduceIte, hh_wr, hl_wr, b10, b11, ite_not, ne_eq, Int.reduceEq, Int.reduceLE, Int.reduceLT, Int.reduceNe, Int.reduceNeg, Int.reduceAdd, Int.reduceSub, Int.reduceMul, not_false_eq_true, not_true_eq_false, false_and, and_false, true_and, and_true, and_self, true_or, or_true, false_or, or_false, if_true, if_false, ite_true, ite_false, mj_tl_some, mj_tl_none, mj_cs0, mj_cs1, mj_cs2, mj_cs3, mj_cs4]
        refine ⟨_, rfl, rfl, ?_⟩
        generalize hM2 : mj_wr (mj_wr (mj_wr (mj_wr (mj_wr (mj_wr (mj_wr (mj_wr M 16 (3 * (n : Int)) a1) 16 (3 * (n : Int) + 1) a2) 16 (3 * (n : Int) + 2) a3) 15 0 ((n : Int) + 1)) 355 (61 + 3 * (n : Int)) a1) 355 (61 + 3 * (n : Int) + 1) a2) 355 (61 + 3 * (n : Int) + 2) a3) 355 6 ((n : Int) + 1) = M2
        have K : ∀ x j, x ≠ 16 ∧ (x ≠ 15 ∨ j ≠ 0) ∧ x ≠ 355 → hh M2 x j = hh M x j := by
          intro x j hx
          subst hM2
          simp only [hh_wr, hx.1, show ¬ (x = 15 ∧ j = 0) by omega, hx.2.2, false_and, if_false]
        have q : ∀ j, j ≠ 6 ∧ (j < 61 + 3 * (n : Int) ∨ 63 + 3 * (n : Int) < j) → hh M2 355 j = hh M 355 j := by
          intro j hj
          subst hM2
          simp only [hh_wr, show ¬ j = 61 + 3 * (n : Int) by omega, show ¬ j = 61 + 3 * (n : Int) + 1 by omega, show ¬ j = 61 + 3 * (n : Int) + 2 by omega, hj.1, Int.reduceEq, false_and, and_false, if_false]
        have v0 : hh M2 355 6 = (n : Int) + 1 := by
          subst hM2
          simp only [hh_wr, and_self, if_true]
        have v1 : ∀ k, hh M2 355 (61 + 3 * (n : Int) + k) = if k = 0 then a1 else if k = 1 then a2 else if k = 2 then a3 else if 61 + 3 * (n : Int) + k = 6 then (n : Int) + 1 else hh M 355 (61 + 3 * (n : Int) + k) := by
          intro k
          subst hM2
          simp only [hh_wr, Int.reduceEq, false_and, true_and, if_false]
          repeat' split
          all_goals first | rfl | omega
        have w16 : ∀ i, hh M2 16 i = if i = 3 * (n : Int) + 2 then a3 else if i = 3 * (n : Int) + 1 then a2 else if i = 3 * (n : Int) then a1 else hh M 16 i := by
          intro i
          subst hM2
          simp only [hh_wr, Int.reduceEq, false_and, true_and, if_false]
        have w0 : hh M2 15 0 = (n : Int) + 1 := by
          subst hM2
          simp only [hh_wr, Int.reduceEq, false_and, and_self, if_false, if_true]
        have f : fz [1, 3] M M2 := by
          subst hM2
          exact (((((((fz.rfl'.wr (by rw [z_16]; decide)).wr (by rw [z_16]; decide)).wr (by rw [z_16]; decide)).wr (by decide)).wr (by rw [z_355]; decide)).wr (by rw [z_355]; decide)).wr (by rw [z_355]; decide)).wr (by decide)
        have u1 := v1 0
        have u2 := v1 1
        have u3 := v1 2
        simp only [Int.add_zero, Int.reduceEq, if_true, if_false] at u1 u2 u3
        rw [show 61 + 3 * (n : Int) + 1 = 62 + 3 * (n : Int) by omega] at u2
        rw [show 61 + 3 * (n : Int) + 2 = 63 + 3 * (n : Int) by omega] at u3
        have hs' := hs
        unfold isS at hs'
        simp only [decide_eq_true_eq] at hs'
        clear hM2
        refine h.upd f ?_ ?_ (q 3 (by omega)) (fun j => K 20 j (by omega))
        · exact ⟨((K 6 0 (by omega)).trans (hw.nf.trans (q 0 (by omega)).symm)), (fun i a b => (K 7 i (by omega)).trans ((hw.fk i a b).trans (q (41 + 2 * i) (by omega)).symm)), (fun i a b => (K 8 i (by omega)).trans ((hw.fl i a b).trans (q (42 + 2 * i) (by omega)).symm)), ((hw.now.keep (fun x j a b => Or.inl (K x j (by omega)))).eq (mn_eq hai.now (fun j hj => q j (by omega)))), ((K 5 4 (by omega)).trans (hw.ns.trans (q 2 (by omega)).symm)), (fun i a b => by have := hai.s4; rw [q 2 (by omega)] at b; exact (K 19 i (by omega)).trans ((hw.st i a b).trans (q (57 + i) (by omega)).symm)), ((K 5 6 (by omega)).trans (hw.nt.trans (q 3 (by omega)).symm)), ((K 5 7 (by omega)).trans (hw.ru.trans (q 4 (by omega)).symm)), ((K 5 9 (by omega)).trans (hw.np.trans (q 5 (by omega)).symm)), (by rw [K 5 10 (by omega)]; exact hw.e0), (by rw [K 5 10 (by omega)]; exact hw.e3), (fun i a b => by have := hai.n3; rw [q 5 (by omega)] at b; rw [K 5 10 (by omega)]; exact ((hw.sp i a b).keep (fun x j a b => Or.inl (K x j (by omega)))).eq (ms_eq (hai.sp i a b) ⟨a, by omega⟩ (fun j j1 j2 => q j (by omega)))), (by rw [v0]; exact w0), (fun i a b k c e => by
            show hh M2 16 (3 * i + k) = _
            rw [v0] at b
            rw [w16]
            by_cases g : i = (n : Int)
            · subst g
              rcases (show k = 0 ∨ k = 1 ∨ k = 2 by omega) with rfl | rfl | rfl
              · rw [if_neg (by omega), if_neg (by omega), if_pos (by omega), Int.add_zero, u1]
              · rw [if_neg (by omega), if_pos (by omega), show 61 + 3 * (n : Int) + 1 = 62 + 3 * (n : Int) by omega, u2]
              · rw [if_pos (by omega), show 61 + 3 * (n : Int) + 2 = 63 + 3 * (n : Int) by omega, u3]
            · rw [if_neg (by omega), if_neg (by omega), if_neg (by omega), q _ (by omega)]
              exact hw.d i a (by rw [hn]; omega) k c e), ((K 17 0 (by omega)).trans (hw.ne.trans (q 7 (by omega)).symm)), (fun i a b k c e => by have := hai.e8; rw [q 7 (by omega)] at b; exact (K 18 _ (by omega)).trans ((hw.e i a b k c e).trans (q _ (by omega)).symm))⟩
        · exact ⟨(by rw [q 0 (by omega)]; exact hai.f0), (by rw [q 0 (by omega)]; exact hai.f8), (fun i a b => by rw [q (41 + 2 * i) (by omega)]; exact hai.fk i a b), (fun i a b => by rw [q (42 + 2 * i) (by omega)]; exact hai.fl i a b), (fun i a b => by have := hai.f8; rw [q 0 (by omega)] at b; rw [q (42 + 2 * i) (by omega)]; exact hai.fl1 i a b), (by rw [q 0 (by omega)]; exact hai.now.eq (mn_eq hai.now (fun j hj => q j (by omega)))), (fun p a b => by have h6 : _ ≤ (6 : Int) := hai.now.p6; rw [q 1 (by omega)] at b; have hp5 : p < 6 := Int.lt_of_lt_of_le b h6; rw [q 0 (by omega), q (14 + 5 * p) (by omega), q (15 + 5 * p) (by omega)]; exact hai.tl p a b), (by rw [q 2 (by omega)]; exact hai.s0), (by rw [q 2 (by omega)]; exact hai.s4), (fun i a b => by have := hai.s4; rw [q 2 (by omega)] at b; rw [q (57 + i) (by omega)]; exact hai.st i a b), (by rw [q 3 (by omega)]; exact hai.t0), (by rw [q 3 (by omega)]; exact hai.t4), (by rw [q 4 (by omega)]; exact hai.r0), (by rw [q 4 (by omega), q 3 (by omega)]; exact hai.r4), (by rw [q 5 (by omega)]; exact hai.n0), (by rw [q 5 (by omega)]; exact hai.n3), (fun i a b => by have := hai.n3; rw [q 5 (by omega)] at b; rw [q 0 (by omega)]; exact (hai.sp i a b).eq (ms_eq (hai.sp i a b) ⟨a, by omega⟩ (fun j j1 j2 => q j (by omega)))), (fun i a b => by have := hai.n3; rw [q 5 (by omega)] at b; rw [(ms_eq (hai.sp i a b) ⟨a, by omega⟩ (fun j j1 j2 => q j (by omega))).P, (mnx_eq hai ⟨a, b⟩ (q 5 (by omega)) (fun j j1 j2 => q j (by omega)) (fun j hj => q j (by omega))).P]; exact hai.sm i a b), (fun i a b p c e => by have := hai.n3; rw [q 5 (by omega)] at b; have g := mnx_eq hai ⟨a, b⟩ (q 5 (by omega)) (fun j j1 j2 => q j (by omega)) (fun j hj => q j (by omega)); have g0 := (ms_eq (hai.sp i a b) ⟨a, by omega⟩ (fun j j1 j2 => q j (by omega))).P; rw [g0] at c; rw [g.P] at e; have u0 := (hai.sp i a b).p0; have u6 := (mnx_P hai ⟨a, b⟩).p6; have hp5 : p < 6 := Int.lt_of_lt_of_le e u6; have hp0 : 0 ≤ p := Int.le_trans u0 c; exact (hai.ti i a b p c e).eq g ⟨hp0, e⟩ (q _ (by omega)) (q _ (by omega))), (by rw [v0]; omega), (by rw [v0]; omega), (fun i a b => by
            rw [v0] at b
            by_cases g : i = (n : Int)
            · subst g
              rw [u1, u2, u3]
              exact ⟨hs'.1, hs'.2.1, hs'.2.2.1⟩
            · rw [q (61 + 3 * i) (by omega), q (62 + 3 * i) (by omega), q (63 + 3 * i) (by omega)]
              exact hai.d i a (by rw [hn]; omega)), (by rw [q 7 (by omega)]; exact hai.e0), (by rw [q 7 (by omega)]; exact hai.e8), (fun i a b => by have := hai.e8; rw [q 7 (by omega)] at b; rw [q (85 + 2 * i) (by omega), q (86 + 2 * i) (by omega), q 1 (by omega)]; exact hai.e i a b)⟩
    · simp only [w137_0, w137_1, w137_2, w137_5, w137_6, w137_9, w137_12, w137_15, w137_16, w137_17, w137_18, w137_19, w137_20, w137_23, w137_26, w137_28, w137_29, w137_30, w137_33, w137_36, w137_37, w137_38, w137_39, w137_42, c_isSaying, hm, hs, ↓reduceIte, hh_wr, hl_wr, b10, b11, ite_not, ne_eq, Int.reduceEq, Int.reduceLE, Int.reduceLT, Int.reduceNe, Int.reduceNeg, Int.reduceAdd, Int.reduceSub, Int.reduceMul, not_false_eq_true, not_true_eq_false, false_and, and_false, true_and, and_true, and_self, true_or, or_true, false_or, or_false, if_true, if_false, ite_true, ite_false, mj_tl_some, mj_tl_none, mj_cs0, mj_cs1, mj_cs2, mj_cs3, mj_cs4]
      simp only [Bool.false_eq_true, ↓reduceIte, hh_wr, hl_wr, b10, b11, ite_not, ne_eq, Int.reduceEq, Int.reduceLE, Int.reduceLT, Int.reduceNe, Int.reduceNeg, Int.reduceAdd, Int.reduceSub, Int.reduceMul, not_false_eq_true, not_true_eq_false, false_and, and_false, true_and, and_true, and_self, true_or, or_true, false_or, or_false, if_true, if_false, ite_true, ite_false, mj_tl_some, mj_tl_none, mj_cs0, mj_cs1, mj_cs2, mj_cs3, mj_cs4]
      show wp X (d + 60) 312 0 [(32, 354), (0, a1), (0, a2), (0, a3), (9, 0)] [] _ _
      simp only [w312_0, w312_1, w312_2, w312_5, w312_6, w312_9, w312_11, w312_12, w312_13, w312_14, w312_15, w312_16, w312_17, w312_18, w312_21, w312_24, w312_25, w312_28, w312_30, w312_31, w312_33, w312_36, w312_38, w312_39, w312_41, w312_42, w312_43, w312_46, w312_48, w312_49, w312_50, w312_51, w312_53, w312_54, w312_57, w312_59, w312_60, w312_61, w312_62, w312_65, w312_67, w312_68, w312_69, w312_70, w312_71, w312_72, w312_75, w312_77, w312_78, w312_79, w312_80, w312_81, w312_82, w312_85, w312_87, w312_88, w312_89, w312_90, w312_91, w312_92, w312_93, w312_96, w312_98, w312_99, m_isSaying, hm, hs, ↓reduceIte, hh_wr, hl_wr, b10, b11, ite_not, ne_eq, Int.reduceEq, Int.reduceLE, Int.reduceLT, Int.reduceNe, Int.reduceNeg, Int.reduceAdd, Int.reduceSub, Int.reduceMul, not_false_eq_true, not_true_eq_false, false_and, and_false, true_and, and_true, and_self, true_or, or_true, false_or, or_false, if_true, if_false, ite_true, ite_false, mj_tl_some, mj_tl_none, mj_cs0, mj_cs1, mj_cs2, mj_cs3, mj_cs4]
      simp only [Bool.false_eq_true, ↓reduceIte, hh_wr, hl_wr, b10, b11, ite_not, ne_eq, Int.reduceEq, Int.reduceLE, Int.reduceLT, Int.reduceNe, Int.reduceNeg, Int.reduceAdd, Int.reduceSub, Int.reduceMul, not_false_eq_true, not_true_eq_false, false_and, and_false, true_and, and_true, and_self, true_or, or_true, false_or, or_false, if_true, if_false, ite_true, ite_false, mj_tl_some, mj_tl_none, mj_cs0, mj_cs1, mj_cs2, mj_cs3, mj_cs4]
      exact ⟨_, rfl, rfl, Pst.id h⟩
end Told2
