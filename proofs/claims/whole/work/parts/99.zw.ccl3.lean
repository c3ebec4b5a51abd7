/-! TEXT: the class reads a clause, and all of them -/
abbrev dee (K : Int) : Prop := K = 2 ∨ K = 4 ∨ K = 6 ∨ K = 7 ∨ K = 10 ∨ K = 11 ∨ K = 12
theorem sox_dee {K : Int} (h : dee K) : ∃ s, sox K = s ∧ (2 ≤ s ∧ s ≤ 8) ∧ srt s = K ∧ (s = 8 → K = 12) := by
  rcases h with rfl | rfl | rfl | rfl | rfl | rfl | rfl
  · exact ⟨2, rfl, by decide, rfl, by decide⟩
  · exact ⟨3, rfl, by decide, rfl, by decide⟩
  · exact ⟨4, rfl, by decide, rfl, by decide⟩
  · exact ⟨5, rfl, by decide, rfl, by decide⟩
  · exact ⟨6, rfl, by decide, rfl, by decide⟩
  · exact ⟨7, rfl, by decide, rfl, by decide⟩
  · exact ⟨8, rfl, by decide, rfl, by decide⟩
theorem sox_none {K : Int} (h : ¬ dee K) (h0 : K ≠ 0) (h1 : K ≠ 1) : sox K = -1 := by
  unfold dee at h
  unfold sox
  repeat' split
  all_goals omega
/-- a text up to here: the class's state, and that the reference comes to the same -/
def Sx (X : mj_X) (e : Nat) (T : Int → Int) (L t0 n : Int) (M : mj_M) (a : Int) : Prop := ∃ w c S Lf Ll, CT M T L a n c S Lf Ll ∧ LPr n w c S 0 Lf ∧ LPr n w c S 1 Ll ∧ 0 ≤ w ∧ GT X e T L t0 a n w S Lf Ll
def Fx (X : mj_X) (e : Nat) (T : Int → Int) (L t0 : Int) (M : mj_M) : Prop := ∃ k q, Fl M T L k q ∧ BT X e T L t0 k q
section CCl3
variable {X : mj_X} {D e : Nat} {M : mj_M} {T : Int → Int} {L t0 a c n w k q s : Int} {S : Int → Int → Int} {Lf Ll : Option LD} {Q : Option mj_V → mj_M → Prop}
theorem c_isDeed {x : Int} : wc X D 50 [(0, x)] M Q ↔ Q (some (0, if dee x then 1 else 0)) M := by
  show wp X D 50 0 [(0, x)] [] M Q ↔ _
  simp only [w50_0, w50_1, w50_2, w50_5, w50_6, w50_7, w50_10, w50_11, w50_13, w50_16, w50_17, w50_19, w50_22, w50_23, w50_25, w50_28, w50_29, w50_31, w50_34, w50_35, w50_37, w50_40, w50_41, w50_44, w50_45_i, w50_45_0, w50_45_1, ite_q, ↓reduceIte, hh_wr, hl_wr, b10, b11, ite_not, ne_eq, Int.reduceEq, Int.reduceLE, Int.reduceLT, Int.reduceNe, Int.reduceNeg, Int.reduceAdd, Int.reduceSub, Int.reduceMul, not_false_eq_true, not_true_eq_false, false_and, and_false, true_and, and_true, and_self, true_or, or_true, false_or, or_false, if_true, if_false, ite_true, ite_false, mj_tl_some, mj_tl_none, mj_cs0, mj_cs1, mj_cs2, mj_cs3, mj_cs4]
  refine qe ?_
  unfold dee
  repeat' split
  all_goals first | rfl | omega
theorem c_deed (hD : 7 ≤ D) (h : CP M T L a c) (hn : hh M 351 9 = n) (n0 : 0 ≤ n ∧ n < 24) (hd : dee w) : wc X (D + 1) 67 [(26, 351), (0, w)] M (fun r M1 => r = none ∧ DR T L a c n w M M1) := by
  rcases hd with rfl | rfl | rfl | rfl | rfl | rfl | rfl
  · exact c_deed2 hD h hn n0
  · exact c_deed4 hD h hn n0
  · exact c_deed6 hD h hn n0
  · exact c_deed7 hD h hn n0
  · exact c_deed10 hD h hn n0
  · exact c_deed11 hD h hn n0
  · exact c_deed12 hD h hn n0
/-- behind a clause's body: the stop -/
theorem cl_stopF (hD : 7 ≤ D) {v1 v2 : mj_V} {M0 : mj_M} (h : Fl M T L k q) (r : Cq M0 M) (b : BT X e T L t0 k q) : wp X (D + 1) 49 111 [(26, 351), v1, v2] [] M (fun r M1 => r = none ∧ Cq M0 M1 ∧ ((∃ a', Sx X e T L t0 (n + 1) M1 a') ∨ Fx X e T L t0 M1)) := by
  simp only [w49_111, w49_112, w49_114, ↓reduceIte, hh_wr, hl_wr, b10, b11, ite_not, ne_eq, Int.reduceEq, Int.reduceLE, Int.reduceLT, Int.reduceNe, Int.reduceNeg, Int.reduceAdd, Int.reduceSub, Int.reduceMul, not_false_eq_true, not_true_eq_false, false_and, and_false, true_and, and_true, and_self, true_or, or_true, false_or, or_false, if_true, if_false, ite_true, ite_false, mj_tl_some, mj_tl_none, mj_cs0, mj_cs1, mj_cs2, mj_cs3, mj_cs4]
  refine wc.mono (c_expectF hD h (by decide)) ?_
  rintro r' M1 ⟨rfl, r1, f1⟩
  simp only [w49_117, ↓reduceIte, hh_wr, hl_wr, b10, b11, ite_not, ne_eq, Int.reduceEq, Int.reduceLE, Int.reduceLT, Int.reduceNe, Int.reduceNeg, Int.reduceAdd, Int.reduceSub, Int.reduceMul, not_false_eq_true, not_true_eq_false, false_and, and_false, true_and, and_true, and_self, true_or, or_true, false_or, or_false, if_true, if_false, ite_true, ite_false, mj_tl_some, mj_tl_none, mj_cs0, mj_cs1, mj_cs2, mj_cs3, mj_cs4]
  exact ⟨r.tr r1.q, Or.inr ⟨k, q, f1, b⟩⟩
/-- a law's clause -/
theorem c_claw0 (hD : 75 ≤ D) (h : CT M T L a n c S none Ll) (pf : LPr n w c S 0 none) (pl : LPr n w c S 1 Ll) (w0 : 0 ≤ w) (g : GT X e T L t0 a n w S none Ll) (hk : tK T L a = 0) (n24 : n < 24) {v : mj_V} : wp X (D + 1) 49 90 [(26, 351), (0, 0), (0, 1)] [] M (fun r M1 => r = none ∧ Cq M M1 ∧ ((∃ a', Sx X e T L t0 (n + 1) M1 a') ∨ Fx X e T L t0 M1)) := by
  obtain ⟨D, rfl⟩ : ∃ D', D = D' + 1 := ⟨D - 1, by omega⟩
  have n0 := h.n0
  simp only [w49_90, w49_91, ↓reduceIte, hh_wr, hl_wr, b10, b11, ite_not, ne_eq, Int.reduceEq, Int.reduceLE, Int.reduceLT, Int.reduceNe, Int.reduceNeg, Int.reduceAdd, Int.reduceSub, Int.reduceMul, not_false_eq_true, not_true_eq_false, false_and, and_false, true_and, and_true, and_self, true_or, or_true, false_or, or_false, if_true, if_false, ite_true, ite_false, mj_tl_some, mj_tl_none, mj_cs0, mj_cs1, mj_cs2, mj_cs3, mj_cs4]
  refine wc.mono (c_nxP (by omega) h.p (by omega)) ?_
  rintro r M1 ⟨rfl, k1, p1⟩
  simp only [w49_94, w49_95, w49_98, w49_99, w49_100, ↓reduceIte, hh_wr, hl_wr, b10, b11, ite_not, ne_eq, Int.reduceEq, Int.reduceLE, Int.reduceLT, Int.reduceNe, Int.reduceNeg, Int.reduceAdd, Int.reduceSub, Int.reduceMul, not_false_eq_true, not_true_eq_false, false_and, and_false, true_and, and_true, and_self, true_or, or_true, false_or, or_false, if_true, if_false, ite_true, ite_false, mj_tl_some, mj_tl_none, mj_cs0, mj_cs1, mj_cs2, mj_cs3, mj_cs4]
  refine wc.mono (c_law (e := e) (t0 := t0) (s := 0) (by omega) p1 ((k1.h _ _ (by decide)).trans h.n) ⟨n0.1, n24⟩ (by decide)) ?_
  rintro r M2 ⟨rfl, ⟨a2, cl, rl, f, p2, s2, x2, g2, na2, q2, e1, e2, e3, e4, e5, e6, e7, e8⟩ | ⟨k, q, bd, r2, f2⟩⟩
  · simp only [w49_103, w49_111, w49_112, w49_114, ↓reduceIte, hh_wr, hl_wr, b10, b11, ite_not, ne_eq, Int.reduceEq, Int.reduceLE, Int.reduceLT, Int.reduceNe, Int.reduceNeg, Int.reduceAdd, Int.reduceSub, Int.reduceMul, not_false_eq_true, not_true_eq_false, false_and, and_false, true_and, and_true, and_self, true_or, or_true, false_or, or_false, if_true, if_false, ite_true, ite_false, mj_tl_some, mj_tl_none, mj_cs0, mj_cs1, mj_cs2, mj_cs3, mj_cs4]
    refine wc.mono (c_expect (by omega) p2 (by decide)) ?_
    rintro r M3 ⟨rfl, ⟨hk2, k3, p3⟩ | ⟨hk2, r3, f3⟩⟩
    · simp only [w49_117, ↓reduceIte, hh_wr, hl_wr, b10, b11, ite_not, ne_eq, Int.reduceEq, Int.reduceLE, Int.reduceLT, Int.reduceNe, Int.reduceNeg, Int.reduceAdd, Int.reduceSub, Int.reduceMul, not_false_eq_true, not_true_eq_false, false_and, and_false, true_and, and_true, and_self, true_or, or_true, false_or, or_false, if_true, if_false, ite_true, ite_false, mj_tl_some, mj_tl_none, mj_cs0, mj_cs1, mj_cs2, mj_cs3, mj_cs4]
      have g353 : ∀ j, hh M3 353 j = hh M2 353 j := fun j => k3.h _ _ (by omega)
      have g351 : ∀ j, j = 1 ∨ j = 9 ∨ (13 ≤ j ∧ j ≤ 16) → hh M3 351 j = hh M2 351 j := fun j hj => k3.h _ _ (by omega)
      have b353 : ∀ j, j < c → hh M3 353 j = hh M 353 j := fun j hj => by rw [g353, e4 j hj, k1.h _ _ (by omega)]
      refine ⟨(k1.cr.q.tr q2).tr k3.cr.q, Or.inl ⟨tE T L a2, w + rl.length, c + cl.length, updS S n 0 0 0 0, some (n, w, c, cl, rl, f), Ll, ⟨p3, ?_, ?_, ⟨by omega, by omega⟩, ?_, ?_, ?_⟩, pf.new n0.1 w0 h.p.c0 x2, pl.add (by decide) (by omega) (by omega) n0.1, by omega, gt_law0 g pl hk n24 g2 na2 hk2⟩⟩
      · rw [g351 1 (by omega), e5, k1.h _ _ (by decide)]; exact h.pl
      · rw [g351 9 (by omega)]; exact e3
      · refine (h.cc.keep (fun j hj => ?_)).add (by decide) ?_ (fun q => absurd q (by decide))
        · rw [k3.h _ _ (by omega), e2 j hj, k1.h _ _ (by omega)]
        · rw [k3.h _ _ (by omega), e1]; rfl
      · exact ⟨(g351 13 (by omega)).trans e6, (g351 14 (by omega)).trans e7, s2.keep (fun j _ _ => g353 j)⟩
      · exact (h.ll.keep pl ((g351 15 (by omega)).trans ((e8 15 (by omega)).trans (k1.h _ _ (by decide)))) ((g351 16 (by omega)).trans ((e8 16 (by omega)).trans (k1.h _ _ (by decide)))) (fun j hj => b353 j hj))
    · simp only [w49_117, ↓reduceIte, hh_wr, hl_wr, b10, b11, ite_not, ne_eq, Int.reduceEq, Int.reduceLE, Int.reduceLT, Int.reduceNe, Int.reduceNeg, Int.reduceAdd, Int.reduceSub, Int.reduceMul, not_false_eq_true, not_true_eq_false, false_and, and_false, true_and, and_true, and_self, true_or, or_true, false_or, or_false, if_true, if_false, ite_true, ite_false, mj_tl_some, mj_tl_none, mj_cs0, mj_cs1, mj_cs2, mj_cs3, mj_cs4]
      exact ⟨(k1.cr.q.tr q2).tr r3.q, Or.inr ⟨_, _, f3, bt_lstop0 g hk n24 g2 na2 hk2⟩⟩
  · simp only [w49_103, ↓reduceIte, hh_wr, hl_wr, b10, b11, ite_not, ne_eq, Int.reduceEq, Int.reduceLE, Int.reduceLT, Int.reduceNe, Int.reduceNeg, Int.reduceAdd, Int.reduceSub, Int.reduceMul, not_false_eq_true, not_true_eq_false, false_and, and_false, true_and, and_true, and_self, true_or, or_true, false_or, or_false, if_true, if_false, ite_true, ite_false, mj_tl_some, mj_tl_none, mj_cs0, mj_cs1, mj_cs2, mj_cs3, mj_cs4]
    exact cl_stopF (by omega) f2 (k1.cr.q.tr r2) (bt_law0 g hk n24 bd f2.k0)
/-- a law's clause -/
theorem c_claw1 (hD : 75 ≤ D) (h : CT M T L a n c S Lf none) (pf : LPr n w c S 0 Lf) (pl : LPr n w c S 1 none) (w0 : 0 ≤ w) (g : GT X e T L t0 a n w S Lf none) (hk : tK T L a = 1) (n24 : n < 24) {v : mj_V} : wp X (D + 1) 49 90 [(26, 351), (0, 1), (0, 1)] [] M (fun r M1 => r = none ∧ Cq M M1 ∧ ((∃ a', Sx X e T L t0 (n + 1) M1 a') ∨ Fx X e T L t0 M1)) := by
  obtain ⟨D, rfl⟩ : ∃ D', D = D' + 1 := ⟨D - 1, by omega⟩
  have n0 := h.n0
  simp only [w49_90, w49_91, ↓reduceIte, hh_wr, hl_wr, b10, b11, ite_not, ne_eq, Int.reduceEq, Int.reduceLE, Int.reduceLT, Int.reduceNe, Int.reduceNeg, Int.reduceAdd, Int.reduceSub, Int.reduceMul, not_false_eq_true, not_true_eq_false, false_and, and_false, true_and, and_true, and_self, true_or, or_true, false_or, or_false, if_true, if_false, ite_true, ite_false, mj_tl_some, mj_tl_none, mj_cs0, mj_cs1, mj_cs2, mj_cs3, mj_cs4]
  refine wc.mono (c_nxP (by omega) h.p (by omega)) ?_
  rintro r M1 ⟨rfl, k1, p1⟩
  simp only [w49_94, w49_95, w49_98, w49_99, w49_100, ↓reduceIte, hh_wr, hl_wr, b10, b11, ite_not, ne_eq, Int.reduceEq, Int.reduceLE, Int.reduceLT, Int.reduceNe, Int.reduceNeg, Int.reduceAdd, Int.reduceSub, Int.reduceMul, not_false_eq_true, not_true_eq_false, false_and, and_false, true_and, and_true, and_self, true_or, or_true, false_or, or_false, if_true, if_false, ite_true, ite_false, mj_tl_some, mj_tl_none, mj_cs0, mj_cs1, mj_cs2, mj_cs3, mj_cs4]
  refine wc.mono (c_law (e := e) (t0 := t0) (s := 1) (by omega) p1 ((k1.h _ _ (by decide)).trans h.n) ⟨n0.1, n24⟩ (by decide)) ?_
  rintro r M2 ⟨rfl, ⟨a2, cl, rl, f, p2, s2, x2, g2, na2, q2, e1, e2, e3, e4, e5, e6, e7, e8⟩ | ⟨k, q, bd, r2, f2⟩⟩
  · simp only [w49_103, w49_111, w49_112, w49_114, ↓reduceIte, hh_wr, hl_wr, b10, b11, ite_not, ne_eq, Int.reduceEq, Int.reduceLE, Int.reduceLT, Int.reduceNe, Int.reduceNeg, Int.reduceAdd, Int.reduceSub, Int.reduceMul, not_false_eq_true, not_true_eq_false, false_and, and_false, true_and, and_true, and_self, true_or, or_true, false_or, or_false, if_true, if_false, ite_true, ite_false, mj_tl_some, mj_tl_none, mj_cs0, mj_cs1, mj_cs2, mj_cs3, mj_cs4]
    refine wc.mono (c_expect (by omega) p2 (by decide)) ?_
    rintro r M3 ⟨rfl, ⟨hk2, k3, p3⟩ | ⟨hk2, r3, f3⟩⟩
    · simp only [w49_117, ↓reduceIte, hh_wr, hl_wr, b10, b11, ite_not, ne_eq, Int.reduceEq, Int.reduceLE, Int.reduceLT, Int.reduceNe, Int.reduceNeg, Int.reduceAdd, Int.reduceSub, Int.reduceMul, not_false_eq_true, not_true_eq_false, false_and, and_false, true_and, and_true, and_self, true_or, or_true, false_or, or_false, if_true, if_false, ite_true, ite_false, mj_tl_some, mj_tl_none, mj_cs0, mj_cs1, mj_cs2, mj_cs3, mj_cs4]
      have g353 : ∀ j, hh M3 353 j = hh M2 353 j := fun j => k3.h _ _ (by omega)
      have g351 : ∀ j, j = 1 ∨ j = 9 ∨ (13 ≤ j ∧ j ≤ 16) → hh M3 351 j = hh M2 351 j := fun j hj => k3.h _ _ (by omega)
      have b353 : ∀ j, j < c → hh M3 353 j = hh M 353 j := fun j hj => by rw [g353, e4 j hj, k1.h _ _ (by omega)]
      refine ⟨(k1.cr.q.tr q2).tr k3.cr.q, Or.inl ⟨tE T L a2, w + rl.length, c + cl.length, updS S n 1 0 0 0, Lf, some (n, w, c, cl, rl, f), ⟨p3, ?_, ?_, ⟨by omega, by omega⟩, ?_, ?_, ?_⟩, pf.add (by decide) (by omega) (by omega) n0.1, pl.new n0.1 w0 h.p.c0 x2, by omega, gt_law1 g pf hk n24 g2 na2 hk2⟩⟩
      · rw [g351 1 (by omega), e5, k1.h _ _ (by decide)]; exact h.pl
      · rw [g351 9 (by omega)]; exact e3
      · refine (h.cc.keep (fun j hj => ?_)).add (by decide) ?_ (fun q => absurd q (by decide))
        · rw [k3.h _ _ (by omega), e2 j hj, k1.h _ _ (by omega)]
        · rw [k3.h _ _ (by omega), e1]; rfl
      · exact (h.lf.keep pf ((g351 13 (by omega)).trans ((e8 13 (by omega)).trans (k1.h _ _ (by decide)))) ((g351 14 (by omega)).trans ((e8 14 (by omega)).trans (k1.h _ _ (by decide)))) (fun j hj => b353 j hj))
      · exact ⟨(g351 15 (by omega)).trans e6, (g351 16 (by omega)).trans e7, s2.keep (fun j _ _ => g353 j)⟩
    · simp only [w49_117, ↓reduceIte, hh_wr, hl_wr, b10, b11, ite_not, ne_eq, Int.reduceEq, Int.reduceLE, Int.reduceLT, Int.reduceNe, Int.reduceNeg, Int.reduceAdd, Int.reduceSub, Int.reduceMul, not_false_eq_true, not_true_eq_false, false_and, and_false, true_and, and_true, and_self, true_or, or_true, false_or, or_false, if_true, if_false, ite_true, ite_false, mj_tl_some, mj_tl_none, mj_cs0, mj_cs1, mj_cs2, mj_cs3, mj_cs4]
      exact ⟨(k1.cr.q.tr q2).tr r3.q, Or.inr ⟨_, _, f3, bt_lstop1 g hk n24 g2 na2 hk2⟩⟩
  · simp only [w49_103, ↓reduceIte, hh_wr, hl_wr, b10, b11, ite_not, ne_eq, Int.reduceEq, Int.reduceLE, Int.reduceLT, Int.reduceNe, Int.reduceNeg, Int.reduceAdd, Int.reduceSub, Int.reduceMul, not_false_eq_true, not_true_eq_false, false_and, and_false, true_and, and_true, and_self, true_or, or_true, false_or, or_false, if_true, if_false, ite_true, ite_false, mj_tl_some, mj_tl_none, mj_cs0, mj_cs1, mj_cs2, mj_cs3, mj_cs4]
    exact cl_stopF (by omega) f2 (k1.cr.q.tr r2) (bt_law1 g hk n24 bd f2.k0)
/-- a deed's clause -/
theorem c_cdeed (hD : 75 ≤ D) (h : CT M T L a n c S Lf Ll) (pf : LPr n w c S 0 Lf) (pl : LPr n w c S 1 Ll) (w0 : 0 ≤ w) (g : GT X e T L t0 a n w S Lf Ll) (hd : dee (tK T L a)) (n24 : n < 24) : wp X (D + 1) 49 90 [(26, 351), (0, tK T L a), (0, 0)] [] M (fun r M1 => r = none ∧ Cq M M1 ∧ ((∃ a', Sx X e T L t0 (n + 1) M1 a') ∨ Fx X e T L t0 M1)) := by
  obtain ⟨D, rfl⟩ : ∃ D', D = D' + 1 := ⟨D - 1, by omega⟩
  have n0 := h.n0
  obtain ⟨s, hs, s2, es, e8⟩ := sox_dee hd
  simp only [w49_90, w49_91, ↓reduceIte, hh_wr, hl_wr, b10, b11, ite_not, ne_eq, Int.reduceEq, Int.reduceLE, Int.reduceLT, Int.reduceNe, Int.reduceNeg, Int.reduceAdd, Int.reduceSub, Int.reduceMul, not_false_eq_true, not_true_eq_false, false_and, and_false, true_and, and_true, and_self, true_or, or_true, false_or, or_false, if_true, if_false, ite_true, ite_false, mj_tl_some, mj_tl_none, mj_cs0, mj_cs1, mj_cs2, mj_cs3, mj_cs4]
  refine wc.mono (c_nxP (by omega) h.p (sox_40 hs (by omega))) ?_
  rintro r M1 ⟨rfl, k1, p1⟩
  simp only [w49_94, w49_95, w49_106, w49_107, w49_108, ↓reduceIte, hh_wr, hl_wr, b10, b11, ite_not, ne_eq, Int.reduceEq, Int.reduceLE, Int.reduceLT, Int.reduceNe, Int.reduceNeg, Int.reduceAdd, Int.reduceSub, Int.reduceMul, not_false_eq_true, not_true_eq_false, false_and, and_false, true_and, and_true, and_self, true_or, or_true, false_or, or_false, if_true, if_false, ite_true, ite_false, mj_tl_some, mj_tl_none, mj_cs0, mj_cs1, mj_cs2, mj_cs3, mj_cs4]
  refine wc.mono (c_deed (by omega) p1 ((k1.h _ _ (by decide)).trans h.n) ⟨n0.1, n24⟩ hd) ?_
  rintro r M2 ⟨rfl, ⟨a2, v1, v2, v3, dk, p2, d2⟩ | ⟨k, q, bd, r2, f2⟩⟩
  · simp only [w49_111, w49_112, w49_114, ↓reduceIte, hh_wr, hl_wr, b10, b11, ite_not, ne_eq, Int.reduceEq, Int.reduceLE, Int.reduceLT, Int.reduceNe, Int.reduceNeg, Int.reduceAdd, Int.reduceSub, Int.reduceMul, not_false_eq_true, not_true_eq_false, false_and, and_false, true_and, and_true, and_self, true_or, or_true, false_or, or_false, if_true, if_false, ite_true, ite_false, mj_tl_some, mj_tl_none, mj_cs0, mj_cs1, mj_cs2, mj_cs3, mj_cs4]
    refine wc.mono (c_expect (by omega) p2 (by decide)) ?_
    rintro r M3 ⟨rfl, ⟨hk2, k3, p3⟩ | ⟨hk2, r3, f3⟩⟩
    · simp only [w49_117, ↓reduceIte, hh_wr, hl_wr, b10, b11, ite_not, ne_eq, Int.reduceEq, Int.reduceLE, Int.reduceLT, Int.reduceNe, Int.reduceNeg, Int.reduceAdd, Int.reduceSub, Int.reduceMul, not_false_eq_true, not_true_eq_false, false_and, and_false, true_and, and_true, and_self, true_or, or_true, false_or, or_false, if_true, if_false, ite_true, ite_false, mj_tl_some, mj_tl_none, mj_cs0, mj_cs1, mj_cs2, mj_cs3, mj_cs4]
      have g353 : ∀ j, hh M3 353 j = hh M 353 j := fun j => by rw [k3.h _ _ (by omega), d2.d, k1.h _ _ (by omega)]
      have g351 : ∀ j, j = 1 ∨ (13 ≤ j ∧ j ≤ 16) → hh M3 351 j = hh M 351 j := fun j hj => by rw [k3.h _ _ (by omega), d2.f j (by omega), k1.h _ _ (by omega)]
      have dr := dok_r dk
      refine ⟨(k1.cr.q.tr d2.r).tr k3.cr.q, Or.inl ⟨tE T L a2, w, c, updS S n s v1 v2 v3, Lf, Ll, ⟨p3, (g351 1 (by omega)).trans h.pl, ?_, ⟨by omega, by omega⟩, ?_, h.lf.keep pf (g351 13 (by omega)) (g351 14 (by omega)) (fun j _ => g353 j), h.ll.keep pl (g351 15 (by omega)) (g351 16 (by omega)) (fun j _ => g353 j)⟩, pf.add (by omega) (Int.le_refl _) (Int.le_refl _) n0.1, pl.add (by omega) (Int.le_refl _) (Int.le_refl _) n0.1, w0, gt_deed g pf pl hs s2 n24 (by rw [es]; exact dk) hk2⟩⟩
      · rw [k3.h _ _ (by decide)]; exact d2.n
      · refine (h.cc.keep (fun j hj => ?_)).add ⟨by omega, by omega⟩ ?_ (fun _ => ⟨⟨?_, ?_, ?_⟩, dr.1, fun q => dr.2.1 (e8 q), dr.2.2.1, dr.2.2.2⟩)
        · rw [k3.h _ _ (by omega), d2.k j hj, k1.h _ _ (by omega)]
        · rw [k3.h _ _ (by omega), d2.c0, es]
        · rw [k3.h _ _ (by omega), d2.c1]
        · rw [k3.h _ _ (by omega), d2.c2]
        · rw [k3.h _ _ (by omega), d2.c3]
    · simp only [w49_117, ↓reduceIte, hh_wr, hl_wr, b10, b11, ite_not, ne_eq, Int.reduceEq, Int.reduceLE, Int.reduceLT, Int.reduceNe, Int.reduceNeg, Int.reduceAdd, Int.reduceSub, Int.reduceMul, not_false_eq_true, not_true_eq_false, false_and, and_false, true_and, and_true, and_self, true_or, or_true, false_or, or_false, if_true, if_false, ite_true, ite_false, mj_tl_some, mj_tl_none, mj_cs0, mj_cs1, mj_cs2, mj_cs3, mj_cs4]
      exact ⟨(k1.cr.q.tr d2.r).tr r3.q, Or.inr ⟨_, _, f3, bt_stop g hs s2 n24 (by rw [es]; exact dk) hk2⟩⟩
  · rw [mj_tl_none]
    exact cl_stopF (by omega) f2 (k1.cr.q.tr r2) (bt_deed g hs s2 n24 (by rw [es]; exact bd))
theorem c_clause (hD : 75 ≤ D) (h : CT M T L a n c S Lf Ll) (pf : LPr n w c S 0 Lf) (pl : LPr n w c S 1 Ll) (w0 : 0 ≤ w) (g : GT X e T L t0 a n w S Lf Ll) (hk : tK T L a ≠ 40) : wc X (D + 1) 49 [(26, 351)] M (fun r M1 => r = none ∧ Cq M M1 ∧ ((∃ a', Sx X e T L t0 (n + 1) M1 a') ∨ Fx X e T L t0 M1) ∧ (n = 24 → Fx X e T L t0 M1)) := by
  show wp X (D + 1) 49 0 [(26, 351), (9, 0), (9, 0)] [] M _
  have n0 := h.n0
  have fin : ∀ (M1 : mj_M) (k : Int), Cr M M1 → Fl M1 T L k (tS T L a) → BT X e T L t0 k (tS T L a) → (Cq M M1 ∧ ((∃ a', Sx X e T L t0 (n + 1) M1 a') ∨ Fx X e T L t0 M1) ∧ (n = 24 → Fx X e T L t0 M1)) := fun M1 k r f b => ⟨r.q, Or.inr ⟨k, _, f, b⟩, fun _ => ⟨k, _, f, b⟩⟩
  have up : ∀ (pc : Nat) (ls : List mj_V), n < 24 → wp X (D + 1) 49 pc ls [] M (fun r M1 => r = none ∧ Cq M M1 ∧ ((∃ a', Sx X e T L t0 (n + 1) M1 a') ∨ Fx X e T L t0 M1)) → wp X (D + 1) 49 pc ls [] M (fun r M1 => r = none ∧ Cq M M1 ∧ ((∃ a', Sx X e T L t0 (n + 1) M1 a') ∨ Fx X e T L t0 M1) ∧ (n = 24 → Fx X e T L t0 M1)) := fun pc ls q h1 => wp.mono h1 (fun r M1 x => ⟨x.1, x.2.1, x.2.2, fun y => absurd y (by omega)⟩)
  by_cases k0 : tK T L a = 0
  · cases Lf with
    | some x =>
      obtain ⟨x1, x2, x3, x4, x5, x6⟩ := x
      have e13 : hh M 351 13 = x3 := h.lf.1
      have ne : ¬ x3 = -1 := by have := pf.2.2.2.2.2.1; omega
      simp only [w49_0, w49_1, w49_4, w49_5, w49_6, w49_9, w49_10, w49_11, w49_14, w49_15, w49_18, w49_19, w49_20, w49_21, w49_39, w49_40, w49_43, w49_44, w49_47, w49_48, w49_64, w49_65, w49_66, h.p.e6, k0, e13, ne, ↓reduceIte, hh_wr, hl_wr, b10, b11, ite_not, ne_eq, Int.reduceEq, Int.reduceLE, Int.reduceLT, Int.reduceNe, Int.reduceNeg, Int.reduceAdd, Int.reduceSub, Int.reduceMul, not_false_eq_true, not_true_eq_false, false_and, and_false, true_and, and_true, and_self, true_or, or_true, false_or, or_false, if_true, if_false, ite_true, ite_false, mj_tl_some, mj_tl_none, mj_cs0, mj_cs1, mj_cs2, mj_cs3, mj_cs4]
      refine wc.mono (c_fail h.p (by decide)) ?_
      rintro r M1 ⟨rfl, r1, f1⟩
      simp only [w49_69, w49_117, ↓reduceIte, hh_wr, hl_wr, b10, b11, ite_not, ne_eq, Int.reduceEq, Int.reduceLE, Int.reduceLT, Int.reduceNe, Int.reduceNeg, Int.reduceAdd, Int.reduceSub, Int.reduceMul, not_false_eq_true, not_true_eq_false, false_and, and_false, true_and, and_true, and_self, true_or, or_true, false_or, or_false, if_true, if_false, ite_true, ite_false, mj_tl_some, mj_tl_none, mj_cs0, mj_cs1, mj_cs2, mj_cs3, mj_cs4]
      exact fin M1 4 r1 f1 (bt_dup0 g k0 (by intro q; cases q))
    | none =>
      have e13 : hh M 351 13 = -1 := h.lf
      by_cases n24 : n < 24
      · simp only [w49_0, w49_1, w49_4, w49_5, w49_6, w49_9, w49_10, w49_11, w49_14, w49_15, w49_18, w49_19, w49_20, w49_21, w49_39, w49_40, w49_43, w49_44, w49_47, w49_48, w49_51, w49_52, w49_53, w49_72, w49_73, w49_76, w49_78, h.p.e6, k0, e13, h.n, n24, ↓reduceIte, hh_wr, hl_wr, b10, b11, ite_not, ne_eq, Int.reduceEq, Int.reduceLE, Int.reduceLT, Int.reduceNe, Int.reduceNeg, Int.reduceAdd, Int.reduceSub, Int.reduceMul, not_false_eq_true, not_true_eq_false, false_and, and_false, true_and, and_true, and_self, true_or, or_true, false_or, or_false, if_true, if_false, ite_true, ite_false, mj_tl_some, mj_tl_none, mj_cs0, mj_cs1, mj_cs2, mj_cs3, mj_cs4]
        exact up _ _ n24 (c_claw0 hD h pf pl w0 g k0 n24 (v := (9, 0)))
      · have e24 : n = 24 := by omega
        subst e24
        simp only [w49_0, w49_1, w49_4, w49_5, w49_6, w49_9, w49_10, w49_11, w49_14, w49_15, w49_18, w49_19, w49_20, w49_21, w49_39, w49_40, w49_43, w49_44, w49_47, w49_48, w49_51, w49_52, w49_53, w49_72, w49_73, w49_76, w49_78, w49_81, w49_82, w49_84, h.p.e6, k0, e13, h.n, ↓reduceIte, hh_wr, hl_wr, b10, b11, ite_not, ne_eq, Int.reduceEq, Int.reduceLE, Int.reduceLT, Int.reduceNe, Int.reduceNeg, Int.reduceAdd, Int.reduceSub, Int.reduceMul, not_false_eq_true, not_true_eq_false, false_and, and_false, true_and, and_true, and_self, true_or, or_true, false_or, or_false, if_true, if_false, ite_true, ite_false, mj_tl_some, mj_tl_none, mj_cs0, mj_cs1, mj_cs2, mj_cs3, mj_cs4]
        refine wc.mono (c_fail h.p (by decide)) ?_
        rintro r M1 ⟨rfl, r1, f1⟩
        simp only [w49_87, w49_117, ↓reduceIte, hh_wr, hl_wr, b10, b11, ite_not, ne_eq, Int.reduceEq, Int.reduceLE, Int.reduceLT, Int.reduceNe, Int.reduceNeg, Int.reduceAdd, Int.reduceSub, Int.reduceMul, not_false_eq_true, not_true_eq_false, false_and, and_false, true_and, and_true, and_self, true_or, or_true, false_or, or_false, if_true, if_false, ite_true, ite_false, mj_tl_some, mj_tl_none, mj_cs0, mj_cs1, mj_cs2, mj_cs3, mj_cs4]
        exact (fin M1 6 r1 f1 (bt_full (s := 0) g (by rw [k0]; rfl) (by decide) (fun _ => rfl) (fun q => absurd q (by decide)))).imp id (fun x => ⟨x.1, fun _ => x.2 rfl⟩)
  · by_cases k1 : tK T L a = 1
    · cases Ll with
      | some x =>
        obtain ⟨x1, x2, x3, x4, x5, x6⟩ := x
        have e15 : hh M 351 15 = x3 := h.ll.1
        have ne : ¬ x3 = -1 := by have := pl.2.2.2.2.2.1; omega
        simp only [w49_0, w49_1, w49_4, w49_5, w49_6, w49_9, w49_10, w49_11, w49_14, w49_15, w49_18, w49_19, w49_20, w49_21, w49_39, w49_40, w49_43, w49_44, w49_47, w49_48, w49_51, w49_52, w49_53, w49_56, w49_57, w49_60, w49_61, w49_64, w49_65, w49_66, h.p.e6, k1, e15, ne, ↓reduceIte, hh_wr, hl_wr, b10, b11, ite_not, ne_eq, Int.reduceEq, Int.reduceLE, Int.reduceLT, Int.reduceNe, Int.reduceNeg, Int.reduceAdd, Int.reduceSub, Int.reduceMul, not_false_eq_true, not_true_eq_false, false_and, and_false, true_and, and_true, and_self, true_or, or_true, false_or, or_false, if_true, if_false, ite_true, ite_false, mj_tl_some, mj_tl_none, mj_cs0, mj_cs1, mj_cs2, mj_cs3, mj_cs4]
        refine wc.mono (c_fail h.p (by decide)) ?_
        rintro r M1 ⟨rfl, r1, f1⟩
        simp only [w49_69, w49_117, ↓reduceIte, hh_wr, hl_wr, b10, b11, ite_not, ne_eq, Int.reduceEq, Int.reduceLE, Int.reduceLT, Int.reduceNe, Int.reduceNeg, Int.reduceAdd, Int.reduceSub, Int.reduceMul, not_false_eq_true, not_true_eq_false, false_and, and_false, true_and, and_true, and_self, true_or, or_true, false_or, or_false, if_true, if_false, ite_true, ite_false, mj_tl_some, mj_tl_none, mj_cs0, mj_cs1, mj_cs2, mj_cs3, mj_cs4]
        exact fin M1 4 r1 f1 (bt_dup1 g k1 (by intro q; cases q))
      | none =>
        have e15 : hh M 351 15 = -1 := h.ll
        by_cases n24 : n < 24
        · simp only [w49_0, w49_1, w49_4, w49_5, w49_6, w49_9, w49_10, w49_11, w49_14, w49_15, w49_18, w49_19, w49_20, w49_21, w49_39, w49_40, w49_43, w49_44, w49_47, w49_48, w49_51, w49_52, w49_53, w49_56, w49_57, w49_60, w49_61, w49_72, w49_73, w49_76, w49_78, h.p.e6, k1, e15, h.n, n24, ↓reduceIte, hh_wr, hl_wr, b10, b11, ite_not, ne_eq, Int.reduceEq, Int.reduceLE, Int.reduceLT, Int.reduceNe, Int.reduceNeg, Int.reduceAdd, Int.reduceSub, Int.reduceMul, not_false_eq_true, not_true_eq_false, false_and, and_false, true_and, and_true, and_self, true_or, or_true, false_or, or_false, if_true, if_false, ite_true, ite_false, mj_tl_some, mj_tl_none, mj_cs0, mj_cs1, mj_cs2, mj_cs3, mj_cs4]
          exact up _ _ n24 (c_claw1 hD h pf pl w0 g k1 n24 (v := (9, 0)))
        · have e24 : n = 24 := by omega
          subst e24
          simp only [w49_0, w49_1, w49_4, w49_5, w49_6, w49_9, w49_10, w49_11, w49_14, w49_15, w49_18, w49_19, w49_20, w49_21, w49_39, w49_40, w49_43, w49_44, w49_47, w49_48, w49_51, w49_52, w49_53, w49_56, w49_57, w49_60, w49_61, w49_72, w49_73, w49_76, w49_78, w49_81, w49_82, w49_84, h.p.e6, k1, e15, h.n, ↓reduceIte, hh_wr, hl_wr, b10, b11, ite_not, ne_eq, Int.reduceEq, Int.reduceLE, Int.reduceLT, Int.reduceNe, Int.reduceNeg, Int.reduceAdd, Int.reduceSub, Int.reduceMul, not_false_eq_true, not_true_eq_false, false_and, and_false, true_and, and_true, and_self, true_or, or_true, false_or, or_false, if_true, if_false, ite_true, ite_false, mj_tl_some, mj_tl_none, mj_cs0, mj_cs1, mj_cs2, mj_cs3, mj_cs4]
          refine wc.mono (c_fail h.p (by decide)) ?_
          rintro r M1 ⟨rfl, r1, f1⟩
          simp only [w49_87, w49_117, ↓reduceIte, hh_wr, hl_wr, b10, b11, ite_not, ne_eq, Int.reduceEq, Int.reduceLE, Int.reduceLT, Int.reduceNe, Int.reduceNeg, Int.reduceAdd, Int.reduceSub, Int.reduceMul, not_false_eq_true, not_true_eq_false, false_and, and_false, true_and, and_true, and_self, true_or, or_true, false_or, or_false, if_true, if_false, ite_true, ite_false, mj_tl_some, mj_tl_none, mj_cs0, mj_cs1, mj_cs2, mj_cs3, mj_cs4]
          exact (fin M1 6 r1 f1 (bt_full (s := 1) g (by rw [k1]; rfl) (by decide) (fun q => absurd q (by decide)) (fun _ => rfl))).imp id (fun x => ⟨x.1, fun _ => x.2 rfl⟩)
    · by_cases hd : dee (tK T L a)
      · obtain ⟨s, hs, s2, es, e8⟩ := sox_dee hd
        by_cases n24 : n < 24
        · simp only [w49_0, w49_1, w49_4, w49_5, w49_6, w49_9, w49_10, w49_11, w49_14, w49_15, w49_18, w49_19, w49_20, w49_21, w49_24, w49_25, w49_28, w49_39, w49_40, w49_51, w49_52, w49_53, w49_72, w49_73, w49_76, w49_78, h.p.e6, k0, k1, c_isDeed, hd, h.n, n24, ↓reduceIte, hh_wr, hl_wr, b10, b11, ite_not, ne_eq, Int.reduceEq, Int.reduceLE, Int.reduceLT, Int.reduceNe, Int.reduceNeg, Int.reduceAdd, Int.reduceSub, Int.reduceMul, not_false_eq_true, not_true_eq_false, false_and, and_false, true_and, and_true, and_self, true_or, or_true, false_or, or_false, if_true, if_false, ite_true, ite_false, mj_tl_some, mj_tl_none, mj_cs0, mj_cs1, mj_cs2, mj_cs3, mj_cs4]
          exact up _ _ n24 (c_cdeed hD h pf pl w0 g hd n24)
        · have e24 : n = 24 := by omega
          subst e24
          simp only [w49_0, w49_1, w49_4, w49_5, w49_6, w49_9, w49_10, w49_11, w49_14, w49_15, w49_18, w49_19, w49_20, w49_21, w49_24, w49_25, w49_28, w49_39, w49_40, w49_51, w49_52, w49_53, w49_72, w49_73, w49_76, w49_78, w49_81, w49_82, w49_84, h.p.e6, k0, k1, c_isDeed, hd, h.n, ↓reduceIte, hh_wr, hl_wr, b10, b11, ite_not, ne_eq, Int.reduceEq, Int.reduceLE, Int.reduceLT, Int.reduceNe, Int.reduceNeg, Int.reduceAdd, Int.reduceSub, Int.reduceMul, not_false_eq_true, not_true_eq_false, false_and, and_false, true_and, and_true, and_self, true_or, or_true, false_or, or_false, if_true, if_false, ite_true, ite_false, mj_tl_some, mj_tl_none, mj_cs0, mj_cs1, mj_cs2, mj_cs3, mj_cs4]
          refine wc.mono (c_fail h.p (by decide)) ?_
          rintro r M1 ⟨rfl, r1, f1⟩
          simp only [w49_87, w49_117, ↓reduceIte, hh_wr, hl_wr, b10, b11, ite_not, ne_eq, Int.reduceEq, Int.reduceLE, Int.reduceLT, Int.reduceNe, Int.reduceNeg, Int.reduceAdd, Int.reduceSub, Int.reduceMul, not_false_eq_true, not_true_eq_false, false_and, and_false, true_and, and_true, and_self, true_or, or_true, false_or, or_false, if_true, if_false, ite_true, ite_false, mj_tl_some, mj_tl_none, mj_cs0, mj_cs1, mj_cs2, mj_cs3, mj_cs4]
          exact (fin M1 6 r1 f1 (bt_full g hs (by omega) (fun q => by omega) (fun q => by omega))).imp id (fun x => ⟨x.1, fun _ => x.2 rfl⟩)
      · simp only [w49_0, w49_1, w49_4, w49_5, w49_6, w49_9, w49_10, w49_11, w49_14, w49_15, w49_18, w49_19, w49_20, w49_21, w49_24, w49_25, w49_28, w49_31, w49_32, w49_33, h.p.e6, k0, k1, c_isDeed, hd, ↓reduceIte, hh_wr, hl_wr, b10, b11, ite_not, ne_eq, Int.reduceEq, Int.reduceLE, Int.reduceLT, Int.reduceNe, Int.reduceNeg, Int.reduceAdd, Int.reduceSub, Int.reduceMul, not_false_eq_true, not_true_eq_false, false_and, and_false, true_and, and_true, and_self, true_or, or_true, false_or, or_false, if_true, if_false, ite_true, ite_false, mj_tl_some, mj_tl_none, mj_cs0, mj_cs1, mj_cs2, mj_cs3, mj_cs4]
        refine wc.mono (c_fail h.p (by decide)) ?_
        rintro r M1 ⟨rfl, r1, f1⟩
        simp only [w49_36, w49_117, ↓reduceIte, hh_wr, hl_wr, b10, b11, ite_not, ne_eq, Int.reduceEq, Int.reduceLE, Int.reduceLT, Int.reduceNe, Int.reduceNeg, Int.reduceAdd, Int.reduceSub, Int.reduceMul, not_false_eq_true, not_true_eq_false, false_and, and_false, true_and, and_true, and_self, true_or, or_true, false_or, or_false, if_true, if_false, ite_true, ite_false, mj_tl_some, mj_tl_none, mj_cs0, mj_cs1, mj_cs2, mj_cs3, mj_cs4]
        exact fin M1 1 r1 f1 (bt_none g hk (sox_none hd k0 k1))
end CCl3
