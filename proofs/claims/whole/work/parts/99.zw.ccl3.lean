/-! TEXT: the class reads a clause, and all of them -/
abbrev dee (K : Int) : Prop := K = 2 ∨ K = 4 ∨ K = 6 ∨ K = 7 ∨ K = 10 ∨ K = 11 ∨ K = 12
theorem sox_dee {K : Int} (h : dee K) : ∃ s, sox K = s ∧ (2 ≤ s ∧ s ≤ 8) ∧ srt s = K ∧ (s = 8 → K = 12) := by
  rcases h with rfl | rfl | rfl | rfl | rfl | rfl | rfl
  · exact ⟨2, rfl, by decide, rfl, by decide⟩
  · exact ⟨3, rfl, by decide, rfl, by decide⟩
  · exact ⟨4, rfl, by decide, rfl, by decide⟩
  · exact ⟨5, rfl, by decide, rfl, by decide⟩
  · exact ⟨6, rfl, by decide, rfl, by decide⟩
  · exact ⟨7, rfl, by decide, rfl, by decide⟩
  · exact ⟨8, rfl, by decide, rfl, by decide⟩
theorem sox_none {K : Int} (h : ¬ dee K) (h0 : K ≠ 0) (h1 : K ≠ 1) : sox K = -1 := by
  unfold dee at h
  unfold sox
  repeat' split
  all_goals omega
/-- a text up to here: the class's state, and that the reference comes to the same -/
def Sx (X : mj_X) (e : Nat) (T : Int → Int) (L t0 n : Int) (M : mj_M) (a : Int) : Prop := ∃ w c S Lf Ll, CT M T L a n c S Lf Ll ∧ LPr n w c S 0 Lf ∧ LPr n w c S 1 Ll ∧ 0 ≤ w ∧ GT X e T L t0 a n w S Lf Ll
def Fx (X : mj_X) (e : Nat) (T : Int → Int) (L t0 : Int) (M : mj_M) : Prop := ∃ k q, Fl M T L k q ∧ BT X e T L t0 k q
section CCl3
variable {X : mj_X} {D e : Nat} {M : mj_M} {T : Int → Int} {L t0 a c n w k q s : Int} {S : Int → Int → Int} {Lf Ll : Option LD} {Q : Option mj_V → mj_M → Prop}
theorem c_isDeed {x : Int} : wc X D 50 [(0, x)] M Q ↔ Q (some (0, if dee x then 1 else 0)) M := by
  show wp X D 50 0 [(0, x)] [] M Q ↔ _
  simp only [w50_0, w50_1, w50_2, w50_5, w50_6, w50_7, w50_10, w50_11, w50_13, w50_16, w50_17, w50_19, w50_22, w50_23, w50_25, w50_28, w50_29, w50_31, w50_34, w50_35, w50_37, w50_40, w50_41, w50_44, w50_45_i, w50_45_0, w50_45_1, ite_q, ↓reduceIte, hh_wr, hl_wr, b10, b11, ite_not, ne_eq, Int.reduceEq, Int.reduceLE, Int.reduceLT, Int.reduceNe, Int.reduceNeg, Int.reduceAdd, Int.reduceSub, Int.reduceMul, not_false_eq_true, not_true_eq_false, false_and, and_false, true_and, and_true, and_self, true_or, or_true, false_or, or_false, if_true, if_false, ite_true, ite_false, mj_tl_some, mj_tl_none, mj_cs0, mj_cs1, mj_cs2, mj_cs3, mj_cs4]
  refine qe ?_
  unfold dee
  repeat' split
  all_goals first | rfl | omega
theorem c_deed (hD : 7 ≤ D) (h : CP M T L a c) (hk : tK T L a ≠ 40) (hn : hh M 351 9 = n) (n0 : 0 ≤ n ∧ n < 24) (hd : dee w) : wc X (D + 1) 67 [(26, 351), (0, w)] M (fun r M1 => r = none ∧ DR T L (tE T L a) c n w M M1) := by
  show wp X (D + 1) 67 0 [(26, 351), (0, w), (9, 0), (9, 0), (9, 0)] [] M _
  simp only [w67_0, w67_1, w67_2, w67_3, w67_4, w67_5, w67_7, w67_8, ↓reduceIte, hh_wr, hl_wr, b10, b11, ite_not, ne_eq, Int.reduceEq, Int.reduceLE, Int.reduceLT, Int.reduceNe, Int.reduceNeg, Int.reduceAdd, Int.reduceSub, Int.reduceMul, not_false_eq_true, not_true_eq_false, false_and, and_false, true_and, and_true, and_self, true_or, or_true, false_or, or_false, if_true, if_false, ite_true, ite_false, mj_tl_some, mj_tl_none, mj_cs0, mj_cs1, mj_cs2, mj_cs3, mj_cs4]
  refine wc.mono (c_nxP (by omega) h hk) ?_
  rintro r M1 ⟨rfl, k1, p1⟩
  rw [mj_tl_none]
  have hn1 : hh M1 351 9 = n := (k1.h _ _ (by decide)).trans hn
  have go : wp X (D + 1) 67 11 [(26, 351), (0, w), (0, 0), (0, 0), (0, 0)] [] M1 (fun r M2 => r = none ∧ DR T L (tE T L a) c n w M1 M2) := by
    rcases hd with rfl | rfl | rfl | rfl | rfl | rfl | rfl
    · exact c_deed2 hD p1 hn1 n0
    · exact c_deed4 hD p1 hn1 n0
    · exact c_deed6 hD p1 hn1 n0
    · exact c_deed7 hD p1 hn1 n0
    · exact c_deed10 hD p1 hn1 n0
    · exact c_deed11 hD p1 hn1 n0
    · exact c_deed12 hD p1 hn1 n0
  refine wp.mono go ?_
  rintro r M2 ⟨rfl, d2⟩
  exact ⟨rfl, DR.ko k1 d2⟩
/-- behind a clause -/
def Cx (X : mj_X) (e : Nat) (T : Int → Int) (L t0 n : Int) (M M1 : mj_M) : Prop := Cq M M1 ∧ ((∃ a', Sx X e T L t0 (n + 1) M1 a') ∨ Fx X e T L t0 M1)
/-- a law's clause -/
theorem c_claw0 (hD : 75 ≤ D) (h : CT M T L a n c S none Ll) (pf : LPr n w c S 0 none) (pl : LPr n w c S 1 Ll) (w0 : 0 ≤ w) (g : GT X e T L t0 a n w S none Ll) (hk : tK T L a = 0) (n24 : n < 24) : wc X D 52 [(26, 351), (0, 0)] M (fun r M1 => r = none ∧ Cx X e T L t0 n M M1) := by
  obtain ⟨D, rfl⟩ : ∃ D', D = D' + 1 := ⟨D - 1, by omega⟩
  have n0 := h.n0
  refine wc.mono (c_law (e := e) (t0 := t0) (s := 0) (by omega) h.p (by omega) h.n ⟨n0.1, n24⟩ (by decide)) ?_
  rintro r M2 ⟨rfl, ⟨a2, cl, rl, f, p2, s2, x2, g2, na2, q2, e1, e2, e3, e4, e5, e6, e7, e8, hk2⟩ | ⟨a2, rl, g2, na2, hk2, r2, f2⟩ | ⟨k, q, bd, r2, f2⟩⟩
  · refine ⟨rfl, q2, Or.inl ⟨tE T L a2, w + rl.length, c + cl.length, updS S n 0 0 0 0, some (n, w, c, cl, rl, f), Ll, ⟨p2, ?_, e3, ⟨by omega, by omega⟩, ?_, ?_, ?_⟩, pf.new n0.1 w0 h.p.c0 x2, pl.add (by decide) (by omega) (by omega) n0.1, by omega, gt_law0 g pl hk n24 g2 na2 hk2⟩⟩
    · rw [e5]; exact h.pl
    · refine (h.cc.keep (fun j hj => ?_)).add (by decide) ?_ (fun q => absurd q (by decide))
      · exact e2 j hj
      · rw [e1]; rfl
    · exact ⟨e6, e7, s2⟩
    · exact h.ll.keep pl (e8 15 (by omega)) (e8 16 (by omega)) (fun j hj => e4 j hj)
  · exact ⟨rfl, r2, Or.inr ⟨_, _, f2, bt_lstop0 g hk n24 g2 na2 hk2⟩⟩
  · exact ⟨rfl, r2, Or.inr ⟨_, _, f2, bt_law0 g hk n24 bd f2.k0⟩⟩
/-- a law's clause -/
theorem c_claw1 (hD : 75 ≤ D) (h : CT M T L a n c S Lf none) (pf : LPr n w c S 0 Lf) (pl : LPr n w c S 1 none) (w0 : 0 ≤ w) (g : GT X e T L t0 a n w S Lf none) (hk : tK T L a = 1) (n24 : n < 24) : wc X D 52 [(26, 351), (0, 1)] M (fun r M1 => r = none ∧ Cx X e T L t0 n M M1) := by
  obtain ⟨D, rfl⟩ : ∃ D', D = D' + 1 := ⟨D - 1, by omega⟩
  have n0 := h.n0
  refine wc.mono (c_law (e := e) (t0 := t0) (s := 1) (by omega) h.p (by omega) h.n ⟨n0.1, n24⟩ (by decide)) ?_
  rintro r M2 ⟨rfl, ⟨a2, cl, rl, f, p2, s2, x2, g2, na2, q2, e1, e2, e3, e4, e5, e6, e7, e8, hk2⟩ | ⟨a2, rl, g2, na2, hk2, r2, f2⟩ | ⟨k, q, bd, r2, f2⟩⟩
  · refine ⟨rfl, q2, Or.inl ⟨tE T L a2, w + rl.length, c + cl.length, updS S n 1 0 0 0, Lf, some (n, w, c, cl, rl, f), ⟨p2, ?_, e3, ⟨by omega, by omega⟩, ?_, ?_, ?_⟩, pf.add (by decide) (by omega) (by omega) n0.1, pl.new n0.1 w0 h.p.c0 x2, by omega, gt_law1 g pf hk n24 g2 na2 hk2⟩⟩
    · rw [e5]; exact h.pl
    · refine (h.cc.keep (fun j hj => ?_)).add (by decide) ?_ (fun q => absurd q (by decide))
      · exact e2 j hj
      · rw [e1]; rfl
    · exact h.lf.keep pf (e8 13 (by omega)) (e8 14 (by omega)) (fun j hj => e4 j hj)
    · exact ⟨e6, e7, s2⟩
  · exact ⟨rfl, r2, Or.inr ⟨_, _, f2, bt_lstop1 g hk n24 g2 na2 hk2⟩⟩
  · exact ⟨rfl, r2, Or.inr ⟨_, _, f2, bt_law1 g hk n24 bd f2.k0⟩⟩
/-- a deed's clause -/
theorem c_cdeed (hD : 75 ≤ D) (h : CT M T L a n c S Lf Ll) (pf : LPr n w c S 0 Lf) (pl : LPr n w c S 1 Ll) (w0 : 0 ≤ w) (g : GT X e T L t0 a n w S Lf Ll) (hd : dee (tK T L a)) (n24 : n < 24) : wc X D 67 [(26, 351), (0, tK T L a)] M (fun r M1 => r = none ∧ Cx X e T L t0 n M M1) := by
  obtain ⟨D, rfl⟩ : ∃ D', D = D' + 1 := ⟨D - 1, by omega⟩
  have n0 := h.n0
  obtain ⟨s, hs, s2, es, e8⟩ := sox_dee hd
  refine wc.mono (c_deed (by omega) h.p (sox_40 hs (by omega)) h.n ⟨n0.1, n24⟩ hd) ?_
  rintro r M2 ⟨rfl, ⟨a2, v1, v2, v3, dk, ⟨hk2, p2, d2⟩ | ⟨hk2, r2, f2⟩⟩ | ⟨k, q, bd, r2, f2⟩⟩
  · have g351 : ∀ j, j = 1 ∨ (13 ≤ j ∧ j ≤ 16) → hh M2 351 j = hh M 351 j := fun j hj => d2.f j (by omega)
    have dr := dok_r dk
    refine ⟨rfl, d2.r, Or.inl ⟨tE T L a2, w, c, updS S n s v1 v2 v3, Lf, Ll, ⟨p2, (g351 1 (by omega)).trans h.pl, d2.n, ⟨by omega, by omega⟩, ?_, h.lf.keep pf (g351 13 (by omega)) (g351 14 (by omega)) (fun j _ => d2.d j), h.ll.keep pl (g351 15 (by omega)) (g351 16 (by omega)) (fun j _ => d2.d j)⟩, pf.add (by omega) (Int.le_refl _) (Int.le_refl _) n0.1, pl.add (by omega) (Int.le_refl _) (Int.le_refl _) n0.1, w0, gt_deed g pf pl hs s2 n24 (by rw [es]; exact dk) hk2⟩⟩
    refine (h.cc.keep (fun j hj => d2.k j hj)).add ⟨by omega, by omega⟩ (by rw [d2.c0, es]) (fun _ => ⟨⟨d2.c1, d2.c2, d2.c3⟩, dr.1, fun q => dr.2.1 (e8 q), dr.2.2.1, dr.2.2.2⟩)
  · exact ⟨rfl, r2, Or.inr ⟨_, _, f2, bt_stop g hs s2 n24 (by rw [es]; exact dk) hk2⟩⟩
  · exact ⟨rfl, r2, Or.inr ⟨_, _, f2, bt_deed g hs s2 n24 (by rw [es]; exact bd)⟩⟩
/-- the fault of a clause's first token -/
def wrg (x f l n : Int) : Int := if x = 0 then (if f = -1 then (if n < 24 then 0 else 6) else 4) else if x = 1 then (if l = -1 then (if n < 24 then 0 else 6) else 4) else if dee x then (if n < 24 then 0 else 6) else 1
theorem c_wrong {x r : Int} (hr : wrg x (hh M 351 13) (hh M 351 15) (hh M 351 9) = r) (hq : Q (some (0, r)) M) : wc X (D + 1) 49 [(26, 351), (0, x)] M Q := by
  show wp X (D + 1) 49 0 [(26, 351), (0, x)] [] M Q
  subst hr
  unfold wrg at hq
  by_cases x0 : x = 0
  · subst x0
    rw [if_pos rfl] at hq
    by_cases f1 : hh M 351 13 = -1
    · rw [if_pos f1] at hq
      by_cases n24 : hh M 351 9 < 24
      · rw [if_pos n24] at hq
        simp only [w49_0, w49_1, w49_18, w49_19, w49_22, w49_23, w49_26, w49_27, w49_30, w49_31, w49_32, w49_45, w49_46, w49_49, w49_51, w49_59, w49_60, f1, n24, ↓reduceIte, hh_wr, hl_wr, b10, b11, ite_not, ne_eq, Int.reduceEq, Int.reduceLE, Int.reduceLT, Int.reduceNe, Int.reduceNeg, Int.reduceAdd, Int.reduceSub, Int.reduceMul, not_false_eq_true, not_true_eq_false, false_and, and_false, true_and, and_true, and_self, true_or, or_true, false_or, or_false, if_true, if_false, ite_true, ite_false, mj_tl_some, mj_tl_none, mj_cs0, mj_cs1, mj_cs2, mj_cs3, mj_cs4]
        exact hq
      · rw [if_neg n24] at hq
        simp only [w49_0, w49_1, w49_18, w49_19, w49_22, w49_23, w49_26, w49_27, w49_30, w49_31, w49_32, w49_45, w49_46, w49_49, w49_51, w49_54, w49_56, w49_59, w49_60, f1, n24, ↓reduceIte, hh_wr, hl_wr, b10, b11, ite_not, ne_eq, Int.reduceEq, Int.reduceLE, Int.reduceLT, Int.reduceNe, Int.reduceNeg, Int.reduceAdd, Int.reduceSub, Int.reduceMul, not_false_eq_true, not_true_eq_false, false_and, and_false, true_and, and_true, and_self, true_or, or_true, false_or, or_false, if_true, if_false, ite_true, ite_false, mj_tl_some, mj_tl_none, mj_cs0, mj_cs1, mj_cs2, mj_cs3, mj_cs4]
        exact hq
    · rw [if_neg f1] at hq
      simp only [w49_0, w49_1, w49_18, w49_19, w49_22, w49_23, w49_26, w49_27, w49_43, w49_44, f1, ↓reduceIte, hh_wr, hl_wr, b10, b11, ite_not, ne_eq, Int.reduceEq, Int.reduceLE, Int.reduceLT, Int.reduceNe, Int.reduceNeg, Int.reduceAdd, Int.reduceSub, Int.reduceMul, not_false_eq_true, not_true_eq_false, false_and, and_false, true_and, and_true, and_self, true_or, or_true, false_or, or_false, if_true, if_false, ite_true, ite_false, mj_tl_some, mj_tl_none, mj_cs0, mj_cs1, mj_cs2, mj_cs3, mj_cs4]
      exact hq
  · rw [if_neg x0] at hq
    by_cases x1 : x = 1
    · subst x1
      rw [if_pos rfl] at hq
      by_cases l1 : hh M 351 15 = -1
      · rw [if_pos l1] at hq
        by_cases n24 : hh M 351 9 < 24
        · rw [if_pos n24] at hq
          simp only [w49_0, w49_1, w49_4, w49_5, w49_6, w49_18, w49_19, w49_30, w49_31, w49_32, w49_35, w49_36, w49_39, w49_40, w49_45, w49_46, w49_49, w49_51, w49_59, w49_60, l1, n24, ↓reduceIte, hh_wr, hl_wr, b10, b11, ite_not, ne_eq, Int.reduceEq, Int.reduceLE, Int.reduceLT, Int.reduceNe, Int.reduceNeg, Int.reduceAdd, Int.reduceSub, Int.reduceMul, not_false_eq_true, not_true_eq_false, false_and, and_false, true_and, and_true, and_self, true_or, or_true, false_or, or_false, if_true, if_false, ite_true, ite_false, mj_tl_some, mj_tl_none, mj_cs0, mj_cs1, mj_cs2, mj_cs3, mj_cs4]
          exact hq
        · rw [if_neg n24] at hq
          simp only [w49_0, w49_1, w49_4, w49_5, w49_6, w49_18, w49_19, w49_30, w49_31, w49_32, w49_35, w49_36, w49_39, w49_40, w49_45, w49_46, w49_49, w49_51, w49_54, w49_56, w49_59, w49_60, l1, n24, ↓reduceIte, hh_wr, hl_wr, b10, b11, ite_not, ne_eq, Int.reduceEq, Int.reduceLE, Int.reduceLT, Int.reduceNe, Int.reduceNeg, Int.reduceAdd, Int.reduceSub, Int.reduceMul, not_false_eq_true, not_true_eq_false, false_and, and_false, true_and, and_true, and_self, true_or, or_true, false_or, or_false, if_true, if_false, ite_true, ite_false, mj_tl_some, mj_tl_none, mj_cs0, mj_cs1, mj_cs2, mj_cs3, mj_cs4]
          exact hq
      · rw [if_neg l1] at hq
        simp only [w49_0, w49_1, w49_4, w49_5, w49_6, w49_18, w49_19, w49_30, w49_31, w49_32, w49_35, w49_36, w49_39, w49_40, w49_43, w49_44, l1, ↓reduceIte, hh_wr, hl_wr, b10, b11, ite_not, ne_eq, Int.reduceEq, Int.reduceLE, Int.reduceLT, Int.reduceNe, Int.reduceNeg, Int.reduceAdd, Int.reduceSub, Int.reduceMul, not_false_eq_true, not_true_eq_false, false_and, and_false, true_and, and_true, and_self, true_or, or_true, false_or, or_false, if_true, if_false, ite_true, ite_false, mj_tl_some, mj_tl_none, mj_cs0, mj_cs1, mj_cs2, mj_cs3, mj_cs4]
        exact hq
    · rw [if_neg x1] at hq
      by_cases hd : dee x
      · rw [if_pos hd] at hq
        by_cases n24 : hh M 351 9 < 24
        · rw [if_pos n24] at hq
          simp only [w49_0, w49_1, w49_4, w49_5, w49_6, w49_9, w49_10, w49_13, w49_18, w49_19, w49_30, w49_31, w49_32, w49_45, w49_46, w49_49, w49_51, w49_59, w49_60, c_isDeed, x0, x1, hd, n24, ↓reduceIte, hh_wr, hl_wr, b10, b11, ite_not, ne_eq, Int.reduceEq, Int.reduceLE, Int.reduceLT, Int.reduceNe, Int.reduceNeg, Int.reduceAdd, Int.reduceSub, Int.reduceMul, not_false_eq_true, not_true_eq_false, false_and, and_false, true_and, and_true, and_self, true_or, or_true, false_or, or_false, if_true, if_false, ite_true, ite_false, mj_tl_some, mj_tl_none, mj_cs0, mj_cs1, mj_cs2, mj_cs3, mj_cs4]
          exact hq
        · rw [if_neg n24] at hq
          simp only [w49_0, w49_1, w49_4, w49_5, w49_6, w49_9, w49_10, w49_13, w49_18, w49_19, w49_30, w49_31, w49_32, w49_45, w49_46, w49_49, w49_51, w49_54, w49_56, w49_59, w49_60, c_isDeed, x0, x1, hd, n24, ↓reduceIte, hh_wr, hl_wr, b10, b11, ite_not, ne_eq, Int.reduceEq, Int.reduceLE, Int.reduceLT, Int.reduceNe, Int.reduceNeg, Int.reduceAdd, Int.reduceSub, Int.reduceMul, not_false_eq_true, not_true_eq_false, false_and, and_false, true_and, and_true, and_self, true_or, or_true, false_or, or_false, if_true, if_false, ite_true, ite_false, mj_tl_some, mj_tl_none, mj_cs0, mj_cs1, mj_cs2, mj_cs3, mj_cs4]
          exact hq
      · rw [if_neg hd] at hq
        simp only [w49_0, w49_1, w49_4, w49_5, w49_6, w49_9, w49_10, w49_13, w49_16, w49_17, c_isDeed, x0, x1, hd, ↓reduceIte, hh_wr, hl_wr, b10, b11, ite_not, ne_eq, Int.reduceEq, Int.reduceLE, Int.reduceLT, Int.reduceNe, Int.reduceNeg, Int.reduceAdd, Int.reduceSub, Int.reduceMul, not_false_eq_true, not_true_eq_false, false_and, and_false, true_and, and_true, and_self, true_or, or_true, false_or, or_false, if_true, if_false, ite_true, ite_false, mj_tl_some, mj_tl_none, mj_cs0, mj_cs1, mj_cs2, mj_cs3, mj_cs4]
        exact hq
/-- a clause: from the test of its first token to the loop's next turn -/
theorem c_clause (hD : 76 ≤ D) (h : CT M T L a n c S Lf Ll) (pf : LPr n w c S 0 Lf) (pl : LPr n w c S 1 Ll) (w0 : 0 ≤ w) (g : GT X e T L t0 a n w S Lf Ll) (hk : tK T L a ≠ 40) {i l : Int} {v : mj_V} (kk : ∀ (M1 : mj_M) (z : Int), Cx X e T L t0 n M M1 → (n = 24 → Fx X e T L t0 M1) → wp X (D + 1) 26 88 [(26, 351), (0, l), (0, i), (0, z)] [] M1 Q) : wp X (D + 1) 26 33 [(26, 351), (0, l), (0, i), v] [] M Q := by
  obtain ⟨D, rfl⟩ : ∃ D', D = D' + 1 := ⟨D - 1, by omega⟩
  have n0 := h.n0
  have e6 := h.p.e6
  have bad : ∀ k : Int, k ≠ 0 → wrg (tK T L a) (hh M 351 13) (hh M 351 15) (hh M 351 9) = k → BT X e T L t0 k (tS T L a) → wp X (D + 1 + 1) 26 33 [(26, 351), (0, l), (0, i), v] [] M Q := fun k k0 hw b => by
    simp only [w26_33, w26_34, w26_35, w26_38, e6, ↓reduceIte, hh_wr, hl_wr, b10, b11, ite_not, ne_eq, Int.reduceEq, Int.reduceLE, Int.reduceLT, Int.reduceNe, Int.reduceNeg, Int.reduceAdd, Int.reduceSub, Int.reduceMul, not_false_eq_true, not_true_eq_false, false_and, and_false, true_and, and_true, and_self, true_or, or_true, false_or, or_false, if_true, if_false, ite_true, ite_false, mj_tl_some, mj_tl_none, mj_cs0, mj_cs1, mj_cs2, mj_cs3, mj_cs4]
    refine c_wrong hw ?_
    simp only [w26_41, w26_42, w26_43, w26_46, w26_47, w26_48, k0, ↓reduceIte, hh_wr, hl_wr, b10, b11, ite_not, ne_eq, Int.reduceEq, Int.reduceLE, Int.reduceLT, Int.reduceNe, Int.reduceNeg, Int.reduceAdd, Int.reduceSub, Int.reduceMul, not_false_eq_true, not_true_eq_false, false_and, and_false, true_and, and_true, and_self, true_or, or_true, false_or, or_false, if_true, if_false, ite_true, ite_false, mj_tl_some, mj_tl_none, mj_cs0, mj_cs1, mj_cs2, mj_cs3, mj_cs4]
    refine wc.mono (c_fail h.p k0) ?_
    rintro r M1 ⟨rfl, r1, f1⟩
    simp only [w26_51, ↓reduceIte, hh_wr, hl_wr, b10, b11, ite_not, ne_eq, Int.reduceEq, Int.reduceLE, Int.reduceLT, Int.reduceNe, Int.reduceNeg, Int.reduceAdd, Int.reduceSub, Int.reduceMul, not_false_eq_true, not_true_eq_false, false_and, and_false, true_and, and_true, and_self, true_or, or_true, false_or, or_false, if_true, if_false, ite_true, ite_false, mj_tl_some, mj_tl_none, mj_cs0, mj_cs1, mj_cs2, mj_cs3, mj_cs4]
    exact kk M1 k ⟨r1.q, Or.inr ⟨k, _, f1, b⟩⟩ (fun _ => ⟨k, _, f1, b⟩)
  have lt : ∀ M1 : mj_M, n < 24 → n = 24 → Fx X e T L t0 M1 := fun M1 h1 h2 => by omega
  by_cases k0 : tK T L a = 0
  · cases Lf with
    | some x =>
      obtain ⟨x1, x2, x3, x4, x5, x6⟩ := x
      have e13 : hh M 351 13 = x3 := h.lf.1
      have ne : ¬ x3 = -1 := by have := pf.2.2.2.2.2.1; omega
      exact bad 4 (by decide) (by unfold wrg; rw [if_pos k0, if_neg (by rw [e13]; exact ne)]) (bt_dup0 g k0 (by intro q; cases q))
    | none =>
      have e13 : hh M 351 13 = -1 := h.lf
      by_cases n24 : n < 24
      · have hw : wrg (tK T L a) (hh M 351 13) (hh M 351 15) (hh M 351 9) = 0 := by unfold wrg; rw [if_pos k0, if_pos e13, h.n, if_pos n24]
        simp only [w26_33, w26_34, w26_35, w26_38, e6, ↓reduceIte, hh_wr, hl_wr, b10, b11, ite_not, ne_eq, Int.reduceEq, Int.reduceLE, Int.reduceLT, Int.reduceNe, Int.reduceNeg, Int.reduceAdd, Int.reduceSub, Int.reduceMul, not_false_eq_true, not_true_eq_false, false_and, and_false, true_and, and_true, and_self, true_or, or_true, false_or, or_false, if_true, if_false, ite_true, ite_false, mj_tl_some, mj_tl_none, mj_cs0, mj_cs1, mj_cs2, mj_cs3, mj_cs4]
        refine c_wrong hw ?_
        simp only [w26_41, w26_42, w26_43, w26_54, w26_55, w26_58, w26_69, w26_70, w26_71, w26_74, e6, k0, ↓reduceIte, hh_wr, hl_wr, b10, b11, ite_not, ne_eq, Int.reduceEq, Int.reduceLE, Int.reduceLT, Int.reduceNe, Int.reduceNeg, Int.reduceAdd, Int.reduceSub, Int.reduceMul, not_false_eq_true, not_true_eq_false, false_and, and_false, true_and, and_true, and_self, true_or, or_true, false_or, or_false, if_true, if_false, ite_true, ite_false, mj_tl_some, mj_tl_none, mj_cs0, mj_cs1, mj_cs2, mj_cs3, mj_cs4]
        refine wc.mono (c_claw0 (by omega) h pf pl w0 g k0 n24) ?_
        rintro r M1 ⟨rfl, x1⟩
        simp only [w26_77, ↓reduceIte, hh_wr, hl_wr, b10, b11, ite_not, ne_eq, Int.reduceEq, Int.reduceLE, Int.reduceLT, Int.reduceNe, Int.reduceNeg, Int.reduceAdd, Int.reduceSub, Int.reduceMul, not_false_eq_true, not_true_eq_false, false_and, and_false, true_and, and_true, and_self, true_or, or_true, false_or, or_false, if_true, if_false, ite_true, ite_false, mj_tl_some, mj_tl_none, mj_cs0, mj_cs1, mj_cs2, mj_cs3, mj_cs4]
        exact kk M1 0 x1 (lt M1 n24)
      · have e24 : n = 24 := by omega
        subst e24
        exact bad 6 (by decide) (by unfold wrg; rw [if_pos k0, if_pos e13, h.n, if_neg (by decide)]) (bt_full (s := 0) g (by rw [k0]; rfl) (by decide) (fun _ => rfl) (fun q => absurd q (by decide)))
  · by_cases k1 : tK T L a = 1
    · cases Ll with
      | some x =>
        obtain ⟨x1, x2, x3, x4, x5, x6⟩ := x
        have e15 : hh M 351 15 = x3 := h.ll.1
        have ne : ¬ x3 = -1 := by have := pl.2.2.2.2.2.1; omega
        exact bad 4 (by decide) (by unfold wrg; rw [if_neg k0, if_pos k1, if_neg (by rw [e15]; exact ne)]) (bt_dup1 g k1 (by intro q; cases q))
      | none =>
        have e15 : hh M 351 15 = -1 := h.ll
        by_cases n24 : n < 24
        · have hw : wrg (tK T L a) (hh M 351 13) (hh M 351 15) (hh M 351 9) = 0 := by unfold wrg; rw [if_neg k0, if_pos k1, if_pos e15, h.n, if_pos n24]
          simp only [w26_33, w26_34, w26_35, w26_38, e6, ↓reduceIte, hh_wr, hl_wr, b10, b11, ite_not, ne_eq, Int.reduceEq, Int.reduceLE, Int.reduceLT, Int.reduceNe, Int.reduceNeg, Int.reduceAdd, Int.reduceSub, Int.reduceMul, not_false_eq_true, not_true_eq_false, false_and, and_false, true_and, and_true, and_self, true_or, or_true, false_or, or_false, if_true, if_false, ite_true, ite_false, mj_tl_some, mj_tl_none, mj_cs0, mj_cs1, mj_cs2, mj_cs3, mj_cs4]
          refine c_wrong hw ?_
          simp only [w26_41, w26_42, w26_43, w26_54, w26_55, w26_58, w26_61, w26_62, w26_65, w26_66, w26_69, w26_70, w26_71, w26_74, e6, k1, ↓reduceIte, hh_wr, hl_wr, b10, b11, ite_not, ne_eq, Int.reduceEq, Int.reduceLE, Int.reduceLT, Int.reduceNe, Int.reduceNeg, Int.reduceAdd, Int.reduceSub, Int.reduceMul, not_false_eq_true, not_true_eq_false, false_and, and_false, true_and, and_true, and_self, true_or, or_true, false_or, or_false, if_true, if_false, ite_true, ite_false, mj_tl_some, mj_tl_none, mj_cs0, mj_cs1, mj_cs2, mj_cs3, mj_cs4]
          refine wc.mono (c_claw1 (by omega) h pf pl w0 g k1 n24) ?_
          rintro r M1 ⟨rfl, x1⟩
          simp only [w26_77, ↓reduceIte, hh_wr, hl_wr, b10, b11, ite_not, ne_eq, Int.reduceEq, Int.reduceLE, Int.reduceLT, Int.reduceNe, Int.reduceNeg, Int.reduceAdd, Int.reduceSub, Int.reduceMul, not_false_eq_true, not_true_eq_false, false_and, and_false, true_and, and_true, and_self, true_or, or_true, false_or, or_false, if_true, if_false, ite_true, ite_false, mj_tl_some, mj_tl_none, mj_cs0, mj_cs1, mj_cs2, mj_cs3, mj_cs4]
          exact kk M1 0 x1 (lt M1 n24)
        · have e24 : n = 24 := by omega
          subst e24
          exact bad 6 (by decide) (by unfold wrg; rw [if_neg k0, if_pos k1, if_pos e15, h.n, if_neg (by decide)]) (bt_full (s := 1) g (by rw [k1]; rfl) (by decide) (fun q => absurd q (by decide)) (fun _ => rfl))
    · by_cases hd : dee (tK T L a)
      · obtain ⟨s, hs, s2, es, e8⟩ := sox_dee hd
        by_cases n24 : n < 24
        · have hw : wrg (tK T L a) (hh M 351 13) (hh M 351 15) (hh M 351 9) = 0 := by unfold wrg; rw [if_neg k0, if_neg k1, if_pos hd, h.n, if_pos n24]
          simp only [w26_33, w26_34, w26_35, w26_38, e6, ↓reduceIte, hh_wr, hl_wr, b10, b11, ite_not, ne_eq, Int.reduceEq, Int.reduceLE, Int.reduceLT, Int.reduceNe, Int.reduceNeg, Int.reduceAdd, Int.reduceSub, Int.reduceMul, not_false_eq_true, not_true_eq_false, false_and, and_false, true_and, and_true, and_self, true_or, or_true, false_or, or_false, if_true, if_false, ite_true, ite_false, mj_tl_some, mj_tl_none, mj_cs0, mj_cs1, mj_cs2, mj_cs3, mj_cs4]
          refine c_wrong hw ?_
          simp only [w26_41, w26_42, w26_43, w26_54, w26_55, w26_58, w26_61, w26_62, w26_65, w26_66, w26_80, w26_81, w26_82, w26_85, e6, k0, k1, ↓reduceIte, hh_wr, hl_wr, b10, b11, ite_not, ne_eq, Int.reduceEq, Int.reduceLE, Int.reduceLT, Int.reduceNe, Int.reduceNeg, Int.reduceAdd, Int.reduceSub, Int.reduceMul, not_false_eq_true, not_true_eq_false, false_and, and_false, true_and, and_true, and_self, true_or, or_true, false_or, or_false, if_true, if_false, ite_true, ite_false, mj_tl_some, mj_tl_none, mj_cs0, mj_cs1, mj_cs2, mj_cs3, mj_cs4]
          refine wc.mono (c_cdeed (by omega) h pf pl w0 g hd n24) ?_
          rintro r M1 ⟨rfl, x1⟩
          rw [mj_tl_none]
          exact kk M1 0 x1 (lt M1 n24)
        · have e24 : n = 24 := by omega
          subst e24
          exact bad 6 (by decide) (by unfold wrg; rw [if_neg k0, if_neg k1, if_pos hd, h.n, if_neg (by decide)]) (bt_full g hs (by omega) (fun q => by omega) (fun q => by omega))
      · exact bad 1 (by decide) (by unfold wrg; rw [if_neg k0, if_neg k1, if_neg hd]) (bt_none g hk (sox_none hd k0 k1))
end CCl3
