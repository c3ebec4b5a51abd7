/-! IMAGE AND BACK: a world taken, whole -/
theorem Wf.wr {w x j u : Int} {M M1 : mj_M} (h : Wf w M M1) (hx : w ≤ x ∧ x ≤ w + 166) (hz : wz (x - w) j = 1) : Wf w M (mj_wr M1 x j u) := h.st (fun y i => by
  rw [hh_wr]
  by_cases g : y = x ∧ i = j
  · rw [g.1, g.2]; exact Or.inr ⟨hx.1, hx.2, hz⟩
  · exact Or.inl (if_neg g)) (fun _ => rfl) rfl rfl
section Image3
variable {X : mj_X} {d : Nat} {M : mj_M} {A : Int → Int} {Q : Option mj_V → mj_M → Prop}
theorem c_wtake {v w : Int} (vw : (v = 5 ∧ w = 172) ∨ (v = 172 ∧ w = 5)) (hc : CS M) (wr : WR M v A) (ai : AI A) (tx : ∀ i, 0 ≤ i → i < A 3 → hh M (v + 15) i ≠ 0) : wc X (d + 2) 184 [(30, w), (30, v)] M (fun r M1 => r = none ∧ WR M1 w A ∧ (∀ i, 0 ≤ i → i < A 3 → hh M1 (w + 15) i = hh M (v + 15) i) ∧ Wf w M M1) := by
  have hd : v + 167 = w ∨ w + 167 = v := by omega
  have hv : 5 ≤ v := by omega
  have hw : 5 ≤ w := by omega
  have t0 := ai.t0
  have t4 := ai.t4
  have n0 := ai.n0
  have el0 := wr.e0
  have el3 := wr.e3
  have s4 := ai.s4
  have d8 := ai.d8
  have e8 := ai.e8
  have nv : ¬ v = 0 := by omega
  have nw : ¬ w = 0 := by omega
  show wp X (d + 2) 184 0 [(30, w), (30, v), (9, 0), (9, 0)] [] M _
  obtain ⟨a0, b0⟩ := vw_ws vw hc (Wf.rfl' (w := w) (M := M))
  simp only [w184_0, w184_1, w184_4, w184_5, w184_8, a0.f0, b0.f0, nv, nw, show ¬ w + 1 = 0 by omega, ↓reduceIte, hh_wr, hl_wr, b10, b11, ite_not, ne_eq, Int.reduceEq, Int.reduceLE, Int.reduceLT, Int.reduceNe, Int.reduceNeg, Int.reduceAdd, Int.reduceSub, Int.reduceMul, not_false_eq_true, not_true_eq_false, false_and, and_false, true_and, and_true, and_self, true_or, or_true, false_or, or_false, if_true, if_false, ite_true, ite_false, mj_tl_some, mj_tl_none, mj_cs0, mj_cs1, mj_cs2, mj_cs3, mj_cs4]
  refine wc.mono (c_ttake (d := d + 1) a0 b0 hv hw hd) ?_
  rintro q M1 ⟨rfl, R1, l1, n1, s1⟩
  have f1 : Wf w M M1 := Wf.rfl'.st (fun x j => by
    rw [R1]
    by_cases g3 : x = w + 3 ∧ 0 ≤ j ∧ j < 8
    · exact Or.inr ⟨by omega, by omega, by rw [show x - w = 3 by omega]; rfl⟩
    · rw [if_neg g3]
      by_cases g2 : x = w + 2 ∧ 0 ≤ j ∧ j < 8
      · exact Or.inr ⟨by omega, by omega, by rw [show x - w = 2 by omega]; rfl⟩
      · rw [if_neg g2]
        by_cases g1 : x = w + 1 ∧ j = 0
        · exact Or.inr ⟨by omega, by omega, by rw [show x - w = 1 by omega, g1.2]; rfl⟩
        · exact Or.inl (if_neg g1)) l1 n1 s1
  obtain ⟨a1, b1⟩ := vw_ws vw hc f1
  simp only [w184_11, w184_12, w184_15, w184_16, w184_19, a1.f1, b1.f1, nv, nw, show ¬ w + 5 = 0 by omega, ↓reduceIte, hh_wr, hl_wr, b10, b11, ite_not, ne_eq, Int.reduceEq, Int.reduceLE, Int.reduceLT, Int.reduceNe, Int.reduceNeg, Int.reduceAdd, Int.reduceSub, Int.reduceMul, not_false_eq_true, not_true_eq_false, false_and, and_false, true_and, and_true, and_self, true_or, or_true, false_or, or_false, if_true, if_false, ite_true, ite_false, mj_tl_some, mj_tl_none, mj_cs0, mj_cs1, mj_cs2, mj_cs3, mj_cs4]
  refine wc.mono (c_take (d := d) (c1 := v + 5) (c2 := w + 5) a1.now b1.now (by omega) (wr.now.keep (fun x j a b => Or.inl (f1.h x j (by omega)))) ai.now) ?_
  rintro q M2 ⟨rfl, fm2, mr2⟩
  have f2 : Wf w M M2 := f1.st (fun x j => by
    by_cases g : x < w + 5 ∨ w + 5 + 4 < x ∨ (x = w + 5 ∧ 4 ≤ j)
    · exact Or.inl (fm2.h x j g)
    · exact Or.inr ⟨by omega, by omega, now_wz (by omega) (by omega)⟩) fm2.l fm2.n fm2.s
  obtain ⟨a2, b2⟩ := vw_ws vw hc f2
  simp only [w184_22, w184_23, w184_26, w184_27, w184_30, a2.f2, b2.f2, nv, nw, show ¬ w + 10 = 0 by omega, ↓reduceIte, hh_wr, hl_wr, b10, b11, ite_not, ne_eq, Int.reduceEq, Int.reduceLE, Int.reduceLT, Int.reduceNe, Int.reduceNeg, Int.reduceAdd, Int.reduceSub, Int.reduceMul, not_false_eq_true, not_true_eq_false, false_and, and_false, true_and, and_true, and_self, true_or, or_true, false_or, or_false, if_true, if_false, ite_true, ite_false, mj_tl_some, mj_tl_none, mj_cs0, mj_cs1, mj_cs2, mj_cs3, mj_cs4]
  refine wc.mono (c_rtake (d := d + 1) (c := v + 10) (e := w + 10) (by omega) (by omega) (by omega) (a2.r1.trans (by omega)) (b2.r1.trans (by omega)) (by rw [show v + 10 + 1 = v + 11 by omega]; exact a2.l11) (by rw [show w + 10 + 1 = w + 11 by omega]; exact b2.l11)) ?_
  rintro q M3 ⟨rfl, R3, l3, n3, s3⟩
  have f3 : Wf w M M3 := f2.st (fun x j => by
    rw [R3]
    by_cases g3 : x = w + 10 + 1 ∧ 0 ≤ j ∧ j < 24
    · exact Or.inr ⟨by omega, by omega, by rw [show x - w = 11 by omega]; rfl⟩
    · rw [if_neg g3]
      by_cases g1 : x = w + 10 ∧ j = 0
      · exact Or.inr ⟨by omega, by omega, by rw [show x - w = 10 by omega, g1.2]; rfl⟩
      · exact Or.inl (if_neg g1)) l3 n3 s3
  obtain ⟨a3, b3⟩ := vw_ws vw hc f3
  simp only [w184_33, w184_34, w184_37, w184_38, w184_41, a3.f3, b3.f3, nv, nw, show ¬ w + 12 = 0 by omega, ↓reduceIte, hh_wr, hl_wr, b10, b11, ite_not, ne_eq, Int.reduceEq, Int.reduceLE, Int.reduceLT, Int.reduceNe, Int.reduceNeg, Int.reduceAdd, Int.reduceSub, Int.reduceMul, not_false_eq_true, not_true_eq_false, false_and, and_false, true_and, and_true, and_self, true_or, or_true, false_or, or_false, if_true, if_false, ite_true, ite_false, mj_tl_some, mj_tl_none, mj_cs0, mj_cs1, mj_cs2, mj_cs3, mj_cs4]
  refine wc.mono (c_rtake (d := d + 1) (c := v + 12) (e := w + 12) (by omega) (by omega) (by omega) (a3.r2.trans (by omega)) (b3.r2.trans (by omega)) (by rw [show v + 12 + 1 = v + 13 by omega]; exact a3.l13) (by rw [show w + 12 + 1 = w + 13 by omega]; exact b3.l13)) ?_
  rintro q M4 ⟨rfl, R4, l4, n4, s4'⟩
  have f4 : Wf w M M4 := f3.st (fun x j => by
    rw [R4]
    by_cases g3 : x = w + 12 + 1 ∧ 0 ≤ j ∧ j < 24
    · exact Or.inr ⟨by omega, by omega, by rw [show x - w = 13 by omega]; rfl⟩
    · rw [if_neg g3]
      by_cases g1 : x = w + 12 ∧ j = 0
      · exact Or.inr ⟨by omega, by omega, by rw [show x - w = 12 by omega, g1.2]; rfl⟩
      · exact Or.inl (if_neg g1)) l4 n4 s4'
  have sv : ∀ M' : mj_M, Wf w M M' → ∀ x j, v ≤ x → x ≤ v + 166 → hh M' x j = hh M x j := fun M' f x j a b => f.h x j (by omega)
  have q4 : hh M4 v 4 = A 2 := (sv M4 f4 v 4 (by omega) (by omega)).trans wr.ns
  simp only [w184_44, w184_45, w184_46, w184_49, q4, nv, nw, ↓reduceIte, hh_wr, hl_wr, b10, b11, ite_not, ne_eq, Int.reduceEq, Int.reduceLE, Int.reduceLT, Int.reduceNe, Int.reduceNeg, Int.reduceAdd, Int.reduceSub, Int.reduceMul, not_false_eq_true, not_true_eq_false, false_and, and_false, true_and, and_true, and_self, true_or, or_true, false_or, or_false, if_true, if_false, ite_true, ite_false, mj_tl_some, mj_tl_none, mj_cs0, mj_cs1, mj_cs2, mj_cs3, mj_cs4]
  have f5 : Wf w M (mj_wr M4 w 4 (A 2)) := f4.wr (by omega) (by rw [show w - w = 0 by omega]; rfl)
  have R5 : ∀ x j, hh (mj_wr M4 w 4 (A 2)) x j = if x = w ∧ j = 4 then A 2 else hh M4 x j := fun x j => rfl
  generalize mj_wr M4 w 4 (A 2) = M5 at f5 R5 ⊢
  obtain ⟨a5, b5⟩ := vw_ws vw hc f5
  simp only [w184_52, w184_53, w184_56, w184_57, w184_58, w184_61, w184_62, w184_63, a5.f5, b5.f5, a5.l14, b5.l14, nv, nw, show ¬ v + 14 = 0 by omega, show ¬ w + 14 = 0 by omega, ↓reduceIte, hh_wr, hl_wr, b10, b11, ite_not, ne_eq, Int.reduceEq, Int.reduceLE, Int.reduceLT, Int.reduceNe, Int.reduceNeg, Int.reduceAdd, Int.reduceSub, Int.reduceMul, not_false_eq_true, not_true_eq_false, false_and, and_false, true_and, and_true, and_self, true_or, or_true, false_or, or_false, if_true, if_false, ite_true, ite_false, mj_tl_some, mj_tl_none, mj_cs0, mj_cs1, mj_cs2, mj_cs3, mj_cs4]
  have R6 : ∀ x j, hh (mj_cp M5 (v + 14) 0 (w + 14) 0 4) x j = if x = w + 14 ∧ 0 ≤ j ∧ j < 0 + 4 then hh M5 (v + 14) (0 + (j - 0)) else hh M5 x j := fun x j => rfl
  have f6 : Wf w M (mj_cp M5 (v + 14) 0 (w + 14) 0 4) := f5.st (fun x j => by
    rw [R6]
    by_cases g : x = w + 14 ∧ 0 ≤ j ∧ j < 0 + 4
    · exact Or.inr ⟨by omega, by omega, by rw [show x - w = 14 by omega]; rfl⟩
    · exact Or.inl (if_neg g)) (fun _ => rfl) rfl rfl
  generalize mj_cp M5 (v + 14) 0 (w + 14) 0 4 = M6 at f6 R6 ⊢
  have q6 : hh M6 v 7 = A 4 := (sv M6 f6 v 7 (by omega) (by omega)).trans wr.ru
  simp only [w184_66, w184_67, w184_68, w184_71, q6, nv, nw, ↓reduceIte, hh_wr, hl_wr, b10, b11, ite_not, ne_eq, Int.reduceEq, Int.reduceLE, Int.reduceLT, Int.reduceNe, Int.reduceNeg, Int.reduceAdd, Int.reduceSub, Int.reduceMul, not_false_eq_true, not_true_eq_false, false_and, and_false, true_and, and_true, and_self, true_or, or_true, false_or, or_false, if_true, if_false, ite_true, ite_false, mj_tl_some, mj_tl_none, mj_cs0, mj_cs1, mj_cs2, mj_cs3, mj_cs4]
  have f7 : Wf w M (mj_wr M6 w 7 (A 4)) := f6.wr (by omega) (by rw [show w - w = 0 by omega]; rfl)
  have R7 : ∀ x j, hh (mj_wr M6 w 7 (A 4)) x j = if x = w ∧ j = 7 then A 4 else hh M6 x j := fun x j => rfl
  generalize mj_wr M6 w 7 (A 4) = M7 at f7 R7 ⊢
  have q7 : hh M7 v 6 = A 3 := (sv M7 f7 v 6 (by omega) (by omega)).trans wr.nt
  simp only [w184_74, w184_75, w184_76, w184_79, w184_82, w184_83, q7, nv, nw, ↓reduceIte, hh_wr, hl_wr, b10, b11, ite_not, ne_eq, Int.reduceEq, Int.reduceLE, Int.reduceLT, Int.reduceNe, Int.reduceNeg, Int.reduceAdd, Int.reduceSub, Int.reduceMul, not_false_eq_true, not_true_eq_false, false_and, and_false, true_and, and_true, and_self, true_or, or_true, false_or, or_false, if_true, if_false, ite_true, ite_false, mj_tl_some, mj_tl_none, mj_cs0, mj_cs1, mj_cs2, mj_cs3, mj_cs4]
  have f8 : Wf w M (mj_wr M7 w 6 (A 3)) := f7.wr (by omega) (by rw [show w - w = 0 by omega]; rfl)
  have R8 : ∀ x j, hh (mj_wr M7 w 6 (A 3)) x j = if x = w ∧ j = 6 then A 3 else hh M7 x j := fun x j => rfl
  generalize mj_wr M7 w 6 (A 3) = M8 at f8 R8 ⊢
  refine c_wtext (M := M) (A := A) (M5 := M8) vw hc ⟨t0, t4⟩ tx (by rw [R8, if_pos ⟨rfl, rfl⟩]) _ ?_ (A 3).toNat 0 M8 (by omega) (by decide) f8 (fun x j => by rw [if_neg (by omega)])
  intro M9 f9 R9
  have q9 : hh M9 v 9 = A 5 := (sv M9 f9 v 9 (by omega) (by omega)).trans wr.np
  simp only [w184_110, w184_111, w184_112, w184_115, q9, nv, nw, ↓reduceIte, hh_wr, hl_wr, b10, b11, ite_not, ne_eq, Int.reduceEq, Int.reduceLE, Int.reduceLT, Int.reduceNe, Int.reduceNeg, Int.reduceAdd, Int.reduceSub, Int.reduceMul, not_false_eq_true, not_true_eq_false, false_and, and_false, true_and, and_true, and_self, true_or, or_true, false_or, or_false, if_true, if_false, ite_true, ite_false, mj_tl_some, mj_tl_none, mj_cs0, mj_cs1, mj_cs2, mj_cs3, mj_cs4]
  have fa : Wf w M (mj_wr M9 w 9 (A 5)) := f9.wr (by omega) (by rw [show w - w = 0 by omega]; rfl)
  have Ra : ∀ x j, hh (mj_wr M9 w 9 (A 5)) x j = if x = w ∧ j = 9 then A 5 else hh M9 x j := fun x j => rfl
  generalize mj_wr M9 w 9 (A 5) = Ma at fa Ra ⊢
  have qa : hh Ma v 10 = hh M v 10 := sv Ma fa v 10 (by omega) (by omega)
  simp only [w184_118, w184_119, w184_120, w184_123, w184_126, w184_127, qa, nv, nw, ↓reduceIte, hh_wr, hl_wr, b10, b11, ite_not, ne_eq, Int.reduceEq, Int.reduceLE, Int.reduceLT, Int.reduceNe, Int.reduceNeg, Int.reduceAdd, Int.reduceSub, Int.reduceMul, not_false_eq_true, not_true_eq_false, false_and, and_false, true_and, and_true, and_self, true_or, or_true, false_or, or_false, if_true, if_false, ite_true, ite_false, mj_tl_some, mj_tl_none, mj_cs0, mj_cs1, mj_cs2, mj_cs3, mj_cs4]
  have fb : Wf w M (mj_wr Ma w 10 (hh M v 10)) := fa.wr (by omega) (by rw [show w - w = 0 by omega]; rfl)
  have Rb : ∀ x j, hh (mj_wr Ma w 10 (hh M v 10)) x j = if x = w ∧ j = 10 then hh M v 10 else hh Ma x j := fun x j => rfl
  generalize mj_wr Ma w 10 (hh M v 10) = Mb at fb Rb ⊢
  refine c_wring (M := M) (A := A) (M7 := Mb) (el := hh M v 10) vw hc ai ⟨el0, el3⟩ wr.sp (by rw [Rb, if_neg (by omega), Ra, if_pos ⟨rfl, rfl⟩]) (by rw [Rb, if_pos ⟨rfl, rfl⟩]) _ ?_ (A 5).toNat 0 Mb _ (by omega) (by decide) fb (fun _ _ _ => rfl) (fun i a b => absurd b (by omega))
  intro Mc fcc Kc mrs
  have w0 : ∀ j, hh Mc w j = if j = 10 then hh M v 10 else if j = 9 then A 5 else if j = 6 then A 3 else if j = 7 then A 4 else if j = 4 then A 2 else hh M4 w j := by
    intro j
    rw [Kc w j (by omega), Rb]
    by_cases g10 : j = 10
    · rw [if_pos ⟨rfl, g10⟩, if_pos g10]
    · rw [if_neg (fun g => g10 g.2), if_neg g10, Ra]
      by_cases g9 : j = 9
      · rw [if_pos ⟨rfl, g9⟩, if_pos g9]
      · rw [if_neg (fun g => g9 g.2), if_neg g9, R9, if_neg (by omega), R8]
        by_cases g6 : j = 6
        · rw [if_pos ⟨rfl, g6⟩, if_pos g6]
        · rw [if_neg (fun g => g6 g.2), if_neg g6, R7]
          by_cases g7 : j = 7
          · rw [if_pos ⟨rfl, g7⟩, if_pos g7]
          · rw [if_neg (fun g => g7 g.2), if_neg g7, R6, if_neg (by omega), R5]
            by_cases g4 : j = 4
            · rw [if_pos ⟨rfl, g4⟩, if_pos g4]
            · rw [if_neg (fun g => g4 g.2), if_neg g4]
  have D : ∀ x j, x ≠ w → x < w + 14 → hh Mc x j = hh M4 x j := fun x j h0 h1 => by
    rw [Kc x j (by omega), Rb, if_neg (by omega), Ra, if_neg (by omega), R9, if_neg (by omega), R8, if_neg (by omega), R7, if_neg (by omega), R6, if_neg (by omega), R5, if_neg (by omega)]
  have D9 : ∀ x j, x ≠ w → x < w + 10 → hh Mc x j = hh M2 x j := fun x j h0 h1 => by
    rw [D x j h0 (by omega), R4, if_neg (by omega), if_neg (by omega), R3, if_neg (by omega), if_neg (by omega)]
  have D4 : ∀ x j, x ≠ w → x < w + 5 → hh Mc x j = hh M1 x j := fun x j h0 h1 => by
    rw [D9 x j h0 (by omega), fm2.h x j (by omega)]
  refine ⟨rfl, ⟨?_, fun i a b => ?_, fun i a b => ?_, ?_, ?_, fun i a b => ?_, ?_, ?_, ?_, ?_, ?_, fun i a b => ?_, ?_, fun i a b k u p => ?_, ?_, fun i a b k u p => ?_⟩, fun i a b => ?_, fcc⟩
  · rw [D4 (w + 1) 0 (by omega) (by omega), R1, if_neg (by omega), if_neg (by omega), if_pos ⟨rfl, rfl⟩]; exact wr.nf
  · rw [D4 (w + 2) i (by omega) (by omega), R1, if_neg (by omega), if_pos ⟨rfl, a, b⟩]; exact wr.fk i a b
  · rw [D4 (w + 3) i (by omega) (by omega), R1, if_pos ⟨rfl, a, b⟩]; exact wr.fl i a b
  · exact mr2.keep (fun x j a b => Or.inl (D9 x j (by omega) (by omega)))
  · rw [w0]; rfl
  · rw [Kc (w + 14) i (by omega), Rb, if_neg (by omega), Ra, if_neg (by omega), R9, if_neg (by omega), R8, if_neg (by omega), R7, if_neg (by omega), R6, if_pos ⟨rfl, a, by omega⟩, show 0 + (i - 0) = i by omega, sv M5 f5 (v + 14) i (by omega) (by omega)]
    exact wr.st i a b
  · rw [w0]; rfl
  · rw [w0]; rfl
  · rw [w0]; rfl
  · rw [w0, if_pos rfl]; exact el0
  · rw [w0, if_pos rfl]; exact el3
  · rw [w0, if_pos rfl]; exact mrs i a b
  · rw [D (w + 10) 0 (by omega) (by omega), R4, if_neg (by omega), if_neg (by omega), R3, if_neg (by omega), if_pos ⟨rfl, rfl⟩, sv M2 f2 (v + 10) 0 (by omega) (by omega)]; exact wr.nd
  · rw [D (w + 11) (3 * i + k) (by omega) (by omega), R4, if_neg (by omega), if_neg (by omega), R3, if_pos ⟨by omega, by omega, by omega⟩, show v + 10 + 1 = v + 11 by omega, sv M2 f2 (v + 11) _ (by omega) (by omega)]; exact wr.d i a b k u p
  · rw [D (w + 12) 0 (by omega) (by omega), R4, if_neg (by omega), if_pos ⟨rfl, rfl⟩, sv M3 f3 (v + 12) 0 (by omega) (by omega)]; exact wr.ne
  · rw [D (w + 13) (3 * i + k) (by omega) (by omega), R4, if_pos ⟨by omega, by omega, by omega⟩, show v + 12 + 1 = v + 13 by omega, sv M3 f3 (v + 13) _ (by omega) (by omega)]; exact wr.e i a b k u p
  · rw [Kc (w + 15) i (by omega), Rb, if_neg (by omega), Ra, if_neg (by omega), R9, if_pos ⟨rfl, a, b⟩]
theorem m_copy {a b : Int} (ha : 1 ≤ a) (hb : 1 ≤ b) (hd : a ≠ b) (la : hl M a = 1691) (lb : hl M b = 1691) : wc X d 197 [(3, a), (3, b)] M (fun q M1 => q = none ∧ (∀ x j, hh M1 x j = if x = b ∧ 0 ≤ j ∧ j < 1691 then hh M a j else hh M x j) ∧ (∀ x, hl M1 x = hl M x) ∧ M1.1 = M.1 ∧ M1.2.1 = M.2.1) := by
  show wp X d 197 0 [(3, a), (3, b), (9, 0)] [] M _
  simp only [w197_0, w197_1, ↓reduceIte, hh_wr, hl_wr, b10, b11, ite_not, ne_eq, Int.reduceEq, Int.reduceLE, Int.reduceLT, Int.reduceNe, Int.reduceNeg, Int.reduceAdd, Int.reduceSub, Int.reduceMul, not_false_eq_true, not_true_eq_false, false_and, and_false, true_and, and_true, and_self, true_or, or_true, false_or, or_false, if_true, if_false, ite_true, ite_false, mj_tl_some, mj_tl_none, mj_cs0, mj_cs1, mj_cs2, mj_cs3, mj_cs4]
  have key : ∀ (m : Nat) (k : Int) (M1 : mj_M), k + m = 1691 → 0 ≤ k → (∀ x j, hh M1 x j = if x = b ∧ 0 ≤ j ∧ j < k then hh M a j else hh M x j) → (∀ x, hl M1 x = hl M x) → M1.1 = M.1 → M1.2.1 = M.2.1 → wp X d 197 2 [(3, a), (3, b), (0, k)] [] M1 (fun q M1 => q = none ∧ (∀ x j, hh M1 x j = if x = b ∧ 0 ≤ j ∧ j < 1691 then hh M a j else hh M x j) ∧ (∀ x, hl M1 x = hl M x) ∧ M1.1 = M.1 ∧ M1.2.1 = M.2.1) := by
    intro m
    induction m with
    | zero =>
      intro k M1 e k0 R l n s
      have ek : k = 1691 := by omega
      subst ek
      simp only [w197_2, w197_3, w197_6, w197_21, ↓reduceIte, hh_wr, hl_wr, b10, b11, ite_not, ne_eq, Int.reduceEq, Int.reduceLE, Int.reduceLT, Int.reduceNe, Int.reduceNeg, Int.reduceAdd, Int.reduceSub, Int.reduceMul, not_false_eq_true, not_true_eq_false, false_and, and_false, true_and, and_true, and_self, true_or, or_true, false_or, or_false, if_true, if_false, ite_true, ite_false, mj_tl_some, mj_tl_none, mj_cs0, mj_cs1, mj_cs2, mj_cs3, mj_cs4]
      exact ⟨R, l, n, s⟩
    | succ m ih =>
      intro k M1 e k0 R l n s
      have ga : hh M1 a k = hh M a k := by rw [R, if_neg (by omega)]
      rw [w197_2]
      simp only [w197_3, w197_6, w197_9, w197_10, w197_11, w197_12, w197_13, w197_14, w197_15, w197_18, l, la, lb, ga, k0, aj (x := k) (y := 1) ⟨by omega, by omega⟩, show ¬ (1691 : Int) ≤ k by omega, show k < 1691 by omega, show ¬ a = 0 by omega, show ¬ b = 0 by omega, ↓reduceIte, hh_wr, hl_wr, b10, b11, ite_not, ne_eq, Int.reduceEq, Int.reduceLE, Int.reduceLT, Int.reduceNe, Int.reduceNeg, Int.reduceAdd, Int.reduceSub, Int.reduceMul, not_false_eq_true, not_true_eq_false, false_and, and_false, true_and, and_true, and_self, true_or, or_true, false_or, or_false, if_true, if_false, ite_true, ite_false, mj_tl_some, mj_tl_none, mj_cs0, mj_cs1, mj_cs2, mj_cs3, mj_cs4]
      refine ih (k + 1) _ (by omega) (by omega) (fun x j => ?_) l n s
      rw [hh_wr]
      by_cases g : x = b ∧ j = k
      · rw [if_pos g, if_pos (by omega), g.2]
      · rw [if_neg g, R]
        by_cases g2 : x = b ∧ 0 ≤ j ∧ j < k
        · rw [if_pos g2, if_pos (by omega)]
        · rw [if_neg g2, if_neg (by omega)]
  exact key 1691 0 M (by decide) (by decide) (fun x j => by rw [if_neg (by omega)]) (fun _ => rfl) rfl rfl
end Image3
