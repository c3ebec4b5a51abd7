/-! THE MAKER OF THE HAND -/
section MakeHand
variable {X : mj_X} {d : Nat} {M : mj_M} {Q : Option mj_V → mj_M → Prop}
theorem i_Hand {c a b : Int} (hc : nx M = c) (hc1 : 1 ≤ c) : wc X (d + 1) 9 [(22, c), (30, a), (23, b)] M (fun r M' => r = none ∧ nx M' = c + 5 ∧ M'.2.1 ≤ M.2.1 + 200 ∧ old c M M' ∧ (hh M' c 0 = a ∧ hh M' c 1 = b ∧ hh M' c 2 = c + 1) ∧ MomentNew (c + 1) M') := by
  show wp X (d + 1) 9 0 [(22, c), (30, a), (23, b)] [] M _
  have hx : ¬ (c = 0) := by omega
  simp only [w9_0, w9_1, w9_4, w9_5, w9_8, w9_9, w9_12, w9_15, w9_16, w9_17, w9_20, w9_21, w9_22, w9_25, hx, nx_def, hc, ↓reduceIte, hh_wr, hl_wr, b10, b11, ite_not, ne_eq, Int.reduceEq, Int.reduceLE, Int.reduceLT, Int.reduceNe, Int.reduceNeg, Int.reduceAdd, Int.reduceSub, Int.reduceMul, not_false_eq_true, not_true_eq_false, false_and, and_false, true_and, and_true, and_self, true_or, or_true, false_or, or_false, if_true, if_false, ite_true, ite_false, mj_tl_some, mj_tl_none, mj_cs0, mj_cs1, mj_cs2, mj_cs3, mj_cs4]
  refine ⟨by omega, wc.mono (i_Moment (M := mj_nw M 24 8 (fun _ => 0)) (c := c + 1) (by rw [nx_nw, hc]) (by omega)) ?_⟩
  rintro r M1 ⟨rfl, n1, s1, o1, t1⟩
  have p1 : old (c + 1) M M1 := (old.nw (by rw [hc]; exact Int.le_refl _)).tr o1 (Int.le_refl _)
  simp only [w9_0, w9_1, w9_4, w9_5, w9_8, w9_9, w9_12, w9_15, w9_16, w9_17, w9_20, w9_21, w9_22, w9_25, hx, nx_def, nx_wr, n1, ↓reduceIte, hh_wr, hl_wr, b10, b11, ite_not, ne_eq, Int.reduceEq, Int.reduceLE, Int.reduceLT, Int.reduceNe, Int.reduceNeg, Int.reduceAdd, Int.reduceSub, Int.reduceMul, not_false_eq_true, not_true_eq_false, false_and, and_false, true_and, and_true, and_self, true_or, or_true, false_or, or_false, if_true, if_false, ite_true, ite_false, mj_tl_some, mj_tl_none, mj_cs0, mj_cs1, mj_cs2, mj_cs3, mj_cs4]
  refine ⟨by omega, ?_, ?_, ?_⟩
  · rw [s_nw] at s1
    simp only [s_wr]
    omega
  · exact (p1.le (by omega)).tr (((old.wr (Int.le_refl _)).tr (old.wr (Int.le_refl _)) (Int.le_refl _)).tr (old.wr (Int.le_refl _)) (Int.le_refl _)) (Int.le_refl _)
  · unfold MomentNew at t1 ⊢
    simp only [hh_wr, hl_wr, show ∀ k : Int, (c + 1 + k = c) = (k = -1) from fun k => by rw [eq_iff_iff]; omega, show ¬ c + 1 = c by omega, ↓reduceIte, hh_wr, hl_wr, b10, b11, ite_not, ne_eq, Int.reduceEq, Int.reduceLE, Int.reduceLT, Int.reduceNe, Int.reduceNeg, Int.reduceAdd, Int.reduceSub, Int.reduceMul, not_false_eq_true, not_true_eq_false, false_and, and_false, true_and, and_true, and_self, true_or, or_true, false_or, or_false, if_true, if_false, ite_true, ite_false, mj_tl_some, mj_tl_none, mj_cs0, mj_cs1, mj_cs2, mj_cs3, mj_cs4]
    exact t1
end MakeHand
