/-! THE MAKER OF THE ORDERS -/
def fdg (t : Int) : Nat → Int → Int → Int
  | 0, _, _ => 0
  | n + 1, k, r => if ji_and (ji_shr t k) 1 = 0 then (if r = 0 then k else fdg t n (k + 1) (r - 1)) else fdg t n (k + 1) r
def rkA (o i : Int) : Int := if i = 0 then o / 24 else if i = 1 then o % 24 / 6 else if i = 2 then o % 6 / 2 else if i = 3 then o % 2 else 0
section MakeOrders
variable {X : mj_X} {d : Nat} {M : mj_M} {Q : Option mj_V → mj_M → Prop}
theorem c_free {t r0 : Int} (h0 : 0 ≤ r0 ∧ r0 ≤ 100) : wc X d 3 [(0, t), (0, r0)] M Q ↔ Q (some (0, fdg t 5 0 r0)) M := by
  show wp X d 3 0 [(0, t), (0, r0), (9, 0), (9, 0)] [] M Q ↔ _
  simp only [w3_0, w3_1, w3_2, w3_3, ↓reduceIte, hh_wr, hl_wr, b10, b11, ite_not, ne_eq, Int.reduceEq, Int.reduceLE, Int.reduceLT, Int.reduceNe, Int.reduceNeg, Int.reduceAdd, Int.reduceSub, Int.reduceMul, not_false_eq_true, not_true_eq_false, false_and, and_false, true_and, and_true, and_self, true_or, or_true, false_or, or_false, if_true, if_false, ite_true, ite_false, mj_tl_some, mj_tl_none, mj_cs0, mj_cs1, mj_cs2, mj_cs3, mj_cs4]
  have key : ∀ (n : Nat) (k r : Int), k + n = 5 → 0 ≤ k → -k ≤ r ∧ r ≤ 100 → (wp X d 3 4 [(0, t), (0, r0), (0, r), (0, k)] [] M Q ↔ Q (some (0, fdg t n k r)) M) := by
    intro n
    induction n with
    | zero =>
      intro k r e k0 hr
      have : k = 5 := by omega
      subst this
      simp only [w3_0, w3_1, w3_2, w3_3, w3_4, w3_5, w3_6, w3_9, w3_10, w3_11, w3_12, w3_13, w3_14, w3_17, w3_18, w3_21, w3_22, w3_23, w3_26, w3_29, w3_32, w3_33, fdg, ↓reduceIte, hh_wr, hl_wr, b10, b11, ite_not, ne_eq, Int.reduceEq, Int.reduceLE, Int.reduceLT, Int.reduceNe, Int.reduceNeg, Int.reduceAdd, Int.reduceSub, Int.reduceMul, not_false_eq_true, not_true_eq_false, false_and, and_false, true_and, and_true, and_self, true_or, or_true, false_or, or_false, if_true, if_false, ite_true, ite_false, mj_tl_some, mj_tl_none, mj_cs0, mj_cs1, mj_cs2, mj_cs3, mj_cs4]
    | succ n ih =>
      intro k r e k0 hr
      rw [w3_4]
      show _ ↔ Q (some (0, if ji_and (ji_shr t k) 1 = 0 then (if r = 0 then k else fdg t n (k + 1) (r - 1)) else fdg t n (k + 1) r)) M
      have a1 : ji_add k 1 = k + 1 := aj ⟨by omega, by omega⟩
      by_cases hb : ji_and (ji_shr t k) 1 = 0
      · rw [if_pos hb]
        by_cases hz : r = 0
        · rw [if_pos hz]
          subst hz
          simp only [w3_0, w3_1, w3_2, w3_3, w3_5, w3_6, w3_9, w3_10, w3_11, w3_12, w3_13, w3_14, w3_17, w3_18, w3_21, w3_22, w3_23, w3_26, w3_29, w3_32, w3_33, hb, show ¬ (5 : Int) ≤ k by omega, show k < 5 by omega, ↓reduceIte, hh_wr, hl_wr, b10, b11, ite_not, ne_eq, Int.reduceEq, Int.reduceLE, Int.reduceLT, Int.reduceNe, Int.reduceNeg, Int.reduceAdd, Int.reduceSub, Int.reduceMul, not_false_eq_true, not_true_eq_false, false_and, and_false, true_and, and_true, and_self, true_or, or_true, false_or, or_false, if_true, if_false, ite_true, ite_false, mj_tl_some, mj_tl_none, mj_cs0, mj_cs1, mj_cs2, mj_cs3, mj_cs4]
        · rw [if_neg hz]
          have a2 : ji_add r (-1) = r - 1 := by rw [aj ⟨by omega, by omega⟩]; omega
          simp only [w3_0, w3_1, w3_2, w3_3, w3_5, w3_6, w3_9, w3_10, w3_11, w3_12, w3_13, w3_14, w3_17, w3_18, w3_21, w3_22, w3_23, w3_26, w3_29, w3_32, w3_33, hb, hz, a1, a2, show ¬ (5 : Int) ≤ k by omega, show k < 5 by omega, ↓reduceIte, hh_wr, hl_wr, b10, b11, ite_not, ne_eq, Int.reduceEq, Int.reduceLE, Int.reduceLT, Int.reduceNe, Int.reduceNeg, Int.reduceAdd, Int.reduceSub, Int.reduceMul, not_false_eq_true, not_true_eq_false, false_and, and_false, true_and, and_true, and_self, true_or, or_true, false_or, or_false, if_true, if_false, ite_true, ite_false, mj_tl_some, mj_tl_none, mj_cs0, mj_cs1, mj_cs2, mj_cs3, mj_cs4]
          exact ih (k + 1) (r - 1) (by omega) (by omega) (by omega)
      · rw [if_neg hb]
        simp only [w3_0, w3_1, w3_2, w3_3, w3_5, w3_6, w3_9, w3_10, w3_11, w3_12, w3_13, w3_14, w3_17, w3_18, w3_21, w3_22, w3_23, w3_26, w3_29, w3_32, w3_33, hb, a1, show ¬ (5 : Int) ≤ k by omega, show k < 5 by omega, ↓reduceIte, hh_wr, hl_wr, b10, b11, ite_not, ne_eq, Int.reduceEq, Int.reduceLE, Int.reduceLT, Int.reduceNe, Int.reduceNeg, Int.reduceAdd, Int.reduceSub, Int.reduceMul, not_false_eq_true, not_true_eq_false, false_and, and_false, true_and, and_true, and_self, true_or, or_true, false_or, or_false, if_true, if_false, ite_true, ite_false, mj_tl_some, mj_tl_none, mj_cs0, mj_cs1, mj_cs2, mj_cs3, mj_cs4]
        exact ih (k + 1) r (by omega) (by omega) (by omega)
  exact key 5 0 r0 (by decide) (by decide) (by omega)
end MakeOrders
