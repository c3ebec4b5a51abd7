/-! THE MAKER OF THE ORDERS: ranks -/
section MakeOrders2
variable {X : mj_X} {d : Nat} {M : mj_M} {Q : Option mj_V → mj_M → Prop}
theorem c_rank {o i : Int} (ho : 0 ≤ o ∧ o < 120) (hi : 0 ≤ i ∧ i < 5) : wc X d 2 [(0, o), (0, i)] M Q ↔ Q (some (0, rkA o i)) M := by
  show wp X d 2 0 [(0, o), (0, i)] [] M Q ↔ _
  have d24 : ji_div o 24 = o / 24 := ji_div_nn ⟨by omega, by omega⟩ ⟨by decide, by decide⟩ ho.1
  have r24 : ji_rem o 24 = o % 24 := ji_rem_nn ⟨by omega, by omega⟩ ⟨by decide, by decide⟩ ho.1
  have r6 : ji_rem o 6 = o % 6 := ji_rem_nn ⟨by omega, by omega⟩ ⟨by decide, by decide⟩ ho.1
  have r2 : ji_rem o 2 = o % 2 := ji_rem_nn ⟨by omega, by omega⟩ ⟨by decide, by decide⟩ ho.1
  have d6 : ji_div (o % 24) 6 = o % 24 / 6 := ji_div_nn ⟨by omega, by omega⟩ ⟨by decide, by decide⟩ (by omega)
  have d2 : ji_div (o % 6) 2 = o % 6 / 2 := ji_div_nn ⟨by omega, by omega⟩ ⟨by decide, by decide⟩ (by omega)
  rcases (show i = 0 ∨ i = 1 ∨ i = 2 ∨ i = 3 ∨ i = 4 by omega) with rfl | rfl | rfl | rfl | rfl
  all_goals simp only [w2_0, w2_1, w2_32, w2_33, w2_35, w2_36, w2_37, w2_38, w2_40, w2_41, w2_43, w2_44, w2_45, w2_46, w2_48, w2_49, w2_50, w2_51, w2_52, w2_53, w2_54, w2_55, w2_56, w2_57, d24, r24, r6, r2, d6, d2, rkA, ↓reduceIte, hh_wr, hl_wr, b10, b11, ite_not, ne_eq, Int.reduceEq, Int.reduceLE, Int.reduceLT, Int.reduceNe, Int.reduceNeg, Int.reduceAdd, Int.reduceSub, Int.reduceMul, not_false_eq_true, not_true_eq_false, false_and, and_false, true_and, and_true, and_self, true_or, or_true, false_or, or_false, if_true, if_false, ite_true, ite_false, mj_tl_some, mj_tl_none, mj_cs0, mj_cs1, mj_cs2, mj_cs3, mj_cs4]
end MakeOrders2
