/-! THE REFERENCE LAYS THE ORDERS: all -/
section LayO2
variable {X : mj_X} {d : Nat} {M : mj_M} {Q : Option mj_V → mj_M → Prop}
theorem m_layOrders (hc : CS M) : wc X d 190 [(32, 354)] M (fun r M' => r = none ∧ K2 358 359 M M' ∧ (∀ i : Nat, i < 600 → hh M' 358 (i : Int) = dT (i : Int)) ∧ (∀ i : Nat, i < 600 → hh M' 359 (i : Int) = pT (i : Int))) := by
  show wp X d 190 0 [(32, 354), (9, 0), (9, 0), (9, 0), (9, 0), (9, 0)] [] M _
  simp only [w190_0, w190_1, w190_2, w190_3, ↓reduceIte, hh_wr, hl_wr, b10, b11, ite_not, ne_eq, Int.reduceEq, Int.reduceLE, Int.reduceLT, Int.reduceNe, Int.reduceNeg, Int.reduceAdd, Int.reduceSub, Int.reduceMul, not_false_eq_true, not_true_eq_false, false_and, and_false, true_and, and_true, and_self, true_or, or_true, false_or, or_false, if_true, if_false, ite_true, ite_false, mj_tl_some, mj_tl_none, mj_cs0, mj_cs1, mj_cs2, mj_cs3, mj_cs4]
  have outer : ∀ (m c o : Nat) (M1 : mj_M) (v3 v4 v5 : mj_V), c + m = 3125 → LO o c → OI 358 359 M M1 o 0 → wp X d 190 4 [(32, 354), (0, (o : Int)), (0, (c : Int)), v3, v4, v5] [] M1 (fun r M' => r = none ∧ OI 358 359 M M' 120 0) := by
    intro m
    induction m with
    | zero =>
      intro c o M1 v3 v4 v5 hcm lo I
      have : c = 3125 := by omega
      subst this
      have eo := lo.e
      subst eo
      rw [w190_4]
      simp only [w190_5, w190_8, w190_117, show ¬ (((3125 : Nat) : Int) < 3125) by decide, ↓reduceIte, hh_wr, hl_wr, b10, b11, ite_not, ne_eq, Int.reduceEq, Int.reduceLE, Int.reduceLT, Int.reduceNe, Int.reduceNeg, Int.reduceAdd, Int.reduceSub, Int.reduceMul, not_false_eq_true, not_true_eq_false, false_and, and_false, true_and, and_true, and_self, true_or, or_true, false_or, or_false, if_true, if_false, ite_true, ite_false, mj_tl_some, mj_tl_none, mj_cs0, mj_cs1, mj_cs2, mj_cs3, mj_cs4]
      exact I
    | succ m ih =>
      intro c o M1 v3 v4 v5 hcm lo I
      rw [w190_4]
      simp only [w190_5, w190_8, w190_11, w190_12, w190_13, w190_14, w190_16, w190_17, show (c : Int) < 3125 by omega, ↓reduceIte, hh_wr, hl_wr, b10, b11, ite_not, ne_eq, Int.reduceEq, Int.reduceLE, Int.reduceLT, Int.reduceNe, Int.reduceNeg, Int.reduceAdd, Int.reduceSub, Int.reduceMul, not_false_eq_true, not_true_eq_false, false_and, and_false, true_and, and_true, and_self, true_or, or_true, false_or, or_false, if_true, if_false, ite_true, ite_false, mj_tl_some, mj_tl_none, mj_cs0, mj_cs1, mj_cs2, mj_cs3, mj_cs4]
      refine lay_set 5 0 0 c (by omega) (by decide) (by omega) (fun l' => ?_)
      by_cases h31 : stS 5 0 c = 31
      · obtain ⟨o1, o2, o3⟩ := lo.y (by omega) h31
        rw [h31]
        simp only [w190_46, w190_47, w190_49, w190_55, w190_56, w190_58, w190_59, show (((31 : Nat) : Int)) = 31 from rfl, ↓reduceIte, hh_wr, hl_wr, b10, b11, ite_not, ne_eq, Int.reduceEq, Int.reduceLE, Int.reduceLT, Int.reduceNe, Int.reduceNeg, Int.reduceAdd, Int.reduceSub, Int.reduceMul, not_false_eq_true, not_true_eq_false, false_and, and_false, true_and, and_true, and_self, true_or, or_true, false_or, or_false, if_true, if_false, ite_true, ite_false, mj_tl_some, mj_tl_none, mj_cs0, mj_cs1, mj_cs2, mj_cs3, mj_cs4]
        have row := lay_row (X := X) (d := d) (Q := fun r M' => r = none ∧ OI 358 359 M M' 120 0) hc o1 o2 (v := (0, (c : Int))) 5 0 c 4 M1 (by omega) (by decide) (show c = c / 5 ^ 0 by simp) I.f (fun i hi => I.d i (by omega)) I.p (fun i hi => by omega) (fun M2 l' I2 => by
          simp only [w190_108, w190_111, w190_114, jp1 (p := o) (by omega), jp1 (p := c) (by omega), ↓reduceIte, hh_wr, hl_wr, b10, b11, ite_not, ne_eq, Int.reduceEq, Int.reduceLE, Int.reduceLT, Int.reduceNe, Int.reduceNeg, Int.reduceAdd, Int.reduceSub, Int.reduceMul, not_false_eq_true, not_true_eq_false, false_and, and_false, true_and, and_true, and_self, true_or, or_true, false_or, or_false, if_true, if_false, ite_true, ite_false, mj_tl_some, mj_tl_none, mj_cs0, mj_cs1, mj_cs2, mj_cs3, mj_cs4]
          exact ih (c + 1) (o + 1) M2 _ _ _ (by omega) o3 (I2.next o1))
        exact row
      · have n31 : ¬ (((stS 5 0 c : Nat) : Int) = 31) := by omega
        simp only [w190_46, w190_47, w190_49, w190_52, w190_111, w190_114, n31, jp1 (p := c) (by omega), ↓reduceIte, hh_wr, hl_wr, b10, b11, ite_not, ne_eq, Int.reduceEq, Int.reduceLE, Int.reduceLT, Int.reduceNe, Int.reduceNeg, Int.reduceAdd, Int.reduceSub, Int.reduceMul, not_false_eq_true, not_true_eq_false, false_and, and_false, true_and, and_true, and_self, true_or, or_true, false_or, or_false, if_true, if_false, ite_true, ite_false, mj_tl_some, mj_tl_none, mj_cs0, mj_cs1, mj_cs2, mj_cs3, mj_cs4]
        exact ih (c + 1) o M1 _ _ _ (by omega) (lo.n h31) I
  refine wp.mono (outer 3125 0 0 M _ _ _ (by omega) ⟨by decide, fun i hi => by omega, fun i _ _ => by omega⟩ ⟨K2.rfl', fun i hi => by omega, fun i hi => by omega, fun i hi => by omega⟩) ?_
  rintro r M' ⟨rfl, I⟩
  exact ⟨rfl, I.f, fun i hi => I.d i (by omega), fun i hi => I.p i (by omega)⟩
end LayO2
