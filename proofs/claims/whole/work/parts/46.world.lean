/-! THE MAKER OF World -/
section IniW
variable {X : mj_X} {d : Nat} {M : mj_M} {Q : Option mj_V → mj_M → Prop}
/-- the fields of a new world at c -/
def WFields (c : Int) (M : mj_M) : Prop := hh M c 0 = c + 1 ∧ hh M c 1 = c + 5 ∧ hh M c 2 = c + 10 ∧ hh M c 3 = c + 12 ∧ hh M c 4 = 0 ∧ hh M c 5 = c + 14 ∧ hh M c 6 = 0 ∧ hh M c 7 = -1 ∧ hh M c 8 = c + 15 ∧ hh M c 9 = 0 ∧ hh M c 10 = 0 ∧ hh M c 11 = c + 16
def WRowsNew (c : Int) (M : mj_M) : Prop := (∀ j, hh M (c + 14) j = 0) ∧ hl M (c + 14) = 4 ∧ (∀ j, hh M (c + 15) j = 0) ∧ hl M (c + 15) = 4 ∧ hl M (c + 16) = 30
def WorldNew (c : Int) (M : mj_M) : Prop := WFields c M ∧ TongueNew (c + 1) M ∧ MomentNew (c + 5) M ∧ RowsNew (c + 10) M ∧ RowsNew (c + 12) M ∧ WRowsNew c M ∧ (∀ i : Int, 0 ≤ i → i < 30 → hh M (c + 16) i = c + 17 + 5 * i ∧ MomentNew (c + 17 + 5 * i) M)
theorem WFields.old {a c : Int} {M M1 : mj_M} (h : WFields c M) (ho : old a M M1) (hc : c < a) : WFields c M1 := by
  unfold WFields at h ⊢
  simp only [(ho c hc).1]
  exact h
theorem WRowsNew.old {a c : Int} {M M1 : mj_M} (h : WRowsNew c M) (ho : old a M M1) (hc : c + 16 < a) : WRowsNew c M1 := by
  unfold WRowsNew at h ⊢
  simp only [(ho (c + 14) (by omega)).1, (ho (c + 14) (by omega)).2, (ho (c + 15) (by omega)).1, (ho (c + 15) (by omega)).2, (ho (c + 16) (by omega)).2]
  exact h
/-- the loop that makes the thirty moments -/
theorem i_WLoop {c : Int} (hc1 : 1 ≤ c) (hQ : ∀ M', nx M' = c + 166 → WorldNew c M' → old c M M' → M'.2.1 = M.2.1 + 4380 → Q none M') (hF : WFields c M) (h1 : TongueNew (c + 1) M) (h2 : MomentNew (c + 5) M) (h3 : RowsNew (c + 10) M) (h4 : RowsNew (c + 12) M) (h5 : WRowsNew c M) (hn : nx M = c + 16) : wp X (d + 1) 4 99 [(30, c), (0, 0)] [] M Q := by
  have loop : ∀ (n k : Nat) (M1 : mj_M), k + n = 30 → nx M1 = c + 16 + 5 * (k : Int) → M1.2.1 = M.2.1 + 146 * k → old c M M1 → WFields c M1 → TongueNew (c + 1) M1 → MomentNew (c + 5) M1 → RowsNew (c + 10) M1 → RowsNew (c + 12) M1 → WRowsNew c M1 → (∀ i : Int, 0 ≤ i → i < (k : Int) → hh M1 (c + 16) i = c + 17 + 5 * i ∧ MomentNew (c + 17 + 5 * i) M1) → wp X (d + 1) 4 99 [(30, c), (0, (k : Int))] [] M1 Q := by
    intro n
    induction n with
    | zero =>
      intro k M1 hk hn1 hsl ho f1 f2 f3 f4 f5 f6 f7
      obtain rfl : k = 30 := by omega
      simp only [w4_0, w4_1, w4_4, w4_5, w4_8, w4_9, w4_12, w4_15, w4_16, w4_19, w4_20, w4_23, w4_26, w4_27, w4_30, w4_31, w4_34, w4_37, w4_38, w4_41, w4_42, w4_45, w4_48, w4_49, w4_50, w4_53, w4_54, w4_55, w4_57, w4_60, w4_61, w4_62, w4_65, w4_66, w4_67, w4_70, w4_71, w4_72, w4_75, w4_78, w4_79, w4_80, w4_83, w4_84, w4_85, w4_88, w4_89, w4_91, w4_94, w4_97, w4_98, w4_99, w4_100, w4_102, w4_105, w4_106, w4_109, w4_110, w4_113, w4_114, w4_117_6, w4_117_7, w4_118, w4_121, w4_124, ↓reduceIte, hh_wr, hl_wr, b10, b11, ite_not, ne_eq, Int.reduceEq, Int.reduceLE, Int.reduceLT, Int.reduceNe, Int.reduceNeg, Int.reduceAdd, Int.reduceSub, Int.reduceMul, not_false_eq_true, not_true_eq_false, false_and, and_false, true_and, and_true, and_self, true_or, or_true, false_or, or_false, if_true, if_false, ite_true, ite_false, mj_tl_some, mj_tl_none, mj_cs0, mj_cs1, mj_cs2, mj_cs3, mj_cs4]
      exact hQ M1 (by omega) ⟨f1, f2, f3, f4, f5, f6, fun i hi hi2 => f7 i hi (by omega)⟩ ho (by omega)
    | succ n ih =>
      intro k M1 hk hn1 hsl ho f1 f2 f3 f4 f5 f6 f7
      have hx : ¬ (c = 0) := by omega
      have hk2 : (k : Int) < 30 := by omega
      have ea : hh M1 c 11 = c + 16 := f1.2.2.2.2.2.2.2.2.2.2.2
      rw [w4_99]
      simp only [w4_0, w4_1, w4_4, w4_5, w4_8, w4_9, w4_12, w4_15, w4_16, w4_19, w4_20, w4_23, w4_26, w4_27, w4_30, w4_31, w4_34, w4_37, w4_38, w4_41, w4_42, w4_45, w4_48, w4_49, w4_50, w4_53, w4_54, w4_55, w4_57, w4_60, w4_61, w4_62, w4_65, w4_66, w4_67, w4_70, w4_71, w4_72, w4_75, w4_78, w4_79, w4_80, w4_83, w4_84, w4_85, w4_88, w4_89, w4_91, w4_94, w4_97, w4_98, w4_100, w4_102, w4_105, w4_106, w4_109, w4_110, w4_113, w4_114, w4_117_6, w4_117_7, w4_118, w4_121, w4_124, hk2, hx, ea, nx_def, hn1, ↓reduceIte, hh_wr, hl_wr, b10, b11, ite_not, ne_eq, Int.reduceEq, Int.reduceLE, Int.reduceLT, Int.reduceNe, Int.reduceNeg, Int.reduceAdd, Int.reduceSub, Int.reduceMul, not_false_eq_true, not_true_eq_false, false_and, and_false, true_and, and_true, and_self, true_or, or_true, false_or, or_false, if_true, if_false, ite_true, ite_false, mj_tl_some, mj_tl_none, mj_cs0, mj_cs1, mj_cs2, mj_cs3, mj_cs4]
      refine ⟨by omega, wc.mono (i_Moment (M := mj_nw M1 24 8 (fun _ => 0)) (c := c + 16 + 5 * (k : Int) + 1) (by rw [nx_nw, hn1]) (by omega)) ?_⟩
      rintro r M2 ⟨rfl, n2, s2, o2, t2⟩
      have o3 : old (c + 16 + 5 * (k : Int) + 1) M1 M2 := (old.nw (by rw [hn1]; exact Int.le_refl _)).tr o2 (Int.le_refl _)
      have ll : hl M2 (c + 16) = 30 := by rw [(o3 (c + 16) (by omega)).2]; exact f6.2.2.2.2
      have e1 : ji_add (k : Int) 1 = ((k + 1 : Nat) : Int) := by rw [ji_add_eq ⟨by omega, by omega⟩]; omega
      have ow : old (c + 16) M2 (mj_wr M2 (c + 16) (k : Int) (c + 16 + 5 * (k : Int) + 1)) := old.wr (Int.le_refl _)
      simp only [w4_0, w4_1, w4_4, w4_5, w4_8, w4_9, w4_12, w4_15, w4_16, w4_19, w4_20, w4_23, w4_26, w4_27, w4_30, w4_31, w4_34, w4_37, w4_38, w4_41, w4_42, w4_45, w4_48, w4_49, w4_50, w4_53, w4_54, w4_55, w4_57, w4_60, w4_61, w4_62, w4_65, w4_66, w4_67, w4_70, w4_71, w4_72, w4_75, w4_78, w4_79, w4_80, w4_83, w4_84, w4_85, w4_88, w4_89, w4_91, w4_94, w4_97, w4_98, w4_100, w4_102, w4_105, w4_106, w4_109, w4_110, w4_113, w4_114, w4_117_6, w4_117_7, w4_118, w4_121, w4_124, hk2, hx, ll, e1, show ¬ c + 16 = 0 by omega, show ¬ c + 16 + 5 * (k : Int) + 1 = 0 by omega, show (0 : Int) ≤ (k : Int) by omega, ↓reduceIte, hh_wr, hl_wr, b10, b11, ite_not, ne_eq, Int.reduceEq, Int.reduceLE, Int.reduceLT, Int.reduceNe, Int.reduceNeg, Int.reduceAdd, Int.reduceSub, Int.reduceMul, not_false_eq_true, not_true_eq_false, false_and, and_false, true_and, and_true, and_self, true_or, or_true, false_or, or_false, if_true, if_false, ite_true, ite_false, mj_tl_some, mj_tl_none, mj_cs0, mj_cs1, mj_cs2, mj_cs3, mj_cs4]
      refine ih (k + 1) _ (by omega) (by rw [nx_wr, n2]; omega) ?_ ((ho.tr (o3.le (by omega)) (Int.le_refl c)).tr (ow.le (by omega)) (Int.le_refl c)) ((f1.old o3 (by omega)).old ow (by omega)) ((f2.old o3 (by omega)).old ow (by omega)) ((f3.old o3 (by omega)).old ow (by omega)) ((f4.old o3 (by omega)).old ow (by omega)) ((f5.old o3 (by omega)).old ow (by omega)) ?_ ?_
      · rw [s_wr, s2, s_nw, hsl]
        omega
      · have g := f6.old o3 (by omega)
        unfold WRowsNew at g ⊢
        simp only [hh_wr, hl_wr, show ¬ c + 14 = c + 16 by omega, show ¬ c + 15 = c + 16 by omega, ↓reduceIte, hh_wr, hl_wr, b10, b11, ite_not, ne_eq, Int.reduceEq, Int.reduceLE, Int.reduceLT, Int.reduceNe, Int.reduceNeg, Int.reduceAdd, Int.reduceSub, Int.reduceMul, not_false_eq_true, not_true_eq_false, false_and, and_false, true_and, and_true, and_self, true_or, or_true, false_or, or_false, if_true, if_false, ite_true, ite_false, mj_tl_some, mj_tl_none, mj_cs0, mj_cs1, mj_cs2, mj_cs3, mj_cs4]
        exact g
      · intro i hi hi2
        by_cases e : i = (k : Int)
        · subst e
          refine ⟨by rw [hh_wr, if_pos ⟨rfl, rfl⟩]; omega, ?_⟩
          rw [show c + 17 + 5 * (k : Int) = c + 16 + 5 * (k : Int) + 1 by omega]
          unfold MomentNew at t2 ⊢
          simp only [hh_wr, hl_wr, show ¬ c + 16 + 5 * (k : Int) + 1 = c + 16 by omega, show ¬ c + 16 + 5 * (k : Int) + 1 + 1 = c + 16 by omega, show ¬ c + 16 + 5 * (k : Int) + 1 + 2 = c + 16 by omega, show ¬ c + 16 + 5 * (k : Int) + 1 + 3 = c + 16 by omega, show ¬ c + 16 + 5 * (k : Int) + 1 + 4 = c + 16 by omega, ↓reduceIte, hh_wr, hl_wr, b10, b11, ite_not, ne_eq, Int.reduceEq, Int.reduceLE, Int.reduceLT, Int.reduceNe, Int.reduceNeg, Int.reduceAdd, Int.reduceSub, Int.reduceMul, not_false_eq_true, not_true_eq_false, false_and, and_false, true_and, and_true, and_self, true_or, or_true, false_or, or_false, if_true, if_false, ite_true, ite_false, mj_tl_some, mj_tl_none, mj_cs0, mj_cs1, mj_cs2, mj_cs3, mj_cs4]
          exact t2
        · obtain ⟨g1, g2⟩ := f7 i hi (by omega)
          refine ⟨by rw [hh_wr, if_neg (fun q => e q.2), (o3 (c + 16) (by omega)).1]; exact g1, ?_⟩
          have g3 := g2.old o3 (by omega)
          unfold MomentNew at g3 ⊢
          simp only [hh_wr, hl_wr, show ¬ c + 17 + 5 * i = c + 16 by omega, show ¬ c + 17 + 5 * i + 1 = c + 16 by omega, show ¬ c + 17 + 5 * i + 2 = c + 16 by omega, show ¬ c + 17 + 5 * i + 3 = c + 16 by omega, show ¬ c + 17 + 5 * i + 4 = c + 16 by omega, ↓reduceIte, hh_wr, hl_wr, b10, b11, ite_not, ne_eq, Int.reduceEq, Int.reduceLE, Int.reduceLT, Int.reduceNe, Int.reduceNeg, Int.reduceAdd, Int.reduceSub, Int.reduceMul, not_false_eq_true, not_true_eq_false, false_and, and_false, true_and, and_true, and_self, true_or, or_true, false_or, or_false, if_true, if_false, ite_true, ite_false, mj_tl_some, mj_tl_none, mj_cs0, mj_cs1, mj_cs2, mj_cs3, mj_cs4]
          exact g3
  exact loop 30 0 M rfl (by rw [hn]; simp) (by simp) (fun x hx => ⟨fun j => rfl, rfl⟩) hF h1 h2 h3 h4 h5 (fun i hi hi2 => by simp at hi2; omega)
end IniW
