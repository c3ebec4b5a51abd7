/-! THE MAKER OF World -/
section IniW
variable {X : mj_X} {d : Nat} {M : mj_M} {Q : Option mj_V → mj_M → Prop}
/-- the fields of a new world at c -/
def WFields (c : Int) (M : mj_M) : Prop := hh M c 0 = c + 1 ∧ hh M c 1 = c + 5 ∧ hh M c 2 = c + 10 ∧ hh M c 3 = c + 12 ∧ hh M c 4 = 0 ∧ hh M c 5 = c + 14 ∧ hh M c 6 = 0 ∧ hh M c 7 = -1 ∧ hh M c 8 = c + 15 ∧ hh M c 9 = 0 ∧ hh M c 10 = 0 ∧ hh M c 11 = c + 16
def WRowsNew (c : Int) (M : mj_M) : Prop := (∀ j, hh M (c + 14) j = 0) ∧ hl M (c + 14) = 4 ∧ (∀ j, hh M (c + 15) j = 0) ∧ hl M (c + 15) = 4 ∧ hl M (c + 16) = 30
def WorldNew (c : Int) (M : mj_M) : Prop := WFields c M ∧ TongueNew (c + 1) M ∧ MomentNew (c + 5) M ∧ RowsNew (c + 10) M ∧ RowsNew (c + 12) M ∧ WRowsNew c M ∧ (∀ i : Int, 0 ≤ i → i < 30 → hh M (c + 16) i = c + 17 + 5 * i ∧ MomentNew (c + 17 + 5 * i) M)
theorem WFields.old {a c : Int} {M M1 : mj_M} (h : WFields c M) (ho : old a M M1) (hc : c < a) : WFields c M1 := by
  unfold WFields at h ⊢
  simp only [(ho c hc).1]
  exact h
theorem WRowsNew.old {a c : Int} {M M1 : mj_M} (h : WRowsNew c M) (ho : old a M M1) (hc : c + 16 < a) : WRowsNew c M1 := by
  unfold WRowsNew at h ⊢
  simp only [(ho (c + 14) (by omega)).1, (ho (c + 14) (by omega)).2, (ho (c + 15) (by omega)).1, (ho (c + 15) (by omega)).2, (ho (c + 16) (by omega)).2]
  exact h
/-- a cell stays -/
def same (x : Int) (M M' : mj_M) : Prop := (∀ j, hh M' x j = hh M x j) ∧ hl M' x = hl M x
theorem same.tr {x : Int} {M M1 M2 : mj_M} (h1 : same x M M1) (h2 : same x M1 M2) : same x M M2 := ⟨fun j => (h2.1 j).trans (h1.1 j), h2.2.trans h1.2⟩
theorem TongueNew.keep {c : Int} {M M1 : mj_M} (h : TongueNew c M) (ho : ∀ x, c ≤ x → x ≤ c + 3 → same x M M1) : TongueNew c M1 := by
  unfold TongueNew at h ⊢
  simp only [(ho c (by omega) (by omega)).1, (ho (c + 1) (by omega) (by omega)).1, (ho (c + 2) (by omega) (by omega)).1, (ho (c + 3) (by omega) (by omega)).1, (ho (c + 1) (by omega) (by omega)).2, (ho (c + 2) (by omega) (by omega)).2, (ho (c + 3) (by omega) (by omega)).2]
  exact h
theorem MomentNew.keep {c : Int} {M M1 : mj_M} (h : MomentNew c M) (ho : ∀ x, c ≤ x → x ≤ c + 4 → same x M M1) : MomentNew c M1 := by
  unfold MomentNew at h ⊢
  simp only [(ho c (by omega) (by omega)).1, (ho (c + 1) (by omega) (by omega)).1, (ho (c + 2) (by omega) (by omega)).1, (ho (c + 3) (by omega) (by omega)).1, (ho (c + 4) (by omega) (by omega)).1, (ho (c + 1) (by omega) (by omega)).2, (ho (c + 2) (by omega) (by omega)).2, (ho (c + 3) (by omega) (by omega)).2, (ho (c + 4) (by omega) (by omega)).2]
  exact h
theorem RowsNew.keep {c : Int} {M M1 : mj_M} (h : RowsNew c M) (ho : ∀ x, c ≤ x → x ≤ c + 1 → same x M M1) : RowsNew c M1 := by
  unfold RowsNew at h ⊢
  simp only [(ho c (by omega) (by omega)).1, (ho (c + 1) (by omega) (by omega)).1, (ho (c + 1) (by omega) (by omega)).2]
  exact h
/-- the loop that makes the thirty moments -/
theorem i_WLoop {c : Int} (hc1 : 1 ≤ c) (hQ : ∀ M', nx M' = c + 166 → WorldNew c M' → old c M M' → M'.2.1 = M.2.1 + 4380 → Q none M') (hF : WFields c M) (h1 : TongueNew (c + 1) M) (h2 : MomentNew (c + 5) M) (h3 : RowsNew (c + 10) M) (h4 : RowsNew (c + 12) M) (h5 : WRowsNew c M) (hn : nx M = c + 16) : wp X (d + 1) 4 99 [(30, c), (0, 0)] [] M Q := by
  have loop : ∀ (n k : Nat) (M1 : mj_M), k + n = 30 → nx M1 = c + 16 + 5 * (k : Int) → M1.2.1 = M.2.1 + 146 * k → old c M M1 → WFields c M1 → TongueNew (c + 1) M1 → MomentNew (c + 5) M1 → RowsNew (c + 10) M1 → RowsNew (c + 12) M1 → WRowsNew c M1 → (∀ i : Int, 0 ≤ i → i < (k : Int) → hh M1 (c + 16) i = c + 17 + 5 * i ∧ MomentNew (c + 17 + 5 * i) M1) → wp X (d + 1) 4 99 [(30, c), (0, (k : Int))] [] M1 Q := by
    intro n
    induction n with
    | zero =>
      intro k M1 hk hn1 hsl ho f1 f2 f3 f4 f5 f6 f7
      obtain rfl : k = 30 := by omega
      simp only [w4_0, w4_1, w4_4, w4_5, w4_8, w4_9, w4_12, w4_15, w4_16, w4_19, w4_20, w4_23, w4_26, w4_27, w4_30, w4_31, w4_34, w4_37, w4_38, w4_41, w4_42, w4_45, w4_48, w4_49, w4_50, w4_53, w4_54, w4_55, w4_57, w4_60, w4_61, w4_62, w4_65, w4_66, w4_67, w4_70, w4_71, w4_72, w4_75, w4_78, w4_79, w4_80, w4_83, w4_84, w4_85, w4_88, w4_89, w4_91, w4_94, w4_97, w4_98, w4_99, w4_100, w4_102, w4_105, w4_106, w4_109, w4_110, w4_113, w4_114, w4_117_6, w4_117_7, w4_118, w4_121, w4_124, ↓reduceIte, hh_wr, hl_wr, b10, b11, ite_not, ne_eq, Int.reduceEq, Int.reduceLE, Int.reduceLT, Int.reduceNe, Int.reduceNeg, Int.reduceAdd, Int.reduceSub, Int.reduceMul, not_false_eq_true, not_true_eq_false, false_and, and_false, true_and, and_true, and_self, true_or, or_true, false_or, or_false, if_true, if_false, ite_true, ite_false, mj_tl_some, mj_tl_none, mj_cs0, mj_cs1, mj_cs2, mj_cs3, mj_cs4]
      exact hQ M1 (by omega) ⟨f1, f2, f3, f4, f5, f6, fun i hi hi2 => f7 i hi (by omega)⟩ ho (by omega)
    | succ n ih =>
      intro k M1 hk hn1 hsl ho f1 f2 f3 f4 f5 f6 f7
      have hx : ¬ (c = 0) := by omega
      have hk2 : (k : Int) < 30 := by omega
      have ea : hh M1 c 11 = c + 16 := f1.2.2.2.2.2.2.2.2.2.2.2
      rw [w4_99]
      simp only [w4_0, w4_1, w4_4, w4_5, w4_8, w4_9, w4_12, w4_15, w4_16, w4_19, w4_20, w4_23, w4_26, w4_27, w4_30, w4_31, w4_34, w4_37, w4_38, w4_41, w4_42, w4_45, w4_48, w4_49, w4_50, w4_53, w4_54, w4_55, w4_57, w4_60, w4_61, w4_62, w4_65, w4_66, w4_67, w4_70, w4_71, w4_72, w4_75, w4_78, w4_79, w4_80, w4_83, w4_84, w4_85, w4_88, w4_89, w4_91, w4_94, w4_97, w4_98, w4_100, w4_102, w4_105, w4_106, w4_109, w4_110, w4_113, w4_114, w4_117_6, w4_117_7, w4_118, w4_121, w4_124, hk2, hx, ea, nx_def, hn1, ↓reduceIte, hh_wr, hl_wr, b10, b11, ite_not, ne_eq, Int.reduceEq, Int.reduceLE, Int.reduceLT, Int.reduceNe, Int.reduceNeg, Int.reduceAdd, Int.reduceSub, Int.reduceMul, not_false_eq_true, not_true_eq_false, false_and, and_false, true_and, and_true, and_self, true_or, or_true, false_or, or_false, if_true, if_false, ite_true, ite_false, mj_tl_some, mj_tl_none, mj_cs0, mj_cs1, mj_cs2, mj_cs3, mj_cs4]
      refine ⟨by omega, wc.mono (i_Moment (M := mj_nw M1 24 8 (fun _ => 0)) (c := c + 16 + 5 * (k : Int) + 1) (by rw [nx_nw, hn1]) (by omega)) ?_⟩
      rintro r M2 ⟨rfl, n2, s2, o2, t2⟩
      have o3 : old (c + 16 + 5 * (k : Int) + 1) M1 M2 := (old.nw (by rw [hn1]; exact Int.le_refl _)).tr o2 (Int.le_refl _)
      have ll : hl M2 (c + 16) = 30 := by rw [(o3 (c + 16) (by omega)).2]; exact f6.2.2.2.2
      have e1 : ji_add (k : Int) 1 = ((k + 1 : Nat) : Int) := by rw [ji_add_eq ⟨by omega, by omega⟩]; omega
      have ow : old (c + 16) M2 (mj_wr M2 (c + 16) (k : Int) (c + 16 + 5 * (k : Int) + 1)) := old.wr (Int.le_refl _)
      simp only [w4_0, w4_1, w4_4, w4_5, w4_8, w4_9, w4_12, w4_15, w4_16, w4_19, w4_20, w4_23, w4_26, w4_27, w4_30, w4_31, w4_34, w4_37, w4_38, w4_41, w4_42, w4_45, w4_48, w4_49, w4_50, w4_53, w4_54, w4_55, w4_57, w4_60, w4_61, w4_62, w4_65, w4_66, w4_67, w4_70, w4_71, w4_72, w4_75, w4_78, w4_79, w4_80, w4_83, w4_84, w4_85, w4_88, w4_89, w4_91, w4_94, w4_97, w4_98, w4_100, w4_102, w4_105, w4_106, w4_109, w4_110, w4_113, w4_114, w4_117_6, w4_117_7, w4_118, w4_121, w4_124, hk2, hx, ll, e1, show ¬ c + 16 = 0 by omega, show ¬ c + 16 + 5 * (k : Int) + 1 = 0 by omega, show (0 : Int) ≤ (k : Int) by omega, ↓reduceIte, hh_wr, hl_wr, b10, b11, ite_not, ne_eq, Int.reduceEq, Int.reduceLE, Int.reduceLT, Int.reduceNe, Int.reduceNeg, Int.reduceAdd, Int.reduceSub, Int.reduceMul, not_false_eq_true, not_true_eq_false, false_and, and_false, true_and, and_true, and_self, true_or, or_true, false_or, or_false, if_true, if_false, ite_true, ite_false, mj_tl_some, mj_tl_none, mj_cs0, mj_cs1, mj_cs2, mj_cs3, mj_cs4]
      refine ih (k + 1) _ (by omega) (by rw [nx_wr, n2]; omega) ?_ ((ho.tr (o3.le (by omega)) (Int.le_refl c)).tr (ow.le (by omega)) (Int.le_refl c)) ((f1.old o3 (by omega)).old ow (by omega)) ((f2.old o3 (by omega)).old ow (by omega)) ((f3.old o3 (by omega)).old ow (by omega)) ((f4.old o3 (by omega)).old ow (by omega)) ((f5.old o3 (by omega)).old ow (by omega)) ?_ ?_
      · rw [s_wr, s2, s_nw, hsl]
        omega
      · have g := f6.old o3 (by omega)
        unfold WRowsNew at g ⊢
        simp only [hh_wr, hl_wr, show ¬ c + 14 = c + 16 by omega, show ¬ c + 15 = c + 16 by omega, ↓reduceIte, hh_wr, hl_wr, b10, b11, ite_not, ne_eq, Int.reduceEq, Int.reduceLE, Int.reduceLT, Int.reduceNe, Int.reduceNeg, Int.reduceAdd, Int.reduceSub, Int.reduceMul, not_false_eq_true, not_true_eq_false, false_and, and_false, true_and, and_true, and_self, true_or, or_true, false_or, or_false, if_true, if_false, ite_true, ite_false, mj_tl_some, mj_tl_none, mj_cs0, mj_cs1, mj_cs2, mj_cs3, mj_cs4]
        exact g
      · intro i hi hi2
        by_cases e : i = (k : Int)
        · subst e
          refine ⟨by rw [hh_wr, if_pos ⟨rfl, rfl⟩]; omega, ?_⟩
          rw [show c + 17 + 5 * (k : Int) = c + 16 + 5 * (k : Int) + 1 by omega]
          unfold MomentNew at t2 ⊢
          simp only [hh_wr, hl_wr, show ¬ c + 16 + 5 * (k : Int) + 1 = c + 16 by omega, show ¬ c + 16 + 5 * (k : Int) + 1 + 1 = c + 16 by omega, show ¬ c + 16 + 5 * (k : Int) + 1 + 2 = c + 16 by omega, show ¬ c + 16 + 5 * (k : Int) + 1 + 3 = c + 16 by omega, show ¬ c + 16 + 5 * (k : Int) + 1 + 4 = c + 16 by omega, ↓reduceIte, hh_wr, hl_wr, b10, b11, ite_not, ne_eq, Int.reduceEq, Int.reduceLE, Int.reduceLT, Int.reduceNe, Int.reduceNeg, Int.reduceAdd, Int.reduceSub, Int.reduceMul, not_false_eq_true, not_true_eq_false, false_and, and_false, true_and, and_true, and_self, true_or, or_true, false_or, or_false, if_true, if_false, ite_true, ite_false, mj_tl_some, mj_tl_none, mj_cs0, mj_cs1, mj_cs2, mj_cs3, mj_cs4]
          exact t2
        · obtain ⟨g1, g2⟩ := f7 i hi (by omega)
          refine ⟨by rw [hh_wr, if_neg (fun q => e q.2), (o3 (c + 16) (by omega)).1]; exact g1, ?_⟩
          have g3 := g2.old o3 (by omega)
          unfold MomentNew at g3 ⊢
          simp only [hh_wr, hl_wr, show ¬ c + 17 + 5 * i = c + 16 by omega, show ¬ c + 17 + 5 * i + 1 = c + 16 by omega, show ¬ c + 17 + 5 * i + 2 = c + 16 by omega, show ¬ c + 17 + 5 * i + 3 = c + 16 by omega, show ¬ c + 17 + 5 * i + 4 = c + 16 by omega, ↓reduceIte, hh_wr, hl_wr, b10, b11, ite_not, ne_eq, Int.reduceEq, Int.reduceLE, Int.reduceLT, Int.reduceNe, Int.reduceNeg, Int.reduceAdd, Int.reduceSub, Int.reduceMul, not_false_eq_true, not_true_eq_false, false_and, and_false, true_and, and_true, and_self, true_or, or_true, false_or, or_false, if_true, if_false, ite_true, ite_false, mj_tl_some, mj_tl_none, mj_cs0, mj_cs1, mj_cs2, mj_cs3, mj_cs4]
          exact g3
  exact loop 30 0 M rfl (by rw [hn]; simp) (by simp) (fun x hx => ⟨fun j => rfl, rfl⟩) hF h1 h2 h3 h4 h5 (fun i hi hi2 => by simp at hi2; omega)
theorem i_World {c : Int} (hc : nx M = c) (hc1 : 1 ≤ c) (hz : ∀ j, hh M c j = 0) : wc X (d + 1) 4 [(30, c)] M (fun r M' => r = none ∧ nx M' = c + 166 ∧ M'.2.1 ≤ M.2.1 + 5000 ∧ old c M M' ∧ WorldNew c M') := by
  show wp X (d + 1) 4 0 [(30, c), (9, 0)] [] M _
  have hx : ¬ (c = 0) := by omega
  simp only [w4_0, w4_1, w4_4, w4_5, w4_8, w4_9, w4_12, w4_15, w4_16, w4_19, w4_20, w4_23, w4_26, w4_27, w4_30, w4_31, w4_34, w4_37, w4_38, w4_41, w4_42, w4_45, w4_48, w4_49, w4_50, w4_53, w4_54, w4_55, w4_57, w4_60, w4_61, w4_62, w4_65, w4_66, w4_67, w4_70, w4_71, w4_72, w4_75, w4_78, w4_79, w4_80, w4_83, w4_84, w4_85, w4_88, w4_89, w4_91, w4_94, w4_97, w4_98, w4_100, w4_102, w4_105, w4_106, w4_109, w4_110, w4_113, w4_114, w4_117_6, w4_117_7, w4_118, w4_121, w4_124, hx, nx_def, hc, ↓reduceIte, hh_wr, hl_wr, b10, b11, ite_not, ne_eq, Int.reduceEq, Int.reduceLE, Int.reduceLT, Int.reduceNe, Int.reduceNeg, Int.reduceAdd, Int.reduceSub, Int.reduceMul, not_false_eq_true, not_true_eq_false, false_and, and_false, true_and, and_true, and_self, true_or, or_true, false_or, or_false, if_true, if_false, ite_true, ite_false, mj_tl_some, mj_tl_none, mj_cs0, mj_cs1, mj_cs2, mj_cs3, mj_cs4]
  refine ⟨by omega, wc.mono (i_Tongue (M := mj_nw M 29 4 (fun _ => 0)) (c := c + 1) (by rw [nx_nw, hc]) (by omega)) ?_⟩
  rintro r M1 ⟨rfl, n1, s1, o1, t1⟩
  have p1 : old (c + 1) M M1 := (old.nw (by rw [hc]; exact Int.le_refl _)).tr o1 (Int.le_refl _)
  have z1 : ∀ j, hh M1 c j = 0 := fun j => by rw [(p1 c (by omega)).1]; exact hz j
  simp only [w4_0, w4_1, w4_4, w4_5, w4_8, w4_9, w4_12, w4_15, w4_16, w4_19, w4_20, w4_23, w4_26, w4_27, w4_30, w4_31, w4_34, w4_37, w4_38, w4_41, w4_42, w4_45, w4_48, w4_49, w4_50, w4_53, w4_54, w4_55, w4_57, w4_60, w4_61, w4_62, w4_65, w4_66, w4_67, w4_70, w4_71, w4_72, w4_75, w4_78, w4_79, w4_80, w4_83, w4_84, w4_85, w4_88, w4_89, w4_91, w4_94, w4_97, w4_98, w4_100, w4_102, w4_105, w4_106, w4_109, w4_110, w4_113, w4_114, w4_117_6, w4_117_7, w4_118, w4_121, w4_124, hx, nx_def, nx_wr, n1, show c + 1 + 3 + 1 = c + 5 by omega, ↓reduceIte, hh_wr, hl_wr, b10, b11, ite_not, ne_eq, Int.reduceEq, Int.reduceLE, Int.reduceLT, Int.reduceNe, Int.reduceNeg, Int.reduceAdd, Int.reduceSub, Int.reduceMul, not_false_eq_true, not_true_eq_false, false_and, and_false, true_and, and_true, and_self, true_or, or_true, false_or, or_false, if_true, if_false, ite_true, ite_false, mj_tl_some, mj_tl_none, mj_cs0, mj_cs1, mj_cs2, mj_cs3, mj_cs4]
  refine ⟨by omega, wc.mono (i_Moment (M := mj_nw (mj_wr M1 c 0 (c + 1)) 24 8 (fun _ => 0)) (c := c + 5) (by rw [nx_nw, nx_wr, n1]; omega) (by omega)) ?_⟩
  rintro r M2 ⟨rfl, n2, s2, o2, t2⟩
  have p2 : old (c + 5) (mj_wr M1 c 0 (c + 1)) M2 := (old.nw (by rw [nx_wr, n1]; omega)).tr o2 (Int.le_refl _)
  simp only [w4_0, w4_1, w4_4, w4_5, w4_8, w4_9, w4_12, w4_15, w4_16, w4_19, w4_20, w4_23, w4_26, w4_27, w4_30, w4_31, w4_34, w4_37, w4_38, w4_41, w4_42, w4_45, w4_48, w4_49, w4_50, w4_53, w4_54, w4_55, w4_57, w4_60, w4_61, w4_62, w4_65, w4_66, w4_67, w4_70, w4_71, w4_72, w4_75, w4_78, w4_79, w4_80, w4_83, w4_84, w4_85, w4_88, w4_89, w4_91, w4_94, w4_97, w4_98, w4_100, w4_102, w4_105, w4_106, w4_109, w4_110, w4_113, w4_114, w4_117_6, w4_117_7, w4_118, w4_121, w4_124, hx, nx_def, nx_wr, n2, show c + 5 + 4 + 1 = c + 10 by omega, ↓reduceIte, hh_wr, hl_wr, b10, b11, ite_not, ne_eq, Int.reduceEq, Int.reduceLE, Int.reduceLT, Int.reduceNe, Int.reduceNeg, Int.reduceAdd, Int.reduceSub, Int.reduceMul, not_false_eq_true, not_true_eq_false, false_and, and_false, true_and, and_true, and_self, true_or, or_true, false_or, or_false, if_true, if_false, ite_true, ite_false, mj_tl_some, mj_tl_none, mj_cs0, mj_cs1, mj_cs2, mj_cs3, mj_cs4]
  refine ⟨by omega, wc.mono (i_Rows (M := mj_nw (mj_wr M2 c 1 (c + 5)) 27 2 (fun _ => 0)) (c := c + 10) (by rw [nx_nw, nx_wr, n2]; omega) (by omega)) ?_⟩
  rintro r M3 ⟨rfl, n3, s3, o3, t3⟩
  have p3 : old (c + 10) (mj_wr M2 c 1 (c + 5)) M3 := (old.nw (by rw [nx_wr, n2]; omega)).tr o3 (Int.le_refl _)
  simp only [w4_0, w4_1, w4_4, w4_5, w4_8, w4_9, w4_12, w4_15, w4_16, w4_19, w4_20, w4_23, w4_26, w4_27, w4_30, w4_31, w4_34, w4_37, w4_38, w4_41, w4_42, w4_45, w4_48, w4_49, w4_50, w4_53, w4_54, w4_55, w4_57, w4_60, w4_61, w4_62, w4_65, w4_66, w4_67, w4_70, w4_71, w4_72, w4_75, w4_78, w4_79, w4_80, w4_83, w4_84, w4_85, w4_88, w4_89, w4_91, w4_94, w4_97, w4_98, w4_100, w4_102, w4_105, w4_106, w4_109, w4_110, w4_113, w4_114, w4_117_6, w4_117_7, w4_118, w4_121, w4_124, hx, nx_def, nx_wr, n3, show c + 10 + 1 + 1 = c + 12 by omega, ↓reduceIte, hh_wr, hl_wr, b10, b11, ite_not, ne_eq, Int.reduceEq, Int.reduceLE, Int.reduceLT, Int.reduceNe, Int.reduceNeg, Int.reduceAdd, Int.reduceSub, Int.reduceMul, not_false_eq_true, not_true_eq_false, false_and, and_false, true_and, and_true, and_self, true_or, or_true, false_or, or_false, if_true, if_false, ite_true, ite_false, mj_tl_some, mj_tl_none, mj_cs0, mj_cs1, mj_cs2, mj_cs3, mj_cs4]
  refine ⟨by omega, wc.mono (i_Rows (M := mj_nw (mj_wr M3 c 2 (c + 10)) 27 2 (fun _ => 0)) (c := c + 12) (by rw [nx_nw, nx_wr, n3]; omega) (by omega)) ?_⟩
  rintro r M4 ⟨rfl, n4, s4, o4, t4⟩
  have p4 : old (c + 12) (mj_wr M3 c 2 (c + 10)) M4 := (old.nw (by rw [nx_wr, n3]; omega)).tr o4 (Int.le_refl _)
  simp only [w4_0, w4_1, w4_4, w4_5, w4_8, w4_9, w4_12, w4_15, w4_16, w4_19, w4_20, w4_23, w4_26, w4_27, w4_30, w4_31, w4_34, w4_37, w4_38, w4_41, w4_42, w4_45, w4_48, w4_49, w4_50, w4_53, w4_54, w4_55, w4_57, w4_60, w4_61, w4_62, w4_65, w4_66, w4_67, w4_70, w4_71, w4_72, w4_75, w4_78, w4_79, w4_80, w4_83, w4_84, w4_85, w4_88, w4_89, w4_91, w4_94, w4_97, w4_98, w4_100, w4_102, w4_105, w4_106, w4_109, w4_110, w4_113, w4_114, w4_117_6, w4_117_7, w4_118, w4_121, w4_124, hx, nx_def, nx_nw, nx_wr, n4, show c + 12 + 1 + 1 = c + 14 by omega, show c + 14 + 1 = c + 15 by omega, show c + 15 + 1 = c + 16 by omega, ↓reduceIte, hh_wr, hl_wr, b10, b11, ite_not, ne_eq, Int.reduceEq, Int.reduceLE, Int.reduceLT, Int.reduceNe, Int.reduceNeg, Int.reduceAdd, Int.reduceSub, Int.reduceMul, not_false_eq_true, not_true_eq_false, false_and, and_false, true_and, and_true, and_self, true_or, or_true, false_or, or_false, if_true, if_false, ite_true, ite_false, mj_tl_some, mj_tl_none, mj_cs0, mj_cs1, mj_cs2, mj_cs3, mj_cs4]
  have q4 : ∀ j, hh M4 c j = if j = 2 then c + 10 else if j = 1 then c + 5 else if j = 0 then c + 1 else 0 := by
    intro j
    rw [(p4 c (by omega)).1, hh_wr, (p3 c (by omega)).1, hh_wr, (p2 c (by omega)).1, hh_wr, z1]
    simp only [true_and]
  have u : ∀ {Z : mj_M} {x i v : Int}, c < x → (∀ j, hh (mj_wr Z c i v) x j = hh Z x j) := fun {Z x i v} hx j => by rw [hh_wr, if_neg (by omega)]
  have k1 : ∀ x, c < x → x < c + 5 → same x M1 M4 := fun x a b => ⟨fun j => by rw [(p4 x (by omega)).1, u a, (p3 x (by omega)).1, u a, (p2 x (by omega)).1, u a], by rw [(p4 x (by omega)).2, hl_wr, (p3 x (by omega)).2, hl_wr, (p2 x (by omega)).2, hl_wr]⟩
  have k2 : ∀ x, c < x → x < c + 10 → same x M2 M4 := fun x a b => ⟨fun j => by rw [(p4 x (by omega)).1, u a, (p3 x (by omega)).1, u a], by rw [(p4 x (by omega)).2, hl_wr, (p3 x (by omega)).2, hl_wr]⟩
  have k3 : ∀ x, c < x → x < c + 12 → same x M3 M4 := fun x a b => ⟨fun j => by rw [(p4 x (by omega)).1, u a], by rw [(p4 x (by omega)).2, hl_wr]⟩
  have k0 : ∀ x, x < c → same x M M4 := fun x a => ⟨fun j => by rw [(p4 x (by omega)).1, hh_wr, if_neg (by omega), (p3 x (by omega)).1, hh_wr, if_neg (by omega), (p2 x (by omega)).1, hh_wr, if_neg (by omega), (p1 x (by omega)).1], by rw [(p4 x (by omega)).2, hl_wr, (p3 x (by omega)).2, hl_wr, (p2 x (by omega)).2, hl_wr, (p1 x (by omega)).2]⟩
  generalize hM9 : mj_wr (mj_nw (mj_wr (mj_wr (mj_wr (mj_nw (mj_wr (mj_wr (mj_wr (mj_nw (mj_wr (mj_wr M4 c 3 (c + 12)) c 4 0) 3 4 (fun _ => 0)) c 5 (c + 14)) c 6 0) c 7 (-1)) 7 4 (fun _ => 0)) c 8 (c + 15)) c 9 0) c 10 0) 6 30 (fun _ => 0)) c 11 (c + 16) = M9
  have k9 : ∀ x, x < c + 14 → x ≠ c → same x M4 M9 := fun x a b => by
    subst hM9
    refine ⟨fun j => ?_, ?_⟩
    · simp only [hh_wr, hh_nx, nx_nw, nx_wr, n4, b, show ¬ x = c + 12 + 1 + 1 by omega, show ¬ x = c + 12 + 1 + 1 + 1 by omega, show ¬ x = c + 12 + 1 + 1 + 1 + 1 by omega, ↓reduceIte, hh_wr, hl_wr, b10, b11, ite_not, ne_eq, Int.reduceEq, Int.reduceLE, Int.reduceLT, Int.reduceNe, Int.reduceNeg, Int.reduceAdd, Int.reduceSub, Int.reduceMul, not_false_eq_true, not_true_eq_false, false_and, and_false, true_and, and_true, and_self, true_or, or_true, false_or, or_false, if_true, if_false, ite_true, ite_false, mj_tl_some, mj_tl_none, mj_cs0, mj_cs1, mj_cs2, mj_cs3, mj_cs4]
    · simp only [hl_wr, hl_nx, nx_nw, nx_wr, n4, show ¬ x = c + 12 + 1 + 1 by omega, show ¬ x = c + 12 + 1 + 1 + 1 by omega, show ¬ x = c + 12 + 1 + 1 + 1 + 1 by omega, ↓reduceIte, hh_wr, hl_wr, b10, b11, ite_not, ne_eq, Int.reduceEq, Int.reduceLE, Int.reduceLT, Int.reduceNe, Int.reduceNeg, Int.reduceAdd, Int.reduceSub, Int.reduceMul, not_false_eq_true, not_true_eq_false, false_and, and_false, true_and, and_true, and_self, true_or, or_true, false_or, or_false, if_true, if_false, ite_true, ite_false, mj_tl_some, mj_tl_none, mj_cs0, mj_cs1, mj_cs2, mj_cs3, mj_cs4]
  have f9 : WFields c M9 := by
    subst hM9
    unfold WFields
    simp only [hh_wr, hh_nx, nx_nw, nx_wr, n4, q4, show ¬ c = c + 12 + 1 + 1 by omega, show ¬ c = c + 12 + 1 + 1 + 1 by omega, show ¬ c = c + 12 + 1 + 1 + 1 + 1 by omega, ↓reduceIte, hh_wr, hl_wr, b10, b11, ite_not, ne_eq, Int.reduceEq, Int.reduceLE, Int.reduceLT, Int.reduceNe, Int.reduceNeg, Int.reduceAdd, Int.reduceSub, Int.reduceMul, not_false_eq_true, not_true_eq_false, false_and, and_false, true_and, and_true, and_self, true_or, or_true, false_or, or_false, if_true, if_false, ite_true, ite_false, mj_tl_some, mj_tl_none, mj_cs0, mj_cs1, mj_cs2, mj_cs3, mj_cs4]
  have r9 : WRowsNew c M9 := by
    subst hM9
    unfold WRowsNew
    simp only [hh_wr, hl_wr, hh_nx, hl_nx, nx_nw, nx_wr, n4, show c + 12 + 1 + 1 = c + 14 by omega, show c + 14 + 1 = c + 15 by omega, show c + 15 + 1 = c + 16 by omega, show ¬ c + 14 = c by omega, show ¬ c + 15 = c by omega, show ¬ c + 14 = c + 15 by omega, show ¬ c + 14 = c + 16 by omega, show ¬ c + 15 = c + 16 by omega, implies_true, ↓reduceIte, hh_wr, hl_wr, b10, b11, ite_not, ne_eq, Int.reduceEq, Int.reduceLE, Int.reduceLT, Int.reduceNe, Int.reduceNeg, Int.reduceAdd, Int.reduceSub, Int.reduceMul, not_false_eq_true, not_true_eq_false, false_and, and_false, true_and, and_true, and_self, true_or, or_true, false_or, or_false, if_true, if_false, ite_true, ite_false, mj_tl_some, mj_tl_none, mj_cs0, mj_cs1, mj_cs2, mj_cs3, mj_cs4]
  have n9 : nx M9 = c + 16 := by
    subst hM9
    simp only [nx_nw, nx_wr, n4]
    omega
  have s9 : M9.2.1 = M4.2.1 + 38 := by
    subst hM9
    simp only [s_nw, s_wr]
    omega
  have o9 : old c M M9 := fun x hx => ⟨fun j => ((k9 x (by omega) (by omega)).1 j).trans ((k0 x hx).1 j), (k9 x (by omega) (by omega)).2.trans (k0 x hx).2⟩
  refine i_WLoop hc1 (fun M' g1 g2 g3 g4 => ⟨rfl, g1, ?_, o9.tr g3 (Int.le_refl c), g2⟩) f9 (t1.keep (fun x a b => (k1 x (by omega) (by omega)).tr (k9 x (by omega) (by omega)))) (t2.keep (fun x a b => (k2 x (by omega) (by omega)).tr (k9 x (by omega) (by omega)))) (t3.keep (fun x a b => (k3 x (by omega) (by omega)).tr (k9 x (by omega) (by omega)))) (t4.keep (fun x a b => k9 x (by omega) (by omega))) r9 n9
  have := s1; have := s2; have := s3; have := s4
  simp only [s_nw, s_wr] at *
  omega
end IniW
