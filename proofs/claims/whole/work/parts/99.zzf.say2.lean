/-! THE REFERENCE LAYS THE SAYINGS -/
/-- the sayings up to n -/
def TI (M M1 : mj_M) (n : Nat) : Prop := (∀ x j, x ≠ 360 → x ≠ 361 → x ≠ 362 → hh M1 x j = hh M x j) ∧ (∀ x, hl M1 x = hl M x) ∧ (M1.1 = M.1) ∧ (M1.2.1 = M.2.1) ∧ (∀ i : Nat, i < n → hh M1 360 (i : Int) = kT (i : Int)) ∧ (∀ i : Nat, i < n → hh M1 361 (i : Int) = lT (i : Int)) ∧ (∀ i : Nat, i < n → hh M1 362 (i : Int) = gT (i : Int)) ∧ (∀ i : Nat, n ≤ i → hh M1 361 (i : Int) = 0 ∧ hh M1 362 (i : Int) = 0)
theorem TI.h {M M1 : mj_M} {n : Nat} (h : TI M M1 n) : ∀ x j, x ≠ 360 → x ≠ 361 → x ≠ 362 → hh M1 x j = hh M x j := h.1
theorem TI.l {M M1 : mj_M} {n : Nat} (h : TI M M1 n) : ∀ x, hl M1 x = hl M x := h.2.1
theorem TI.n {M M1 : mj_M} {n : Nat} (h : TI M M1 n) : M1.1 = M.1 := h.2.2.1
theorem TI.s {M M1 : mj_M} {n : Nat} (h : TI M M1 n) : M1.2.1 = M.2.1 := h.2.2.2.1
theorem TI.k {M M1 : mj_M} {n : Nat} (h : TI M M1 n) : ∀ i : Nat, i < n → hh M1 360 (i : Int) = kT (i : Int) := h.2.2.2.2.1
theorem TI.lo {M M1 : mj_M} {n : Nat} (h : TI M M1 n) : ∀ i : Nat, i < n → hh M1 361 (i : Int) = lT (i : Int) := h.2.2.2.2.2.1
theorem TI.hi {M M1 : mj_M} {n : Nat} (h : TI M M1 n) : ∀ i : Nat, i < n → hh M1 362 (i : Int) = gT (i : Int) := h.2.2.2.2.2.2.1
theorem TI.z {M M1 : mj_M} {n : Nat} (h : TI M M1 n) : ∀ i : Nat, n ≤ i → hh M1 361 (i : Int) = 0 ∧ hh M1 362 (i : Int) = 0 := h.2.2.2.2.2.2.2
theorem TI.cs {M M1 : mj_M} {n : Nat} (t : TI M M1 n) (h : CS M) : CS M1 := h.fz (zs := [7]) ⟨fun x j z => t.h x j (fun q => z (by subst q; exact List.mem_singleton.mpr rfl)) (fun q => z (by subst q; exact List.mem_singleton.mpr rfl)) (fun q => z (by subst q; exact List.mem_singleton.mpr rfl)), t.l, t.n, t.s⟩ (by decide)
section Say
variable {X : mj_X} {d : Nat} {M : mj_M} {Q : Option mj_V → mj_M → Prop}
theorem m_place0 {o a : Int} (h : CS M) (t : ∀ i : Nat, i < 600 → hh M 359 (i : Int) = pT (i : Int)) (ho : 0 ≤ o ∧ o ≤ 119) (ha : 0 ≤ a ∧ a ≤ 4) : wc X d 196 [(32, 354), (0, o), (0, a)] M Q ↔ Q (some (0, pT (5 * o + a))) M := by
  show wp X d 196 0 [(32, 354), (0, o), (0, a)] [] M Q ↔ _
  have e : hh M 359 (5 * o + a) = pT (5 * o + a) := by
    have := t (5 * o + a).toNat (by omega)
    rw [show (((5 * o + a).toNat : Nat) : Int) = 5 * o + a by omega] at this
    exact this
  simp only [w196_0, w196_1, w196_4, w196_5, w196_6, w196_7, w196_8, w196_9, w196_10, c_354_4 h, l_359 h, mj5 (p := o) ⟨by omega, by omega⟩, aj (x := 5 * o) (y := a) ⟨by omega, by omega⟩, e, ↓reduceIte, hh_wr, hl_wr, b10, b11, ite_not, ne_eq, Int.reduceEq, Int.reduceLE, Int.reduceLT, Int.reduceNe, Int.reduceNeg, Int.reduceAdd, Int.reduceSub, Int.reduceMul, not_false_eq_true, not_true_eq_false, false_and, and_false, true_and, and_true, and_self, true_or, or_true, false_or, or_false, if_true, if_false, ite_true, ite_false, mj_tl_some, mj_tl_none, mj_cs0, mj_cs1, mj_cs2, mj_cs3, mj_cs4]
  simp only [show 0 ≤ 5 * o + a by omega, show 5 * o + a < 600 by omega, ↓reduceIte, hh_wr, hl_wr, b10, b11, ite_not, ne_eq, Int.reduceEq, Int.reduceLE, Int.reduceLT, Int.reduceNe, Int.reduceNeg, Int.reduceAdd, Int.reduceSub, Int.reduceMul, not_false_eq_true, not_true_eq_false, false_and, and_false, true_and, and_true, and_self, true_or, or_true, false_or, or_false, if_true, if_false, ite_true, ite_false, mj_tl_some, mj_tl_none, mj_cs0, mj_cs1, mj_cs2, mj_cs3, mj_cs4]
theorem m_isSo0 {o k a b : Int} (h : CS M) (t : ∀ i : Nat, i < 600 → hh M 359 (i : Int) = pT (i : Int)) (ho : 0 ≤ o ∧ o ≤ 119) (hk : 0 ≤ k ∧ k ≤ 4) (ha : 0 ≤ a ∧ a ≤ 4) (hb : 0 ≤ b ∧ b ≤ 4) : wc X (d + 1) 195 [(32, 354), (0, o), (0, k), (0, a), (0, b)] M Q ↔ Q (some (0, if so o k a b then 1 else 0)) M := by
  show wp X (d + 1) 195 0 [(32, 354), (0, o), (0, k), (0, a), (0, b), (9, 0)] [] M Q ↔ _
  have r1 := pT_r (5 * o + a)
  have r2 := pT_r (5 * o + b)
  simp only [w195_0, w195_1, w195_2, w195_4, w195_7, w195_8, w195_9, w195_10, w195_13, w195_14, w195_16, w195_17, w195_48, w195_50, w195_53, w195_54, w195_57, w195_58_i, w195_58_0, w195_58_1, w195_59, w195_61, w195_62, w195_65, w195_66, w195_69, w195_70_i, w195_70_0, w195_70_1, w195_71, w195_72, w195_73, w195_74, w195_77, w195_80, w195_81, w195_84, w195_85_i, w195_85_0, w195_85_1, w195_86, w195_87, w195_88, w195_89, w195_92, w195_93, w195_96, w195_97, w195_100, w195_101_i, w195_101_0, w195_101_1, w195_102, w195_104, w195_105, w195_108, w195_110, w195_111, w195_114, w195_115, w195_118, w195_119_i, w195_119_0, w195_119_1, m_place0 h t ho ha, m_place0 h t ho hb, sj (x := pT (5 * o + b)) (y := pT (5 * o + a)) ⟨by omega, by omega⟩, ite_q, ↓reduceIte, hh_wr, hl_wr, b10, b11, ite_not, ne_eq, Int.reduceEq, Int.reduceLE, Int.reduceLT, Int.reduceNe, Int.reduceNeg, Int.reduceAdd, Int.reduceSub, Int.reduceMul, not_false_eq_true, not_true_eq_false, false_and, and_false, true_and, and_true, and_self, true_or, or_true, false_or, or_false, if_true, if_false, ite_true, ite_false, mj_tl_some, mj_tl_none, mj_cs0, mj_cs1, mj_cs2, mj_cs3, mj_cs4]
  refine qe ?_
  unfold so
  rcases (show k = 0 ∨ k = 1 ∨ k = 2 ∨ k = 3 ∨ k = 4 by omega) with rfl | rfl | rfl | rfl | rfl <;> simp only [decide_eq_true_eq, ↓reduceIte, hh_wr, hl_wr, b10, b11, ite_not, ne_eq, Int.reduceEq, Int.reduceLE, Int.reduceLT, Int.reduceNe, Int.reduceNeg, Int.reduceAdd, Int.reduceSub, Int.reduceMul, not_false_eq_true, not_true_eq_false, false_and, and_false, true_and, and_true, and_self, true_or, or_true, false_or, or_false, if_true, if_false, ite_true, ite_false, mj_tl_some, mj_tl_none, mj_cs0, mj_cs1, mj_cs2, mj_cs3, mj_cs4]
  all_goals (repeat' split)
  all_goals first | rfl | omega
/-- one of sixty -/
theorem say_one {N K A B O lv gv sl sg : Int} (h : CS M) (t : ∀ i : Nat, i < 600 → hh M 359 (i : Int) = pT (i : Int)) (hN : 0 ≤ N ∧ N < 20) (hK : 0 ≤ K ∧ K ≤ 4) (hA : 0 ≤ A ∧ A ≤ 4) (hB : 0 ≤ B ∧ B ≤ 4) (hO : 0 ≤ O ∧ O < 60) (e1 : hh M 361 N = lv) (e2 : hh M 362 N = gv) (f1 : (if so O K A B then jl_shl 1 O else 0) = sl) (f2 : (if so (60 + O) K A B then jl_shl 1 O else 0) = sg) (hq : wp X (d + 3) 191 60 [(32, 354), (0, N), (0, K), (0, A), (0, B), (0, O + 1)] [] (mj_wr (mj_wr M 361 N (jl_or lv sl)) 362 N (jl_or gv sg)) Q) : wp X (d + 3) 191 60 [(32, 354), (0, N), (0, K), (0, A), (0, B), (0, O)] [] M Q := by
  have s1 := fun Q => m_isSo0 (X := X) (d := d + 1) (Q := Q) (o := O) (k := K) (a := A) (b := B) h t ⟨by omega, by omega⟩ hK hA hB
  have c2 : CS (mj_wr M 361 N (jl_or lv sl)) := h.wa (by decide +kernel)
  have s2 := fun Q => m_isSo0 (X := X) (d := d + 1) (Q := Q) (M := mj_wr M 361 N (jl_or lv sl)) (o := 60 + O) (k := K) (a := A) (b := B) c2 (fun i hi => by rw [hh_wr, if_neg (by omega)]; exact t i hi) ⟨by omega, by omega⟩ hK hA hB
  have a1 : ji_add 60 O = 60 + O := aj ⟨by omega, by omega⟩
  have a2 : ji_add O 1 = O + 1 := aj ⟨by omega, by omega⟩
  have half : wp X (d + 3) 191 97 [(32, 354), (0, N), (0, K), (0, A), (0, B), (0, O)] [] (mj_wr M 361 N (jl_or lv sl)) Q := by
    by_cases q2 : so (60 + O) K A B = true
    · rw [if_pos q2] at f2
      subst f2
      simp only [w191_97, w191_98, w191_101, w191_102, w191_103, w191_104, w191_105, w191_107, w191_109, w191_110, w191_111, w191_112, w191_114, w191_117, w191_120, w191_121, w191_123, w191_124, w191_127, w191_128, w191_129, w191_130, w191_133, c_354_7 h, l_362 h, e2, a1, a2, s2, q2, hN.1, hN.2, ↓reduceIte, hh_wr, hl_wr, b10, b11, ite_not, ne_eq, Int.reduceEq, Int.reduceLE, Int.reduceLT, Int.reduceNe, Int.reduceNeg, Int.reduceAdd, Int.reduceSub, Int.reduceMul, not_false_eq_true, not_true_eq_false, false_and, and_false, true_and, and_true, and_self, true_or, or_true, false_or, or_false, if_true, if_false, ite_true, ite_false, mj_tl_some, mj_tl_none, mj_cs0, mj_cs1, mj_cs2, mj_cs3, mj_cs4]
      exact hq
    · rw [if_neg q2] at f2
      subst f2
      simp only [w191_97, w191_98, w191_101, w191_102, w191_103, w191_104, w191_105, w191_107, w191_109, w191_110, w191_111, w191_112, w191_114, w191_117, w191_120, w191_121, w191_123, w191_124, w191_127, w191_128, w191_129, w191_130, w191_133, c_354_7 h, l_362 h, e2, a1, a2, s2, q2, hN.1, hN.2, Bool.false_eq_true, ↓reduceIte, hh_wr, hl_wr, b10, b11, ite_not, ne_eq, Int.reduceEq, Int.reduceLE, Int.reduceLT, Int.reduceNe, Int.reduceNeg, Int.reduceAdd, Int.reduceSub, Int.reduceMul, not_false_eq_true, not_true_eq_false, false_and, and_false, true_and, and_true, and_self, true_or, or_true, false_or, or_false, if_true, if_false, ite_true, ite_false, mj_tl_some, mj_tl_none, mj_cs0, mj_cs1, mj_cs2, mj_cs3, mj_cs4]
      exact hq
  rw [w191_60]
  by_cases q1 : so O K A B = true
  · rw [if_pos q1] at f1
    subst f1
    simp only [w191_62, w191_64, w191_67, w191_68, w191_71, w191_72, w191_73, w191_74, w191_75, w191_77, w191_78, w191_79, w191_81, w191_84, w191_87, w191_88, w191_90, w191_91, w191_94, w191_95, w191_96, c_354_6 h, l_361 h, e1, s1, q1, hN.1, hN.2, hO.2, ↓reduceIte, hh_wr, hl_wr, b10, b11, ite_not, ne_eq, Int.reduceEq, Int.reduceLE, Int.reduceLT, Int.reduceNe, Int.reduceNeg, Int.reduceAdd, Int.reduceSub, Int.reduceMul, not_false_eq_true, not_true_eq_false, false_and, and_false, true_and, and_true, and_self, true_or, or_true, false_or, or_false, if_true, if_false, ite_true, ite_false, mj_tl_some, mj_tl_none, mj_cs0, mj_cs1, mj_cs2, mj_cs3, mj_cs4]
    exact half
  · rw [if_neg q1] at f1
    subst f1
    simp only [w191_62, w191_64, w191_67, w191_68, w191_71, w191_72, w191_73, w191_74, w191_75, w191_77, w191_78, w191_79, w191_81, w191_84, w191_87, w191_88, w191_90, w191_91, w191_94, w191_95, w191_96, c_354_6 h, l_361 h, e1, s1, q1, hN.1, hN.2, hO.2, Bool.false_eq_true, ↓reduceIte, hh_wr, hl_wr, b10, b11, ite_not, ne_eq, Int.reduceEq, Int.reduceLE, Int.reduceLT, Int.reduceNe, Int.reduceNeg, Int.reduceAdd, Int.reduceSub, Int.reduceMul, not_false_eq_true, not_true_eq_false, false_and, and_false, true_and, and_true, and_self, true_or, or_true, false_or, or_false, if_true, if_false, ite_true, ite_false, mj_tl_some, mj_tl_none, mj_cs0, mj_cs1, mj_cs2, mj_cs3, mj_cs4]
    exact half
theorem say_60 {n k a b : Nat} (hn : n < 20) (hk : k < 5) (ha : a < 5) (hb : b < 5) {M0 : mj_M} (hc : CS M0) (ht : ∀ i : Nat, i < 600 → hh M0 359 (i : Int) = pT (i : Int)) : ∀ (m o : Nat) (M1 : mj_M), o + m = 60 → (∀ x j, ¬ ((x = 361 ∨ x = 362) ∧ j = (n : Int)) → hh M1 x j = hh M0 x j) → (∀ x, hl M1 x = hl M0 x) → M1.1 = M0.1 → M1.2.1 = M0.2.1 → hh M1 361 (n : Int) = lwF k a b o → hh M1 362 (n : Int) = hgF k a b o → (∀ M2, (∀ x j, ¬ ((x = 361 ∨ x = 362) ∧ j = (n : Int)) → hh M2 x j = hh M0 x j) → (∀ x, hl M2 x = hl M0 x) → M2.1 = M0.1 → M2.2.1 = M0.2.1 → hh M2 361 (n : Int) = lwF k a b 60 → hh M2 362 (n : Int) = hgF k a b 60 → ∀ v : Int, wp X (d + 3) 191 136 [(32, 354), (0, (n : Int)), (0, (k : Int)), (0, (a : Int)), (0, (b : Int)), (0, v)] [] M2 Q) → wp X (d + 3) 191 60 [(32, 354), (0, (n : Int)), (0, (k : Int)), (0, (a : Int)), (0, (b : Int)), (0, (o : Int))] [] M1 Q := by
  intro m
  induction m with
  | zero =>
    intro o M1 ho f l n1 s1 e1 e2 hq
    have : o = 60 := by omega
    subst this
    rw [w191_60]
    simp only [w191_62, w191_64, show ¬ (((60 : Nat) : Int) < 60) by decide, ↓reduceIte, hh_wr, hl_wr, b10, b11, ite_not, ne_eq, Int.reduceEq, Int.reduceLE, Int.reduceLT, Int.reduceNe, Int.reduceNeg, Int.reduceAdd, Int.reduceSub, Int.reduceMul, not_false_eq_true, not_true_eq_false, false_and, and_false, true_and, and_true, and_self, true_or, or_true, false_or, or_false, if_true, if_false, ite_true, ite_false, mj_tl_some, mj_tl_none, mj_cs0, mj_cs1, mj_cs2, mj_cs3, mj_cs4]
    exact hq M1 f l n1 s1 e1 e2 _
  | succ m ih =>
    intro o M1 ho f l n1 s1 e1 e2 hq
    have c1 : CS M1 := hc.fz (zs := [7]) ⟨fun x j z => f x j (fun q => z (by rcases q.1 with r | r <;> (subst r; exact List.mem_singleton.mpr rfl))), l, n1, s1⟩ (by decide)
    refine say_one c1 (fun i hi => by rw [f 359 i (by omega)]; exact ht i hi) ⟨by omega, by omega⟩ ⟨by omega, by omega⟩ ⟨by omega, by omega⟩ ⟨by omega, by omega⟩ ⟨by omega, by omega⟩ e1 e2 rfl rfl ?_
    have := ih (o + 1) (mj_wr (mj_wr M1 361 (n : Int) (lwF k a b (o + 1))) 362 (n : Int) (hgF k a b (o + 1))) (by omega) (fun x j q => by rw [hh_wr, if_neg (by omega), hh_wr, if_neg (by omega)]; exact f x j q) l n1 s1 (by rw [hh_wr, if_neg (by omega), hh_wr, if_pos ⟨rfl, rfl⟩]) (by rw [hh_wr, if_pos ⟨rfl, rfl⟩]) hq
    rw [show ((o + 1 : Nat) : Int) = (o : Int) + 1 by omega] at this
    exact this
end Say
