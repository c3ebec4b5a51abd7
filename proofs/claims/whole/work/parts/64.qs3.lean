/-! QUESTIONS 3: ask, middle -/
def mxV (A : Int → Int) (a b : Nat) : Int := if ah A (a : Int) (b : Int) < ah A (b : Int) (a : Int) then (ah A (b : Int) (a : Int) : Int) else (ah A (a : Int) (b : Int) : Int)
def akS (A : Int → Int) (a j : Nat) (s : Int × Int) : Int × Int := if mxV A a (a + 1 + j) < s.2 then (10 * (a : Int) + ((a : Int) + 1 + (j : Int)), mxV A a (a + 1 + j)) else s
def akI (A : Int → Int) (a : Nat) (s : Int × Int) : Int × Int := it (akS A a) s (4 - a)
def akO (A : Int → Int) (s : Int × Int) : Nat → Int × Int := it (akI A) s
theorem mxV_r (A : Int → Int) (a b : Nat) : 0 ≤ mxV A a b ∧ mxV A a b ≤ (nCb A : Int) := by
  have h1 := ah_le A (a : Int) (b : Int)
  have h2 := ah_le A (b : Int) (a : Int)
  unfold mxV
  split <;> omega
theorem akO_eq (A : Int → Int) {f g : Int} (hf : (nCb A : Int) < f) (hg : (nCb A : Int) < g) : akO A (-1, f) 5 = akO A (-1, g) 5 := by
  have hr := mxV_r A 0 (0 + 1 + 0)
  have e : ∀ f, (nCb A : Int) < f → akS A 0 0 (-1, f) = (10 * ((0 : Nat) : Int) + (((0 : Nat) : Int) + 1 + ((0 : Nat) : Int)), mxV A 0 (0 + 1 + 0)) := fun f hf => if_pos (show mxV A 0 (0 + 1 + 0) < f by omega)
  have e4 : ∀ s, it (akS A 0) s (4 - 0) = akS A 0 3 (akS A 0 2 (akS A 0 1 (akS A 0 0 s))) := fun s => rfl
  have s0 : ∀ s, akO A s 1 = it (akS A 0) s (4 - 0) := fun s => rfl
  have s1 : ∀ s, akO A s 2 = akI A 1 (akO A s 1) := fun s => rfl
  have s2 : ∀ s, akO A s 3 = akI A 2 (akO A s 2) := fun s => rfl
  have s3 : ∀ s, akO A s 4 = akI A 3 (akO A s 3) := fun s => rfl
  have s4 : ∀ s, akO A s 5 = akI A 4 (akO A s 4) := fun s => rfl
  rw [s4, s4, s3, s3, s2, s2, s1, s1, s0, s0, e4, e4, e f hf, e g hg]
theorem ap_r (o q : Int) : 0 ≤ ap o q ∧ ap o q ≤ 20 := by
  have h := sm_rng (f := apI o q) (lo := 0) (hi := 4) (n := 5) (fun a ha => by
    have := sm_rng (f := fun j => df o q (a : Int) ((a : Int) + 1 + (j : Int))) (lo := 0) (hi := 1) (n := 4 - a) (fun j _ => df_r _ _ _ _)
    unfold apI
    omega)
  unfold ap
  omega
def suF2 (A : Int → Int) (o : Int) (s : Nat) : Int := ap o (A (57 + (s : Int)))
def suA (A : Int → Int) (o : Int) : Int := sm (suF2 A o) (A 2).toNat
def mdS (A : Int → Int) (o : Nat) (s : Int × Int) : Int × Int := if suA A (o : Int) < s.2 then ((o : Int), suA A (o : Int)) else s
def md (A : Int → Int) : Nat → Int × Int := it (mdS A) (-1, 1000000)
def miV (A : Int → Int) : Int := if A 2 ≤ 0 then -1 else (md A 120).1
theorem suA_r {A : Int → Int} (h : A 2 ≤ 4) (o : Int) : 0 ≤ suA A o ∧ suA A o ≤ 80 := by
  have := sm_rng (f := suF2 A o) (lo := 0) (hi := 20) (n := (A 2).toNat) (fun i _ => ap_r _ _)
  unfold suA
  omega
theorem md_ge {A : Int → Int} (h : A 2 ≤ 4) : ∀ p, 0 < p → 0 ≤ (md A p).1 ∧ (md A p).2 ≤ 80
  | 0, h => by omega
  | 1, _ => by
    have hr := suA_r h 0
    have e : md A 1 = (((0 : Nat) : Int), suA A ((0 : Nat) : Int)) := if_pos (show suA A ((0 : Nat) : Int) < 1000000 by rw [ct0]; omega)
    rw [e, ct0]
    exact ⟨Int.le_refl 0, hr.2⟩
  | p + 2, _ => by
    have ih := md_ge h (p + 1) (by omega)
    have e : md A (p + 2) = mdS A (p + 1) (md A (p + 1)) := rfl
    have hr := suA_r h ((p + 1 : Nat) : Int)
    rw [e]
    unfold mdS
    split
    · exact ⟨by show (0 : Int) ≤ ((p + 1 : Nat) : Int); omega, hr.2⟩
    · exact ih
section Qu
variable {X : mj_X} {d : Nat} {M : mj_M} {Q : Option mj_V → mj_M → Prop}
theorem c_max {a b : Int} : wc X d 47 [(0, a), (0, b)] M Q ↔ Q (some (0, if a < b then b else a)) M := by
  show wp X d 47 0 [(0, a), (0, b)] [] M Q ↔ _
  simp only [w47_0, w47_1, w47_2, w47_5, w47_6, w47_9, w47_10, ite_q, ↓reduceIte, hh_wr, hl_wr, b10, b11, ite_not, ne_eq, Int.reduceEq, Int.reduceLE, Int.reduceLT, Int.reduceNe, Int.reduceNeg, Int.reduceAdd, Int.reduceSub, Int.reduceMul, not_false_eq_true, not_true_eq_false, false_and, and_false, true_and, and_true, and_self, true_or, or_true, false_or, or_false, if_true, if_false, ite_true, ite_false, mj_tl_some, mj_tl_none, mj_cs0, mj_cs1, mj_cs2, mj_cs3, mj_cs4]
theorem c_min {a b : Int} : wc X d 28 [(0, a), (0, b)] M Q ↔ Q (some (0, if a ≤ b then a else b)) M := by
  show wp X d 28 0 [(0, a), (0, b)] [] M Q ↔ _
  simp only [w28_0, w28_1, w28_2, w28_5, w28_6, w28_9, w28_10, ite_q, ↓reduceIte, hh_wr, hl_wr, b10, b11, ite_not, ne_eq, Int.reduceEq, Int.reduceLE, Int.reduceLT, Int.reduceNe, Int.reduceNeg, Int.reduceAdd, Int.reduceSub, Int.reduceMul, not_false_eq_true, not_true_eq_false, false_and, and_false, true_and, and_true, and_self, true_or, or_true, false_or, or_false, if_true, if_false, ite_true, ite_false, mj_tl_some, mj_tl_none, mj_cs0, mj_cs1, mj_cs2, mj_cs3, mj_cs4]
  try (refine qe ?_; repeat' split)
  all_goals first | rfl | omega
theorem m10l {o : Int} (h : -1000 ≤ o ∧ o ≤ 1000) : ji_mul 10 o = 10 * o := by rw [ji_mul_eq (nn ⟨by omega, by omega⟩)]
theorem c_bestQ {M1 : mj_M} (h : RR M) (g : Found M M1) : wc X (d + 4) 151 [(21, 347)] M1 Q ↔ Q (some (0, (akO (hh M 355) (-1, (nCb (hh M 355) : Int) + 1) 5).1)) M1 := by
  show wp X (d + 4) 151 0 [(21, 347), (9, 0), (9, 0), (9, 0), (9, 0), (9, 0), (9, 0)] [] M1 Q ↔ _
  refine wp.det ?_
  obtain ⟨f, g1, g2⟩ := id g
  have hn := nCb_le (hh M 355)
  have key := loop1 (S := fun (p : Nat) (q : (Int × Int) × mj_V × mj_V × mj_V) => wp X (d + 4) 151 11 [(21, 347), (0, q.1.1), (0, q.1.2), (0, (p : Int)), q.2.1, q.2.2.1, q.2.2.2] [] M1 (fun r M' => r = some (0, (akO (hh M 355) (-1, (nCb (hh M 355) : Int) + 1) 5).1) ∧ M' = M1)) (I := fun p q => q.1 = akO (hh M 355) (-1, (nCb (hh M 355) : Int) + 1) p) (P := 5) ?_ ?_
  · simp only [w151_0, w151_1, w151_2, w151_3, w151_6, w151_7, w151_8, w151_9, w151_10, g1, jp1 (p := nCb (hh M 355)) (by omega), ↓reduceIte, hh_wr, hl_wr, b10, b11, ite_not, ne_eq, Int.reduceEq, Int.reduceLE, Int.reduceLT, Int.reduceNe, Int.reduceNeg, Int.reduceAdd, Int.reduceSub, Int.reduceMul, not_false_eq_true, not_true_eq_false, false_and, and_false, true_and, and_true, and_self, true_or, or_true, false_or, or_false, if_true, if_false, ite_true, ite_false, mj_tl_some, mj_tl_none, mj_cs0, mj_cs1, mj_cs2, mj_cs3, mj_cs4]
    exact key ((-1, ((nCb (hh M 355) + 1 : Nat) : Int)), (9, 0), (9, 0), (9, 0)) rfl
  · rintro p ⟨s, w1, w2, w3⟩ hp hI ih
    have inner := loop1 (S := fun (j : Nat) (q : (Int × Int) × mj_V × mj_V) => wp X (d + 4) 151 21 [(21, 347), (0, q.1.1), (0, q.1.2), (0, (p : Int)), (0, (p : Int) + 1 + (j : Int)), q.2.1, q.2.2] [] M1 (fun r M' => r = some (0, (akO (hh M 355) (-1, (nCb (hh M 355) : Int) + 1) 5).1) ∧ M' = M1)) (I := fun j q => q.1 = it (akS (hh M 355) p) s j) (P := 4 - p) ?_ ?_
    · rw [w151_11]
      simp only [w151_12, w151_13, w151_16, w151_17, w151_18, w151_19, show (p : Int) < 5 by omega, aj (x := (p : Int)) (y := 1) ⟨by omega, by omega⟩, ↓reduceIte, hh_wr, hl_wr, b10, b11, ite_not, ne_eq, Int.reduceEq, Int.reduceLE, Int.reduceLT, Int.reduceNe, Int.reduceNeg, Int.reduceAdd, Int.reduceSub, Int.reduceMul, not_false_eq_true, not_true_eq_false, false_and, and_false, true_and, and_true, and_self, true_or, or_true, false_or, or_false, if_true, if_false, ite_true, ite_false, mj_tl_some, mj_tl_none, mj_cs0, mj_cs1, mj_cs2, mj_cs3, mj_cs4]
      have := inner (s, w2, w3) rfl
      rw [ct0, Int.add_zero] at this
      exact this
    · rintro j ⟨q, v1, v2⟩ hj hJ ihj
      have e1 : (p : Int) + 1 + (j : Int) = ((p + 1 + j : Nat) : Int) := by omega
      have c1 := fun Q => c_howMany (X := X) (d := d) (M := M) (M1 := M1) (Q := Q) (a := (p : Int)) (b := (p : Int) + 1 + (j : Int)) h g ⟨by omega, by omega⟩ ⟨by omega, by omega⟩
      have fl := ah_flip (hh M 355) (d := p) (e := p + 1 + j) (by omega) (by omega) (by omega)
      have em : (if (ah (hh M 355) (p : Int) ((p : Int) + 1 + (j : Int)) : Int) < (nCb (hh M 355) : Int) - (ah (hh M 355) (p : Int) ((p : Int) + 1 + (j : Int)) : Int) then (nCb (hh M 355) : Int) - (ah (hh M 355) (p : Int) ((p : Int) + 1 + (j : Int)) : Int) else (ah (hh M 355) (p : Int) ((p : Int) + 1 + (j : Int)) : Int)) = mxV (hh M 355) p (p + 1 + j) := by
        unfold mxV
        rw [e1]
        split <;> split <;> omega
      have es : it (akS (hh M 355) p) s (j + 1) = akS (hh M 355) p j (it (akS (hh M 355) p) s j) := rfl
      simp only at hJ
      rw [← hJ] at es
      have hle := ah_le (hh M 355) (p : Int) ((p : Int) + 1 + (j : Int))
      rw [w151_21]
      simp only [w151_0, w151_1, w151_2, w151_3, w151_6, w151_7, w151_8, w151_9, w151_10, w151_12, w151_13, w151_16, w151_17, w151_18, w151_19, w151_23, w151_24, w151_27, w151_28, w151_29, w151_31, w151_34, w151_36, w151_38, w151_39, w151_42, w151_44, w151_45, w151_48, w151_50, w151_52, w151_53, w151_56, w151_58, w151_59, w151_61, w151_62, w151_63, w151_65, w151_66, w151_67, w151_70, w151_73, w151_76, w151_79, w151_80, c1, c_max, g1, em, sj (x := (nCb (hh M 355) : Int)) (y := (ah (hh M 355) (p : Int) ((p : Int) + 1 + (j : Int)) : Int)) ⟨by omega, by omega⟩, show (p : Int) + 1 + (j : Int) < 5 by omega, m10l (o := (p : Int)) ⟨by omega, by omega⟩, aj (x := 10 * (p : Int)) (y := (p : Int) + 1 + (j : Int)) ⟨by omega, by omega⟩, aj (x := (p : Int) + 1 + (j : Int)) (y := 1) ⟨by omega, by omega⟩, show (p : Int) + 1 + (j : Int) + 1 = (p : Int) + 1 + ((j + 1 : Nat) : Int) by omega, ↓reduceIte, hh_wr, hl_wr, b10, b11, ite_not, ne_eq, Int.reduceEq, Int.reduceLE, Int.reduceLT, Int.reduceNe, Int.reduceNeg, Int.reduceAdd, Int.reduceSub, Int.reduceMul, not_false_eq_true, not_true_eq_false, false_and, and_false, true_and, and_true, and_self, true_or, or_true, false_or, or_false, if_true, if_false, ite_true, ite_false, mj_tl_some, mj_tl_none, mj_cs0, mj_cs1, mj_cs2, mj_cs3, mj_cs4]
      by_cases hC : mxV (hh M 355) p (p + 1 + j) < q.2
      · rw [if_pos hC]
        refine ihj ((_, _), _, _) ?_
        rw [es]
        exact (if_pos hC).symm
      · rw [if_neg hC]
        refine ihj (_, _, _) ?_
        rw [es]
        exact (if_neg hC).symm
    · rintro ⟨q, v1, v2⟩ hJ
      simp only [w151_21, w151_23, w151_24, w151_73, w151_76, show ¬ (p : Int) + 1 + ((4 - p : Nat) : Int) < 5 by omega, jp1 (p := p) (by omega), ↓reduceIte, hh_wr, hl_wr, b10, b11, ite_not, ne_eq, Int.reduceEq, Int.reduceLE, Int.reduceLT, Int.reduceNe, Int.reduceNeg, Int.reduceAdd, Int.reduceSub, Int.reduceMul, not_false_eq_true, not_true_eq_false, false_and, and_false, true_and, and_true, and_self, true_or, or_true, false_or, or_false, if_true, if_false, ite_true, ite_false, mj_tl_some, mj_tl_none, mj_cs0, mj_cs1, mj_cs2, mj_cs3, mj_cs4]
      refine ih (_, _, _, _) ?_
      simp only at hJ hI ⊢
      rw [hJ, hI]
      rfl
  · rintro ⟨s, w1, w2, w3⟩ hI
    simp only [w151_0, w151_1, w151_2, w151_3, w151_6, w151_7, w151_8, w151_9, w151_10, w151_11, w151_12, w151_13, w151_16, w151_17, w151_18, w151_19, w151_21, w151_23, w151_24, w151_27, w151_28, w151_29, w151_31, w151_34, w151_36, w151_38, w151_39, w151_42, w151_44, w151_45, w151_48, w151_50, w151_52, w151_53, w151_56, w151_58, w151_59, w151_61, w151_62, w151_63, w151_65, w151_66, w151_67, w151_70, w151_73, w151_76, w151_79, w151_80, ct5, ↓reduceIte, hh_wr, hl_wr, b10, b11, ite_not, ne_eq, Int.reduceEq, Int.reduceLE, Int.reduceLT, Int.reduceNe, Int.reduceNeg, Int.reduceAdd, Int.reduceSub, Int.reduceMul, not_false_eq_true, not_true_eq_false, false_and, and_false, true_and, and_true, and_self, true_or, or_true, false_or, or_false, if_true, if_false, ite_true, ite_false, mj_tl_some, mj_tl_none, mj_cs0, mj_cs1, mj_cs2, mj_cs3, mj_cs4]
    simp only at hI
    rw [hI]
theorem m_ask (h : RR M) : wc X (d + 4) 319 [(32, 354)] M Q ↔ Q (some (0, if nCb (hh M 355) ≤ 1 then -1 else (akO (hh M 355) (-1, 1000000) 5).1)) M := by
  show wp X (d + 4) 319 0 [(32, 354), (9, 0), (9, 0), (9, 0), (9, 0), (9, 0)] [] M Q ↔ _
  have hn := nCb_le (hh M 355)
  have mc := fun Q => m_could (X := X) (d := d) (M := M) (Q := Q) (i := -1) h
  rw [coV_n] at mc
  by_cases h1 : nCb (hh M 355) ≤ 1
  · simp only [w319_0, w319_1, w319_2, w319_5, w319_6, w319_7, w319_8, w319_9, w319_10, w319_13, w319_14, w319_15, w319_18, w319_19, w319_22, w319_23, w319_24, w319_25, w319_27, w319_29, w319_30, w319_33, w319_34, w319_35, w319_37, w319_40, w319_41, w319_43, w319_44, w319_47, w319_50, w319_51, w319_52, w319_54, w319_57, w319_60, w319_61, w319_63, w319_64, w319_67, w319_69, w319_71, w319_72, w319_75, w319_78, w319_80, w319_81, w319_83, w319_84, w319_85, w319_87, w319_88, w319_89, w319_92, w319_95, w319_98, w319_101, w319_102, mc, show (nCb (hh M 355) : Int) ≤ 1 by omega, h1, ↓reduceIte, hh_wr, hl_wr, b10, b11, ite_not, ne_eq, Int.reduceEq, Int.reduceLE, Int.reduceLT, Int.reduceNe, Int.reduceNeg, Int.reduceAdd, Int.reduceSub, Int.reduceMul, not_false_eq_true, not_true_eq_false, false_and, and_false, true_and, and_true, and_self, true_or, or_true, false_or, or_false, if_true, if_false, ite_true, ite_false, mj_tl_some, mj_tl_none, mj_cs0, mj_cs1, mj_cs2, mj_cs3, mj_cs4]
  refine wp.det ?_
  rw [if_neg h1]
  have key := loop1 (S := fun (p : Nat) (q : (Int × Int) × mj_V × mj_V) => wp X (d + 4) 319 8 [(32, 354), (0, q.1.1), (0, q.1.2), (0, (p : Int)), q.2.1, q.2.2] [] M (fun r M' => r = some (0, (akO (hh M 355) (-1, 1000000) 5).1) ∧ M' = M)) (I := fun p q => q.1 = akO (hh M 355) (-1, 1000000) p) (P := 5) ?_ ?_
  · simp only [w319_0, w319_1, w319_2, w319_5, w319_6, w319_7]
    exact key ((-1, 1000000), (9, 0), (9, 0)) rfl
  · rintro p ⟨s, w1, w2⟩ hp hI ih
    have inner := loop1 (S := fun (j : Nat) (q : (Int × Int) × mj_V) => wp X (d + 4) 319 27 [(32, 354), (0, q.1.1), (0, q.1.2), (0, (p : Int)), (0, (p : Int) + 1 + (j : Int)), q.2] [] M (fun r M' => r = some (0, (akO (hh M 355) (-1, 1000000) 5).1) ∧ M' = M)) (I := fun j q => q.1 = it (akS (hh M 355) p) s j) (P := 4 - p) ?_ ?_
    · rw [w319_8]
      simp only [w319_9, w319_10, w319_13, w319_14, w319_15, w319_18, w319_19, w319_22, w319_23, w319_24, w319_25, mc, show ¬ (nCb (hh M 355) : Int) ≤ 1 by omega, show (p : Int) < 5 by omega, aj (x := (p : Int)) (y := 1) ⟨by omega, by omega⟩, ↓reduceIte, hh_wr, hl_wr, b10, b11, ite_not, ne_eq, Int.reduceEq, Int.reduceLE, Int.reduceLT, Int.reduceNe, Int.reduceNeg, Int.reduceAdd, Int.reduceSub, Int.reduceMul, not_false_eq_true, not_true_eq_false, false_and, and_false, true_and, and_true, and_self, true_or, or_true, false_or, or_false, if_true, if_false, ite_true, ite_false, mj_tl_some, mj_tl_none, mj_cs0, mj_cs1, mj_cs2, mj_cs3, mj_cs4]
      have := inner (s, w2) rfl
      rw [ct0, Int.add_zero] at this
      exact this
    · rintro j ⟨q, v1⟩ hj hJ ihj
      have e1 : (p : Int) + 1 + (j : Int) = ((p + 1 + j : Nat) : Int) := by omega
      have c1 := fun Q => m_aheadIn (X := X) (d := d) (M := M) (Q := Q) (a := (p : Int)) (b := (p : Int) + 1 + (j : Int)) h ⟨by omega, by omega⟩ ⟨by omega, by omega⟩
      have c2 := fun Q => m_aheadIn (X := X) (d := d) (M := M) (Q := Q) (a := (p : Int) + 1 + (j : Int)) (b := (p : Int)) h ⟨by omega, by omega⟩ ⟨by omega, by omega⟩
      have es : it (akS (hh M 355) p) s (j + 1) = akS (hh M 355) p j (it (akS (hh M 355) p) s j) := rfl
      simp only at hJ
      rw [← hJ] at es
      have tail : ∀ v, v = mxV (hh M 355) p (p + 1 + j) → wp X (d + 4) 319 67 [(32, 354), (0, q.1), (0, q.2), (0, (p : Int)), (0, (p : Int) + 1 + (j : Int)), v1] [(0, v)] M (fun r M' => r = some (0, (akO (hh M 355) (-1, 1000000) 5).1) ∧ M' = M) := by
        rintro v rfl
        simp only [w319_67, w319_69, w319_71, w319_72, w319_75, w319_78, w319_80, w319_81, w319_83, w319_84, w319_85, w319_87, w319_88, w319_89, w319_92, m10l (o := (p : Int)) ⟨by omega, by omega⟩, aj (x := 10 * (p : Int)) (y := (p : Int) + 1 + (j : Int)) ⟨by omega, by omega⟩, aj (x := (p : Int) + 1 + (j : Int)) (y := 1) ⟨by omega, by omega⟩, show (p : Int) + 1 + (j : Int) + 1 = (p : Int) + 1 + ((j + 1 : Nat) : Int) by omega, ↓reduceIte, hh_wr, hl_wr, b10, b11, ite_not, ne_eq, Int.reduceEq, Int.reduceLE, Int.reduceLT, Int.reduceNe, Int.reduceNeg, Int.reduceAdd, Int.reduceSub, Int.reduceMul, not_false_eq_true, not_true_eq_false, false_and, and_false, true_and, and_true, and_self, true_or, or_true, false_or, or_false, if_true, if_false, ite_true, ite_false, mj_tl_some, mj_tl_none, mj_cs0, mj_cs1, mj_cs2, mj_cs3, mj_cs4]
        by_cases hC : mxV (hh M 355) p (p + 1 + j) < q.2
        · rw [if_pos hC]
          refine ihj ((_, _), _) ?_
          rw [es]
          exact (if_pos hC).symm
        · rw [if_neg hC]
          refine ihj (_, _) ?_
          rw [es]
          exact (if_neg hC).symm
      rw [w319_27]
      by_cases hA : (ah (hh M 355) (p : Int) ((p : Int) + 1 + (j : Int)) : Int) ≤ (ah (hh M 355) ((p : Int) + 1 + (j : Int)) (p : Int) : Int)
      · simp only [w319_29, w319_30, w319_33, w319_34, w319_35, w319_37, w319_40, w319_41, w319_43, w319_44, w319_47, w319_60, w319_61, w319_63, w319_64, c1, c2, hA, show (p : Int) + 1 + (j : Int) < 5 by omega, ↓reduceIte, hh_wr, hl_wr, b10, b11, ite_not, ne_eq, Int.reduceEq, Int.reduceLE, Int.reduceLT, Int.reduceNe, Int.reduceNeg, Int.reduceAdd, Int.reduceSub, Int.reduceMul, not_false_eq_true, not_true_eq_false, false_and, and_false, true_and, and_true, and_self, true_or, or_true, false_or, or_false, if_true, if_false, ite_true, ite_false, mj_tl_some, mj_tl_none, mj_cs0, mj_cs1, mj_cs2, mj_cs3, mj_cs4]
        refine tail _ ?_
        unfold mxV
        rw [← e1]
        split <;> omega
      · simp only [w319_29, w319_30, w319_33, w319_34, w319_35, w319_37, w319_40, w319_41, w319_43, w319_44, w319_47, w319_50, w319_51, w319_52, w319_54, w319_57, c1, c2, hA, show (p : Int) + 1 + (j : Int) < 5 by omega, ↓reduceIte, hh_wr, hl_wr, b10, b11, ite_not, ne_eq, Int.reduceEq, Int.reduceLE, Int.reduceLT, Int.reduceNe, Int.reduceNeg, Int.reduceAdd, Int.reduceSub, Int.reduceMul, not_false_eq_true, not_true_eq_false, false_and, and_false, true_and, and_true, and_self, true_or, or_true, false_or, or_false, if_true, if_false, ite_true, ite_false, mj_tl_some, mj_tl_none, mj_cs0, mj_cs1, mj_cs2, mj_cs3, mj_cs4]
        refine tail _ ?_
        unfold mxV
        rw [← e1]
        split <;> omega
    · rintro ⟨q, v1⟩ hJ
      simp only [w319_27, w319_29, w319_30, w319_95, w319_98, show ¬ (p : Int) + 1 + ((4 - p : Nat) : Int) < 5 by omega, jp1 (p := p) (by omega), ↓reduceIte, hh_wr, hl_wr, b10, b11, ite_not, ne_eq, Int.reduceEq, Int.reduceLE, Int.reduceLT, Int.reduceNe, Int.reduceNeg, Int.reduceAdd, Int.reduceSub, Int.reduceMul, not_false_eq_true, not_true_eq_false, false_and, and_false, true_and, and_true, and_self, true_or, or_true, false_or, or_false, if_true, if_false, ite_true, ite_false, mj_tl_some, mj_tl_none, mj_cs0, mj_cs1, mj_cs2, mj_cs3, mj_cs4]
      refine ih (_, _, _) ?_
      simp only at hJ hI ⊢
      rw [hJ, hI]
      rfl
  · rintro ⟨s, w1, w2⟩ hI
    simp only [w319_0, w319_1, w319_2, w319_5, w319_6, w319_7, w319_8, w319_9, w319_10, w319_13, w319_14, w319_15, w319_18, w319_19, w319_22, w319_23, w319_24, w319_25, w319_27, w319_29, w319_30, w319_33, w319_34, w319_35, w319_37, w319_40, w319_41, w319_43, w319_44, w319_47, w319_50, w319_51, w319_52, w319_54, w319_57, w319_60, w319_61, w319_63, w319_64, w319_67, w319_69, w319_71, w319_72, w319_75, w319_78, w319_80, w319_81, w319_83, w319_84, w319_85, w319_87, w319_88, w319_89, w319_92, w319_95, w319_98, w319_101, w319_102, ct5, ↓reduceIte, hh_wr, hl_wr, b10, b11, ite_not, ne_eq, Int.reduceEq, Int.reduceLE, Int.reduceLT, Int.reduceNe, Int.reduceNeg, Int.reduceAdd, Int.reduceSub, Int.reduceMul, not_false_eq_true, not_true_eq_false, false_and, and_false, true_and, and_true, and_self, true_or, or_true, false_or, or_false, if_true, if_false, ite_true, ite_false, mj_tl_some, mj_tl_none, mj_cs0, mj_cs1, mj_cs2, mj_cs3, mj_cs4]
    simp only at hI
    rw [hI]
theorem st28 : St28 RR (d + 60) := by
  intro X M h
  unfold LS2
  show wp X (d + 60) 150 0 [(31, 1)] [] M _
  simp only [w150_0, w150_1, w150_4, c_1_0 h.cs, c_1_1 h.cs, c_1_2 h.cs, c_1_3 h.cs, c_1_4 h.cs, c_1_5 h.cs, c_1_6 h.cs, c_1_7 h.cs, c_1_8 h.cs, c_2_0 h.cs, c_2_1 h.cs, c_5_0 h.cs, c_5_1 h.cs, c_5_2 h.cs, c_5_3 h.cs, c_5_5 h.cs, c_5_8 h.cs, c_5_11 h.cs, c_6_1 h.cs, c_6_2 h.cs, c_6_3 h.cs, c_10_4 h.cs, c_10_5 h.cs, c_10_6 h.cs, c_10_7 h.cs, c_15_1 h.cs, c_17_1 h.cs, c_339_0 h.cs, c_341_0 h.cs, c_341_1 h.cs, c_341_2 h.cs, c_342_4 h.cs, c_342_5 h.cs, c_342_6 h.cs, c_342_7 h.cs, c_347_0 h.cs, c_347_2 h.cs, c_347_3 h.cs, c_349_0 h.cs, c_349_1 h.cs, c_349_2 h.cs, c_351_2 h.cs, c_351_10 h.cs, c_351_12 h.cs, c_354_0 h.cs, c_354_1 h.cs, c_354_2 h.cs, c_354_3 h.cs, c_354_4 h.cs, c_354_5 h.cs, c_354_6 h.cs, c_354_7 h.cs, c_354_8 h.cs, c_354_20 h.cs, c_354_25 h.cs, c_354_26 h.cs, c_354_27 h.cs, c_354_28 h.cs, c_354_32 h.cs, c_354_33 h.cs, c_354_34 h.cs, c_354_35 h.cs, c_354_38 h.cs, l_3 h.cs, l_4 h.cs, l_7 h.cs, l_8 h.cs, l_9 h.cs, l_11 h.cs, l_12 h.cs, l_13 h.cs, l_14 h.cs, l_16 h.cs, l_18 h.cs, l_19 h.cs, l_20 h.cs, l_21 h.cs, l_340 h.cs, l_343 h.cs, l_344 h.cs, l_345 h.cs, l_346 h.cs, l_348 h.cs, l_350 h.cs, l_352 h.cs, l_353 h.cs, l_355 h.cs, l_356 h.cs, l_357 h.cs, l_358 h.cs, l_359 h.cs, l_360 h.cs, l_361 h.cs, l_362 h.cs, l_363 h.cs, l_364 h.cs, l_365 h.cs, l_366 h.cs, l_367 h.cs, l_368 h.cs, l_369 h.cs, l_370 h.cs, l_371 h.cs, l_372 h.cs, l_373 h.cs, h.gnf, h.gP, h.gy, h.gx, h.gt, h.gns, h.gnt, h.gru, h.gnp, h.gnd, h.gne, ↓reduceIte, hh_wr, hl_wr, b10, b11, ite_not, ne_eq, Int.reduceEq, Int.reduceLE, Int.reduceLT, Int.reduceNe, Int.reduceNeg, Int.reduceAdd, Int.reduceSub, Int.reduceMul, not_false_eq_true, not_true_eq_false, false_and, and_false, true_and, and_true, and_self, true_or, or_true, false_or, or_false, if_true, if_false, ite_true, ite_false, mj_tl_some, mj_tl_none, mj_cs0, mj_cs1, mj_cs2, mj_cs3, mj_cs4]
  refine wc.mono (c_find (d := d + 55) h) ?_
  rintro r M1 ⟨rfl, g⟩
  obtain ⟨f, g1, g2⟩ := id g
  have h' := h.s8 f
  have e5 := fz8_355 f
  have hn := nCb_le (hh M 355)
  have m1 := fun Q => m_ask (X := X) (d := d + 56) (M := M1) (Q := Q) h'
  rw [e5] at m1
  by_cases hz : nCb (hh M 355) ≤ 1
  · rw [if_pos hz] at m1
    simp only [w150_0, w150_1, w150_4, w150_7, w150_8, w150_11, w150_12, w150_15, w150_16, w150_19, w150_22, show (nCb (hh M 355) : Int) < 2 by omega, m1, ↓reduceIte, hh_wr, hl_wr, b10, b11, ite_not, ne_eq, Int.reduceEq, Int.reduceLE, Int.reduceLT, Int.reduceNe, Int.reduceNeg, Int.reduceAdd, Int.reduceSub, Int.reduceMul, not_false_eq_true, not_true_eq_false, false_and, and_false, true_and, and_true, and_self, true_or, or_true, false_or, or_false, if_true, if_false, ite_true, ite_false, mj_tl_some, mj_tl_none, mj_cs0, mj_cs1, mj_cs2, mj_cs3, mj_cs4]
    exact ⟨_, rfl, rfl, Pst.of h' f⟩
  · rw [if_neg hz, akO_eq (hh M 355) (f := 1000000) (g := (nCb (hh M 355) : Int) + 1) (by omega) (by omega)] at m1
    have c1 := fun Q => c_bestQ (X := X) (d := d + 55) (M := M) (M1 := M1) (Q := Q) h g
    simp only [w150_0, w150_1, w150_4, w150_7, w150_8, w150_11, w150_12, w150_15, w150_16, w150_19, w150_22, c_1_0 h'.cs, c_1_1 h'.cs, c_1_2 h'.cs, c_1_3 h'.cs, c_1_4 h'.cs, c_1_5 h'.cs, c_1_6 h'.cs, c_1_7 h'.cs, c_1_8 h'.cs, c_2_0 h'.cs, c_2_1 h'.cs, c_5_0 h'.cs, c_5_1 h'.cs, c_5_2 h'.cs, c_5_3 h'.cs, c_5_5 h'.cs, c_5_8 h'.cs, c_5_11 h'.cs, c_6_1 h'.cs, c_6_2 h'.cs, c_6_3 h'.cs, c_10_4 h'.cs, c_10_5 h'.cs, c_10_6 h'.cs, c_10_7 h'.cs, c_15_1 h'.cs, c_17_1 h'.cs, c_339_0 h'.cs, c_341_0 h'.cs, c_341_1 h'.cs, c_341_2 h'.cs, c_342_4 h'.cs, c_342_5 h'.cs, c_342_6 h'.cs, c_342_7 h'.cs, c_347_0 h'.cs, c_347_2 h'.cs, c_347_3 h'.cs, c_349_0 h'.cs, c_349_1 h'.cs, c_349_2 h'.cs, c_351_2 h'.cs, c_351_10 h'.cs, c_351_12 h'.cs, c_354_0 h'.cs, c_354_1 h'.cs, c_354_2 h'.cs, c_354_3 h'.cs, c_354_4 h'.cs, c_354_5 h'.cs, c_354_6 h'.cs, c_354_7 h'.cs, c_354_8 h'.cs, c_354_20 h'.cs, c_354_25 h'.cs, c_354_26 h'.cs, c_354_27 h'.cs, c_354_28 h'.cs, c_354_32 h'.cs, c_354_33 h'.cs, c_354_34 h'.cs, c_354_35 h'.cs, c_354_38 h'.cs, l_3 h'.cs, l_4 h'.cs, l_7 h'.cs, l_8 h'.cs, l_9 h'.cs, l_11 h'.cs, l_12 h'.cs, l_13 h'.cs, l_14 h'.cs, l_16 h'.cs, l_18 h'.cs, l_19 h'.cs, l_20 h'.cs, l_21 h'.cs, l_340 h'.cs, l_343 h'.cs, l_344 h'.cs, l_345 h'.cs, l_346 h'.cs, l_348 h'.cs, l_350 h'.cs, l_352 h'.cs, l_353 h'.cs, l_355 h'.cs, l_356 h'.cs, l_357 h'.cs, l_358 h'.cs, l_359 h'.cs, l_360 h'.cs, l_361 h'.cs, l_362 h'.cs, l_363 h'.cs, l_364 h'.cs, l_365 h'.cs, l_366 h'.cs, l_367 h'.cs, l_368 h'.cs, l_369 h'.cs, l_370 h'.cs, l_371 h'.cs, l_372 h'.cs, l_373 h'.cs, h'.gnf, h'.gP, h'.gy, h'.gx, h'.gt, h'.gns, h'.gnt, h'.gru, h'.gnp, h'.gnd, h'.gne, show ¬ (nCb (hh M 355) : Int) < 2 by omega, c1, m1, ↓reduceIte, hh_wr, hl_wr, b10, b11, ite_not, ne_eq, Int.reduceEq, Int.reduceLE, Int.reduceLT, Int.reduceNe, Int.reduceNeg, Int.reduceAdd, Int.reduceSub, Int.reduceMul, not_false_eq_true, not_true_eq_false, false_and, and_false, true_and, and_true, and_self, true_or, or_true, false_or, or_false, if_true, if_false, ite_true, ite_false, mj_tl_some, mj_tl_none, mj_cs0, mj_cs1, mj_cs2, mj_cs3, mj_cs4]
    exact ⟨_, rfl, rfl, Pst.of h' f⟩
theorem p_middle (h : RR M) : wc X (d + 4) 164 [(31, 1)] M Q ↔ Q (some (0, miV (hh M 355))) M := by
  show wp X (d + 4) 164 0 [(31, 1), (9, 0), (9, 0), (9, 0), (9, 0), (9, 0)] [] M Q ↔ _
  obtain ⟨S, hS⟩ := nat_of h.S0
  have h4 := h.S4
  unfold miV
  by_cases hz : hh M 355 2 ≤ 0
  · simp only [w164_0, w164_1, w164_2, w164_3, w164_4, w164_5, w164_6, w164_7, w164_9, w164_12, w164_13, w164_16, w164_19, w164_22, w164_23, w164_25, w164_26, w164_28, w164_30, w164_31, w164_34, w164_37, w164_40, w164_42, w164_43, w164_46, w164_47, w164_48, w164_51, w164_54, w164_56, w164_57, w164_60, w164_61, w164_63, w164_66, w164_69, w164_70, w164_71, w164_74, w164_76, w164_77, w164_80, w164_81, w164_82, w164_84, w164_85, w164_88, w164_91, w164_92, c_1_0 h.cs, c_1_1 h.cs, c_1_2 h.cs, c_1_3 h.cs, c_1_4 h.cs, c_1_5 h.cs, c_1_6 h.cs, c_1_7 h.cs, c_1_8 h.cs, c_2_0 h.cs, c_2_1 h.cs, c_5_0 h.cs, c_5_1 h.cs, c_5_2 h.cs, c_5_3 h.cs, c_5_5 h.cs, c_5_8 h.cs, c_5_11 h.cs, c_6_1 h.cs, c_6_2 h.cs, c_6_3 h.cs, c_10_4 h.cs, c_10_5 h.cs, c_10_6 h.cs, c_10_7 h.cs, c_15_1 h.cs, c_17_1 h.cs, c_339_0 h.cs, c_341_0 h.cs, c_341_1 h.cs, c_341_2 h.cs, c_342_4 h.cs, c_342_5 h.cs, c_342_6 h.cs, c_342_7 h.cs, c_347_0 h.cs, c_347_2 h.cs, c_347_3 h.cs, c_349_0 h.cs, c_349_1 h.cs, c_349_2 h.cs, c_351_2 h.cs, c_351_10 h.cs, c_351_12 h.cs, c_354_0 h.cs, c_354_1 h.cs, c_354_2 h.cs, c_354_3 h.cs, c_354_4 h.cs, c_354_5 h.cs, c_354_6 h.cs, c_354_7 h.cs, c_354_8 h.cs, c_354_20 h.cs, c_354_25 h.cs, c_354_26 h.cs, c_354_27 h.cs, c_354_28 h.cs, c_354_32 h.cs, c_354_33 h.cs, c_354_34 h.cs, c_354_35 h.cs, c_354_38 h.cs, l_3 h.cs, l_4 h.cs, l_7 h.cs, l_8 h.cs, l_9 h.cs, l_11 h.cs, l_12 h.cs, l_13 h.cs, l_14 h.cs, l_16 h.cs, l_18 h.cs, l_19 h.cs, l_20 h.cs, l_21 h.cs, l_340 h.cs, l_343 h.cs, l_344 h.cs, l_345 h.cs, l_346 h.cs, l_348 h.cs, l_350 h.cs, l_352 h.cs, l_353 h.cs, l_355 h.cs, l_356 h.cs, l_357 h.cs, l_358 h.cs, l_359 h.cs, l_360 h.cs, l_361 h.cs, l_362 h.cs, l_363 h.cs, l_364 h.cs, l_365 h.cs, l_366 h.cs, l_367 h.cs, l_368 h.cs, l_369 h.cs, l_370 h.cs, l_371 h.cs, l_372 h.cs, l_373 h.cs, h.gnf, h.gP, h.gy, h.gx, h.gt, h.gns, h.gnt, h.gru, h.gnp, h.gnd, h.gne, hz, ↓reduceIte, hh_wr, hl_wr, b10, b11, ite_not, ne_eq, Int.reduceEq, Int.reduceLE, Int.reduceLT, Int.reduceNe, Int.reduceNeg, Int.reduceAdd, Int.reduceSub, Int.reduceMul, not_false_eq_true, not_true_eq_false, false_and, and_false, true_and, and_true, and_self, true_or, or_true, false_or, or_false, if_true, if_false, ite_true, ite_false, mj_tl_some, mj_tl_none, mj_cs0, mj_cs1, mj_cs2, mj_cs3, mj_cs4]
  refine wp.det ?_
  rw [if_neg hz]
  have key := loop1 (S := fun (p : Nat) (q : (Int × Int) × mj_V × mj_V) => wp X (d + 4) 164 6 [(31, 1), (0, q.1.1), (0, q.1.2), (0, (p : Int)), q.2.1, q.2.2] [] M (fun r M' => r = some (0, (md (hh M 355) 120).1) ∧ M' = M)) (I := fun p q => (p = 0 ∧ q.1.1 = -1) ∨ (0 < p ∧ q.1 = md (hh M 355) p)) (P := 120) ?_ ?_
  · simp only [w164_0, w164_1, w164_2, w164_3, w164_4, w164_5]
    exact key ((-1, 0), (9, 0), (9, 0)) (Or.inl ⟨rfl, rfl⟩)
  · rintro p ⟨s, w1, w2⟩ hp hI ih
    have inner := loop0 (S := fun (j : Nat) => wp X (d + 4) 164 28 [(31, 1), (0, s.1), (0, s.2), (0, (p : Int)), (0, sm (suF2 (hh M 355) (p : Int)) j), (0, (j : Int))] [] M (fun r M' => r = some (0, (md (hh M 355) 120).1) ∧ M' = M)) (P := S) ?_ ?_
    · rw [w164_6]
      simp only [w164_7, w164_9, w164_12, w164_13, w164_16, w164_19, w164_22, w164_23, w164_25, w164_26, c_1_0 h.cs, c_1_1 h.cs, c_1_2 h.cs, c_1_3 h.cs, c_1_4 h.cs, c_1_5 h.cs, c_1_6 h.cs, c_1_7 h.cs, c_1_8 h.cs, c_2_0 h.cs, c_2_1 h.cs, c_5_0 h.cs, c_5_1 h.cs, c_5_2 h.cs, c_5_3 h.cs, c_5_5 h.cs, c_5_8 h.cs, c_5_11 h.cs, c_6_1 h.cs, c_6_2 h.cs, c_6_3 h.cs, c_10_4 h.cs, c_10_5 h.cs, c_10_6 h.cs, c_10_7 h.cs, c_15_1 h.cs, c_17_1 h.cs, c_339_0 h.cs, c_341_0 h.cs, c_341_1 h.cs, c_341_2 h.cs, c_342_4 h.cs, c_342_5 h.cs, c_342_6 h.cs, c_342_7 h.cs, c_347_0 h.cs, c_347_2 h.cs, c_347_3 h.cs, c_349_0 h.cs, c_349_1 h.cs, c_349_2 h.cs, c_351_2 h.cs, c_351_10 h.cs, c_351_12 h.cs, c_354_0 h.cs, c_354_1 h.cs, c_354_2 h.cs, c_354_3 h.cs, c_354_4 h.cs, c_354_5 h.cs, c_354_6 h.cs, c_354_7 h.cs, c_354_8 h.cs, c_354_20 h.cs, c_354_25 h.cs, c_354_26 h.cs, c_354_27 h.cs, c_354_28 h.cs, c_354_32 h.cs, c_354_33 h.cs, c_354_34 h.cs, c_354_35 h.cs, c_354_38 h.cs, l_3 h.cs, l_4 h.cs, l_7 h.cs, l_8 h.cs, l_9 h.cs, l_11 h.cs, l_12 h.cs, l_13 h.cs, l_14 h.cs, l_16 h.cs, l_18 h.cs, l_19 h.cs, l_20 h.cs, l_21 h.cs, l_340 h.cs, l_343 h.cs, l_344 h.cs, l_345 h.cs, l_346 h.cs, l_348 h.cs, l_350 h.cs, l_352 h.cs, l_353 h.cs, l_355 h.cs, l_356 h.cs, l_357 h.cs, l_358 h.cs, l_359 h.cs, l_360 h.cs, l_361 h.cs, l_362 h.cs, l_363 h.cs, l_364 h.cs, l_365 h.cs, l_366 h.cs, l_367 h.cs, l_368 h.cs, l_369 h.cs, l_370 h.cs, l_371 h.cs, l_372 h.cs, l_373 h.cs, h.gnf, h.gP, h.gy, h.gx, h.gt, h.gns, h.gnt, h.gru, h.gnp, h.gnd, h.gne, hz, show (p : Int) < 120 by omega, ↓reduceIte, hh_wr, hl_wr, b10, b11, ite_not, ne_eq, Int.reduceEq, Int.reduceLE, Int.reduceLT, Int.reduceNe, Int.reduceNeg, Int.reduceAdd, Int.reduceSub, Int.reduceMul, not_false_eq_true, not_true_eq_false, false_and, and_false, true_and, and_true, and_self, true_or, or_true, false_or, or_false, if_true, if_false, ite_true, ite_false, mj_tl_some, mj_tl_none, mj_cs0, mj_cs1, mj_cs2, mj_cs3, mj_cs4]
      exact inner
    · intro j hj hJ
      have hs : 0 ≤ hh M 355 (57 + (j : Int)) ∧ hh M 355 (57 + (j : Int)) ≤ 119 := h.ai.st j (by omega) (by omega)
      have c1 := fun Q => c_pairsApart (X := X) (d := d) (M := M) (Q := Q) (o := (p : Int)) (q := hh M 355 (57 + (j : Int))) h.cs h.tb ⟨by omega, by omega⟩ hs
      have hr := sm_rng (f := suF2 (hh M 355) (p : Int)) (lo := 0) (hi := 20) (n := j) (fun i _ => ap_r _ _)
      have hr2 := ap_r (p : Int) (hh M 355 (57 + (j : Int)))
      have es : sm (suF2 (hh M 355) (p : Int)) (j + 1) = sm (suF2 (hh M 355) (p : Int)) j + ap (p : Int) (hh M 355 (57 + (j : Int))) := rfl
      rw [es] at hJ
      rw [w164_28]
      simp only [w164_0, w164_1, w164_2, w164_3, w164_4, w164_5, w164_7, w164_9, w164_12, w164_13, w164_16, w164_19, w164_22, w164_23, w164_25, w164_26, w164_30, w164_31, w164_34, w164_37, w164_40, w164_42, w164_43, w164_46, w164_47, w164_48, w164_51, w164_54, w164_56, w164_57, w164_60, w164_61, w164_63, w164_66, w164_69, w164_70, w164_71, w164_74, w164_76, w164_77, w164_80, w164_81, w164_82, w164_84, w164_85, w164_88, w164_91, w164_92, c_1_0 h.cs, c_1_1 h.cs, c_1_2 h.cs, c_1_3 h.cs, c_1_4 h.cs, c_1_5 h.cs, c_1_6 h.cs, c_1_7 h.cs, c_1_8 h.cs, c_2_0 h.cs, c_2_1 h.cs, c_5_0 h.cs, c_5_1 h.cs, c_5_2 h.cs, c_5_3 h.cs, c_5_5 h.cs, c_5_8 h.cs, c_5_11 h.cs, c_6_1 h.cs, c_6_2 h.cs, c_6_3 h.cs, c_10_4 h.cs, c_10_5 h.cs, c_10_6 h.cs, c_10_7 h.cs, c_15_1 h.cs, c_17_1 h.cs, c_339_0 h.cs, c_341_0 h.cs, c_341_1 h.cs, c_341_2 h.cs, c_342_4 h.cs, c_342_5 h.cs, c_342_6 h.cs, c_342_7 h.cs, c_347_0 h.cs, c_347_2 h.cs, c_347_3 h.cs, c_349_0 h.cs, c_349_1 h.cs, c_349_2 h.cs, c_351_2 h.cs, c_351_10 h.cs, c_351_12 h.cs, c_354_0 h.cs, c_354_1 h.cs, c_354_2 h.cs, c_354_3 h.cs, c_354_4 h.cs, c_354_5 h.cs, c_354_6 h.cs, c_354_7 h.cs, c_354_8 h.cs, c_354_20 h.cs, c_354_25 h.cs, c_354_26 h.cs, c_354_27 h.cs, c_354_28 h.cs, c_354_32 h.cs, c_354_33 h.cs, c_354_34 h.cs, c_354_35 h.cs, c_354_38 h.cs, l_3 h.cs, l_4 h.cs, l_7 h.cs, l_8 h.cs, l_9 h.cs, l_11 h.cs, l_12 h.cs, l_13 h.cs, l_14 h.cs, l_16 h.cs, l_18 h.cs, l_19 h.cs, l_20 h.cs, l_21 h.cs, l_340 h.cs, l_343 h.cs, l_344 h.cs, l_345 h.cs, l_346 h.cs, l_348 h.cs, l_350 h.cs, l_352 h.cs, l_353 h.cs, l_355 h.cs, l_356 h.cs, l_357 h.cs, l_358 h.cs, l_359 h.cs, l_360 h.cs, l_361 h.cs, l_362 h.cs, l_363 h.cs, l_364 h.cs, l_365 h.cs, l_366 h.cs, l_367 h.cs, l_368 h.cs, l_369 h.cs, l_370 h.cs, l_371 h.cs, l_372 h.cs, l_373 h.cs, h.gnf, h.gP, h.gy, h.gx, h.gt, h.gns, h.gnt, h.gru, h.gnp, h.gnd, h.gne, hS, h.gst (i := (j : Int)) ⟨by omega, by omega⟩, c1, show (j : Int) < (S : Int) by omega, show (0 : Int) ≤ (j : Int) by omega, show (j : Int) < 4 by omega, aj (x := sm (suF2 (hh M 355) (p : Int)) j) (y := ap (p : Int) (hh M 355 (57 + (j : Int)))) ⟨by omega, by omega⟩, jp1 (p := j) (by omega), ↓reduceIte, hh_wr, hl_wr, b10, b11, ite_not, ne_eq, Int.reduceEq, Int.reduceLE, Int.reduceLT, Int.reduceNe, Int.reduceNeg, Int.reduceAdd, Int.reduceSub, Int.reduceMul, not_false_eq_true, not_true_eq_false, false_and, and_false, true_and, and_true, and_self, true_or, or_true, false_or, or_false, if_true, if_false, ite_true, ite_false, mj_tl_some, mj_tl_none, mj_cs0, mj_cs1, mj_cs2, mj_cs3, mj_cs4]
      exact hJ
    · have e : sm (suF2 (hh M 355) (p : Int)) S = suA (hh M 355) (p : Int) := by unfold suA; rw [hS]; rfl
      rw [e]
      simp only [w164_28, w164_30, w164_31, w164_34, w164_37, w164_69, w164_70, w164_71, w164_74, w164_76, w164_77, w164_80, w164_81, w164_82, w164_84, w164_85, w164_88, c_1_0 h.cs, c_1_1 h.cs, c_1_2 h.cs, c_1_3 h.cs, c_1_4 h.cs, c_1_5 h.cs, c_1_6 h.cs, c_1_7 h.cs, c_1_8 h.cs, c_2_0 h.cs, c_2_1 h.cs, c_5_0 h.cs, c_5_1 h.cs, c_5_2 h.cs, c_5_3 h.cs, c_5_5 h.cs, c_5_8 h.cs, c_5_11 h.cs, c_6_1 h.cs, c_6_2 h.cs, c_6_3 h.cs, c_10_4 h.cs, c_10_5 h.cs, c_10_6 h.cs, c_10_7 h.cs, c_15_1 h.cs, c_17_1 h.cs, c_339_0 h.cs, c_341_0 h.cs, c_341_1 h.cs, c_341_2 h.cs, c_342_4 h.cs, c_342_5 h.cs, c_342_6 h.cs, c_342_7 h.cs, c_347_0 h.cs, c_347_2 h.cs, c_347_3 h.cs, c_349_0 h.cs, c_349_1 h.cs, c_349_2 h.cs, c_351_2 h.cs, c_351_10 h.cs, c_351_12 h.cs, c_354_0 h.cs, c_354_1 h.cs, c_354_2 h.cs, c_354_3 h.cs, c_354_4 h.cs, c_354_5 h.cs, c_354_6 h.cs, c_354_7 h.cs, c_354_8 h.cs, c_354_20 h.cs, c_354_25 h.cs, c_354_26 h.cs, c_354_27 h.cs, c_354_28 h.cs, c_354_32 h.cs, c_354_33 h.cs, c_354_34 h.cs, c_354_35 h.cs, c_354_38 h.cs, l_3 h.cs, l_4 h.cs, l_7 h.cs, l_8 h.cs, l_9 h.cs, l_11 h.cs, l_12 h.cs, l_13 h.cs, l_14 h.cs, l_16 h.cs, l_18 h.cs, l_19 h.cs, l_20 h.cs, l_21 h.cs, l_340 h.cs, l_343 h.cs, l_344 h.cs, l_345 h.cs, l_346 h.cs, l_348 h.cs, l_350 h.cs, l_352 h.cs, l_353 h.cs, l_355 h.cs, l_356 h.cs, l_357 h.cs, l_358 h.cs, l_359 h.cs, l_360 h.cs, l_361 h.cs, l_362 h.cs, l_363 h.cs, l_364 h.cs, l_365 h.cs, l_366 h.cs, l_367 h.cs, l_368 h.cs, l_369 h.cs, l_370 h.cs, l_371 h.cs, l_372 h.cs, l_373 h.cs, h.gnf, h.gP, h.gy, h.gx, h.gt, h.gns, h.gnt, h.gru, h.gnp, h.gnd, h.gne, hS, Int.lt_irrefl, jp1 (p := p) (by omega), ↓reduceIte, hh_wr, hl_wr, b10, b11, ite_not, ne_eq, Int.reduceEq, Int.reduceLE, Int.reduceLT, Int.reduceNe, Int.reduceNeg, Int.reduceAdd, Int.reduceSub, Int.reduceMul, not_false_eq_true, not_true_eq_false, false_and, and_false, true_and, and_true, and_self, true_or, or_true, false_or, or_false, if_true, if_false, ite_true, ite_false, mj_tl_some, mj_tl_none, mj_cs0, mj_cs1, mj_cs2, mj_cs3, mj_cs4]
      have hr := suA_r h4 (p : Int)
      rcases hI with ⟨hp0, hb⟩ | ⟨hp0, hb⟩
      · simp only at hb
        rw [if_pos hb]
        refine ih ((_, _), _, _) (Or.inr ⟨by omega, ?_⟩)
        subst hp0
        exact (if_pos (show suA (hh M 355) ((0 : Nat) : Int) < 1000000 by omega)).symm
      · simp only at hb
        have hg := md_ge h4 p hp0
        rw [← hb] at hg
        rw [if_neg (by omega)]
        have es : md (hh M 355) (p + 1) = mdS (hh M 355) p (md (hh M 355) p) := rfl
        rw [← hb] at es
        by_cases hC : suA (hh M 355) (p : Int) < s.2
        · rw [if_pos hC]
          have e9 : ((p : Int), suA (hh M 355) (p : Int)) = md (hh M 355) (p + 1) := by rw [es]; exact (if_pos hC).symm
          exact ih ((_, _), _, _) (Or.inr ⟨by omega, e9⟩)
        · rw [if_neg hC]
          have e9 : s = md (hh M 355) (p + 1) := by rw [es]; exact (if_neg hC).symm
          exact ih (s, _, _) (Or.inr ⟨by omega, e9⟩)
  · rintro ⟨s, w1, w2⟩ hI
    rcases hI with ⟨hp0, hb⟩ | ⟨hp0, hb⟩
    · omega
    · simp only at hb
      simp only [w164_0, w164_1, w164_2, w164_3, w164_4, w164_5, w164_6, w164_7, w164_9, w164_12, w164_13, w164_16, w164_19, w164_22, w164_23, w164_25, w164_26, w164_28, w164_30, w164_31, w164_34, w164_37, w164_40, w164_42, w164_43, w164_46, w164_47, w164_48, w164_51, w164_54, w164_56, w164_57, w164_60, w164_61, w164_63, w164_66, w164_69, w164_70, w164_71, w164_74, w164_76, w164_77, w164_80, w164_81, w164_82, w164_84, w164_85, w164_88, w164_91, w164_92, ct120, ↓reduceIte, hh_wr, hl_wr, b10, b11, ite_not, ne_eq, Int.reduceEq, Int.reduceLE, Int.reduceLT, Int.reduceNe, Int.reduceNeg, Int.reduceAdd, Int.reduceSub, Int.reduceMul, not_false_eq_true, not_true_eq_false, false_and, and_false, true_and, and_true, and_self, true_or, or_true, false_or, or_false, if_true, if_false, ite_true, ite_false, mj_tl_some, mj_tl_none, mj_cs0, mj_cs1, mj_cs2, mj_cs3, mj_cs4]
      rw [hb]
theorem m_middle (h : RR M) : wc X (d + 4) 327 [(32, 354)] M Q ↔ Q (some (0, miV (hh M 355))) M := by
  show wp X (d + 4) 327 0 [(32, 354), (9, 0), (9, 0), (9, 0), (9, 0), (9, 0)] [] M Q ↔ _
  obtain ⟨S, hS⟩ := nat_of h.S0
  have h4 := h.S4
  unfold miV
  by_cases hz : hh M 355 2 ≤ 0
  · simp only [w327_0, w327_1, w327_2, w327_5, w327_6, w327_7, w327_8, w327_9, w327_11, w327_14, w327_15, w327_18, w327_19, w327_20, w327_23, w327_24, w327_26, w327_27, w327_29, w327_31, w327_32, w327_35, w327_36, w327_37, w327_40, w327_42, w327_43, w327_44, w327_45, w327_48, w327_50, w327_52, w327_53, w327_54, w327_57, w327_58, w327_60, w327_63, w327_66, w327_68, w327_69, w327_72, w327_75, w327_77, w327_78, w327_79, w327_80, w327_83, w327_86, w327_87, c_1_0 h.cs, c_1_1 h.cs, c_1_2 h.cs, c_1_3 h.cs, c_1_4 h.cs, c_1_5 h.cs, c_1_6 h.cs, c_1_7 h.cs, c_1_8 h.cs, c_2_0 h.cs, c_2_1 h.cs, c_5_0 h.cs, c_5_1 h.cs, c_5_2 h.cs, c_5_3 h.cs, c_5_5 h.cs, c_5_8 h.cs, c_5_11 h.cs, c_6_1 h.cs, c_6_2 h.cs, c_6_3 h.cs, c_10_4 h.cs, c_10_5 h.cs, c_10_6 h.cs, c_10_7 h.cs, c_15_1 h.cs, c_17_1 h.cs, c_339_0 h.cs, c_341_0 h.cs, c_341_1 h.cs, c_341_2 h.cs, c_342_4 h.cs, c_342_5 h.cs, c_342_6 h.cs, c_342_7 h.cs, c_347_0 h.cs, c_347_2 h.cs, c_347_3 h.cs, c_349_0 h.cs, c_349_1 h.cs, c_349_2 h.cs, c_351_2 h.cs, c_351_10 h.cs, c_351_12 h.cs, c_354_0 h.cs, c_354_1 h.cs, c_354_2 h.cs, c_354_3 h.cs, c_354_4 h.cs, c_354_5 h.cs, c_354_6 h.cs, c_354_7 h.cs, c_354_8 h.cs, c_354_20 h.cs, c_354_25 h.cs, c_354_26 h.cs, c_354_27 h.cs, c_354_28 h.cs, c_354_32 h.cs, c_354_33 h.cs, c_354_34 h.cs, c_354_35 h.cs, c_354_38 h.cs, l_3 h.cs, l_4 h.cs, l_7 h.cs, l_8 h.cs, l_9 h.cs, l_11 h.cs, l_12 h.cs, l_13 h.cs, l_14 h.cs, l_16 h.cs, l_18 h.cs, l_19 h.cs, l_20 h.cs, l_21 h.cs, l_340 h.cs, l_343 h.cs, l_344 h.cs, l_345 h.cs, l_346 h.cs, l_348 h.cs, l_350 h.cs, l_352 h.cs, l_353 h.cs, l_355 h.cs, l_356 h.cs, l_357 h.cs, l_358 h.cs, l_359 h.cs, l_360 h.cs, l_361 h.cs, l_362 h.cs, l_363 h.cs, l_364 h.cs, l_365 h.cs, l_366 h.cs, l_367 h.cs, l_368 h.cs, l_369 h.cs, l_370 h.cs, l_371 h.cs, l_372 h.cs, l_373 h.cs, h.gnf, h.gP, h.gy, h.gx, h.gt, h.gns, h.gnt, h.gru, h.gnp, h.gnd, h.gne, hz, ↓reduceIte, hh_wr, hl_wr, b10, b11, ite_not, ne_eq, Int.reduceEq, Int.reduceLE, Int.reduceLT, Int.reduceNe, Int.reduceNeg, Int.reduceAdd, Int.reduceSub, Int.reduceMul, not_false_eq_true, not_true_eq_false, false_and, and_false, true_and, and_true, and_self, true_or, or_true, false_or, or_false, if_true, if_false, ite_true, ite_false, mj_tl_some, mj_tl_none, mj_cs0, mj_cs1, mj_cs2, mj_cs3, mj_cs4]
  refine wp.det ?_
  rw [if_neg hz]
  have key := loop1 (S := fun (p : Nat) (q : (Int × Int) × mj_V × mj_V) => wp X (d + 4) 327 8 [(32, 354), (0, q.1.1), (0, q.1.2), (0, (p : Int)), q.2.1, q.2.2] [] M (fun r M' => r = some (0, (md (hh M 355) 120).1) ∧ M' = M)) (I := fun p q => q.1 = md (hh M 355) p) (P := 120) ?_ ?_
  · simp only [w327_0, w327_1, w327_2, w327_5, w327_6, w327_7]
    exact key ((-1, 1000000), (9, 0), (9, 0)) rfl
  · rintro p ⟨s, w1, w2⟩ hp hb ih
    have inner := loop0 (S := fun (j : Nat) => wp X (d + 4) 327 29 [(32, 354), (0, s.1), (0, s.2), (0, (p : Int)), (0, sm (suF2 (hh M 355) (p : Int)) j), (0, (j : Int))] [] M (fun r M' => r = some (0, (md (hh M 355) 120).1) ∧ M' = M)) (P := S) ?_ ?_
    · rw [w327_8]
      simp only [w327_9, w327_11, w327_14, w327_15, w327_18, w327_19, w327_20, w327_23, w327_24, w327_26, w327_27, c_1_0 h.cs, c_1_1 h.cs, c_1_2 h.cs, c_1_3 h.cs, c_1_4 h.cs, c_1_5 h.cs, c_1_6 h.cs, c_1_7 h.cs, c_1_8 h.cs, c_2_0 h.cs, c_2_1 h.cs, c_5_0 h.cs, c_5_1 h.cs, c_5_2 h.cs, c_5_3 h.cs, c_5_5 h.cs, c_5_8 h.cs, c_5_11 h.cs, c_6_1 h.cs, c_6_2 h.cs, c_6_3 h.cs, c_10_4 h.cs, c_10_5 h.cs, c_10_6 h.cs, c_10_7 h.cs, c_15_1 h.cs, c_17_1 h.cs, c_339_0 h.cs, c_341_0 h.cs, c_341_1 h.cs, c_341_2 h.cs, c_342_4 h.cs, c_342_5 h.cs, c_342_6 h.cs, c_342_7 h.cs, c_347_0 h.cs, c_347_2 h.cs, c_347_3 h.cs, c_349_0 h.cs, c_349_1 h.cs, c_349_2 h.cs, c_351_2 h.cs, c_351_10 h.cs, c_351_12 h.cs, c_354_0 h.cs, c_354_1 h.cs, c_354_2 h.cs, c_354_3 h.cs, c_354_4 h.cs, c_354_5 h.cs, c_354_6 h.cs, c_354_7 h.cs, c_354_8 h.cs, c_354_20 h.cs, c_354_25 h.cs, c_354_26 h.cs, c_354_27 h.cs, c_354_28 h.cs, c_354_32 h.cs, c_354_33 h.cs, c_354_34 h.cs, c_354_35 h.cs, c_354_38 h.cs, l_3 h.cs, l_4 h.cs, l_7 h.cs, l_8 h.cs, l_9 h.cs, l_11 h.cs, l_12 h.cs, l_13 h.cs, l_14 h.cs, l_16 h.cs, l_18 h.cs, l_19 h.cs, l_20 h.cs, l_21 h.cs, l_340 h.cs, l_343 h.cs, l_344 h.cs, l_345 h.cs, l_346 h.cs, l_348 h.cs, l_350 h.cs, l_352 h.cs, l_353 h.cs, l_355 h.cs, l_356 h.cs, l_357 h.cs, l_358 h.cs, l_359 h.cs, l_360 h.cs, l_361 h.cs, l_362 h.cs, l_363 h.cs, l_364 h.cs, l_365 h.cs, l_366 h.cs, l_367 h.cs, l_368 h.cs, l_369 h.cs, l_370 h.cs, l_371 h.cs, l_372 h.cs, l_373 h.cs, h.gnf, h.gP, h.gy, h.gx, h.gt, h.gns, h.gnt, h.gru, h.gnp, h.gnd, h.gne, hz, show (p : Int) < 120 by omega, ↓reduceIte, hh_wr, hl_wr, b10, b11, ite_not, ne_eq, Int.reduceEq, Int.reduceLE, Int.reduceLT, Int.reduceNe, Int.reduceNeg, Int.reduceAdd, Int.reduceSub, Int.reduceMul, not_false_eq_true, not_true_eq_false, false_and, and_false, true_and, and_true, and_self, true_or, or_true, false_or, or_false, if_true, if_false, ite_true, ite_false, mj_tl_some, mj_tl_none, mj_cs0, mj_cs1, mj_cs2, mj_cs3, mj_cs4]
      exact inner
    · intro j hj hJ
      have hs : 0 ≤ hh M 355 (57 + (j : Int)) ∧ hh M 355 (57 + (j : Int)) ≤ 119 := h.ai.st j (by omega) (by omega)
      have c1 := fun Q => m_apartBy (X := X) (d := d + 2) (M := M) (Q := Q) (o := (p : Int)) (q := hh M 355 (57 + (j : Int))) h.cs h.tb ⟨by omega, by omega⟩ hs
      have hr := sm_rng (f := suF2 (hh M 355) (p : Int)) (lo := 0) (hi := 20) (n := j) (fun i _ => ap_r _ _)
      have hr2 := ap_r (p : Int) (hh M 355 (57 + (j : Int)))
      have es : sm (suF2 (hh M 355) (p : Int)) (j + 1) = sm (suF2 (hh M 355) (p : Int)) j + ap (p : Int) (hh M 355 (57 + (j : Int))) := rfl
      rw [es] at hJ
      rw [w327_29]
      simp only [w327_0, w327_1, w327_2, w327_5, w327_6, w327_7, w327_9, w327_11, w327_14, w327_15, w327_18, w327_19, w327_20, w327_23, w327_24, w327_26, w327_27, w327_31, w327_32, w327_35, w327_36, w327_37, w327_40, w327_42, w327_43, w327_44, w327_45, w327_48, w327_50, w327_52, w327_53, w327_54, w327_57, w327_58, w327_60, w327_63, w327_66, w327_68, w327_69, w327_72, w327_75, w327_77, w327_78, w327_79, w327_80, w327_83, w327_86, w327_87, c_1_0 h.cs, c_1_1 h.cs, c_1_2 h.cs, c_1_3 h.cs, c_1_4 h.cs, c_1_5 h.cs, c_1_6 h.cs, c_1_7 h.cs, c_1_8 h.cs, c_2_0 h.cs, c_2_1 h.cs, c_5_0 h.cs, c_5_1 h.cs, c_5_2 h.cs, c_5_3 h.cs, c_5_5 h.cs, c_5_8 h.cs, c_5_11 h.cs, c_6_1 h.cs, c_6_2 h.cs, c_6_3 h.cs, c_10_4 h.cs, c_10_5 h.cs, c_10_6 h.cs, c_10_7 h.cs, c_15_1 h.cs, c_17_1 h.cs, c_339_0 h.cs, c_341_0 h.cs, c_341_1 h.cs, c_341_2 h.cs, c_342_4 h.cs, c_342_5 h.cs, c_342_6 h.cs, c_342_7 h.cs, c_347_0 h.cs, c_347_2 h.cs, c_347_3 h.cs, c_349_0 h.cs, c_349_1 h.cs, c_349_2 h.cs, c_351_2 h.cs, c_351_10 h.cs, c_351_12 h.cs, c_354_0 h.cs, c_354_1 h.cs, c_354_2 h.cs, c_354_3 h.cs, c_354_4 h.cs, c_354_5 h.cs, c_354_6 h.cs, c_354_7 h.cs, c_354_8 h.cs, c_354_20 h.cs, c_354_25 h.cs, c_354_26 h.cs, c_354_27 h.cs, c_354_28 h.cs, c_354_32 h.cs, c_354_33 h.cs, c_354_34 h.cs, c_354_35 h.cs, c_354_38 h.cs, l_3 h.cs, l_4 h.cs, l_7 h.cs, l_8 h.cs, l_9 h.cs, l_11 h.cs, l_12 h.cs, l_13 h.cs, l_14 h.cs, l_16 h.cs, l_18 h.cs, l_19 h.cs, l_20 h.cs, l_21 h.cs, l_340 h.cs, l_343 h.cs, l_344 h.cs, l_345 h.cs, l_346 h.cs, l_348 h.cs, l_350 h.cs, l_352 h.cs, l_353 h.cs, l_355 h.cs, l_356 h.cs, l_357 h.cs, l_358 h.cs, l_359 h.cs, l_360 h.cs, l_361 h.cs, l_362 h.cs, l_363 h.cs, l_364 h.cs, l_365 h.cs, l_366 h.cs, l_367 h.cs, l_368 h.cs, l_369 h.cs, l_370 h.cs, l_371 h.cs, l_372 h.cs, l_373 h.cs, h.gnf, h.gP, h.gy, h.gx, h.gt, h.gns, h.gnt, h.gru, h.gnp, h.gnd, h.gne, hS, c1, show (j : Int) < (S : Int) by omega, aj (x := 57) (y := (j : Int)) ⟨by omega, by omega⟩, show (0 : Int) ≤ 57 + (j : Int) by omega, show 57 + (j : Int) < 1691 by omega, aj (x := sm (suF2 (hh M 355) (p : Int)) j) (y := ap (p : Int) (hh M 355 (57 + (j : Int)))) ⟨by omega, by omega⟩, jp1 (p := j) (by omega), ↓reduceIte, hh_wr, hl_wr, b10, b11, ite_not, ne_eq, Int.reduceEq, Int.reduceLE, Int.reduceLT, Int.reduceNe, Int.reduceNeg, Int.reduceAdd, Int.reduceSub, Int.reduceMul, not_false_eq_true, not_true_eq_false, false_and, and_false, true_and, and_true, and_self, true_or, or_true, false_or, or_false, if_true, if_false, ite_true, ite_false, mj_tl_some, mj_tl_none, mj_cs0, mj_cs1, mj_cs2, mj_cs3, mj_cs4]
      exact hJ
    · have e : sm (suF2 (hh M 355) (p : Int)) S = suA (hh M 355) (p : Int) := by unfold suA; rw [hS]; rfl
      rw [e]
      simp only [w327_29, w327_31, w327_32, w327_35, w327_36, w327_37, w327_66, w327_68, w327_69, w327_72, w327_75, w327_77, w327_78, w327_79, w327_80, w327_83, c_1_0 h.cs, c_1_1 h.cs, c_1_2 h.cs, c_1_3 h.cs, c_1_4 h.cs, c_1_5 h.cs, c_1_6 h.cs, c_1_7 h.cs, c_1_8 h.cs, c_2_0 h.cs, c_2_1 h.cs, c_5_0 h.cs, c_5_1 h.cs, c_5_2 h.cs, c_5_3 h.cs, c_5_5 h.cs, c_5_8 h.cs, c_5_11 h.cs, c_6_1 h.cs, c_6_2 h.cs, c_6_3 h.cs, c_10_4 h.cs, c_10_5 h.cs, c_10_6 h.cs, c_10_7 h.cs, c_15_1 h.cs, c_17_1 h.cs, c_339_0 h.cs, c_341_0 h.cs, c_341_1 h.cs, c_341_2 h.cs, c_342_4 h.cs, c_342_5 h.cs, c_342_6 h.cs, c_342_7 h.cs, c_347_0 h.cs, c_347_2 h.cs, c_347_3 h.cs, c_349_0 h.cs, c_349_1 h.cs, c_349_2 h.cs, c_351_2 h.cs, c_351_10 h.cs, c_351_12 h.cs, c_354_0 h.cs, c_354_1 h.cs, c_354_2 h.cs, c_354_3 h.cs, c_354_4 h.cs, c_354_5 h.cs, c_354_6 h.cs, c_354_7 h.cs, c_354_8 h.cs, c_354_20 h.cs, c_354_25 h.cs, c_354_26 h.cs, c_354_27 h.cs, c_354_28 h.cs, c_354_32 h.cs, c_354_33 h.cs, c_354_34 h.cs, c_354_35 h.cs, c_354_38 h.cs, l_3 h.cs, l_4 h.cs, l_7 h.cs, l_8 h.cs, l_9 h.cs, l_11 h.cs, l_12 h.cs, l_13 h.cs, l_14 h.cs, l_16 h.cs, l_18 h.cs, l_19 h.cs, l_20 h.cs, l_21 h.cs, l_340 h.cs, l_343 h.cs, l_344 h.cs, l_345 h.cs, l_346 h.cs, l_348 h.cs, l_350 h.cs, l_352 h.cs, l_353 h.cs, l_355 h.cs, l_356 h.cs, l_357 h.cs, l_358 h.cs, l_359 h.cs, l_360 h.cs, l_361 h.cs, l_362 h.cs, l_363 h.cs, l_364 h.cs, l_365 h.cs, l_366 h.cs, l_367 h.cs, l_368 h.cs, l_369 h.cs, l_370 h.cs, l_371 h.cs, l_372 h.cs, l_373 h.cs, h.gnf, h.gP, h.gy, h.gx, h.gt, h.gns, h.gnt, h.gru, h.gnp, h.gnd, h.gne, hS, Int.lt_irrefl, jp1 (p := p) (by omega), ↓reduceIte, hh_wr, hl_wr, b10, b11, ite_not, ne_eq, Int.reduceEq, Int.reduceLE, Int.reduceLT, Int.reduceNe, Int.reduceNeg, Int.reduceAdd, Int.reduceSub, Int.reduceMul, not_false_eq_true, not_true_eq_false, false_and, and_false, true_and, and_true, and_self, true_or, or_true, false_or, or_false, if_true, if_false, ite_true, ite_false, mj_tl_some, mj_tl_none, mj_cs0, mj_cs1, mj_cs2, mj_cs3, mj_cs4]
      simp only at hb
      have es : md (hh M 355) (p + 1) = mdS (hh M 355) p (md (hh M 355) p) := rfl
      rw [← hb] at es
      by_cases hC : suA (hh M 355) (p : Int) < s.2
      · rw [if_pos hC]
        have e9 : ((p : Int), suA (hh M 355) (p : Int)) = md (hh M 355) (p + 1) := by rw [es]; exact (if_pos hC).symm
        exact ih ((_, _), _, _) e9
      · rw [if_neg hC]
        have e9 : s = md (hh M 355) (p + 1) := by rw [es]; exact (if_neg hC).symm
        exact ih (s, _, _) e9
  · rintro ⟨s, w1, w2⟩ hb
    simp only at hb
    simp only [w327_0, w327_1, w327_2, w327_5, w327_6, w327_7, w327_8, w327_9, w327_11, w327_14, w327_15, w327_18, w327_19, w327_20, w327_23, w327_24, w327_26, w327_27, w327_29, w327_31, w327_32, w327_35, w327_36, w327_37, w327_40, w327_42, w327_43, w327_44, w327_45, w327_48, w327_50, w327_52, w327_53, w327_54, w327_57, w327_58, w327_60, w327_63, w327_66, w327_68, w327_69, w327_72, w327_75, w327_77, w327_78, w327_79, w327_80, w327_83, w327_86, w327_87, ct120, ↓reduceIte, hh_wr, hl_wr, b10, b11, ite_not, ne_eq, Int.reduceEq, Int.reduceLE, Int.reduceLT, Int.reduceNe, Int.reduceNeg, Int.reduceAdd, Int.reduceSub, Int.reduceMul, not_false_eq_true, not_true_eq_false, false_and, and_false, true_and, and_true, and_self, true_or, or_true, false_or, or_false, if_true, if_false, ite_true, ite_false, mj_tl_some, mj_tl_none, mj_cs0, mj_cs1, mj_cs2, mj_cs3, mj_cs4]
    rw [hb]
theorem st35 : St35 RR (d + 60) := by
  intro X M h
  unfold LS2
  simp only [p_middle h, m_middle h]
  exact ls_id h rfl
end Qu
