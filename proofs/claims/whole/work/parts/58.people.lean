/-! PEOPLE AND FORMS: who knows what -/
def it {α : Type} (g : Nat → α → α) (s : α) : Nat → α
  | 0 => s
  | n + 1 => g n (it g s n)
/-- person p knows form f -/
def kwb (A : Int → Int) (f : Int) (p : Nat) : Bool := decide (ji_and (ji_shr (A (11 + 5 * (p : Int) + 1)) f) 1 = 1)
/-- who knows form f: bits -/
def kwn (A : Int → Int) (f : Int) : Nat := bt (kwb A f) (A 1).toNat
theorem kb_bt {h : Int → Int} {f : Int} : ∀ {P : Nat}, P ≤ 20 → kb h f P = (bt (kwb h f) P : Int)
  | 0, _ => rfl
  | p + 1, hp => by
    rw [kb, kb_bt (by omega)]
    by_cases hC : ji_and (ji_shr (h (11 + 5 * (p : Int) + 1)) f) 1 = 1
    · rw [if_pos hC, bt_t (by unfold kwb; simpa using hC) (by omega)]
    · rw [if_neg hC, bt_f (by unfold kwb; simpa using hC) (by omega)]
theorem kwn_lt {M : mj_M} (h : RR M) (f : Int) : kwn (hh M 355) f < 64 := by
  have := bt_lt (kwb (hh M 355) f) (hh M 355 1).toNat
  have h2 := Nat.pow_le_pow_right (n := 2) (by decide) (show (hh M 355 1).toNat ≤ 6 by have := h.P6; omega)
  unfold kwn
  omega
section People
variable {X : mj_X} {d : Nat} {M : mj_M} {Q : Option mj_V → mj_M → Prop}
theorem m_knownBy {f : Int} (h : RR M) : wc X (d + 1) 271 [(32, 354), (0, f)] M Q ↔ Q (some (0, (kwn (hh M 355) f : Int))) M := by
  obtain ⟨P, hP⟩ := nat_of h.P0
  have h6 := h.P6
  unfold kwn
  rw [hP, s_knownBy (by decide) (c_354_0 h.cs) (by decide) (l_355 h.cs) hP (by omega), kb_bt (by omega)]
  simp
theorem c_hasPerson {c p : Int} (hc : 1 ≤ c) : wc X d 77 [(24, c), (0, p)] M Q ↔ Q (some (0, if 0 ≤ p ∧ p < hh M c 2 then 1 else 0)) M := by
  show wp X d 77 0 [(24, c), (0, p)] [] M Q ↔ _
  simp only [w77_0, w77_1, w77_4, w77_5, w77_6, w77_9, w77_12, w77_13, w77_16, w77_17_i, w77_17_0, w77_17_1, show ¬ c = 0 by omega, ite_q, ↓reduceIte, hh_wr, hl_wr, b10, b11, ite_not, ne_eq, Int.reduceEq, Int.reduceLE, Int.reduceLT, Int.reduceNe, Int.reduceNeg, Int.reduceAdd, Int.reduceSub, Int.reduceMul, not_false_eq_true, not_true_eq_false, false_and, and_false, true_and, and_true, and_self, true_or, or_true, false_or, or_false, if_true, if_false, ite_true, ite_false, mj_tl_some, mj_tl_none, mj_cs0, mj_cs1, mj_cs2, mj_cs3, mj_cs4]
  refine qe ?_
  repeat' split
  all_goals first | rfl | omega
theorem c_hasForm {p : Int} : wc X d 76 [(29, 6), (0, p)] M Q ↔ Q (some (0, if 0 ≤ p ∧ p < hh M 6 0 then 1 else 0)) M := by
  show wp X d 76 0 [(29, 6), (0, p)] [] M Q ↔ _
  simp only [w76_0, w76_1, w76_4, w76_5, w76_6, w76_9, w76_12, w76_13, w76_16, w76_17_i, w76_17_0, w76_17_1, ite_q, ↓reduceIte, hh_wr, hl_wr, b10, b11, ite_not, ne_eq, Int.reduceEq, Int.reduceLE, Int.reduceLT, Int.reduceNe, Int.reduceNeg, Int.reduceAdd, Int.reduceSub, Int.reduceMul, not_false_eq_true, not_true_eq_false, false_and, and_false, true_and, and_true, and_self, true_or, or_true, false_or, or_false, if_true, if_false, ite_true, ite_false, mj_tl_some, mj_tl_none, mj_cs0, mj_cs1, mj_cs2, mj_cs3, mj_cs4]
  refine qe ?_
  repeat' split
  all_goals first | rfl | omega
theorem c_hasStory {p : Int} : wc X d 96 [(30, 5), (0, p)] M Q ↔ Q (some (0, if 0 ≤ p ∧ p < hh M 5 4 then 1 else 0)) M := by
  show wp X d 96 0 [(30, 5), (0, p)] [] M Q ↔ _
  simp only [w96_0, w96_1, w96_4, w96_5, w96_6, w96_9, w96_12, w96_13, w96_16, w96_17_i, w96_17_0, w96_17_1, ite_q, ↓reduceIte, hh_wr, hl_wr, b10, b11, ite_not, ne_eq, Int.reduceEq, Int.reduceLE, Int.reduceLT, Int.reduceNe, Int.reduceNeg, Int.reduceAdd, Int.reduceSub, Int.reduceMul, not_false_eq_true, not_true_eq_false, false_and, and_false, true_and, and_true, and_self, true_or, or_true, false_or, or_false, if_true, if_false, ite_true, ite_false, mj_tl_some, mj_tl_none, mj_cs0, mj_cs1, mj_cs2, mj_cs3, mj_cs4]
  refine qe ?_
  repeat' split
  all_goals first | rfl | omega
theorem c_hasText {p : Int} : wc X d 73 [(30, 5), (0, p)] M Q ↔ Q (some (0, if 0 ≤ p ∧ p < hh M 5 6 then 1 else 0)) M := by
  show wp X d 73 0 [(30, 5), (0, p)] [] M Q ↔ _
  simp only [w73_0, w73_1, w73_4, w73_5, w73_6, w73_9, w73_12, w73_13, w73_16, w73_17_i, w73_17_0, w73_17_1, ite_q, ↓reduceIte, hh_wr, hl_wr, b10, b11, ite_not, ne_eq, Int.reduceEq, Int.reduceLE, Int.reduceLT, Int.reduceNe, Int.reduceNeg, Int.reduceAdd, Int.reduceSub, Int.reduceMul, not_false_eq_true, not_true_eq_false, false_and, and_false, true_and, and_true, and_self, true_or, or_true, false_or, or_false, if_true, if_false, ite_true, ite_false, mj_tl_some, mj_tl_none, mj_cs0, mj_cs1, mj_cs2, mj_cs3, mj_cs4]
  refine qe ?_
  repeat' split
  all_goals first | rfl | omega
theorem m_isPerson' {p : Int} (h : RR M) : wc X (d + 1) 262 [(32, 354), (0, p)] M Q ↔ Q (some (0, if 0 ≤ p ∧ p < hh M 355 1 then 1 else 0)) M := by
  rw [m_isPerson h.cs ⟨h.P0, h.P6⟩]
  refine qe ?_
  repeat' split
  all_goals first | rfl | omega
theorem m_isForm' {p : Int} (h : RR M) : wc X (d + 1) 261 [(32, 354), (0, p)] M Q ↔ Q (some (0, if 0 ≤ p ∧ p < hh M 355 0 then 1 else 0)) M := by
  rw [m_isForm h.cs ⟨h.F0, h.F8⟩]
  refine qe ?_
  repeat' split
  all_goals first | rfl | omega
theorem m_isStory' {p : Int} (h : RR M) : wc X (d + 1) 247 [(32, 354), (0, p)] M Q ↔ Q (some (0, if 0 ≤ p ∧ p < hh M 355 2 then 1 else 0)) M := by
  rw [m_isStory h.cs ⟨h.S0, h.S4⟩]
  refine qe ?_
  repeat' split
  all_goals first | rfl | omega
theorem c_knowsForm {c p f : Int} (s : MS M c) (hp : 0 ≤ p ∧ p < 6) : wc X d 79 [(24, c), (0, p), (0, f)] M Q ↔ Q (some (0, if ji_and (ji_shr (hh M (c + 2) p) f) 1 = 1 then 1 else 0)) M := by
  show wp X d 79 0 [(24, c), (0, p), (0, f)] [] M Q ↔ _
  obtain ⟨s0, ⟨s4, s5, s6, s7⟩, t1, t2, t3, t4⟩ := s
  simp only [w79_0, w79_1, w79_4, w79_5, w79_6, w79_7, w79_8, w79_9, w79_10, w79_11, w79_14, w79_15, w79_18, w79_19_i, w79_19_0, w79_19_1, s5, t2, hp, show ¬ c = 0 by omega, show ¬ c + 2 = 0 by omega, ite_q, ↓reduceIte, hh_wr, hl_wr, b10, b11, ite_not, ne_eq, Int.reduceEq, Int.reduceLE, Int.reduceLT, Int.reduceNe, Int.reduceNeg, Int.reduceAdd, Int.reduceSub, Int.reduceMul, not_false_eq_true, not_true_eq_false, false_and, and_false, true_and, and_true, and_self, true_or, or_true, false_or, or_false, if_true, if_false, ite_true, ite_false, mj_tl_some, mj_tl_none, mj_cs0, mj_cs1, mj_cs2, mj_cs3, mj_cs4]
theorem c_knowers {c f : Int} {P : Nat} (s : MS M c) (hP : hh M c 2 = (P : Int)) (hP6 : P ≤ 6) (hf : 0 ≤ f ∧ f < 8) : wc X (d + 1) 86 [(24, c), (0, f)] M Q ↔ Q (some (0, (bt (fun p => decide (ji_and (ji_shr (hh M (c + 2) (p : Int)) f) 1 = 1)) P : Int))) M := by
  show wp X (d + 1) 86 0 [(24, c), (0, f), (9, 0), (9, 0)] [] M Q ↔ _
  refine wp.det ?_
  simp only [w86_0, w86_1, w86_2, w86_3]
  have hc0 := s.1
  have key := loop0 (S := fun p => wp X (d + 1) 86 4 [(24, c), (0, f), (0, (bt (fun p => decide (ji_and (ji_shr (hh M (c + 2) (p : Int)) f) 1 = 1)) p : Int)), (0, (p : Int))] [] M (fun r M' => r = some (0, (bt (fun p => decide (ji_and (ji_shr (hh M (c + 2) (p : Int)) f) 1 = 1)) P : Int)) ∧ M' = M)) (P := P) ?_ ?_
  · exact key
  · intro p hp hS
    have k1 := fun Q => c_knowsForm (X := X) (d := d) (M := M) (Q := Q) (p := (p : Int)) (f := f) s ⟨by omega, by omega⟩
    rw [w86_4]
    simp only [w86_0, w86_1, w86_2, w86_3, w86_5, w86_6, w86_9, w86_12, w86_13, w86_16, w86_17, w86_19, w86_22, w86_23, w86_24, w86_25, w86_28, w86_31, w86_32, w86_33, w86_34, w86_35, w86_36, w86_37, w86_40, w86_43, w86_44, hP, k1, hf, show ¬ f < 0 by omega, show (p : Int) < (P : Int) by omega, show ¬ c = 0 by omega, jp1 (p := p) (by omega), ↓reduceIte, hh_wr, hl_wr, b10, b11, ite_not, ne_eq, Int.reduceEq, Int.reduceLE, Int.reduceLT, Int.reduceNe, Int.reduceNeg, Int.reduceAdd, Int.reduceSub, Int.reduceMul, not_false_eq_true, not_true_eq_false, false_and, and_false, true_and, and_true, and_self, true_or, or_true, false_or, or_false, if_true, if_false, ite_true, ite_false, mj_tl_some, mj_tl_none, mj_cs0, mj_cs1, mj_cs2, mj_cs3, mj_cs4]
    by_cases hC : ji_and (ji_shr (hh M (c + 2) (p : Int)) f) 1 = 1
    · rw [← bt_t (c := fun p => decide (ji_and (ji_shr (hh M (c + 2) (p : Int)) f) 1 = 1)) (p := p) (by simpa using hC) (by omega)] at hS
      rw [if_pos hC]
      exact hS
    · rw [bt_e (by simpa using hC)] at hS
      rw [if_neg hC]
      exact hS
  · simp only [w86_0, w86_1, w86_2, w86_3, w86_4, w86_5, w86_6, w86_9, w86_12, w86_13, w86_16, w86_17, w86_19, w86_22, w86_23, w86_24, w86_25, w86_28, w86_31, w86_32, w86_33, w86_34, w86_35, w86_36, w86_37, w86_40, w86_43, w86_44, hP, Int.lt_irrefl, show ¬ c = 0 by omega, ↓reduceIte, hh_wr, hl_wr, b10, b11, ite_not, ne_eq, Int.reduceEq, Int.reduceLE, Int.reduceLT, Int.reduceNe, Int.reduceNeg, Int.reduceAdd, Int.reduceSub, Int.reduceMul, not_false_eq_true, not_true_eq_false, false_and, and_false, true_and, and_true, and_self, true_or, or_true, false_or, or_false, if_true, if_false, ite_true, ite_false, mj_tl_some, mj_tl_none, mj_cs0, mj_cs1, mj_cs2, mj_cs3, mj_cs4]
/-- of the moment now -/
theorem c_knowers10 {f : Int} (h : RR M) (hf : 0 ≤ f ∧ f < 8) : wc X (d + 1) 86 [(24, 10), (0, f)] M Q ↔ Q (some (0, (kwn (hh M 355) f : Int))) M := by
  obtain ⟨P, hP⟩ := nat_of h.P0
  have h6 := h.P6
  rw [c_knowers h.cs.ms10 (h.gP.trans hP) (by omega) hf]
  unfold kwn
  rw [hP]
  refine qe ?_
  rw [bt_congr (c' := kwb (hh M 355) f) (fun p hp => by unfold kwb; rw [show hh M (10 + 2) (p : Int) = hh M 12 (p : Int) from rfl, h.gk (p := (p : Int)) ⟨by omega, by omega⟩])]
  simp
/-- richest: the best of those below p -/
def ri (A : Int → Int) : Nat → Int := it (fun p b => if (if b = -1 then 0 else pcI (A (11 + 5 * b + 1))) < pcI (A (11 + 5 * (p : Int) + 1)) then (p : Int) else b) (-1)
theorem ri_r (A : Int → Int) : ∀ p, -1 ≤ ri A p ∧ ri A p < p
  | 0 => by simp [ri, it]
  | p + 1 => by
    have h := ri_r A p
    have e : ri A (p + 1) = if (if ri A p = -1 then 0 else pcI (A (11 + 5 * ri A p + 1))) < pcI (A (11 + 5 * (p : Int) + 1)) then (p : Int) else ri A p := rfl
    rw [e]
    split <;> omega
theorem p_richest (h : RR M) : wc X (d + 2) 175 [(31, 1)] M Q ↔ Q (some (0, ri (hh M 355) (hh M 355 1).toNat)) M := by
  obtain ⟨P, hP⟩ := nat_of h.P0
  have h6 := h.P6
  have e : (hh M 355 1).toNat = P := by omega
  rw [e]
  have hk : wc X (d + 1) 176 [(20, 349)] M (fun r M' => r = some (0, ri (hh M 355) P) ∧ M' = M) := by
    show wp X (d + 1) 176 0 [(20, 349), (9, 0), (9, 0), (9, 0), (9, 0)] [] M _
    simp only [w176_0, w176_1, w176_2, w176_3, w176_4, w176_5]
    have key := loop3 (S := fun (p : Nat) (b m : Int) (w : mj_V) => wp X (d + 1) 176 6 [(20, 349), (0, b), (0, m), (0, (p : Int)), w] [] M (fun r M' => r = some (0, ri (hh M 355) P) ∧ M' = M)) (I := fun p b m w => b = ri (hh M 355) p ∧ m = if b = -1 then 0 else pcI (hh M 355 (11 + 5 * b + 1))) (P := P) ?_ ?_
    · exact key (-1) 0 _ ⟨rfl, rfl⟩
    · rintro p b m w hp ⟨h1, h2⟩ ih
      have e2 : ri (hh M 355) (p + 1) = if (if ri (hh M 355) p = -1 then 0 else pcI (hh M 355 (11 + 5 * ri (hh M 355) p + 1))) < pcI (hh M 355 (11 + 5 * (p : Int) + 1)) then (p : Int) else ri (hh M 355) p := rfl
      rw [← h1, ← h2] at e2
      rw [w176_6]
      simp only [w176_0, w176_1, w176_2, w176_3, w176_4, w176_5, w176_7, w176_8, w176_11, w176_14, w176_17, w176_20, w176_21, w176_24, w176_27, w176_30, w176_31, w176_32, w176_35, w176_37, w176_39, w176_40, w176_43, w176_44, w176_45, w176_47, w176_48, w176_51, w176_54, w176_55, c_349_0 h.cs, c_5_1 h.cs, c_10_5 h.cs, l_12 h.cs, h.gP, hP, h.gk (p := (p : Int)) ⟨by omega, by omega⟩, c_bitCount, show (p : Int) < (P : Int) by omega, show (0 : Int) ≤ (p : Int) by omega, show (p : Int) < 6 by omega, jp1 (p := p) (by omega), ↓reduceIte, hh_wr, hl_wr, b10, b11, ite_not, ne_eq, Int.reduceEq, Int.reduceLE, Int.reduceLT, Int.reduceNe, Int.reduceNeg, Int.reduceAdd, Int.reduceSub, Int.reduceMul, not_false_eq_true, not_true_eq_false, false_and, and_false, true_and, and_true, and_self, true_or, or_true, false_or, or_false, if_true, if_false, ite_true, ite_false, mj_tl_some, mj_tl_none, mj_cs0, mj_cs1, mj_cs2, mj_cs3, mj_cs4]
      by_cases hC : m < pcI (hh M 355 (11 + 5 * (p : Int) + 1))
      · rw [if_pos hC] at e2
        simp only [hC, show ¬ pcI (hh M 355 (11 + 5 * (p : Int) + 1)) ≤ m by omega, ↓reduceIte, hh_wr, hl_wr, b10, b11, ite_not, ne_eq, Int.reduceEq, Int.reduceLE, Int.reduceLT, Int.reduceNe, Int.reduceNeg, Int.reduceAdd, Int.reduceSub, Int.reduceMul, not_false_eq_true, not_true_eq_false, false_and, and_false, true_and, and_true, and_self, true_or, or_true, false_or, or_false, if_true, if_false, ite_true, ite_false, mj_tl_some, mj_tl_none, mj_cs0, mj_cs1, mj_cs2, mj_cs3, mj_cs4]
        exact ih _ _ _ ⟨e2.symm, by rw [if_neg (by omega)]⟩
      · rw [if_neg hC] at e2
        simp only [hC, show pcI (hh M 355 (11 + 5 * (p : Int) + 1)) ≤ m by omega, ↓reduceIte, hh_wr, hl_wr, b10, b11, ite_not, ne_eq, Int.reduceEq, Int.reduceLE, Int.reduceLT, Int.reduceNe, Int.reduceNeg, Int.reduceAdd, Int.reduceSub, Int.reduceMul, not_false_eq_true, not_true_eq_false, false_and, and_false, true_and, and_true, and_self, true_or, or_true, false_or, or_false, if_true, if_false, ite_true, ite_false, mj_tl_some, mj_tl_none, mj_cs0, mj_cs1, mj_cs2, mj_cs3, mj_cs4]
        exact ih _ _ _ ⟨e2.symm, h2⟩
    · rintro b m w ⟨h1, h2⟩
      simp only [w176_0, w176_1, w176_2, w176_3, w176_4, w176_5, w176_6, w176_7, w176_8, w176_11, w176_14, w176_17, w176_20, w176_21, w176_24, w176_27, w176_30, w176_31, w176_32, w176_35, w176_37, w176_39, w176_40, w176_43, w176_44, w176_45, w176_47, w176_48, w176_51, w176_54, w176_55, c_349_0 h.cs, c_5_1 h.cs, h.gP, hP, Int.lt_irrefl, ↓reduceIte, hh_wr, hl_wr, b10, b11, ite_not, ne_eq, Int.reduceEq, Int.reduceLE, Int.reduceLT, Int.reduceNe, Int.reduceNeg, Int.reduceAdd, Int.reduceSub, Int.reduceMul, not_false_eq_true, not_true_eq_false, false_and, and_false, true_and, and_true, and_self, true_or, or_true, false_or, or_false, if_true, if_false, ite_true, ite_false, mj_tl_some, mj_tl_none, mj_cs0, mj_cs1, mj_cs2, mj_cs3, mj_cs4]
      rw [h1]
  show wp X (d + 2) 175 0 [(31, 1)] [] M Q ↔ _
  have hk' : ∀ Q, (wc X (d + 1) 176 [(20, 349)] M Q ↔ Q (some (0, ri (hh M 355) P)) M) := fun Q => wp.det hk
  simp only [w175_0, w175_1, w175_4, w175_7, c_1_6 h.cs, hk', ↓reduceIte, hh_wr, hl_wr, b10, b11, ite_not, ne_eq, Int.reduceEq, Int.reduceLE, Int.reduceLT, Int.reduceNe, Int.reduceNeg, Int.reduceAdd, Int.reduceSub, Int.reduceMul, not_false_eq_true, not_true_eq_false, false_and, and_false, true_and, and_true, and_self, true_or, or_true, false_or, or_false, if_true, if_false, ite_true, ite_false, mj_tl_some, mj_tl_none, mj_cs0, mj_cs1, mj_cs2, mj_cs3, mj_cs4]
theorem m_richest (h : RR M) : wc X (d + 1) 304 [(32, 354)] M Q ↔ Q (some (0, ri (hh M 355) (hh M 355 1).toNat)) M := by
  obtain ⟨P, hP⟩ := nat_of h.P0
  have h6 := h.P6
  have e : (hh M 355 1).toNat = P := by omega
  rw [e]
  show wp X (d + 1) 304 0 [(32, 354), (9, 0), (9, 0)] [] M Q ↔ _
  refine wp.det ?_
  simp only [w304_0, w304_1, w304_2, w304_3]
  have key := loop1 (S := fun (p : Nat) (b : Int) => wp X (d + 1) 304 4 [(32, 354), (0, b), (0, (p : Int))] [] M (fun r M' => r = some (0, ri (hh M 355) P) ∧ M' = M)) (I := fun p b => b = ri (hh M 355) p) (P := P) ?_ ?_
  · exact key (-1) rfl
  · rintro p b hp h1 ih
    have e2 : ri (hh M 355) (p + 1) = if (if ri (hh M 355) p = -1 then 0 else pcI (hh M 355 (11 + 5 * ri (hh M 355) p + 1))) < pcI (hh M 355 (11 + 5 * (p : Int) + 1)) then (p : Int) else ri (hh M 355) p := rfl
    have hr := ri_r (hh M 355) p
    rw [← h1] at e2 hr
    have g1 := fun Q => m_get (X := X) (d := d) (M := M) (Q := Q) (p := (p : Int)) (w := 1) h.cs ⟨by omega, by omega⟩ (by decide)
    have b1 := fun Q => m_bits (X := X) (d := d) (M := M) (Q := Q) (h.K (p := (p : Int)) ⟨by omega, by omega⟩)
    rw [w304_4]
    by_cases hb : b = -1
    · subst hb
      simp only [w304_0, w304_1, w304_2, w304_3, w304_5, w304_6, w304_9, w304_10, w304_11, w304_14, w304_15, w304_16, w304_17, w304_20, w304_23, w304_24, w304_25, w304_28, w304_29, w304_32, w304_33, w304_34, w304_35, w304_38, w304_41, w304_44, w304_45, w304_46, w304_49, w304_52, w304_53, c_354_0 h.cs, l_355 h.cs, hP, g1, b1, show (p : Int) < (P : Int) by omega, jp1 (p := p) (by omega), ↓reduceIte, hh_wr, hl_wr, b10, b11, ite_not, ne_eq, Int.reduceEq, Int.reduceLE, Int.reduceLT, Int.reduceNe, Int.reduceNeg, Int.reduceAdd, Int.reduceSub, Int.reduceMul, not_false_eq_true, not_true_eq_false, false_and, and_false, true_and, and_true, and_self, true_or, or_true, false_or, or_false, if_true, if_false, ite_true, ite_false, mj_tl_some, mj_tl_none, mj_cs0, mj_cs1, mj_cs2, mj_cs3, mj_cs4] at e2 ⊢
      by_cases hC : 0 < pcI (hh M 355 (11 + 5 * (p : Int) + 1))
      · rw [if_pos hC] at e2
        simp only [hC, show ¬ pcI (hh M 355 (11 + 5 * (p : Int) + 1)) ≤ 0 by omega, ↓reduceIte, hh_wr, hl_wr, b10, b11, ite_not, ne_eq, Int.reduceEq, Int.reduceLE, Int.reduceLT, Int.reduceNe, Int.reduceNeg, Int.reduceAdd, Int.reduceSub, Int.reduceMul, not_false_eq_true, not_true_eq_false, false_and, and_false, true_and, and_true, and_self, true_or, or_true, false_or, or_false, if_true, if_false, ite_true, ite_false, mj_tl_some, mj_tl_none, mj_cs0, mj_cs1, mj_cs2, mj_cs3, mj_cs4]
        exact ih _ e2.symm
      · rw [if_neg hC] at e2
        simp only [hC, show pcI (hh M 355 (11 + 5 * (p : Int) + 1)) ≤ 0 by omega, ↓reduceIte, hh_wr, hl_wr, b10, b11, ite_not, ne_eq, Int.reduceEq, Int.reduceLE, Int.reduceLT, Int.reduceNe, Int.reduceNeg, Int.reduceAdd, Int.reduceSub, Int.reduceMul, not_false_eq_true, not_true_eq_false, false_and, and_false, true_and, and_true, and_self, true_or, or_true, false_or, or_false, if_true, if_false, ite_true, ite_false, mj_tl_some, mj_tl_none, mj_cs0, mj_cs1, mj_cs2, mj_cs3, mj_cs4]
        exact ih _ e2.symm
    · have g2 := fun Q => m_get (X := X) (d := d) (M := M) (Q := Q) (p := b) (w := 1) h.cs ⟨by omega, by omega⟩ (by decide)
      have b2 := fun Q => m_bits (X := X) (d := d) (M := M) (Q := Q) (h.K (p := b) ⟨by omega, by omega⟩)
      rw [if_neg hb] at e2
      simp only [w304_0, w304_1, w304_2, w304_3, w304_5, w304_6, w304_9, w304_10, w304_11, w304_14, w304_15, w304_16, w304_17, w304_20, w304_23, w304_24, w304_25, w304_28, w304_29, w304_32, w304_33, w304_34, w304_35, w304_38, w304_41, w304_44, w304_45, w304_46, w304_49, w304_52, w304_53, c_354_0 h.cs, l_355 h.cs, hP, g1, b1, g2, b2, hb, show (p : Int) < (P : Int) by omega, jp1 (p := p) (by omega), ↓reduceIte, hh_wr, hl_wr, b10, b11, ite_not, ne_eq, Int.reduceEq, Int.reduceLE, Int.reduceLT, Int.reduceNe, Int.reduceNeg, Int.reduceAdd, Int.reduceSub, Int.reduceMul, not_false_eq_true, not_true_eq_false, false_and, and_false, true_and, and_true, and_self, true_or, or_true, false_or, or_false, if_true, if_false, ite_true, ite_false, mj_tl_some, mj_tl_none, mj_cs0, mj_cs1, mj_cs2, mj_cs3, mj_cs4]
      by_cases hC : pcI (hh M 355 (11 + 5 * b + 1)) < pcI (hh M 355 (11 + 5 * (p : Int) + 1))
      · rw [if_pos hC] at e2
        simp only [hC, show ¬ pcI (hh M 355 (11 + 5 * (p : Int) + 1)) ≤ pcI (hh M 355 (11 + 5 * b + 1)) by omega, ↓reduceIte, hh_wr, hl_wr, b10, b11, ite_not, ne_eq, Int.reduceEq, Int.reduceLE, Int.reduceLT, Int.reduceNe, Int.reduceNeg, Int.reduceAdd, Int.reduceSub, Int.reduceMul, not_false_eq_true, not_true_eq_false, false_and, and_false, true_and, and_true, and_self, true_or, or_true, false_or, or_false, if_true, if_false, ite_true, ite_false, mj_tl_some, mj_tl_none, mj_cs0, mj_cs1, mj_cs2, mj_cs3, mj_cs4]
        exact ih _ e2.symm
      · rw [if_neg hC] at e2
        simp only [hC, show pcI (hh M 355 (11 + 5 * (p : Int) + 1)) ≤ pcI (hh M 355 (11 + 5 * b + 1)) by omega, ↓reduceIte, hh_wr, hl_wr, b10, b11, ite_not, ne_eq, Int.reduceEq, Int.reduceLE, Int.reduceLT, Int.reduceNe, Int.reduceNeg, Int.reduceAdd, Int.reduceSub, Int.reduceMul, not_false_eq_true, not_true_eq_false, false_and, and_false, true_and, and_true, and_self, true_or, or_true, false_or, or_false, if_true, if_false, ite_true, ite_false, mj_tl_some, mj_tl_none, mj_cs0, mj_cs1, mj_cs2, mj_cs3, mj_cs4]
        exact ih _ e2.symm
  · rintro b h1
    simp only [w304_0, w304_1, w304_2, w304_3, w304_4, w304_5, w304_6, w304_9, w304_10, w304_11, w304_14, w304_15, w304_16, w304_17, w304_20, w304_23, w304_24, w304_25, w304_28, w304_29, w304_32, w304_33, w304_34, w304_35, w304_38, w304_41, w304_44, w304_45, w304_46, w304_49, w304_52, w304_53, c_354_0 h.cs, l_355 h.cs, hP, Int.lt_irrefl, ↓reduceIte, hh_wr, hl_wr, b10, b11, ite_not, ne_eq, Int.reduceEq, Int.reduceLE, Int.reduceLT, Int.reduceNe, Int.reduceNeg, Int.reduceAdd, Int.reduceSub, Int.reduceMul, not_false_eq_true, not_true_eq_false, false_and, and_false, true_and, and_true, and_self, true_or, or_true, false_or, or_false, if_true, if_false, ite_true, ite_false, mj_tl_some, mj_tl_none, mj_cs0, mj_cs1, mj_cs2, mj_cs3, mj_cs4]
    rw [h1]
theorem st40 : St40 RR (d + 60) := by
  intro X M h
  unfold LS2
  simp only [p_richest h, m_richest h]
  exact ls_id h rfl
end People
