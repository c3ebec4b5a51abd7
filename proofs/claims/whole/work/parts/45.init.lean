/-! THE MAKERS, from the smallest on -/
section Ini
variable {X : mj_X} {d : Nat} {M : mj_M} {Q : Option mj_V → mj_M → Prop}
theorem hh_nw (M : mj_M) (t : Nat) (n : Int) (f : Int → Int) (x j : Int) : hh (mj_nw M t n f) x j = if x = (M.1 : Int) + 1 then f j else hh M x j := rfl
theorem hl_nw (M : mj_M) (t : Nat) (n : Int) (f : Int → Int) (x : Int) : hl (mj_nw M t n f) x = if x = (M.1 : Int) + 1 then n else hl M x := rfl
theorem n_nw (M : mj_M) (t : Nat) (n : Int) (f : Int → Int) : (mj_nw M t n f).1 = M.1 + 1 := rfl
theorem s_nw (M : mj_M) (t : Nat) (n : Int) (f : Int → Int) : (mj_nw M t n f).2.1 = M.2.1 + n.toNat := rfl
theorem n_wr (M : mj_M) (a i v : Int) : (mj_wr M a i v).1 = M.1 := rfl
theorem s_wr (M : mj_M) (a i v : Int) : (mj_wr M a i v).2.1 = M.2.1 := rfl
/-- old cells stay -/
def old (c : Int) (M M' : mj_M) : Prop := ∀ x, x < c → (∀ j, hh M' x j = hh M x j) ∧ hl M' x = hl M x
/-- a new moment at c, its rows behind it -/
def MomentNew (c : Int) (M : mj_M) : Prop := hh M c 0 = 0 ∧ hh M c 1 = 271 ∧ hh M c 2 = 0 ∧ hh M c 3 = 0 ∧ hh M c 4 = c + 1 ∧ hh M c 5 = c + 2 ∧ hh M c 6 = c + 3 ∧ hh M c 7 = c + 4 ∧ (∀ j, hh M (c + 1) j = 0) ∧ (∀ j, hh M (c + 2) j = 0) ∧ (∀ j, hh M (c + 3) j = 0) ∧ (∀ j, hh M (c + 4) j = 0) ∧ hl M (c + 1) = 6 ∧ hl M (c + 2) = 6 ∧ hl M (c + 3) = 6 ∧ hl M (c + 4) = 120
/-- the number of the last cell made -/
def nx (M : mj_M) : Int := (M.1 : Int)
theorem nx_def (M : mj_M) : ((M.1 : Nat) : Int) = nx M := rfl
theorem nx_nw (M : mj_M) (t : Nat) (n : Int) (f : Int → Int) : nx (mj_nw M t n f) = nx M + 1 := by unfold nx; rw [n_nw]; omega
theorem nx_wr (M : mj_M) (a i v : Int) : nx (mj_wr M a i v) = nx M := rfl
theorem hh_nx (M : mj_M) (t : Nat) (n : Int) (f : Int → Int) (x j : Int) : hh (mj_nw M t n f) x j = if x = nx M + 1 then f j else hh M x j := rfl
theorem hl_nx (M : mj_M) (t : Nat) (n : Int) (f : Int → Int) (x : Int) : hl (mj_nw M t n f) x = if x = nx M + 1 then n else hl M x := rfl
theorem ne01 (c : Int) : (c = c + 1) = False := eq_false (by omega)
theorem ne02 (c : Int) : (c = c + 2) = False := eq_false (by omega)
theorem ne03 (c : Int) : (c = c + 3) = False := eq_false (by omega)
theorem ne04 (c : Int) : (c = c + 4) = False := eq_false (by omega)
theorem ne05 (c : Int) : (c = c + 5) = False := eq_false (by omega)
theorem ne10 (c : Int) : (c + 1 = c) = False := eq_false (by omega)
theorem ne12 (c : Int) : (c + 1 = c + 2) = False := eq_false (by omega)
theorem ne13 (c : Int) : (c + 1 = c + 3) = False := eq_false (by omega)
theorem ne14 (c : Int) : (c + 1 = c + 4) = False := eq_false (by omega)
theorem ne15 (c : Int) : (c + 1 = c + 5) = False := eq_false (by omega)
theorem ne20 (c : Int) : (c + 2 = c) = False := eq_false (by omega)
theorem ne21 (c : Int) : (c + 2 = c + 1) = False := eq_false (by omega)
theorem ne23 (c : Int) : (c + 2 = c + 3) = False := eq_false (by omega)
theorem ne24 (c : Int) : (c + 2 = c + 4) = False := eq_false (by omega)
theorem ne25 (c : Int) : (c + 2 = c + 5) = False := eq_false (by omega)
theorem ne30 (c : Int) : (c + 3 = c) = False := eq_false (by omega)
theorem ne31 (c : Int) : (c + 3 = c + 1) = False := eq_false (by omega)
theorem ne32 (c : Int) : (c + 3 = c + 2) = False := eq_false (by omega)
theorem ne34 (c : Int) : (c + 3 = c + 4) = False := eq_false (by omega)
theorem ne35 (c : Int) : (c + 3 = c + 5) = False := eq_false (by omega)
theorem ne40 (c : Int) : (c + 4 = c) = False := eq_false (by omega)
theorem ne41 (c : Int) : (c + 4 = c + 1) = False := eq_false (by omega)
theorem ne42 (c : Int) : (c + 4 = c + 2) = False := eq_false (by omega)
theorem ne43 (c : Int) : (c + 4 = c + 3) = False := eq_false (by omega)
theorem ne45 (c : Int) : (c + 4 = c + 5) = False := eq_false (by omega)
theorem ne50 (c : Int) : (c + 5 = c) = False := eq_false (by omega)
theorem ne51 (c : Int) : (c + 5 = c + 1) = False := eq_false (by omega)
theorem ne52 (c : Int) : (c + 5 = c + 2) = False := eq_false (by omega)
theorem ne53 (c : Int) : (c + 5 = c + 3) = False := eq_false (by omega)
theorem ne54 (c : Int) : (c + 5 = c + 4) = False := eq_false (by omega)
theorem add11 (c : Int) : c + 1 + 1 = c + 2 := by omega
theorem add21 (c : Int) : c + 2 + 1 = c + 3 := by omega
theorem add31 (c : Int) : c + 3 + 1 = c + 4 := by omega
theorem i_Moment {c : Int} (hc : nx M = c) (hc1 : 1 ≤ c) : wc X d 6 [(24, c)] M (fun r M' => r = none ∧ nx M' = c + 4 ∧ M'.2.1 = M.2.1 + 138 ∧ old c M M' ∧ MomentNew c M') := by
  show wp X d 6 0 [(24, c)] [] M _
  have hx : ¬ (c = 0) := by omega
  simp only [w6_0, w6_1, w6_4, w6_5, w6_6, w6_9, w6_10, w6_13, w6_16, w6_17, w6_18, w6_21, w6_22, w6_23, w6_26, w6_27, w6_29, w6_31, w6_34, w6_35, w6_37, w6_39, w6_42, w6_43, w6_45, w6_47, w6_50, w6_51, w6_53, w6_55, w6_58, hx, nx_def, nx_nw, nx_wr, hc, add11, add21, add31, ↓reduceIte, hh_wr, hl_wr, b10, b11, ite_not, ne_eq, Int.reduceEq, Int.reduceLE, Int.reduceLT, Int.reduceNe, Int.reduceNeg, Int.reduceAdd, Int.reduceSub, Int.reduceMul, not_false_eq_true, not_true_eq_false, false_and, and_false, true_and, and_true, and_self, true_or, or_true, false_or, or_false, if_true, if_false, ite_true, ite_false, mj_tl_some, mj_tl_none, mj_cs0, mj_cs1, mj_cs2, mj_cs3, mj_cs4]
  refine ⟨?_, ?_, ?_⟩
  · simp only [s_nw, s_wr]
    omega
  · intro x hx2
    refine ⟨fun j => ?_, ?_⟩
    · simp only [hh_wr, hh_nx, nx_nw, nx_wr, hc, add11, add21, add31, show ¬ x = c by omega, show ¬ x = c + 1 by omega, show ¬ x = c + 2 by omega, show ¬ x = c + 3 by omega, show ¬ x = c + 4 by omega, ↓reduceIte, hh_wr, hl_wr, b10, b11, ite_not, ne_eq, Int.reduceEq, Int.reduceLE, Int.reduceLT, Int.reduceNe, Int.reduceNeg, Int.reduceAdd, Int.reduceSub, Int.reduceMul, not_false_eq_true, not_true_eq_false, false_and, and_false, true_and, and_true, and_self, true_or, or_true, false_or, or_false, if_true, if_false, ite_true, ite_false, mj_tl_some, mj_tl_none, mj_cs0, mj_cs1, mj_cs2, mj_cs3, mj_cs4]
    · simp only [hl_wr, hl_nx, nx_nw, nx_wr, hc, add11, add21, add31, show ¬ x = c + 1 by omega, show ¬ x = c + 2 by omega, show ¬ x = c + 3 by omega, show ¬ x = c + 4 by omega, ↓reduceIte, hh_wr, hl_wr, b10, b11, ite_not, ne_eq, Int.reduceEq, Int.reduceLE, Int.reduceLT, Int.reduceNe, Int.reduceNeg, Int.reduceAdd, Int.reduceSub, Int.reduceMul, not_false_eq_true, not_true_eq_false, false_and, and_false, true_and, and_true, and_self, true_or, or_true, false_or, or_false, if_true, if_false, ite_true, ite_false, mj_tl_some, mj_tl_none, mj_cs0, mj_cs1, mj_cs2, mj_cs3, mj_cs4]
  · unfold MomentNew
    simp only [hh_wr, hh_nx, hl_wr, hl_nx, nx_nw, nx_wr, hc, add11, add21, add31, ne01, ne02, ne03, ne04, ne05, ne10, ne12, ne13, ne14, ne15, ne20, ne21, ne23, ne24, ne25, ne30, ne31, ne32, ne34, ne35, ne40, ne41, ne42, ne43, ne45, ne50, ne51, ne52, ne53, ne54, implies_true, forall_const, ↓reduceIte, hh_wr, hl_wr, b10, b11, ite_not, ne_eq, Int.reduceEq, Int.reduceLE, Int.reduceLT, Int.reduceNe, Int.reduceNeg, Int.reduceAdd, Int.reduceSub, Int.reduceMul, not_false_eq_true, not_true_eq_false, false_and, and_false, true_and, and_true, and_self, true_or, or_true, false_or, or_false, if_true, if_false, ite_true, ite_false, mj_tl_some, mj_tl_none, mj_cs0, mj_cs1, mj_cs2, mj_cs3, mj_cs4]
def RowsNew (c : Int) (M : mj_M) : Prop := hh M c 0 = 0 ∧ hh M c 1 = c + 1 ∧ (∀ j, hh M (c + 1) j = 0) ∧ hl M (c + 1) = 24
theorem i_Rows {c : Int} (hc : nx M = c) (hc1 : 1 ≤ c) : wc X d 7 [(27, c)] M (fun r M' => r = none ∧ nx M' = c + 1 ∧ M'.2.1 = M.2.1 + 24 ∧ old c M M' ∧ RowsNew c M') := by
  show wp X d 7 0 [(27, c)] [] M _
  have hx : ¬ (c = 0) := by omega
  simp only [w7_0, w7_1, w7_4, w7_5, w7_6, w7_9, w7_10, w7_12, w7_14, w7_17, hx, nx_def, nx_nw, nx_wr, hc, ↓reduceIte, hh_wr, hl_wr, b10, b11, ite_not, ne_eq, Int.reduceEq, Int.reduceLE, Int.reduceLT, Int.reduceNe, Int.reduceNeg, Int.reduceAdd, Int.reduceSub, Int.reduceMul, not_false_eq_true, not_true_eq_false, false_and, and_false, true_and, and_true, and_self, true_or, or_true, false_or, or_false, if_true, if_false, ite_true, ite_false, mj_tl_some, mj_tl_none, mj_cs0, mj_cs1, mj_cs2, mj_cs3, mj_cs4]
  refine ⟨?_, ?_, ?_⟩
  · simp only [s_nw, s_wr]
    omega
  · intro x hx2
    refine ⟨fun j => ?_, ?_⟩
    · simp only [hh_wr, hh_nx, nx_nw, nx_wr, hc, show ¬ x = c by omega, show ¬ x = c + 1 by omega, ↓reduceIte, hh_wr, hl_wr, b10, b11, ite_not, ne_eq, Int.reduceEq, Int.reduceLE, Int.reduceLT, Int.reduceNe, Int.reduceNeg, Int.reduceAdd, Int.reduceSub, Int.reduceMul, not_false_eq_true, not_true_eq_false, false_and, and_false, true_and, and_true, and_self, true_or, or_true, false_or, or_false, if_true, if_false, ite_true, ite_false, mj_tl_some, mj_tl_none, mj_cs0, mj_cs1, mj_cs2, mj_cs3, mj_cs4]
    · simp only [hl_wr, hl_nx, nx_nw, nx_wr, hc, show ¬ x = c + 1 by omega, ↓reduceIte, hh_wr, hl_wr, b10, b11, ite_not, ne_eq, Int.reduceEq, Int.reduceLE, Int.reduceLT, Int.reduceNe, Int.reduceNeg, Int.reduceAdd, Int.reduceSub, Int.reduceMul, not_false_eq_true, not_true_eq_false, false_and, and_false, true_and, and_true, and_self, true_or, or_true, false_or, or_false, if_true, if_false, ite_true, ite_false, mj_tl_some, mj_tl_none, mj_cs0, mj_cs1, mj_cs2, mj_cs3, mj_cs4]
  · unfold RowsNew
    simp only [hh_wr, hh_nx, hl_wr, hl_nx, nx_nw, nx_wr, hc, ne01, ne02, ne03, ne04, ne05, ne10, ne12, ne13, ne14, ne15, ne20, ne21, ne23, ne24, ne25, ne30, ne31, ne32, ne34, ne35, ne40, ne41, ne42, ne43, ne45, ne50, ne51, ne52, ne53, ne54, implies_true, forall_const, ↓reduceIte, hh_wr, hl_wr, b10, b11, ite_not, ne_eq, Int.reduceEq, Int.reduceLE, Int.reduceLT, Int.reduceNe, Int.reduceNeg, Int.reduceAdd, Int.reduceSub, Int.reduceMul, not_false_eq_true, not_true_eq_false, false_and, and_false, true_and, and_true, and_self, true_or, or_true, false_or, or_false, if_true, if_false, ite_true, ite_false, mj_tl_some, mj_tl_none, mj_cs0, mj_cs1, mj_cs2, mj_cs3, mj_cs4]
def TongueNew (c : Int) (M : mj_M) : Prop := hh M c 0 = 0 ∧ hh M c 1 = c + 1 ∧ hh M c 2 = c + 2 ∧ hh M c 3 = c + 3 ∧ (∀ j, hh M (c + 1) j = 0) ∧ (∀ j, hh M (c + 2) j = 0) ∧ (∀ j, hh M (c + 3) j = 0) ∧ hl M (c + 1) = 8 ∧ hl M (c + 2) = 8 ∧ hl M (c + 3) = 5
theorem i_Tongue {c : Int} (hc : nx M = c) (hc1 : 1 ≤ c) : wc X d 5 [(29, c)] M (fun r M' => r = none ∧ nx M' = c + 3 ∧ M'.2.1 = M.2.1 + 21 ∧ old c M M' ∧ TongueNew c M') := by
  show wp X d 5 0 [(29, c)] [] M _
  have hx : ¬ (c = 0) := by omega
  simp only [w5_0, w5_1, w5_4, w5_5, w5_6, w5_9, w5_10, w5_12, w5_14, w5_17, w5_18, w5_20, w5_22, w5_25, w5_26, w5_27, w5_29, w5_32, hx, nx_def, nx_nw, nx_wr, hc, add11, add21, ↓reduceIte, hh_wr, hl_wr, b10, b11, ite_not, ne_eq, Int.reduceEq, Int.reduceLE, Int.reduceLT, Int.reduceNe, Int.reduceNeg, Int.reduceAdd, Int.reduceSub, Int.reduceMul, not_false_eq_true, not_true_eq_false, false_and, and_false, true_and, and_true, and_self, true_or, or_true, false_or, or_false, if_true, if_false, ite_true, ite_false, mj_tl_some, mj_tl_none, mj_cs0, mj_cs1, mj_cs2, mj_cs3, mj_cs4]
  refine ⟨?_, ?_, ?_⟩
  · simp only [s_nw, s_wr]
    omega
  · intro x hx2
    refine ⟨fun j => ?_, ?_⟩
    · simp only [hh_wr, hh_nx, nx_nw, nx_wr, hc, add11, add21, show ¬ x = c by omega, show ¬ x = c + 1 by omega, show ¬ x = c + 2 by omega, show ¬ x = c + 3 by omega, ↓reduceIte, hh_wr, hl_wr, b10, b11, ite_not, ne_eq, Int.reduceEq, Int.reduceLE, Int.reduceLT, Int.reduceNe, Int.reduceNeg, Int.reduceAdd, Int.reduceSub, Int.reduceMul, not_false_eq_true, not_true_eq_false, false_and, and_false, true_and, and_true, and_self, true_or, or_true, false_or, or_false, if_true, if_false, ite_true, ite_false, mj_tl_some, mj_tl_none, mj_cs0, mj_cs1, mj_cs2, mj_cs3, mj_cs4]
    · simp only [hl_wr, hl_nx, nx_nw, nx_wr, hc, add11, add21, show ¬ x = c + 1 by omega, show ¬ x = c + 2 by omega, show ¬ x = c + 3 by omega, ↓reduceIte, hh_wr, hl_wr, b10, b11, ite_not, ne_eq, Int.reduceEq, Int.reduceLE, Int.reduceLT, Int.reduceNe, Int.reduceNeg, Int.reduceAdd, Int.reduceSub, Int.reduceMul, not_false_eq_true, not_true_eq_false, false_and, and_false, true_and, and_true, and_self, true_or, or_true, false_or, or_false, if_true, if_false, ite_true, ite_false, mj_tl_some, mj_tl_none, mj_cs0, mj_cs1, mj_cs2, mj_cs3, mj_cs4]
  · unfold TongueNew
    simp only [hh_wr, hh_nx, hl_wr, hl_nx, nx_nw, nx_wr, hc, add11, add21, ne01, ne02, ne03, ne04, ne05, ne10, ne12, ne13, ne14, ne15, ne20, ne21, ne23, ne24, ne25, ne30, ne31, ne32, ne34, ne35, ne40, ne41, ne42, ne43, ne45, ne50, ne51, ne52, ne53, ne54, implies_true, forall_const, ↓reduceIte, hh_wr, hl_wr, b10, b11, ite_not, ne_eq, Int.reduceEq, Int.reduceLE, Int.reduceLT, Int.reduceNe, Int.reduceNeg, Int.reduceAdd, Int.reduceSub, Int.reduceMul, not_false_eq_true, not_true_eq_false, false_and, and_false, true_and, and_true, and_self, true_or, or_true, false_or, or_false, if_true, if_false, ite_true, ite_false, mj_tl_some, mj_tl_none, mj_cs0, mj_cs1, mj_cs2, mj_cs3, mj_cs4]
theorem old.tr {a b : Int} {M M1 M2 : mj_M} (h1 : old a M M1) (h2 : old b M1 M2) (hab : a ≤ b) : old a M M2 := fun x hx => ⟨fun j => ((h2 x (by omega)).1 j).trans ((h1 x hx).1 j), (h2 x (by omega)).2.trans (h1 x hx).2⟩
theorem old.wr {a c i v : Int} {M : mj_M} (h : a ≤ c) : old a M (mj_wr M c i v) := fun x hx => ⟨fun j => by rw [hh_wr, if_neg (by omega)], rfl⟩
theorem old.nw {a : Int} {M : mj_M} {t : Nat} {n : Int} {f : Int → Int} (h : a ≤ nx M + 1) : old a M (mj_nw M t n f) := fun x hx => ⟨fun j => by rw [hh_nx, if_neg (by omega)], by rw [hl_nx, if_neg (by omega)]⟩
theorem old.le {a b : Int} {M M1 : mj_M} (h : old b M M1) (hab : a ≤ b) : old a M M1 := fun x hx => h x (by omega)
theorem MomentNew.old {a c : Int} {M M1 : mj_M} (h : MomentNew c M) (ho : old a M M1) (hc : c + 4 < a) : MomentNew c M1 := by
  unfold MomentNew at h ⊢
  simp only [(ho c (by omega)).1, (ho (c + 1) (by omega)).1, (ho (c + 2) (by omega)).1, (ho (c + 3) (by omega)).1, (ho (c + 4) (by omega)).1, (ho (c + 1) (by omega)).2, (ho (c + 2) (by omega)).2, (ho (c + 3) (by omega)).2, (ho (c + 4) (by omega)).2]
  exact h
theorem RowsNew.old {a c : Int} {M M1 : mj_M} (h : RowsNew c M) (ho : old a M M1) (hc : c + 1 < a) : RowsNew c M1 := by
  unfold RowsNew at h ⊢
  simp only [(ho c (by omega)).1, (ho (c + 1) (by omega)).1, (ho (c + 1) (by omega)).2]
  exact h
theorem TongueNew.old {a c : Int} {M M1 : mj_M} (h : TongueNew c M) (ho : old a M M1) (hc : c + 3 < a) : TongueNew c M1 := by
  unfold TongueNew at h ⊢
  simp only [(ho c (by omega)).1, (ho (c + 1) (by omega)).1, (ho (c + 2) (by omega)).1, (ho (c + 3) (by omega)).1, (ho (c + 1) (by omega)).2, (ho (c + 2) (by omega)).2, (ho (c + 3) (by omega)).2]
  exact h
end Ini
