/-! THE REFERENCE'S MAKER: its rows -/
/-- lengths of the reference's rows -/
def LTm (x : Int) : Int := [1691, 1691, 2820, 600, 600, 20, 20, 20, 300, 160, 8, 330, 330, 5, 21, 21, 21, 21, 41].getD (x - 355).toNat 0
def upm (F : Int → Int) (k v : Int) : Int → Int := fun j => if j = k then v else F j
/-- made up to cell c; the fields are F; s places taken -/
def Acm (M0 M : mj_M) (c : Int) (F : Int → Int) (s : Nat) : Prop := (nx M = c) ∧ (∀ x, x < 354 → (∀ j, hh M x j = hh M0 x j) ∧ hl M x = hl M0 x) ∧ (∀ j, hh M 354 j = F j) ∧ (∀ x, 354 < x → x ≤ c → ∀ j, hh M x j = 0) ∧ (∀ x, 354 < x → x ≤ c → hl M x = LTm x) ∧ (M.2.1 = M0.2.1 + s)
theorem Acm.n {M0 M : mj_M} {c : Int} {F : Int → Int} {s : Nat} (h : Acm M0 M c F s) : nx M = c := h.1
theorem Acm.o {M0 M : mj_M} {c : Int} {F : Int → Int} {s : Nat} (h : Acm M0 M c F s) : ∀ x, x < 354 → (∀ j, hh M x j = hh M0 x j) ∧ hl M x = hl M0 x := h.2.1
theorem Acm.f {M0 M : mj_M} {c : Int} {F : Int → Int} {s : Nat} (h : Acm M0 M c F s) : ∀ j, hh M 354 j = F j := h.2.2.1
theorem Acm.z {M0 M : mj_M} {c : Int} {F : Int → Int} {s : Nat} (h : Acm M0 M c F s) : ∀ x, 354 < x → x ≤ c → ∀ j, hh M x j = 0 := h.2.2.2.1
theorem Acm.l {M0 M : mj_M} {c : Int} {F : Int → Int} {s : Nat} (h : Acm M0 M c F s) : ∀ x, 354 < x → x ≤ c → hl M x = LTm x := h.2.2.2.2.1
theorem Acm.s {M0 M : mj_M} {c : Int} {F : Int → Int} {s : Nat} (h : Acm M0 M c F s) : M.2.1 = M0.2.1 + s := h.2.2.2.2.2
theorem Acm.start {M : mj_M} (h : nx M = 353) : Acm M (mj_nw M 32 39 (fun _ => 0)) 354 (fun _ => 0) 39 := by
  refine ⟨by rw [nx_nw, h]; rfl, fun x hx => ⟨fun j => by rw [hh_nx, if_neg (by omega)], by rw [hl_nx, if_neg (by omega)]⟩, fun j => by rw [hh_nx, if_pos (by omega)], fun x a b => absurd b (by omega), fun x a b => absurd b (by omega), rfl⟩
theorem Acm.go {P : mj_M → Prop} {M0 M : mj_M} {c v k n : Int} {t s : Nat} {F : Int → Int} (a : Acm M0 M c F s) (h1 : 354 ≤ c) (h2 : v = c + 1) (h3 : LTm v = n) (K : ∀ M1, Acm M0 M1 v (upm F k v) (s + n.toNat) → P M1) : P (mj_wr (mj_nw M t n (fun _ => 0)) 354 k v) := by
  refine K _ ⟨by rw [nx_wr, nx_nw, a.n, h2], fun x hx => ⟨fun j => by rw [hh_wr, if_neg (by omega), hh_nx, a.n, if_neg (by omega)]; exact (a.o x hx).1 j, by rw [hl_wr, hl_nx, a.n, if_neg (by omega)]; exact (a.o x hx).2⟩, fun j => ?_, fun x p q j => ?_, fun x p q => ?_, ?_⟩
  · rw [hh_wr]
    unfold upm
    by_cases e : j = k
    · rw [if_pos ⟨rfl, e⟩, if_pos e]
    · rw [if_neg (fun z => e z.2), if_neg e, hh_nx, a.n, if_neg (by omega)]
      exact a.f j
  · rw [hh_wr, if_neg (by omega), hh_nx, a.n]
    by_cases e : x = c + 1
    · rw [if_pos e]
    · rw [if_neg e]
      exact a.z x p (by omega) j
  · rw [hl_wr, hl_nx, a.n]
    by_cases e : x = c + 1
    · rw [if_pos e, e, ← h2, h3]
    · rw [if_neg e]
      exact a.l x p (by omega)
  · rw [s_wr, s_nw, a.s]
    omega
theorem Acm.put {P : mj_M → Prop} {M0 M : mj_M} {c v k : Int} {s : Nat} {F : Int → Int} (a : Acm M0 M c F s) (K : ∀ M1, Acm M0 M1 c (upm F k v) s → P M1) : P (mj_wr M 354 k v) := by
  refine K _ ⟨by rw [nx_wr, a.n], fun x hx => ⟨fun j => by rw [hh_wr, if_neg (by omega)]; exact (a.o x hx).1 j, (a.o x hx).2⟩, fun j => ?_, fun x p q j => by rw [hh_wr, if_neg (by omega)]; exact a.z x p q j, a.l, a.s⟩
  rw [hh_wr]
  unfold upm
  by_cases e : j = k
  · rw [if_pos ⟨rfl, e⟩, if_pos e]
  · rw [if_neg (fun z => e z.2), if_neg e]
    exact a.f j
/-- the fields of the reference -/
def FMm : Int → Int := (upm (upm (upm (upm (upm (upm (upm (upm (upm (upm (upm (upm (upm (upm (upm (upm (upm (upm (upm (upm (upm (upm (upm (fun _ => 0) 0 355) 1 356) 2 357) 3 358) 4 359) 5 360) 6 361) 7 362) 8 363) 10 (-1)) 11 (-1)) 20 364) 25 365) 26 366) 27 367) 28 368) 29 (-1)) 32 369) 33 370) 34 371) 35 372) 36 1) 38 373)
section MakeM
variable {X : mj_X} {d : Nat} {M : mj_M} {Q : Option mj_V → mj_M → Prop}
theorem mk_rows (h : nx M = 353) (K : ∀ B, Acm M B 373 FMm 8759 → wp X d 189 184 [(32, 354)] [] B Q) : wc X d 189 [(32, 354)] (mj_nw M 32 39 (fun _ => 0)) Q := by
  show wp X d 189 0 [(32, 354)] [] (mj_nw M 32 39 (fun _ => 0)) Q
  have a0 := Acm.start h
  generalize mj_nw M 32 39 (fun _ => 0) = A0 at a0 ⊢
  simp only [w189_0, w189_1, w189_4, w189_5, w189_8, w189_10, nx_def, a0.n, ↓reduceIte, hh_wr, hl_wr, b10, b11, ite_not, ne_eq, Int.reduceEq, Int.reduceLE, Int.reduceLT, Int.reduceNe, Int.reduceNeg, Int.reduceAdd, Int.reduceSub, Int.reduceMul, not_false_eq_true, not_true_eq_false, false_and, and_false, true_and, and_true, and_self, true_or, or_true, false_or, or_false, if_true, if_false, ite_true, ite_false, mj_tl_some, mj_tl_none, mj_cs0, mj_cs1, mj_cs2, mj_cs3, mj_cs4]
  refine Acm.go (P := fun Z => wp X d 189 13 [(32, 354)] [] Z Q) (k := 0) (v := 355) (n := 1691) a0 (by decide) (by decide) (by decide) ?_
  intro A1 a1
  show wp X d 189 13 [(32, 354)] [] A1 Q
  simp only [w189_13, w189_14, w189_17, w189_19, nx_def, a1.n, ↓reduceIte, hh_wr, hl_wr, b10, b11, ite_not, ne_eq, Int.reduceEq, Int.reduceLE, Int.reduceLT, Int.reduceNe, Int.reduceNeg, Int.reduceAdd, Int.reduceSub, Int.reduceMul, not_false_eq_true, not_true_eq_false, false_and, and_false, true_and, and_true, and_self, true_or, or_true, false_or, or_false, if_true, if_false, ite_true, ite_false, mj_tl_some, mj_tl_none, mj_cs0, mj_cs1, mj_cs2, mj_cs3, mj_cs4]
  refine Acm.go (P := fun Z => wp X d 189 22 [(32, 354)] [] Z Q) (k := 1) (v := 356) (n := 1691) a1 (by decide) (by decide) (by decide) ?_
  intro A2 a2
  show wp X d 189 22 [(32, 354)] [] A2 Q
  simp only [w189_22, w189_23, w189_26, w189_28, nx_def, a2.n, ↓reduceIte, hh_wr, hl_wr, b10, b11, ite_not, ne_eq, Int.reduceEq, Int.reduceLE, Int.reduceLT, Int.reduceNe, Int.reduceNeg, Int.reduceAdd, Int.reduceSub, Int.reduceMul, not_false_eq_true, not_true_eq_false, false_and, and_false, true_and, and_true, and_self, true_or, or_true, false_or, or_false, if_true, if_false, ite_true, ite_false, mj_tl_some, mj_tl_none, mj_cs0, mj_cs1, mj_cs2, mj_cs3, mj_cs4]
  refine Acm.go (P := fun Z => wp X d 189 31 [(32, 354)] [] Z Q) (k := 2) (v := 357) (n := 2820) a2 (by decide) (by decide) (by decide) ?_
  intro A3 a3
  show wp X d 189 31 [(32, 354)] [] A3 Q
  simp only [w189_31, w189_32, w189_35, w189_37, nx_def, a3.n, ↓reduceIte, hh_wr, hl_wr, b10, b11, ite_not, ne_eq, Int.reduceEq, Int.reduceLE, Int.reduceLT, Int.reduceNe, Int.reduceNeg, Int.reduceAdd, Int.reduceSub, Int.reduceMul, not_false_eq_true, not_true_eq_false, false_and, and_false, true_and, and_true, and_self, true_or, or_true, false_or, or_false, if_true, if_false, ite_true, ite_false, mj_tl_some, mj_tl_none, mj_cs0, mj_cs1, mj_cs2, mj_cs3, mj_cs4]
  refine Acm.go (P := fun Z => wp X d 189 40 [(32, 354)] [] Z Q) (k := 3) (v := 358) (n := 600) a3 (by decide) (by decide) (by decide) ?_
  intro A4 a4
  show wp X d 189 40 [(32, 354)] [] A4 Q
  simp only [w189_40, w189_41, w189_44, w189_46, nx_def, a4.n, ↓reduceIte, hh_wr, hl_wr, b10, b11, ite_not, ne_eq, Int.reduceEq, Int.reduceLE, Int.reduceLT, Int.reduceNe, Int.reduceNeg, Int.reduceAdd, Int.reduceSub, Int.reduceMul, not_false_eq_true, not_true_eq_false, false_and, and_false, true_and, and_true, and_self, true_or, or_true, false_or, or_false, if_true, if_false, ite_true, ite_false, mj_tl_some, mj_tl_none, mj_cs0, mj_cs1, mj_cs2, mj_cs3, mj_cs4]
  refine Acm.go (P := fun Z => wp X d 189 49 [(32, 354)] [] Z Q) (k := 4) (v := 359) (n := 600) a4 (by decide) (by decide) (by decide) ?_
  intro A5 a5
  show wp X d 189 49 [(32, 354)] [] A5 Q
  simp only [w189_49, w189_50, w189_52, w189_54, nx_def, a5.n, ↓reduceIte, hh_wr, hl_wr, b10, b11, ite_not, ne_eq, Int.reduceEq, Int.reduceLE, Int.reduceLT, Int.reduceNe, Int.reduceNeg, Int.reduceAdd, Int.reduceSub, Int.reduceMul, not_false_eq_true, not_true_eq_false, false_and, and_false, true_and, and_true, and_self, true_or, or_true, false_or, or_false, if_true, if_false, ite_true, ite_false, mj_tl_some, mj_tl_none, mj_cs0, mj_cs1, mj_cs2, mj_cs3, mj_cs4]
  refine Acm.go (P := fun Z => wp X d 189 57 [(32, 354)] [] Z Q) (k := 5) (v := 360) (n := 20) a5 (by decide) (by decide) (by decide) ?_
  intro A6 a6
  show wp X d 189 57 [(32, 354)] [] A6 Q
  simp only [w189_57, w189_58, w189_60, w189_62, nx_def, a6.n, ↓reduceIte, hh_wr, hl_wr, b10, b11, ite_not, ne_eq, Int.reduceEq, Int.reduceLE, Int.reduceLT, Int.reduceNe, Int.reduceNeg, Int.reduceAdd, Int.reduceSub, Int.reduceMul, not_false_eq_true, not_true_eq_false, false_and, and_false, true_and, and_true, and_self, true_or, or_true, false_or, or_false, if_true, if_false, ite_true, ite_false, mj_tl_some, mj_tl_none, mj_cs0, mj_cs1, mj_cs2, mj_cs3, mj_cs4]
  refine Acm.go (P := fun Z => wp X d 189 65 [(32, 354)] [] Z Q) (k := 6) (v := 361) (n := 20) a6 (by decide) (by decide) (by decide) ?_
  intro A7 a7
  show wp X d 189 65 [(32, 354)] [] A7 Q
  simp only [w189_65, w189_66, w189_68, w189_70, nx_def, a7.n, ↓reduceIte, hh_wr, hl_wr, b10, b11, ite_not, ne_eq, Int.reduceEq, Int.reduceLE, Int.reduceLT, Int.reduceNe, Int.reduceNeg, Int.reduceAdd, Int.reduceSub, Int.reduceMul, not_false_eq_true, not_true_eq_false, false_and, and_false, true_and, and_true, and_self, true_or, or_true, false_or, or_false, if_true, if_false, ite_true, ite_false, mj_tl_some, mj_tl_none, mj_cs0, mj_cs1, mj_cs2, mj_cs3, mj_cs4]
  refine Acm.go (P := fun Z => wp X d 189 73 [(32, 354)] [] Z Q) (k := 7) (v := 362) (n := 20) a7 (by decide) (by decide) (by decide) ?_
  intro A8 a8
  show wp X d 189 73 [(32, 354)] [] A8 Q
  simp only [w189_73, w189_74, w189_77, w189_79, nx_def, a8.n, ↓reduceIte, hh_wr, hl_wr, b10, b11, ite_not, ne_eq, Int.reduceEq, Int.reduceLE, Int.reduceLT, Int.reduceNe, Int.reduceNeg, Int.reduceAdd, Int.reduceSub, Int.reduceMul, not_false_eq_true, not_true_eq_false, false_and, and_false, true_and, and_true, and_self, true_or, or_true, false_or, or_false, if_true, if_false, ite_true, ite_false, mj_tl_some, mj_tl_none, mj_cs0, mj_cs1, mj_cs2, mj_cs3, mj_cs4]
  refine Acm.go (P := fun Z => wp X d 189 82 [(32, 354)] [] Z Q) (k := 8) (v := 363) (n := 300) a8 (by decide) (by decide) (by decide) ?_
  intro A9 a9
  show wp X d 189 82 [(32, 354)] [] A9 Q
  simp only [w189_82, w189_83, w189_84, nx_def, a9.n, ↓reduceIte, hh_wr, hl_wr, b10, b11, ite_not, ne_eq, Int.reduceEq, Int.reduceLE, Int.reduceLT, Int.reduceNe, Int.reduceNeg, Int.reduceAdd, Int.reduceSub, Int.reduceMul, not_false_eq_true, not_true_eq_false, false_and, and_false, true_and, and_true, and_self, true_or, or_true, false_or, or_false, if_true, if_false, ite_true, ite_false, mj_tl_some, mj_tl_none, mj_cs0, mj_cs1, mj_cs2, mj_cs3, mj_cs4]
  refine Acm.put (P := fun Z => wp X d 189 87 [(32, 354)] [] Z Q) (k := 10) (v := (-1)) a9 ?_
  intro A10 a10
  show wp X d 189 87 [(32, 354)] [] A10 Q
  simp only [w189_87, w189_88, w189_89, nx_def, a10.n, ↓reduceIte, hh_wr, hl_wr, b10, b11, ite_not, ne_eq, Int.reduceEq, Int.reduceLE, Int.reduceLT, Int.reduceNe, Int.reduceNeg, Int.reduceAdd, Int.reduceSub, Int.reduceMul, not_false_eq_true, not_true_eq_false, false_and, and_false, true_and, and_true, and_self, true_or, or_true, false_or, or_false, if_true, if_false, ite_true, ite_false, mj_tl_some, mj_tl_none, mj_cs0, mj_cs1, mj_cs2, mj_cs3, mj_cs4]
  refine Acm.put (P := fun Z => wp X d 189 92 [(32, 354)] [] Z Q) (k := 11) (v := (-1)) a10 ?_
  intro A11 a11
  show wp X d 189 92 [(32, 354)] [] A11 Q
  simp only [w189_92, w189_93, w189_96, w189_98, nx_def, a11.n, ↓reduceIte, hh_wr, hl_wr, b10, b11, ite_not, ne_eq, Int.reduceEq, Int.reduceLE, Int.reduceLT, Int.reduceNe, Int.reduceNeg, Int.reduceAdd, Int.reduceSub, Int.reduceMul, not_false_eq_true, not_true_eq_false, false_and, and_false, true_and, and_true, and_self, true_or, or_true, false_or, or_false, if_true, if_false, ite_true, ite_false, mj_tl_some, mj_tl_none, mj_cs0, mj_cs1, mj_cs2, mj_cs3, mj_cs4]
  refine Acm.go (P := fun Z => wp X d 189 101 [(32, 354)] [] Z Q) (k := 20) (v := 364) (n := 160) a11 (by decide) (by decide) (by decide) ?_
  intro A12 a12
  show wp X d 189 101 [(32, 354)] [] A12 Q
  simp only [w189_101, w189_102, w189_104, w189_106, nx_def, a12.n, ↓reduceIte, hh_wr, hl_wr, b10, b11, ite_not, ne_eq, Int.reduceEq, Int.reduceLE, Int.reduceLT, Int.reduceNe, Int.reduceNeg, Int.reduceAdd, Int.reduceSub, Int.reduceMul, not_false_eq_true, not_true_eq_false, false_and, and_false, true_and, and_true, and_self, true_or, or_true, false_or, or_false, if_true, if_false, ite_true, ite_false, mj_tl_some, mj_tl_none, mj_cs0, mj_cs1, mj_cs2, mj_cs3, mj_cs4]
  refine Acm.go (P := fun Z => wp X d 189 109 [(32, 354)] [] Z Q) (k := 25) (v := 365) (n := 8) a12 (by decide) (by decide) (by decide) ?_
  intro A13 a13
  show wp X d 189 109 [(32, 354)] [] A13 Q
  simp only [w189_109, w189_110, w189_113, w189_115, nx_def, a13.n, ↓reduceIte, hh_wr, hl_wr, b10, b11, ite_not, ne_eq, Int.reduceEq, Int.reduceLE, Int.reduceLT, Int.reduceNe, Int.reduceNeg, Int.reduceAdd, Int.reduceSub, Int.reduceMul, not_false_eq_true, not_true_eq_false, false_and, and_false, true_and, and_true, and_self, true_or, or_true, false_or, or_false, if_true, if_false, ite_true, ite_false, mj_tl_some, mj_tl_none, mj_cs0, mj_cs1, mj_cs2, mj_cs3, mj_cs4]
  refine Acm.go (P := fun Z => wp X d 189 118 [(32, 354)] [] Z Q) (k := 26) (v := 366) (n := 330) a13 (by decide) (by decide) (by decide) ?_
  intro A14 a14
  show wp X d 189 118 [(32, 354)] [] A14 Q
  simp only [w189_118, w189_119, w189_122, w189_124, nx_def, a14.n, ↓reduceIte, hh_wr, hl_wr, b10, b11, ite_not, ne_eq, Int.reduceEq, Int.reduceLE, Int.reduceLT, Int.reduceNe, Int.reduceNeg, Int.reduceAdd, Int.reduceSub, Int.reduceMul, not_false_eq_true, not_true_eq_false, false_and, and_false, true_and, and_true, and_self, true_or, or_true, false_or, or_false, if_true, if_false, ite_true, ite_false, mj_tl_some, mj_tl_none, mj_cs0, mj_cs1, mj_cs2, mj_cs3, mj_cs4]
  refine Acm.go (P := fun Z => wp X d 189 127 [(32, 354)] [] Z Q) (k := 27) (v := 367) (n := 330) a14 (by decide) (by decide) (by decide) ?_
  intro A15 a15
  show wp X d 189 127 [(32, 354)] [] A15 Q
  simp only [w189_127, w189_128, w189_129, w189_131, nx_def, a15.n, ↓reduceIte, hh_wr, hl_wr, b10, b11, ite_not, ne_eq, Int.reduceEq, Int.reduceLE, Int.reduceLT, Int.reduceNe, Int.reduceNeg, Int.reduceAdd, Int.reduceSub, Int.reduceMul, not_false_eq_true, not_true_eq_false, false_and, and_false, true_and, and_true, and_self, true_or, or_true, false_or, or_false, if_true, if_false, ite_true, ite_false, mj_tl_some, mj_tl_none, mj_cs0, mj_cs1, mj_cs2, mj_cs3, mj_cs4]
  refine Acm.go (P := fun Z => wp X d 189 134 [(32, 354)] [] Z Q) (k := 28) (v := 368) (n := 5) a15 (by decide) (by decide) (by decide) ?_
  intro A16 a16
  show wp X d 189 134 [(32, 354)] [] A16 Q
  simp only [w189_134, w189_135, w189_136, nx_def, a16.n, ↓reduceIte, hh_wr, hl_wr, b10, b11, ite_not, ne_eq, Int.reduceEq, Int.reduceLE, Int.reduceLT, Int.reduceNe, Int.reduceNeg, Int.reduceAdd, Int.reduceSub, Int.reduceMul, not_false_eq_true, not_true_eq_false, false_and, and_false, true_and, and_true, and_self, true_or, or_true, false_or, or_false, if_true, if_false, ite_true, ite_false, mj_tl_some, mj_tl_none, mj_cs0, mj_cs1, mj_cs2, mj_cs3, mj_cs4]
  refine Acm.put (P := fun Z => wp X d 189 139 [(32, 354)] [] Z Q) (k := 29) (v := (-1)) a16 ?_
  intro A17 a17
  show wp X d 189 139 [(32, 354)] [] A17 Q
  simp only [w189_139, w189_140, w189_142, w189_144, nx_def, a17.n, ↓reduceIte, hh_wr, hl_wr, b10, b11, ite_not, ne_eq, Int.reduceEq, Int.reduceLE, Int.reduceLT, Int.reduceNe, Int.reduceNeg, Int.reduceAdd, Int.reduceSub, Int.reduceMul, not_false_eq_true, not_true_eq_false, false_and, and_false, true_and, and_true, and_self, true_or, or_true, false_or, or_false, if_true, if_false, ite_true, ite_false, mj_tl_some, mj_tl_none, mj_cs0, mj_cs1, mj_cs2, mj_cs3, mj_cs4]
  refine Acm.go (P := fun Z => wp X d 189 147 [(32, 354)] [] Z Q) (k := 32) (v := 369) (n := 21) a17 (by decide) (by decide) (by decide) ?_
  intro A18 a18
  show wp X d 189 147 [(32, 354)] [] A18 Q
  simp only [w189_147, w189_148, w189_150, w189_152, nx_def, a18.n, ↓reduceIte, hh_wr, hl_wr, b10, b11, ite_not, ne_eq, Int.reduceEq, Int.reduceLE, Int.reduceLT, Int.reduceNe, Int.reduceNeg, Int.reduceAdd, Int.reduceSub, Int.reduceMul, not_false_eq_true, not_true_eq_false, false_and, and_false, true_and, and_true, and_self, true_or, or_true, false_or, or_false, if_true, if_false, ite_true, ite_false, mj_tl_some, mj_tl_none, mj_cs0, mj_cs1, mj_cs2, mj_cs3, mj_cs4]
  refine Acm.go (P := fun Z => wp X d 189 155 [(32, 354)] [] Z Q) (k := 33) (v := 370) (n := 21) a18 (by decide) (by decide) (by decide) ?_
  intro A19 a19
  show wp X d 189 155 [(32, 354)] [] A19 Q
  simp only [w189_155, w189_156, w189_158, w189_160, nx_def, a19.n, ↓reduceIte, hh_wr, hl_wr, b10, b11, ite_not, ne_eq, Int.reduceEq, Int.reduceLE, Int.reduceLT, Int.reduceNe, Int.reduceNeg, Int.reduceAdd, Int.reduceSub, Int.reduceMul, not_false_eq_true, not_true_eq_false, false_and, and_false, true_and, and_true, and_self, true_or, or_true, false_or, or_false, if_true, if_false, ite_true, ite_false, mj_tl_some, mj_tl_none, mj_cs0, mj_cs1, mj_cs2, mj_cs3, mj_cs4]
  refine Acm.go (P := fun Z => wp X d 189 163 [(32, 354)] [] Z Q) (k := 34) (v := 371) (n := 21) a19 (by decide) (by decide) (by decide) ?_
  intro A20 a20
  show wp X d 189 163 [(32, 354)] [] A20 Q
  simp only [w189_163, w189_164, w189_166, w189_168, nx_def, a20.n, ↓reduceIte, hh_wr, hl_wr, b10, b11, ite_not, ne_eq, Int.reduceEq, Int.reduceLE, Int.reduceLT, Int.reduceNe, Int.reduceNeg, Int.reduceAdd, Int.reduceSub, Int.reduceMul, not_false_eq_true, not_true_eq_false, false_and, and_false, true_and, and_true, and_self, true_or, or_true, false_or, or_false, if_true, if_false, ite_true, ite_false, mj_tl_some, mj_tl_none, mj_cs0, mj_cs1, mj_cs2, mj_cs3, mj_cs4]
  refine Acm.go (P := fun Z => wp X d 189 171 [(32, 354)] [] Z Q) (k := 35) (v := 372) (n := 21) a20 (by decide) (by decide) (by decide) ?_
  intro A21 a21
  show wp X d 189 171 [(32, 354)] [] A21 Q
  simp only [w189_171, w189_172, w189_173, w189_173 (w := 1) (Or.inr rfl), nx_def, a21.n, ↓reduceIte, hh_wr, hl_wr, b10, b11, ite_not, ne_eq, Int.reduceEq, Int.reduceLE, Int.reduceLT, Int.reduceNe, Int.reduceNeg, Int.reduceAdd, Int.reduceSub, Int.reduceMul, not_false_eq_true, not_true_eq_false, false_and, and_false, true_and, and_true, and_self, true_or, or_true, false_or, or_false, if_true, if_false, ite_true, ite_false, mj_tl_some, mj_tl_none, mj_cs0, mj_cs1, mj_cs2, mj_cs3, mj_cs4]
  refine Acm.put (P := fun Z => wp X d 189 176 [(32, 354)] [] Z Q) (k := 36) (v := 1) a21 ?_
  intro A22 a22
  show wp X d 189 176 [(32, 354)] [] A22 Q
  simp only [w189_176, w189_177, w189_179, w189_181, nx_def, a22.n, ↓reduceIte, hh_wr, hl_wr, b10, b11, ite_not, ne_eq, Int.reduceEq, Int.reduceLE, Int.reduceLT, Int.reduceNe, Int.reduceNeg, Int.reduceAdd, Int.reduceSub, Int.reduceMul, not_false_eq_true, not_true_eq_false, false_and, and_false, true_and, and_true, and_self, true_or, or_true, false_or, or_false, if_true, if_false, ite_true, ite_false, mj_tl_some, mj_tl_none, mj_cs0, mj_cs1, mj_cs2, mj_cs3, mj_cs4]
  refine Acm.go (P := fun Z => wp X d 189 184 [(32, 354)] [] Z Q) (k := 38) (v := 373) (n := 41) a22 (by decide) (by decide) (by decide) ?_
  intro A23 a23
  show wp X d 189 184 [(32, 354)] [] A23 Q
  exact K A23 a23
theorem FM_ok : ∀ q ∈ cs_rb, q.1 = 354 ∧ FMm q.2.1 = q.2.2 := by decide +kernel
theorem LT_ok : ∀ q ∈ ls_rb, (354 < q.1 ∧ q.1 ≤ 373) ∧ LTm q.1 = q.2 := by decide +kernel
theorem Acm.cs {B : mj_M} {s : Nat} (p : PN M) (a : Acm M B 373 FMm s) : CS B := by
  refine ⟨fun q hq => ?_, fun q hq => ?_⟩
  · rcases cs_cov q hq with h | h | h | h
    · exact Wqk.ok (p.w.same (fun x _ y => a.o x (by omega))) h
    · exact Wqk.ok (p.i.same (fun x _ y => a.o x (by omega))) h
    · rw [(a.o q.1 (ra_lt q h)).1]; exact p.ra q h
    · rw [(FM_ok q h).1, a.f]; exact (FM_ok q h).2
  · rcases ls_cov q hq with h | h | h | h
    · exact Lqk.ok (p.w.same (fun x _ y => a.o x (by omega))) h
    · exact Lqk.ok (p.i.same (fun x _ y => a.o x (by omega))) h
    · rw [(a.o q.1 (la_lt q h)).2]; exact p.la q h
    · rw [a.l q.1 (LT_ok q h).1.1 (LT_ok q h).1.2]; exact (LT_ok q h).2
end MakeM
