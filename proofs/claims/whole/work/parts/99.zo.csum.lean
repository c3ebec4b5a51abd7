/-! TEXT: the class reads sums and questions -/
/-- what doesn't follow a piece of level lv -/
def fol (lv K : Int) : Prop := (lv ≤ 6 → K ≠ 32 ∧ K ≠ 33) ∧ (lv ≤ 5 → K ≠ 30 ∧ K ≠ 31) ∧ (lv ≤ 2 → K ≠ 24) ∧ (lv ≤ 1 → K ≠ 23)
/-- a piece is read, or a fault is found; and the reference does the same -/
def PG (X : mj_X) (e : Nat) (T : Int → Int) (L t0 so lv : Int) (tt : Bool) (hg : Nat) (o a b : Int) (M M1 : mj_M) : Prop :=
  (Cn b M M1 ∧ ∃ a' cl rl f, CP M1 T L a' (b + (cl.length : Int)) ∧ (cl.length : Int) ≤ a' - a ∧ stands (hh M1 353) b cl ∧ EX b cl rl tt hg f ∧ Gd X e T L t0 so lv o a a' rl ∧ fol lv (tK T L a')) ∨
  (Cr M M1 ∧ ∃ k q, Fl M1 T L k q ∧ Bd X e T L t0 so lv o a k q)
def PO (X : mj_X) (e : Nat) (T : Int → Int) (L t0 so : Int) (hg : Nat) (o a b : Int) (M M1 : mj_M) : Prop :=
  (Cn b M M1 ∧ ∃ a' cl rl f, CP M1 T L a' (b + (cl.length : Int)) ∧ (cl.length : Int) ≤ a' - a ∧ stands (hh M1 353) b cl ∧ EX b cl rl false hg f ∧ GdO X e T L t0 so o a a' rl ∧ fol 7 (tK T L a')) ∨
  (Cr M M1 ∧ ∃ k q, Fl M1 T L k q ∧ BdO X e T L t0 so o a k q)
def Sp (X : mj_X) (e : Nat) (T : Int → Int) (L t0 so : Int) (mth dp : Nat) (lv : Int) (tt : Bool) (hc m : Nat) : Prop := ∀ (M : mj_M) (a b : Int) (D : Nat), dp + 8 * m ≤ D → CP M T L a b → hh M 351 8 = 1 - so → wc X D mth [(26, 351), (0, 8 - (m : Int))] M (fun r M1 => r = none ∧ PG X e T L t0 so lv tt (5 * m + hc) (8 - (m : Int)) a b M M1)
def SpO (X : mj_X) (e : Nat) (T : Int → Int) (L t0 so : Int) (m : Nat) : Prop := ∀ (M : mj_M) (a b : Int) (D : Nat), 8 + 8 * m ≤ D → CP M T L a b → hh M 351 8 = 1 - so → wc X D 55 [(26, 351), (0, 8 - (m : Int))] M (fun r M1 => r = none ∧ PO X e T L t0 so (5 * m + 1) (8 - (m : Int)) a b M M1)
section CSum
variable {X : mj_X} {D e : Nat} {T : Int → Int} {L t0 so : Int} {m : Nat}
theorem c_put0 {M : mj_M} {Q : Option mj_V → mj_M → Prop} {t c : Int} (hx : CS M) (hc : hh M 351 11 = c) (c0 : 0 ≤ c) (c3 : c < 300) (ht : 0 ≤ t ∧ t < 64) : wc X D 57 [(26, 351), (0, t), (0, 0)] M Q ↔ Q (some (0, c)) (mj_wr (mj_wr M 353 c t) 351 11 (c + 1)) := by
  have h := c_put (X := X) (D := D) (Q := Q) (v := 0) hx hc c0 c3 ht (by decide)
  rw [show t + 64 * 0 = t by omega] at h
  exact h
/-- two pieces and their sign -/
theorem stands2p {M M2 M3 : mj_M} {b t n : Int} {cl1 cl2 : List Int} (s1 : stands (hh M2 353) b cl1) (c3 : Cn (b + (cl1.length : Int)) M2 M3) (s2 : stands (hh M3 353) (b + (cl1.length : Int)) cl2) : stands (hh (mj_wr (mj_wr M3 353 (b + (cl1.length : Int) + (cl2.length : Int)) t) 351 11 n) 353) b (cl1 ++ (cl2 ++ [t])) := by
  refine standsA.mpr ⟨s1.keep (fun j h1 h2 => ?_), standsA.mpr ⟨s2.keep (fun j h1 h2 => ?_), stands_1 ?_⟩⟩
  · simp only [hh_wr, show ¬ j = b + (cl1.length : Int) + (cl2.length : Int) by omega, ↓reduceIte, hh_wr, hl_wr, b10, b11, ite_not, ne_eq, Int.reduceEq, Int.reduceLE, Int.reduceLT, Int.reduceNe, Int.reduceNeg, Int.reduceAdd, Int.reduceSub, Int.reduceMul, not_false_eq_true, not_true_eq_false, false_and, and_false, true_and, and_true, and_self, true_or, or_true, false_or, or_false, if_true, if_false, ite_true, ite_false, mj_tl_some, mj_tl_none, mj_cs0, mj_cs1, mj_cs2, mj_cs3, mj_cs4]
    exact c3.c j h2
  · simp only [hh_wr, show ¬ j = b + (cl1.length : Int) + (cl2.length : Int) by omega, ↓reduceIte, hh_wr, hl_wr, b10, b11, ite_not, ne_eq, Int.reduceEq, Int.reduceLE, Int.reduceLT, Int.reduceNe, Int.reduceNeg, Int.reduceAdd, Int.reduceSub, Int.reduceMul, not_false_eq_true, not_true_eq_false, false_and, and_false, true_and, and_true, and_self, true_or, or_true, false_or, or_false, if_true, if_false, ite_true, ite_false, mj_tl_some, mj_tl_none, mj_cs0, mj_cs1, mj_cs2, mj_cs3, mj_cs4]
  · simp only [hh_wr, ↓reduceIte, hh_wr, hl_wr, b10, b11, ite_not, ne_eq, Int.reduceEq, Int.reduceLE, Int.reduceLT, Int.reduceNe, Int.reduceNeg, Int.reduceAdd, Int.reduceSub, Int.reduceMul, not_false_eq_true, not_true_eq_false, false_and, and_false, true_and, and_true, and_self, true_or, or_true, false_or, or_false, if_true, if_false, ite_true, ite_false, mj_tl_some, mj_tl_none, mj_cs0, mj_cs1, mj_cs2, mj_cs3, mj_cs4]
theorem c_readProductL {M : mj_M} {a b : Int} (hO : SpO X e T L t0 so m) (hin : hh M 351 8 = 1 - so) (hm : m ≤ 8) (hD : 8 + 8 * m ≤ D) (a0 : 0 ≤ a) (b0 : 0 ≤ b) : ∀ (n : Nat) (a1 i : Int) (M1 : mj_M) (cl1 : List Int) (rl1 : List (Int × Int)) (f1 : Env → Int) (w3 : mj_V), (L - a1).toNat = n → Cn b M M1 → CP M1 T L a1 (b + (cl1.length : Int)) → (cl1.length : Int) ≤ a1 - a → stands (hh M1 353) b cl1 → EX b cl1 rl1 false (5 * m + 2) f1 → Gd X e T L t0 so 6 (8 - (m : Int)) a a1 rl1 → fol 7 (tK T L a1) → 0 ≤ i → i ≤ a1 - a → wp X (D + 1) 54 7 [(26, 351), (0, 8 - (m : Int)), (0, i), w3] [] M1 (fun r M2 => r = none ∧ PG X e T L t0 so 6 false (5 * m + 2) (8 - (m : Int)) a b M M2) := by
  intro n
  induction n using Nat.strongRecOn with
  | _ n ih =>
    intro a1 i M1 cl1 rl1 f1 w3 hn c1 p1 l1 s1 x1 g1 fo1 i0 ia
    have l9 := p1.cx.tz.l9
    have aL := p1.aL
    by_cases hk : tK T L a1 = 32 ∨ tK T L a1 = 33
    · have lt := tE_lt aL (show tK T L a1 ≠ 40 by omega)
      have i3 : i < 300 := by omega
      have ai : ji_add i 1 = i + 1 := aj ⟨by omega, by omega⟩
      have in1 : hh M1 351 8 = 1 - so := (c1.f 8 (by omega)).trans hin
      have cont : wp X (D + 1) 54 37 [(26, 351), (0, 8 - (m : Int)), (0, i), (0, tK T L a1)] [] M1 (fun r M2 => r = none ∧ PG X e T L t0 so 6 false (5 * m + 2) (8 - (m : Int)) a b M M2) := by
        simp only [w54_37, w54_38, ↓reduceIte, hh_wr, hl_wr, b10, b11, ite_not, ne_eq, Int.reduceEq, Int.reduceLE, Int.reduceLT, Int.reduceNe, Int.reduceNeg, Int.reduceAdd, Int.reduceSub, Int.reduceMul, not_false_eq_true, not_true_eq_false, false_and, and_false, true_and, and_true, and_self, true_or, or_true, false_or, or_false, if_true, if_false, ite_true, ite_false, mj_tl_some, mj_tl_none, mj_cs0, mj_cs1, mj_cs2, mj_cs3, mj_cs4]
        refine wc.mono (c_nxP (by omega) p1 (by omega)) ?_
        rintro r M2 ⟨rfl, k2, p2⟩
        simp only [w54_41, w54_42, w54_43, ↓reduceIte, hh_wr, hl_wr, b10, b11, ite_not, ne_eq, Int.reduceEq, Int.reduceLE, Int.reduceLT, Int.reduceNe, Int.reduceNeg, Int.reduceAdd, Int.reduceSub, Int.reduceMul, not_false_eq_true, not_true_eq_false, false_and, and_false, true_and, and_true, and_self, true_or, or_true, false_or, or_false, if_true, if_false, ite_true, ite_false, mj_tl_some, mj_tl_none, mj_cs0, mj_cs1, mj_cs2, mj_cs3, mj_cs4]
        refine wc.mono (hO M2 (tE T L a1) (b + (cl1.length : Int)) D hD p2 ((k2.h _ _ (by decide)).trans in1)) ?_
        rintro r M3 ⟨rfl, ⟨c3, a2, cl2, rl2, f2, p3, l2, s2, x2, g2, fo2⟩ | ⟨r3, k, q, fl, bd⟩⟩
        · have ca := p1.ca
          have c0 := p1.c0
          have a2L := p3.aL
          have hput := fun Q => c_put0 (X := X) (D := D) (Q := Q) (t := tK T L a1) p3.cx.cs p3.c p3.c0 (by omega) (by omega)
          simp only [w54_46, w54_47, w54_48, w54_49, w54_52, w54_53, w54_56, hput, ai, ↓reduceIte, hh_wr, hl_wr, b10, b11, ite_not, ne_eq, Int.reduceEq, Int.reduceLE, Int.reduceLT, Int.reduceNe, Int.reduceNeg, Int.reduceAdd, Int.reduceSub, Int.reduceMul, not_false_eq_true, not_true_eq_false, false_and, and_false, true_and, and_true, and_self, true_or, or_true, false_or, or_false, if_true, if_false, ite_true, ite_false, mj_tl_some, mj_tl_none, mj_cs0, mj_cs1, mj_cs2, mj_cs3, mj_cs4]
          have s12 : stands (hh M2 353) b cl1 := s1.keep (fun j _ _ => k2.h _ _ (by omega))
          have c4 : Cn b M (mj_wr (mj_wr M3 353 (b + (cl1.length : Int) + (cl2.length : Int)) (tK T L a1)) 351 11 (b + (cl1.length : Int) + (cl2.length : Int) + 1)) := ((c1.tr (k2.cn (b := b)) (Int.le_refl _)).tr c3 (by omega)).put (by omega)
          have p4 := p3.put (v := tK T L a1) (by omega)
          have s4 := stands2p (M := M) (t := tK T L a1) (n := b + (cl1.length : Int) + (cl2.length : Int) + 1) s12 c3 s2
          rcases hk with hk | hk
          · have x4 := ex_two (o := 2) (t := false) (hg := 5 * m + 2) (by decide) (by decide) x1 x2 (Nat.le_refl _) (by omega)
            have g4 := gd_mul (x := 8) g1 (by omega) (by omega) g2
            rw [hk] at c4 p4 s4 ⊢
            refine ih (L - a2).toNat (by omega) a2 (i + 1) _ (cl1 ++ (cl2 ++ [tk2 2])) (rl1 ++ (rl2 ++ [(rk2 2, 0)])) _ _ rfl c4 ?_ ?_ s4 x4 g4 fo2 (by omega) (by omega)
            · rw [show b + ((cl1 ++ (cl2 ++ [tk2 2])).length : Int) = b + (cl1.length : Int) + (cl2.length : Int) + 1 by simp only [List.length_append, List.length_cons, List.length_nil]; omega]; exact p4
            · simp only [List.length_append, List.length_cons, List.length_nil]; omega
          · have x4 := ex_two (o := 3) (t := false) (hg := 5 * m + 2) (by decide) (by decide) x1 x2 (Nat.le_refl _) (by omega)
            have g4 := gd_mul (x := 9) g1 (by omega) (by omega) g2
            rw [hk] at c4 p4 s4 ⊢
            refine ih (L - a2).toNat (by omega) a2 (i + 1) _ (cl1 ++ (cl2 ++ [tk2 3])) (rl1 ++ (rl2 ++ [(rk2 3, 0)])) _ _ rfl c4 ?_ ?_ s4 x4 g4 fo2 (by omega) (by omega)
            · rw [show b + ((cl1 ++ (cl2 ++ [tk2 3])).length : Int) = b + (cl1.length : Int) + (cl2.length : Int) + 1 by simp only [List.length_append, List.length_cons, List.length_nil]; omega]; exact p4
            · simp only [List.length_append, List.length_cons, List.length_nil]; omega
        · simp only [w54_46, w54_47, w54_48, w54_49, ↓reduceIte, hh_wr, hl_wr, b10, b11, ite_not, ne_eq, Int.reduceEq, Int.reduceLE, Int.reduceLT, Int.reduceNe, Int.reduceNeg, Int.reduceAdd, Int.reduceSub, Int.reduceMul, not_false_eq_true, not_true_eq_false, false_and, and_false, true_and, and_true, and_self, true_or, or_true, false_or, or_false, if_true, if_false, ite_true, ite_false, mj_tl_some, mj_tl_none, mj_cs0, mj_cs1, mj_cs2, mj_cs3, mj_cs4]
          refine wc.mono (c_putF fl) ?_
          rintro r M4 ⟨⟨i', rfl⟩, r4, fl4⟩
          simp only [w54_52, w54_53, w54_56, ai, ↓reduceIte, hh_wr, hl_wr, b10, b11, ite_not, ne_eq, Int.reduceEq, Int.reduceLE, Int.reduceLT, Int.reduceNe, Int.reduceNeg, Int.reduceAdd, Int.reduceSub, Int.reduceMul, not_false_eq_true, not_true_eq_false, false_and, and_false, true_and, and_true, and_self, true_or, or_true, false_or, or_false, if_true, if_false, ite_true, ite_false, mj_tl_some, mj_tl_none, mj_cs0, mj_cs1, mj_cs2, mj_cs3, mj_cs4]
          rw [w54_7]
          simp only [w54_8, w54_11, w54_14, w54_15, w54_18, w54_20, w54_23, w54_24, w54_27, w54_29, w54_59, fl4.t, ite_self, ↓reduceIte, hh_wr, hl_wr, b10, b11, ite_not, ne_eq, Int.reduceEq, Int.reduceLE, Int.reduceLT, Int.reduceNe, Int.reduceNeg, Int.reduceAdd, Int.reduceSub, Int.reduceMul, not_false_eq_true, not_true_eq_false, false_and, and_false, true_and, and_true, and_self, true_or, or_true, false_or, or_false, if_true, if_false, ite_true, ite_false, mj_tl_some, mj_tl_none, mj_cs0, mj_cs1, mj_cs2, mj_cs3, mj_cs4]
          exact Or.inr ⟨((c1.r.tr k2.cr).tr r3).tr r4, k, q, fl4, bd_mul g1 hk bd⟩
      rw [w54_7]
      rcases hk with hk | hk
      · rw [hk] at cont
        simp only [w54_8, w54_11, w54_14, w54_15, w54_18, w54_20, w54_23, w54_24, w54_27, w54_29, w54_32, w54_33, w54_36, p1.e6, hk, i3, ↓reduceIte, hh_wr, hl_wr, b10, b11, ite_not, ne_eq, Int.reduceEq, Int.reduceLE, Int.reduceLT, Int.reduceNe, Int.reduceNeg, Int.reduceAdd, Int.reduceSub, Int.reduceMul, not_false_eq_true, not_true_eq_false, false_and, and_false, true_and, and_true, and_self, true_or, or_true, false_or, or_false, if_true, if_false, ite_true, ite_false, mj_tl_some, mj_tl_none, mj_cs0, mj_cs1, mj_cs2, mj_cs3, mj_cs4]
        exact cont
      · rw [hk] at cont
        simp only [w54_8, w54_11, w54_14, w54_15, w54_18, w54_20, w54_23, w54_24, w54_27, w54_29, w54_32, w54_33, w54_36, p1.e6, hk, i3, ↓reduceIte, hh_wr, hl_wr, b10, b11, ite_not, ne_eq, Int.reduceEq, Int.reduceLE, Int.reduceLT, Int.reduceNe, Int.reduceNeg, Int.reduceAdd, Int.reduceSub, Int.reduceMul, not_false_eq_true, not_true_eq_false, false_and, and_false, true_and, and_true, and_self, true_or, or_true, false_or, or_false, if_true, if_false, ite_true, ite_false, mj_tl_some, mj_tl_none, mj_cs0, mj_cs1, mj_cs2, mj_cs3, mj_cs4]
        exact cont
    · have n32 : ¬ tK T L a1 = 32 := by omega
      have n33 : ¬ tK T L a1 = 33 := by omega
      rw [w54_7]
      simp only [w54_8, w54_11, w54_14, w54_15, w54_18, w54_20, w54_23, w54_24, w54_27, w54_29, w54_59, p1.e6, n32, n33, ite_self, ↓reduceIte, hh_wr, hl_wr, b10, b11, ite_not, ne_eq, Int.reduceEq, Int.reduceLE, Int.reduceLT, Int.reduceNe, Int.reduceNeg, Int.reduceAdd, Int.reduceSub, Int.reduceMul, not_false_eq_true, not_true_eq_false, false_and, and_false, true_and, and_true, and_self, true_or, or_true, false_or, or_false, if_true, if_false, ite_true, ite_false, mj_tl_some, mj_tl_none, mj_cs0, mj_cs1, mj_cs2, mj_cs3, mj_cs4]
      exact Or.inl ⟨c1, a1, cl1, rl1, f1, p1, l1, s1, x1, g1, by unfold fol at fo1 ⊢; omega⟩
theorem c_readProduct (hO : SpO X e T L t0 so m) (hm : m ≤ 8) : Sp X e T L t0 so 54 9 6 false 2 m := by
  intro M a b D hD h hin
  obtain ⟨D, rfl⟩ : ∃ D', D = D' + 1 := ⟨D - 1, by omega⟩
  show wp X (D + 1) 54 0 [(26, 351), (0, 8 - (m : Int)), (9, 0), (9, 0)] [] M _
  simp only [w54_0, w54_1, w54_2, ↓reduceIte, hh_wr, hl_wr, b10, b11, ite_not, ne_eq, Int.reduceEq, Int.reduceLE, Int.reduceLT, Int.reduceNe, Int.reduceNeg, Int.reduceAdd, Int.reduceSub, Int.reduceMul, not_false_eq_true, not_true_eq_false, false_and, and_false, true_and, and_true, and_self, true_or, or_true, false_or, or_false, if_true, if_false, ite_true, ite_false, mj_tl_some, mj_tl_none, mj_cs0, mj_cs1, mj_cs2, mj_cs3, mj_cs4]
  refine wc.mono (hO M a b D (by omega) h hin) ?_
  rintro r M1 ⟨rfl, ⟨c1, a1, cl1, rl1, f1, p1, l1, s1, x1, g1, fo1⟩ | ⟨r1, k, q, fl, bd⟩⟩
  · simp only [w54_5, w54_6, ↓reduceIte, hh_wr, hl_wr, b10, b11, ite_not, ne_eq, Int.reduceEq, Int.reduceLE, Int.reduceLT, Int.reduceNe, Int.reduceNeg, Int.reduceAdd, Int.reduceSub, Int.reduceMul, not_false_eq_true, not_true_eq_false, false_and, and_false, true_and, and_true, and_self, true_or, or_true, false_or, or_false, if_true, if_false, ite_true, ite_false, mj_tl_some, mj_tl_none, mj_cs0, mj_cs1, mj_cs2, mj_cs3, mj_cs4]
    exact c_readProductL hO hin hm (by omega) h.a0 h.c0 _ a1 0 M1 cl1 rl1 f1 _ rfl c1 p1 l1 s1 (x1.up (by omega)) (gd6 g1 (by omega)) fo1 (Int.le_refl _) (by omega)
  · simp only [w54_5, w54_6, w54_7, w54_8, w54_11, w54_14, w54_15, w54_18, w54_20, w54_23, w54_24, w54_27, w54_29, w54_59, fl.t, ite_self, ↓reduceIte, hh_wr, hl_wr, b10, b11, ite_not, ne_eq, Int.reduceEq, Int.reduceLE, Int.reduceLT, Int.reduceNe, Int.reduceNeg, Int.reduceAdd, Int.reduceSub, Int.reduceMul, not_false_eq_true, not_true_eq_false, false_and, and_false, true_and, and_true, and_self, true_or, or_true, false_or, or_false, if_true, if_false, ite_true, ite_false, mj_tl_some, mj_tl_none, mj_cs0, mj_cs1, mj_cs2, mj_cs3, mj_cs4]
    exact Or.inr ⟨r1, k, q, fl, bd6 bd⟩
theorem c_readSumL {M : mj_M} {a b : Int} (hO : Sp X e T L t0 so 54 9 6 false 2 m) (hin : hh M 351 8 = 1 - so) (hm : m ≤ 8) (hD : 9 + 8 * m ≤ D) (a0 : 0 ≤ a) (b0 : 0 ≤ b) : ∀ (n : Nat) (a1 i : Int) (M1 : mj_M) (cl1 : List Int) (rl1 : List (Int × Int)) (f1 : Env → Int) (w3 : mj_V), (L - a1).toNat = n → Cn b M M1 → CP M1 T L a1 (b + (cl1.length : Int)) → (cl1.length : Int) ≤ a1 - a → stands (hh M1 353) b cl1 → EX b cl1 rl1 false (5 * m + 3) f1 → Gd X e T L t0 so 5 (8 - (m : Int)) a a1 rl1 → fol 6 (tK T L a1) → 0 ≤ i → i ≤ a1 - a → wp X (D + 1) 53 7 [(26, 351), (0, 8 - (m : Int)), (0, i), w3] [] M1 (fun r M2 => r = none ∧ PG X e T L t0 so 5 false (5 * m + 3) (8 - (m : Int)) a b M M2) := by
  intro n
  induction n using Nat.strongRecOn with
  | _ n ih =>
    intro a1 i M1 cl1 rl1 f1 w3 hn c1 p1 l1 s1 x1 g1 fo1 i0 ia
    have l9 := p1.cx.tz.l9
    have aL := p1.aL
    by_cases hk : tK T L a1 = 30 ∨ tK T L a1 = 31
    · have lt := tE_lt aL (show tK T L a1 ≠ 40 by omega)
      have i3 : i < 300 := by omega
      have ai : ji_add i 1 = i + 1 := aj ⟨by omega, by omega⟩
      have in1 : hh M1 351 8 = 1 - so := (c1.f 8 (by omega)).trans hin
      have cont : wp X (D + 1) 53 37 [(26, 351), (0, 8 - (m : Int)), (0, i), (0, tK T L a1)] [] M1 (fun r M2 => r = none ∧ PG X e T L t0 so 5 false (5 * m + 3) (8 - (m : Int)) a b M M2) := by
        simp only [w53_37, w53_38, ↓reduceIte, hh_wr, hl_wr, b10, b11, ite_not, ne_eq, Int.reduceEq, Int.reduceLE, Int.reduceLT, Int.reduceNe, Int.reduceNeg, Int.reduceAdd, Int.reduceSub, Int.reduceMul, not_false_eq_true, not_true_eq_false, false_and, and_false, true_and, and_true, and_self, true_or, or_true, false_or, or_false, if_true, if_false, ite_true, ite_false, mj_tl_some, mj_tl_none, mj_cs0, mj_cs1, mj_cs2, mj_cs3, mj_cs4]
        refine wc.mono (c_nxP (by omega) p1 (by omega)) ?_
        rintro r M2 ⟨rfl, k2, p2⟩
        simp only [w53_41, w53_42, w53_43, ↓reduceIte, hh_wr, hl_wr, b10, b11, ite_not, ne_eq, Int.reduceEq, Int.reduceLE, Int.reduceLT, Int.reduceNe, Int.reduceNeg, Int.reduceAdd, Int.reduceSub, Int.reduceMul, not_false_eq_true, not_true_eq_false, false_and, and_false, true_and, and_true, and_self, true_or, or_true, false_or, or_false, if_true, if_false, ite_true, ite_false, mj_tl_some, mj_tl_none, mj_cs0, mj_cs1, mj_cs2, mj_cs3, mj_cs4]
        refine wc.mono (hO M2 (tE T L a1) (b + (cl1.length : Int)) D hD p2 ((k2.h _ _ (by decide)).trans in1)) ?_
        rintro r M3 ⟨rfl, ⟨c3, a2, cl2, rl2, f2, p3, l2, s2, x2, g2, fo2⟩ | ⟨r3, k, q, fl, bd⟩⟩
        · have ca := p1.ca
          have c0 := p1.c0
          have a2L := p3.aL
          have hput := fun Q => c_put0 (X := X) (D := D) (Q := Q) (t := tK T L a1) p3.cx.cs p3.c p3.c0 (by omega) (by omega)
          simp only [w53_46, w53_47, w53_48, w53_49, w53_52, w53_53, w53_56, hput, ai, ↓reduceIte, hh_wr, hl_wr, b10, b11, ite_not, ne_eq, Int.reduceEq, Int.reduceLE, Int.reduceLT, Int.reduceNe, Int.reduceNeg, Int.reduceAdd, Int.reduceSub, Int.reduceMul, not_false_eq_true, not_true_eq_false, false_and, and_false, true_and, and_true, and_self, true_or, or_true, false_or, or_false, if_true, if_false, ite_true, ite_false, mj_tl_some, mj_tl_none, mj_cs0, mj_cs1, mj_cs2, mj_cs3, mj_cs4]
          have s12 : stands (hh M2 353) b cl1 := s1.keep (fun j _ _ => k2.h _ _ (by omega))
          have c4 : Cn b M (mj_wr (mj_wr M3 353 (b + (cl1.length : Int) + (cl2.length : Int)) (tK T L a1)) 351 11 (b + (cl1.length : Int) + (cl2.length : Int) + 1)) := ((c1.tr (k2.cn (b := b)) (Int.le_refl _)).tr c3 (by omega)).put (by omega)
          have p4 := p3.put (v := tK T L a1) (by omega)
          have s4 := stands2p (M := M) (t := tK T L a1) (n := b + (cl1.length : Int) + (cl2.length : Int) + 1) s12 c3 s2
          rcases hk with hk | hk
          · have x4 := ex_two (o := 0) (t := false) (hg := 5 * m + 3) (by decide) (by decide) x1 x2 (Nat.le_refl _) (by omega)
            have g4 := gd_add (x := 6) g1 (by omega) g2
            rw [hk] at c4 p4 s4 ⊢
            refine ih (L - a2).toNat (by omega) a2 (i + 1) _ (cl1 ++ (cl2 ++ [tk2 0])) (rl1 ++ (rl2 ++ [(rk2 0, 0)])) _ _ rfl c4 ?_ ?_ s4 x4 g4 fo2 (by omega) (by omega)
            · rw [show b + ((cl1 ++ (cl2 ++ [tk2 0])).length : Int) = b + (cl1.length : Int) + (cl2.length : Int) + 1 by simp only [List.length_append, List.length_cons, List.length_nil]; omega]; exact p4
            · simp only [List.length_append, List.length_cons, List.length_nil]; omega
          · have x4 := ex_two (o := 1) (t := false) (hg := 5 * m + 3) (by decide) (by decide) x1 x2 (Nat.le_refl _) (by omega)
            have g4 := gd_add (x := 7) g1 (by omega) g2
            rw [hk] at c4 p4 s4 ⊢
            refine ih (L - a2).toNat (by omega) a2 (i + 1) _ (cl1 ++ (cl2 ++ [tk2 1])) (rl1 ++ (rl2 ++ [(rk2 1, 0)])) _ _ rfl c4 ?_ ?_ s4 x4 g4 fo2 (by omega) (by omega)
            · rw [show b + ((cl1 ++ (cl2 ++ [tk2 1])).length : Int) = b + (cl1.length : Int) + (cl2.length : Int) + 1 by simp only [List.length_append, List.length_cons, List.length_nil]; omega]; exact p4
            · simp only [List.length_append, List.length_cons, List.length_nil]; omega
        · simp only [w53_46, w53_47, w53_48, w53_49, ↓reduceIte, hh_wr, hl_wr, b10, b11, ite_not, ne_eq, Int.reduceEq, Int.reduceLE, Int.reduceLT, Int.reduceNe, Int.reduceNeg, Int.reduceAdd, Int.reduceSub, Int.reduceMul, not_false_eq_true, not_true_eq_false, false_and, and_false, true_and, and_true, and_self, true_or, or_true, false_or, or_false, if_true, if_false, ite_true, ite_false, mj_tl_some, mj_tl_none, mj_cs0, mj_cs1, mj_cs2, mj_cs3, mj_cs4]
          refine wc.mono (c_putF fl) ?_
          rintro r M4 ⟨⟨i', rfl⟩, r4, fl4⟩
          simp only [w53_52, w53_53, w53_56, ai, ↓reduceIte, hh_wr, hl_wr, b10, b11, ite_not, ne_eq, Int.reduceEq, Int.reduceLE, Int.reduceLT, Int.reduceNe, Int.reduceNeg, Int.reduceAdd, Int.reduceSub, Int.reduceMul, not_false_eq_true, not_true_eq_false, false_and, and_false, true_and, and_true, and_self, true_or, or_true, false_or, or_false, if_true, if_false, ite_true, ite_false, mj_tl_some, mj_tl_none, mj_cs0, mj_cs1, mj_cs2, mj_cs3, mj_cs4]
          rw [w53_7]
          simp only [w53_8, w53_11, w53_14, w53_15, w53_18, w53_20, w53_23, w53_24, w53_27, w53_29, w53_59, fl4.t, ite_self, ↓reduceIte, hh_wr, hl_wr, b10, b11, ite_not, ne_eq, Int.reduceEq, Int.reduceLE, Int.reduceLT, Int.reduceNe, Int.reduceNeg, Int.reduceAdd, Int.reduceSub, Int.reduceMul, not_false_eq_true, not_true_eq_false, false_and, and_false, true_and, and_true, and_self, true_or, or_true, false_or, or_false, if_true, if_false, ite_true, ite_false, mj_tl_some, mj_tl_none, mj_cs0, mj_cs1, mj_cs2, mj_cs3, mj_cs4]
          exact Or.inr ⟨((c1.r.tr k2.cr).tr r3).tr r4, k, q, fl4, bd_add g1 hk bd⟩
      rw [w53_7]
      rcases hk with hk | hk
      · rw [hk] at cont
        simp only [w53_8, w53_11, w53_14, w53_15, w53_18, w53_20, w53_23, w53_24, w53_27, w53_29, w53_32, w53_33, w53_36, p1.e6, hk, i3, ↓reduceIte, hh_wr, hl_wr, b10, b11, ite_not, ne_eq, Int.reduceEq, Int.reduceLE, Int.reduceLT, Int.reduceNe, Int.reduceNeg, Int.reduceAdd, Int.reduceSub, Int.reduceMul, not_false_eq_true, not_true_eq_false, false_and, and_false, true_and, and_true, and_self, true_or, or_true, false_or, or_false, if_true, if_false, ite_true, ite_false, mj_tl_some, mj_tl_none, mj_cs0, mj_cs1, mj_cs2, mj_cs3, mj_cs4]
        exact cont
      · rw [hk] at cont
        simp only [w53_8, w53_11, w53_14, w53_15, w53_18, w53_20, w53_23, w53_24, w53_27, w53_29, w53_32, w53_33, w53_36, p1.e6, hk, i3, ↓reduceIte, hh_wr, hl_wr, b10, b11, ite_not, ne_eq, Int.reduceEq, Int.reduceLE, Int.reduceLT, Int.reduceNe, Int.reduceNeg, Int.reduceAdd, Int.reduceSub, Int.reduceMul, not_false_eq_true, not_true_eq_false, false_and, and_false, true_and, and_true, and_self, true_or, or_true, false_or, or_false, if_true, if_false, ite_true, ite_false, mj_tl_some, mj_tl_none, mj_cs0, mj_cs1, mj_cs2, mj_cs3, mj_cs4]
        exact cont
    · have n30 : ¬ tK T L a1 = 30 := by omega
      have n31 : ¬ tK T L a1 = 31 := by omega
      rw [w53_7]
      simp only [w53_8, w53_11, w53_14, w53_15, w53_18, w53_20, w53_23, w53_24, w53_27, w53_29, w53_59, p1.e6, n30, n31, ite_self, ↓reduceIte, hh_wr, hl_wr, b10, b11, ite_not, ne_eq, Int.reduceEq, Int.reduceLE, Int.reduceLT, Int.reduceNe, Int.reduceNeg, Int.reduceAdd, Int.reduceSub, Int.reduceMul, not_false_eq_true, not_true_eq_false, false_and, and_false, true_and, and_true, and_self, true_or, or_true, false_or, or_false, if_true, if_false, ite_true, ite_false, mj_tl_some, mj_tl_none, mj_cs0, mj_cs1, mj_cs2, mj_cs3, mj_cs4]
      exact Or.inl ⟨c1, a1, cl1, rl1, f1, p1, l1, s1, x1, g1, by unfold fol at fo1 ⊢; omega⟩
theorem c_readSum (hO : Sp X e T L t0 so 54 9 6 false 2 m) (hm : m ≤ 8) : Sp X e T L t0 so 53 10 5 false 3 m := by
  intro M a b D hD h hin
  obtain ⟨D, rfl⟩ : ∃ D', D = D' + 1 := ⟨D - 1, by omega⟩
  show wp X (D + 1) 53 0 [(26, 351), (0, 8 - (m : Int)), (9, 0), (9, 0)] [] M _
  simp only [w53_0, w53_1, w53_2, ↓reduceIte, hh_wr, hl_wr, b10, b11, ite_not, ne_eq, Int.reduceEq, Int.reduceLE, Int.reduceLT, Int.reduceNe, Int.reduceNeg, Int.reduceAdd, Int.reduceSub, Int.reduceMul, not_false_eq_true, not_true_eq_false, false_and, and_false, true_and, and_true, and_self, true_or, or_true, false_or, or_false, if_true, if_false, ite_true, ite_false, mj_tl_some, mj_tl_none, mj_cs0, mj_cs1, mj_cs2, mj_cs3, mj_cs4]
  refine wc.mono (hO M a b D (by omega) h hin) ?_
  rintro r M1 ⟨rfl, ⟨c1, a1, cl1, rl1, f1, p1, l1, s1, x1, g1, fo1⟩ | ⟨r1, k, q, fl, bd⟩⟩
  · simp only [w53_5, w53_6, ↓reduceIte, hh_wr, hl_wr, b10, b11, ite_not, ne_eq, Int.reduceEq, Int.reduceLE, Int.reduceLT, Int.reduceNe, Int.reduceNeg, Int.reduceAdd, Int.reduceSub, Int.reduceMul, not_false_eq_true, not_true_eq_false, false_and, and_false, true_and, and_true, and_self, true_or, or_true, false_or, or_false, if_true, if_false, ite_true, ite_false, mj_tl_some, mj_tl_none, mj_cs0, mj_cs1, mj_cs2, mj_cs3, mj_cs4]
    exact c_readSumL hO hin hm (by omega) h.a0 h.c0 _ a1 0 M1 cl1 rl1 f1 _ rfl c1 p1 l1 s1 (x1.up (by omega)) (gd5 g1) fo1 (Int.le_refl _) (by omega)
  · simp only [w53_5, w53_6, w53_7, w53_8, w53_11, w53_14, w53_15, w53_18, w53_20, w53_23, w53_24, w53_27, w53_29, w53_59, fl.t, ite_self, ↓reduceIte, hh_wr, hl_wr, b10, b11, ite_not, ne_eq, Int.reduceEq, Int.reduceLE, Int.reduceLT, Int.reduceNe, Int.reduceNeg, Int.reduceAdd, Int.reduceSub, Int.reduceMul, not_false_eq_true, not_true_eq_false, false_and, and_false, true_and, and_true, and_self, true_or, or_true, false_or, or_false, if_true, if_false, ite_true, ite_false, mj_tl_some, mj_tl_none, mj_cs0, mj_cs1, mj_cs2, mj_cs3, mj_cs4]
    exact Or.inr ⟨r1, k, q, fl, bd5 bd⟩
theorem c_readBothL {M : mj_M} {a b : Int} (hO : Sp X e T L t0 so 64 11 3 true 4 m) (hin : hh M 351 8 = 1 - so) (hm : m ≤ 8) (hD : 11 + 8 * m ≤ D) (a0 : 0 ≤ a) (b0 : 0 ≤ b) : ∀ (n : Nat) (a1 i : Int) (M1 : mj_M) (cl1 : List Int) (rl1 : List (Int × Int)) (f1 : Env → Int), (L - a1).toNat = n → Cn b M M1 → CP M1 T L a1 (b + (cl1.length : Int)) → (cl1.length : Int) ≤ a1 - a → stands (hh M1 353) b cl1 → EX b cl1 rl1 true (5 * m + 5) f1 → Gd X e T L t0 so 2 (8 - (m : Int)) a a1 rl1 → fol 3 (tK T L a1) → 0 ≤ i → i ≤ a1 - a → wp X (D + 1) 63 7 [(26, 351), (0, 8 - (m : Int)), (0, i)] [] M1 (fun r M2 => r = none ∧ PG X e T L t0 so 2 true (5 * m + 5) (8 - (m : Int)) a b M M2) := by
  intro n
  induction n using Nat.strongRecOn with
  | _ n ih =>
    intro a1 i M1 cl1 rl1 f1 hn c1 p1 l1 s1 x1 g1 fo1 i0 ia
    have l9 := p1.cx.tz.l9
    have aL := p1.aL
    by_cases hk : tK T L a1 = 24
    · have lt := tE_lt aL (show tK T L a1 ≠ 40 by omega)
      have i3 : i < 300 := by omega
      have ai : ji_add i 1 = i + 1 := aj ⟨by omega, by omega⟩
      have in1 : hh M1 351 8 = 1 - so := (c1.f 8 (by omega)).trans hin
      have cont : wp X (D + 1) 63 23 [(26, 351), (0, 8 - (m : Int)), (0, i)] [] M1 (fun r M2 => r = none ∧ PG X e T L t0 so 2 true (5 * m + 5) (8 - (m : Int)) a b M M2) := by
        simp only [w63_23, w63_24, ↓reduceIte, hh_wr, hl_wr, b10, b11, ite_not, ne_eq, Int.reduceEq, Int.reduceLE, Int.reduceLT, Int.reduceNe, Int.reduceNeg, Int.reduceAdd, Int.reduceSub, Int.reduceMul, not_false_eq_true, not_true_eq_false, false_and, and_false, true_and, and_true, and_self, true_or, or_true, false_or, or_false, if_true, if_false, ite_true, ite_false, mj_tl_some, mj_tl_none, mj_cs0, mj_cs1, mj_cs2, mj_cs3, mj_cs4]
        refine wc.mono (c_nxP (by omega) p1 (by omega)) ?_
        rintro r M2 ⟨rfl, k2, p2⟩
        simp only [w63_27, w63_28, w63_29, ↓reduceIte, hh_wr, hl_wr, b10, b11, ite_not, ne_eq, Int.reduceEq, Int.reduceLE, Int.reduceLT, Int.reduceNe, Int.reduceNeg, Int.reduceAdd, Int.reduceSub, Int.reduceMul, not_false_eq_true, not_true_eq_false, false_and, and_false, true_and, and_true, and_self, true_or, or_true, false_or, or_false, if_true, if_false, ite_true, ite_false, mj_tl_some, mj_tl_none, mj_cs0, mj_cs1, mj_cs2, mj_cs3, mj_cs4]
        refine wc.mono (hO M2 (tE T L a1) (b + (cl1.length : Int)) D hD p2 ((k2.h _ _ (by decide)).trans in1)) ?_
        rintro r M3 ⟨rfl, ⟨c3, a2, cl2, rl2, f2, p3, l2, s2, x2, g2, fo2⟩ | ⟨r3, k, q, fl, bd⟩⟩
        · have ca := p1.ca
          have c0 := p1.c0
          have a2L := p3.aL
          have hput := fun Q => c_put0 (X := X) (D := D) (Q := Q) (t := 24) p3.cx.cs p3.c p3.c0 (by omega) (by omega)
          simp only [w63_32, w63_33, w63_35, w63_36, w63_39, w63_40, w63_43, hput, ai, ↓reduceIte, hh_wr, hl_wr, b10, b11, ite_not, ne_eq, Int.reduceEq, Int.reduceLE, Int.reduceLT, Int.reduceNe, Int.reduceNeg, Int.reduceAdd, Int.reduceSub, Int.reduceMul, not_false_eq_true, not_true_eq_false, false_and, and_false, true_and, and_true, and_self, true_or, or_true, false_or, or_false, if_true, if_false, ite_true, ite_false, mj_tl_some, mj_tl_none, mj_cs0, mj_cs1, mj_cs2, mj_cs3, mj_cs4]
          have s12 : stands (hh M2 353) b cl1 := s1.keep (fun j _ _ => k2.h _ _ (by omega))
          have c4 : Cn b M (mj_wr (mj_wr M3 353 (b + (cl1.length : Int) + (cl2.length : Int)) (24)) 351 11 (b + (cl1.length : Int) + (cl2.length : Int) + 1)) := ((c1.tr (k2.cn (b := b)) (Int.le_refl _)).tr c3 (by omega)).put (by omega)
          have p4 := p3.put (v := 24) (by omega)
          have s4 := stands2p (M := M) (t := 24) (n := b + (cl1.length : Int) + (cl2.length : Int) + 1) s12 c3 s2
          have x4 := ex_two (o := 10) (t := true) (hg := 5 * m + 5) (by decide) (by decide) x1 x2 (Nat.le_refl _) (by omega)
          have g4 := gd_and g1 hk g2
          refine ih (L - a2).toNat (by omega) a2 (i + 1) _ (cl1 ++ (cl2 ++ [tk2 10])) (rl1 ++ (rl2 ++ [(rk2 10, 0)])) _ rfl c4 ?_ ?_ s4 x4 g4 fo2 (by omega) (by omega)
          · rw [show b + ((cl1 ++ (cl2 ++ [tk2 10])).length : Int) = b + (cl1.length : Int) + (cl2.length : Int) + 1 by simp only [List.length_append, List.length_cons, List.length_nil]; omega]; exact p4
          · simp only [List.length_append, List.length_cons, List.length_nil]; omega
        · simp only [w63_32, w63_33, w63_35, w63_36, ↓reduceIte, hh_wr, hl_wr, b10, b11, ite_not, ne_eq, Int.reduceEq, Int.reduceLE, Int.reduceLT, Int.reduceNe, Int.reduceNeg, Int.reduceAdd, Int.reduceSub, Int.reduceMul, not_false_eq_true, not_true_eq_false, false_and, and_false, true_and, and_true, and_self, true_or, or_true, false_or, or_false, if_true, if_false, ite_true, ite_false, mj_tl_some, mj_tl_none, mj_cs0, mj_cs1, mj_cs2, mj_cs3, mj_cs4]
          refine wc.mono (c_putF fl) ?_
          rintro r M4 ⟨⟨i', rfl⟩, r4, fl4⟩
          simp only [w63_39, w63_40, w63_43, ai, ↓reduceIte, hh_wr, hl_wr, b10, b11, ite_not, ne_eq, Int.reduceEq, Int.reduceLE, Int.reduceLT, Int.reduceNe, Int.reduceNeg, Int.reduceAdd, Int.reduceSub, Int.reduceMul, not_false_eq_true, not_true_eq_false, false_and, and_false, true_and, and_true, and_self, true_or, or_true, false_or, or_false, if_true, if_false, ite_true, ite_false, mj_tl_some, mj_tl_none, mj_cs0, mj_cs1, mj_cs2, mj_cs3, mj_cs4]
          rw [w63_7]
          simp only [w63_8, w63_11, w63_14, w63_15, w63_18, w63_20, w63_46, fl4.t, ite_self, ↓reduceIte, hh_wr, hl_wr, b10, b11, ite_not, ne_eq, Int.reduceEq, Int.reduceLE, Int.reduceLT, Int.reduceNe, Int.reduceNeg, Int.reduceAdd, Int.reduceSub, Int.reduceMul, not_false_eq_true, not_true_eq_false, false_and, and_false, true_and, and_true, and_self, true_or, or_true, false_or, or_false, if_true, if_false, ite_true, ite_false, mj_tl_some, mj_tl_none, mj_cs0, mj_cs1, mj_cs2, mj_cs3, mj_cs4]
          exact Or.inr ⟨((c1.r.tr k2.cr).tr r3).tr r4, k, q, fl4, bd_and g1 hk bd⟩
      rw [w63_7]
      simp only [w63_8, w63_11, w63_14, w63_15, w63_18, w63_20, p1.e6, hk, i3, ↓reduceIte, hh_wr, hl_wr, b10, b11, ite_not, ne_eq, Int.reduceEq, Int.reduceLE, Int.reduceLT, Int.reduceNe, Int.reduceNeg, Int.reduceAdd, Int.reduceSub, Int.reduceMul, not_false_eq_true, not_true_eq_false, false_and, and_false, true_and, and_true, and_self, true_or, or_true, false_or, or_false, if_true, if_false, ite_true, ite_false, mj_tl_some, mj_tl_none, mj_cs0, mj_cs1, mj_cs2, mj_cs3, mj_cs4]
      exact cont
    · have n24 : ¬ tK T L a1 = 24 := by omega
      rw [w63_7]
      simp only [w63_8, w63_11, w63_14, w63_15, w63_18, w63_20, w63_46, p1.e6, n24, ite_self, ↓reduceIte, hh_wr, hl_wr, b10, b11, ite_not, ne_eq, Int.reduceEq, Int.reduceLE, Int.reduceLT, Int.reduceNe, Int.reduceNeg, Int.reduceAdd, Int.reduceSub, Int.reduceMul, not_false_eq_true, not_true_eq_false, false_and, and_false, true_and, and_true, and_self, true_or, or_true, false_or, or_false, if_true, if_false, ite_true, ite_false, mj_tl_some, mj_tl_none, mj_cs0, mj_cs1, mj_cs2, mj_cs3, mj_cs4]
      exact Or.inl ⟨c1, a1, cl1, rl1, f1, p1, l1, s1, x1, g1, by unfold fol at fo1 ⊢; omega⟩
theorem c_readBoth (hO : Sp X e T L t0 so 64 11 3 true 4 m) (hm : m ≤ 8) : Sp X e T L t0 so 63 12 2 true 5 m := by
  intro M a b D hD h hin
  obtain ⟨D, rfl⟩ : ∃ D', D = D' + 1 := ⟨D - 1, by omega⟩
  show wp X (D + 1) 63 0 [(26, 351), (0, 8 - (m : Int)), (9, 0)] [] M _
  simp only [w63_0, w63_1, w63_2, ↓reduceIte, hh_wr, hl_wr, b10, b11, ite_not, ne_eq, Int.reduceEq, Int.reduceLE, Int.reduceLT, Int.reduceNe, Int.reduceNeg, Int.reduceAdd, Int.reduceSub, Int.reduceMul, not_false_eq_true, not_true_eq_false, false_and, and_false, true_and, and_true, and_self, true_or, or_true, false_or, or_false, if_true, if_false, ite_true, ite_false, mj_tl_some, mj_tl_none, mj_cs0, mj_cs1, mj_cs2, mj_cs3, mj_cs4]
  refine wc.mono (hO M a b D (by omega) h hin) ?_
  rintro r M1 ⟨rfl, ⟨c1, a1, cl1, rl1, f1, p1, l1, s1, x1, g1, fo1⟩ | ⟨r1, k, q, fl, bd⟩⟩
  · simp only [w63_5, w63_6, ↓reduceIte, hh_wr, hl_wr, b10, b11, ite_not, ne_eq, Int.reduceEq, Int.reduceLE, Int.reduceLT, Int.reduceNe, Int.reduceNeg, Int.reduceAdd, Int.reduceSub, Int.reduceMul, not_false_eq_true, not_true_eq_false, false_and, and_false, true_and, and_true, and_self, true_or, or_true, false_or, or_false, if_true, if_false, ite_true, ite_false, mj_tl_some, mj_tl_none, mj_cs0, mj_cs1, mj_cs2, mj_cs3, mj_cs4]
    exact c_readBothL hO hin hm (by omega) h.a0 h.c0 _ a1 0 M1 cl1 rl1 f1 rfl c1 p1 l1 s1 (x1.up (by omega)) (gd2 g1) fo1 (Int.le_refl _) (by omega)
  · simp only [w63_5, w63_6, w63_7, w63_8, w63_11, w63_14, w63_15, w63_18, w63_20, w63_46, fl.t, ite_self, ↓reduceIte, hh_wr, hl_wr, b10, b11, ite_not, ne_eq, Int.reduceEq, Int.reduceLE, Int.reduceLT, Int.reduceNe, Int.reduceNeg, Int.reduceAdd, Int.reduceSub, Int.reduceMul, not_false_eq_true, not_true_eq_false, false_and, and_false, true_and, and_true, and_self, true_or, or_true, false_or, or_false, if_true, if_false, ite_true, ite_false, mj_tl_some, mj_tl_none, mj_cs0, mj_cs1, mj_cs2, mj_cs3, mj_cs4]
    exact Or.inr ⟨r1, k, q, fl, bd2 bd⟩
theorem c_readEitherL {M : mj_M} {a b : Int} (hO : Sp X e T L t0 so 63 12 2 true 5 m) (hin : hh M 351 8 = 1 - so) (hm : m ≤ 8) (hD : 12 + 8 * m ≤ D) (a0 : 0 ≤ a) (b0 : 0 ≤ b) : ∀ (n : Nat) (a1 i : Int) (M1 : mj_M) (cl1 : List Int) (rl1 : List (Int × Int)) (f1 : Env → Int), (L - a1).toNat = n → Cn b M M1 → CP M1 T L a1 (b + (cl1.length : Int)) → (cl1.length : Int) ≤ a1 - a → stands (hh M1 353) b cl1 → EX b cl1 rl1 true (5 * m + 6) f1 → Gd X e T L t0 so 1 (8 - (m : Int)) a a1 rl1 → fol 2 (tK T L a1) → 0 ≤ i → i ≤ a1 - a → wp X (D + 1) 62 7 [(26, 351), (0, 8 - (m : Int)), (0, i)] [] M1 (fun r M2 => r = none ∧ PG X e T L t0 so 1 true (5 * m + 6) (8 - (m : Int)) a b M M2) := by
  intro n
  induction n using Nat.strongRecOn with
  | _ n ih =>
    intro a1 i M1 cl1 rl1 f1 hn c1 p1 l1 s1 x1 g1 fo1 i0 ia
    have l9 := p1.cx.tz.l9
    have aL := p1.aL
    by_cases hk : tK T L a1 = 23
    · have lt := tE_lt aL (show tK T L a1 ≠ 40 by omega)
      have i3 : i < 300 := by omega
      have ai : ji_add i 1 = i + 1 := aj ⟨by omega, by omega⟩
      have in1 : hh M1 351 8 = 1 - so := (c1.f 8 (by omega)).trans hin
      have cont : wp X (D + 1) 62 23 [(26, 351), (0, 8 - (m : Int)), (0, i)] [] M1 (fun r M2 => r = none ∧ PG X e T L t0 so 1 true (5 * m + 6) (8 - (m : Int)) a b M M2) := by
        simp only [w62_23, w62_24, ↓reduceIte, hh_wr, hl_wr, b10, b11, ite_not, ne_eq, Int.reduceEq, Int.reduceLE, Int.reduceLT, Int.reduceNe, Int.reduceNeg, Int.reduceAdd, Int.reduceSub, Int.reduceMul, not_false_eq_true, not_true_eq_false, false_and, and_false, true_and, and_true, and_self, true_or, or_true, false_or, or_false, if_true, if_false, ite_true, ite_false, mj_tl_some, mj_tl_none, mj_cs0, mj_cs1, mj_cs2, mj_cs3, mj_cs4]
        refine wc.mono (c_nxP (by omega) p1 (by omega)) ?_
        rintro r M2 ⟨rfl, k2, p2⟩
        simp only [w62_27, w62_28, w62_29, ↓reduceIte, hh_wr, hl_wr, b10, b11, ite_not, ne_eq, Int.reduceEq, Int.reduceLE, Int.reduceLT, Int.reduceNe, Int.reduceNeg, Int.reduceAdd, Int.reduceSub, Int.reduceMul, not_false_eq_true, not_true_eq_false, false_and, and_false, true_and, and_true, and_self, true_or, or_true, false_or, or_false, if_true, if_false, ite_true, ite_false, mj_tl_some, mj_tl_none, mj_cs0, mj_cs1, mj_cs2, mj_cs3, mj_cs4]
        refine wc.mono (hO M2 (tE T L a1) (b + (cl1.length : Int)) D hD p2 ((k2.h _ _ (by decide)).trans in1)) ?_
        rintro r M3 ⟨rfl, ⟨c3, a2, cl2, rl2, f2, p3, l2, s2, x2, g2, fo2⟩ | ⟨r3, k, q, fl, bd⟩⟩
        · have ca := p1.ca
          have c0 := p1.c0
          have a2L := p3.aL
          have hput := fun Q => c_put0 (X := X) (D := D) (Q := Q) (t := 23) p3.cx.cs p3.c p3.c0 (by omega) (by omega)
          simp only [w62_32, w62_33, w62_35, w62_36, w62_39, w62_40, w62_43, hput, ai, ↓reduceIte, hh_wr, hl_wr, b10, b11, ite_not, ne_eq, Int.reduceEq, Int.reduceLE, Int.reduceLT, Int.reduceNe, Int.reduceNeg, Int.reduceAdd, Int.reduceSub, Int.reduceMul, not_false_eq_true, not_true_eq_false, false_and, and_false, true_and, and_true, and_self, true_or, or_true, false_or, or_false, if_true, if_false, ite_true, ite_false, mj_tl_some, mj_tl_none, mj_cs0, mj_cs1, mj_cs2, mj_cs3, mj_cs4]
          have s12 : stands (hh M2 353) b cl1 := s1.keep (fun j _ _ => k2.h _ _ (by omega))
          have c4 : Cn b M (mj_wr (mj_wr M3 353 (b + (cl1.length : Int) + (cl2.length : Int)) (23)) 351 11 (b + (cl1.length : Int) + (cl2.length : Int) + 1)) := ((c1.tr (k2.cn (b := b)) (Int.le_refl _)).tr c3 (by omega)).put (by omega)
          have p4 := p3.put (v := 23) (by omega)
          have s4 := stands2p (M := M) (t := 23) (n := b + (cl1.length : Int) + (cl2.length : Int) + 1) s12 c3 s2
          have x4 := ex_two (o := 11) (t := true) (hg := 5 * m + 6) (by decide) (by decide) x1 x2 (Nat.le_refl _) (by omega)
          have g4 := gd_or g1 hk g2
          refine ih (L - a2).toNat (by omega) a2 (i + 1) _ (cl1 ++ (cl2 ++ [tk2 11])) (rl1 ++ (rl2 ++ [(rk2 11, 0)])) _ rfl c4 ?_ ?_ s4 x4 g4 fo2 (by omega) (by omega)
          · rw [show b + ((cl1 ++ (cl2 ++ [tk2 11])).length : Int) = b + (cl1.length : Int) + (cl2.length : Int) + 1 by simp only [List.length_append, List.length_cons, List.length_nil]; omega]; exact p4
          · simp only [List.length_append, List.length_cons, List.length_nil]; omega
        · simp only [w62_32, w62_33, w62_35, w62_36, ↓reduceIte, hh_wr, hl_wr, b10, b11, ite_not, ne_eq, Int.reduceEq, Int.reduceLE, Int.reduceLT, Int.reduceNe, Int.reduceNeg, Int.reduceAdd, Int.reduceSub, Int.reduceMul, not_false_eq_true, not_true_eq_false, false_and, and_false, true_and, and_true, and_self, true_or, or_true, false_or, or_false, if_true, if_false, ite_true, ite_false, mj_tl_some, mj_tl_none, mj_cs0, mj_cs1, mj_cs2, mj_cs3, mj_cs4]
          refine wc.mono (c_putF fl) ?_
          rintro r M4 ⟨⟨i', rfl⟩, r4, fl4⟩
          simp only [w62_39, w62_40, w62_43, ai, ↓reduceIte, hh_wr, hl_wr, b10, b11, ite_not, ne_eq, Int.reduceEq, Int.reduceLE, Int.reduceLT, Int.reduceNe, Int.reduceNeg, Int.reduceAdd, Int.reduceSub, Int.reduceMul, not_false_eq_true, not_true_eq_false, false_and, and_false, true_and, and_true, and_self, true_or, or_true, false_or, or_false, if_true, if_false, ite_true, ite_false, mj_tl_some, mj_tl_none, mj_cs0, mj_cs1, mj_cs2, mj_cs3, mj_cs4]
          rw [w62_7]
          simp only [w62_8, w62_11, w62_14, w62_15, w62_18, w62_20, w62_46, fl4.t, ite_self, ↓reduceIte, hh_wr, hl_wr, b10, b11, ite_not, ne_eq, Int.reduceEq, Int.reduceLE, Int.reduceLT, Int.reduceNe, Int.reduceNeg, Int.reduceAdd, Int.reduceSub, Int.reduceMul, not_false_eq_true, not_true_eq_false, false_and, and_false, true_and, and_true, and_self, true_or, or_true, false_or, or_false, if_true, if_false, ite_true, ite_false, mj_tl_some, mj_tl_none, mj_cs0, mj_cs1, mj_cs2, mj_cs3, mj_cs4]
          exact Or.inr ⟨((c1.r.tr k2.cr).tr r3).tr r4, k, q, fl4, bd_or g1 hk bd⟩
      rw [w62_7]
      simp only [w62_8, w62_11, w62_14, w62_15, w62_18, w62_20, p1.e6, hk, i3, ↓reduceIte, hh_wr, hl_wr, b10, b11, ite_not, ne_eq, Int.reduceEq, Int.reduceLE, Int.reduceLT, Int.reduceNe, Int.reduceNeg, Int.reduceAdd, Int.reduceSub, Int.reduceMul, not_false_eq_true, not_true_eq_false, false_and, and_false, true_and, and_true, and_self, true_or, or_true, false_or, or_false, if_true, if_false, ite_true, ite_false, mj_tl_some, mj_tl_none, mj_cs0, mj_cs1, mj_cs2, mj_cs3, mj_cs4]
      exact cont
    · have n23 : ¬ tK T L a1 = 23 := by omega
      rw [w62_7]
      simp only [w62_8, w62_11, w62_14, w62_15, w62_18, w62_20, w62_46, p1.e6, n23, ite_self, ↓reduceIte, hh_wr, hl_wr, b10, b11, ite_not, ne_eq, Int.reduceEq, Int.reduceLE, Int.reduceLT, Int.reduceNe, Int.reduceNeg, Int.reduceAdd, Int.reduceSub, Int.reduceMul, not_false_eq_true, not_true_eq_false, false_and, and_false, true_and, and_true, and_self, true_or, or_true, false_or, or_false, if_true, if_false, ite_true, ite_false, mj_tl_some, mj_tl_none, mj_cs0, mj_cs1, mj_cs2, mj_cs3, mj_cs4]
      exact Or.inl ⟨c1, a1, cl1, rl1, f1, p1, l1, s1, x1, g1, by unfold fol at fo1 ⊢; omega⟩
theorem c_readEither (hO : Sp X e T L t0 so 63 12 2 true 5 m) (hm : m ≤ 8) : Sp X e T L t0 so 62 13 1 true 6 m := by
  intro M a b D hD h hin
  obtain ⟨D, rfl⟩ : ∃ D', D = D' + 1 := ⟨D - 1, by omega⟩
  show wp X (D + 1) 62 0 [(26, 351), (0, 8 - (m : Int)), (9, 0)] [] M _
  simp only [w62_0, w62_1, w62_2, ↓reduceIte, hh_wr, hl_wr, b10, b11, ite_not, ne_eq, Int.reduceEq, Int.reduceLE, Int.reduceLT, Int.reduceNe, Int.reduceNeg, Int.reduceAdd, Int.reduceSub, Int.reduceMul, not_false_eq_true, not_true_eq_false, false_and, and_false, true_and, and_true, and_self, true_or, or_true, false_or, or_false, if_true, if_false, ite_true, ite_false, mj_tl_some, mj_tl_none, mj_cs0, mj_cs1, mj_cs2, mj_cs3, mj_cs4]
  refine wc.mono (hO M a b D (by omega) h hin) ?_
  rintro r M1 ⟨rfl, ⟨c1, a1, cl1, rl1, f1, p1, l1, s1, x1, g1, fo1⟩ | ⟨r1, k, q, fl, bd⟩⟩
  · simp only [w62_5, w62_6, ↓reduceIte, hh_wr, hl_wr, b10, b11, ite_not, ne_eq, Int.reduceEq, Int.reduceLE, Int.reduceLT, Int.reduceNe, Int.reduceNeg, Int.reduceAdd, Int.reduceSub, Int.reduceMul, not_false_eq_true, not_true_eq_false, false_and, and_false, true_and, and_true, and_self, true_or, or_true, false_or, or_false, if_true, if_false, ite_true, ite_false, mj_tl_some, mj_tl_none, mj_cs0, mj_cs1, mj_cs2, mj_cs3, mj_cs4]
    exact c_readEitherL hO hin hm (by omega) h.a0 h.c0 _ a1 0 M1 cl1 rl1 f1 rfl c1 p1 l1 s1 (x1.up (by omega)) (gd1 g1) fo1 (Int.le_refl _) (by omega)
  · simp only [w62_5, w62_6, w62_7, w62_8, w62_11, w62_14, w62_15, w62_18, w62_20, w62_46, fl.t, ite_self, ↓reduceIte, hh_wr, hl_wr, b10, b11, ite_not, ne_eq, Int.reduceEq, Int.reduceLE, Int.reduceLT, Int.reduceNe, Int.reduceNeg, Int.reduceAdd, Int.reduceSub, Int.reduceMul, not_false_eq_true, not_true_eq_false, false_and, and_false, true_and, and_true, and_self, true_or, or_true, false_or, or_false, if_true, if_false, ite_true, ite_false, mj_tl_some, mj_tl_none, mj_cs0, mj_cs1, mj_cs2, mj_cs3, mj_cs4]
    exact Or.inr ⟨r1, k, q, fl, bd1 bd⟩
end CSum
