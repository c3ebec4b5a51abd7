/-! THE REFERENCE LAYS THE SAYINGS: all -/
section Say3
variable {X : mj_X} {d : Nat} {M : mj_M} {Q : Option mj_V → mj_M → Prop}
theorem say_e (hc : CS M) (ht : ∀ i : Nat, i < 600 → hh M 359 (i : Int) = pT (i : Int)) {k a : Nat} (hk : k < 5) (ha : a < 5) : ∀ (m b : Nat) (M1 : mj_M) (v : mj_V), b + m = 5 → a ≤ b → TI M M1 (nbS k a b) → (∀ M2 v, TI M M2 (nbS k a 5) → wp X (d + 3) 191 145 [(32, 354), (0, ((nbS k a 5 : Nat) : Int)), (0, (k : Int)), (0, (a : Int)), (0, 5), v] [] M2 Q) → wp X (d + 3) 191 19 [(32, 354), (0, ((nbS k a b : Nat) : Int)), (0, (k : Int)), (0, (a : Int)), (0, (b : Int)), v] [] M1 Q := by
  intro m
  induction m with
  | zero =>
    intro b M1 v hb hab I hq
    have : b = 5 := by omega
    subst this
    rw [w191_19]
    simp only [w191_21, w191_22, show ¬ (((5 : Nat) : Int) < 5) by decide, ↓reduceIte, hh_wr, hl_wr, b10, b11, ite_not, ne_eq, Int.reduceEq, Int.reduceLE, Int.reduceLT, Int.reduceNe, Int.reduceNeg, Int.reduceAdd, Int.reduceSub, Int.reduceMul, not_false_eq_true, not_true_eq_false, false_and, and_false, true_and, and_true, and_self, true_or, or_true, false_or, or_false, if_true, if_false, ite_true, ite_false, mj_tl_some, mj_tl_none, mj_cs0, mj_cs1, mj_cs2, mj_cs3, mj_cs4]
    exact hq M1 v I
  | succ m ih =>
    intro b M1 v hb hab I hq
    have c1 := I.cs hc
    have t1 : ∀ i : Nat, i < 600 → hh M1 359 (i : Int) = pT (i : Int) := fun i hi => by rw [I.h 359 _ (by decide) (by decide) (by decide)]; exact ht i hi
    have sy := fun Q => m_isSaying (X := X) (d := d) (M := M1) (Q := Q) (k := (k : Int)) (a := (a : Int)) (b := (b : Int))
    have s0 := fun Q => m_isSo0 (X := X) (d := d + 1) (Q := Q) (o := 0) (k := (k : Int)) (a := (a : Int)) (b := (b : Int)) c1 t1 (by decide) ⟨by omega, by omega⟩ ⟨by omega, by omega⟩ ⟨by omega, by omega⟩
    have ab : ji_add (b : Int) 1 = ((b + 1 : Nat) : Int) := jp1 (by omega)
    rcases say_1 hk ha (show b < 5 by omega) hab with ⟨ok, n20, esy, en⟩ | ⟨ok, en⟩
    · obtain ⟨q1, q2⟩ := (Bool.and_eq_true _ _).mp ok
      have i4 := say_4 (nbS k a b) n20
      rw [esy] at i4
      have ih' := ih (b + 1)
      rw [en] at ih'
      have z0 := I.z (nbS k a b) (Nat.le_refl _)
      generalize hn : nbS k a b = n at *
      rw [w191_19]
      simp only [w191_21, w191_22, w191_25, w191_26, w191_27, w191_29, w191_32, w191_35, w191_36, w191_37, w191_38, w191_39, w191_41, w191_44, w191_47, w191_50, w191_51, w191_54, w191_55, w191_56, w191_57, w191_58, c_354_5 c1, l_360 c1, sy, s0, q1, q2, show (b : Int) < 5 by omega, show (0 : Int) ≤ (n : Int) by omega, show (n : Int) < 20 by omega, ↓reduceIte, hh_wr, hl_wr, b10, b11, ite_not, ne_eq, Int.reduceEq, Int.reduceLE, Int.reduceLT, Int.reduceNe, Int.reduceNeg, Int.reduceAdd, Int.reduceSub, Int.reduceMul, not_false_eq_true, not_true_eq_false, false_and, and_false, true_and, and_true, and_self, true_or, or_true, false_or, or_false, if_true, if_false, ite_true, ite_false, mj_tl_some, mj_tl_none, mj_cs0, mj_cs1, mj_cs2, mj_cs3, mj_cs4]
      have cw : CS (mj_wr M1 360 (n : Int) (k : Int)) := c1.wa (by decide +kernel)
      refine say_60 n20 hk ha (show b < 5 by omega) cw (fun i hi => by rw [hh_wr, if_neg (by omega)]; exact t1 i hi) 60 0 _ (by omega) (fun _ _ _ => rfl) (fun _ => rfl) rfl rfl (by rw [hh_wr, if_neg (by omega)]; exact z0.1) (by rw [hh_wr, if_neg (by omega)]; exact z0.2) (fun M2 f l n1 s1 e1 e2 v2 => ?_)
      simp only [w191_136, w191_139, w191_142, jp1 (p := n) (by omega), ab, ↓reduceIte, hh_wr, hl_wr, b10, b11, ite_not, ne_eq, Int.reduceEq, Int.reduceLE, Int.reduceLT, Int.reduceNe, Int.reduceNeg, Int.reduceAdd, Int.reduceSub, Int.reduceMul, not_false_eq_true, not_true_eq_false, false_and, and_false, true_and, and_true, and_self, true_or, or_true, false_or, or_false, if_true, if_false, ite_true, ite_false, mj_tl_some, mj_tl_none, mj_cs0, mj_cs1, mj_cs2, mj_cs3, mj_cs4]
      refine ih' M2 _ (by omega) (by omega) ⟨fun x j x0 x1 x2 => ?_, fun x => (l x).trans (I.l x), n1.trans I.n, s1.trans I.s, fun i hi => ?_, fun i hi => ?_, fun i hi => ?_, fun i hi => ⟨?_, ?_⟩⟩ hq
      · rw [f x j (by omega), hh_wr, if_neg (by omega)]; exact I.h x j x0 x1 x2
      · rw [f 360 i (by omega), hh_wr]
        by_cases c : i = n
        · rw [c, if_pos ⟨rfl, rfl⟩]; exact i4.1.symm
        · rw [if_neg (by omega)]; exact I.k i (by omega)
      · by_cases c : i = n
        · rw [c, e1]; exact i4.2.1
        · rw [f 361 i (by omega), hh_wr, if_neg (by omega)]; exact I.lo i (by omega)
      · by_cases c : i = n
        · rw [c, e2]; exact i4.2.2
        · rw [f 362 i (by omega), hh_wr, if_neg (by omega)]; exact I.hi i (by omega)
      · rw [f 361 i (by omega), hh_wr, if_neg (by omega)]; exact (I.z i (by omega)).1
      · rw [f 362 i (by omega), hh_wr, if_neg (by omega)]; exact (I.z i (by omega)).2
    · have ih' := ih (b + 1)
      rw [en] at ih'
      rw [w191_19]
      by_cases q1 : isS (k : Int) (a : Int) (b : Int) = true
      · have q2 : ¬ so 0 (k : Int) (a : Int) (b : Int) = true := fun q => by unfold okS at ok; rw [q1, q] at ok; cases ok
        simp only [w191_21, w191_22, w191_25, w191_26, w191_27, w191_29, w191_32, w191_35, w191_36, w191_37, w191_38, w191_39, w191_41, w191_44, w191_47, w191_139, w191_142, sy, s0, q1, q2, ab, Bool.false_eq_true, show (b : Int) < 5 by omega, ↓reduceIte, hh_wr, hl_wr, b10, b11, ite_not, ne_eq, Int.reduceEq, Int.reduceLE, Int.reduceLT, Int.reduceNe, Int.reduceNeg, Int.reduceAdd, Int.reduceSub, Int.reduceMul, not_false_eq_true, not_true_eq_false, false_and, and_false, true_and, and_true, and_self, true_or, or_true, false_or, or_false, if_true, if_false, ite_true, ite_false, mj_tl_some, mj_tl_none, mj_cs0, mj_cs1, mj_cs2, mj_cs3, mj_cs4]
        exact ih' M1 v (by omega) (by omega) I hq
      · simp only [w191_21, w191_22, w191_25, w191_26, w191_27, w191_29, w191_32, w191_139, w191_142, sy, q1, ab, Bool.false_eq_true, show (b : Int) < 5 by omega, ↓reduceIte, hh_wr, hl_wr, b10, b11, ite_not, ne_eq, Int.reduceEq, Int.reduceLE, Int.reduceLT, Int.reduceNe, Int.reduceNeg, Int.reduceAdd, Int.reduceSub, Int.reduceMul, not_false_eq_true, not_true_eq_false, false_and, and_false, true_and, and_true, and_self, true_or, or_true, false_or, or_false, if_true, if_false, ite_true, ite_false, mj_tl_some, mj_tl_none, mj_cs0, mj_cs1, mj_cs2, mj_cs3, mj_cs4]
        exact ih' M1 v (by omega) (by omega) I hq
theorem say_d (hc : CS M) (ht : ∀ i : Nat, i < 600 → hh M 359 (i : Int) = pT (i : Int)) {k : Nat} (hk : k < 5) : ∀ (m a : Nat) (M1 : mj_M) (v4 v : mj_V), a + m = 5 → TI M M1 (nbS k a a) → (∀ M2 v4 v, TI M M2 (nbS k 5 5) → wp X (d + 3) 191 151 [(32, 354), (0, ((nbS k 5 5 : Nat) : Int)), (0, (k : Int)), (0, 5), v4, v] [] M2 Q) → wp X (d + 3) 191 11 [(32, 354), (0, ((nbS k a a : Nat) : Int)), (0, (k : Int)), (0, (a : Int)), v4, v] [] M1 Q := by
  intro m
  induction m with
  | zero =>
    intro a M1 v4 v ha I hq
    have : a = 5 := by omega
    subst this
    rw [w191_11]
    simp only [w191_12, w191_13, show ¬ (((5 : Nat) : Int) < 5) by decide, ↓reduceIte, hh_wr, hl_wr, b10, b11, ite_not, ne_eq, Int.reduceEq, Int.reduceLE, Int.reduceLT, Int.reduceNe, Int.reduceNeg, Int.reduceAdd, Int.reduceSub, Int.reduceMul, not_false_eq_true, not_true_eq_false, false_and, and_false, true_and, and_true, and_self, true_or, or_true, false_or, or_false, if_true, if_false, ite_true, ite_false, mj_tl_some, mj_tl_none, mj_cs0, mj_cs1, mj_cs2, mj_cs3, mj_cs4]
    exact hq M1 v4 v I
  | succ m ih =>
    intro a M1 v4 v ha I hq
    have e2 := say_2 k hk a (by omega)
    have aa : ji_add (a : Int) 1 = ((a + 1 : Nat) : Int) := jp1 (by omega)
    rw [w191_11]
    simp only [w191_12, w191_13, w191_16, w191_17, show (a : Int) < 5 by omega, ↓reduceIte, hh_wr, hl_wr, b10, b11, ite_not, ne_eq, Int.reduceEq, Int.reduceLE, Int.reduceLT, Int.reduceNe, Int.reduceNeg, Int.reduceAdd, Int.reduceSub, Int.reduceMul, not_false_eq_true, not_true_eq_false, false_and, and_false, true_and, and_true, and_self, true_or, or_true, false_or, or_false, if_true, if_false, ite_true, ite_false, mj_tl_some, mj_tl_none, mj_cs0, mj_cs1, mj_cs2, mj_cs3, mj_cs4]
    refine say_e hc ht hk (show a < 5 by omega) (5 - a) a M1 v (by omega) (Nat.le_refl _) I (fun M2 v2 I2 => ?_)
    simp only [w191_145, w191_148, aa, ↓reduceIte, hh_wr, hl_wr, b10, b11, ite_not, ne_eq, Int.reduceEq, Int.reduceLE, Int.reduceLT, Int.reduceNe, Int.reduceNeg, Int.reduceAdd, Int.reduceSub, Int.reduceMul, not_false_eq_true, not_true_eq_false, false_and, and_false, true_and, and_true, and_self, true_or, or_true, false_or, or_false, if_true, if_false, ite_true, ite_false, mj_tl_some, mj_tl_none, mj_cs0, mj_cs1, mj_cs2, mj_cs3, mj_cs4]
    rw [e2] at I2 ⊢
    exact ih (a + 1) M2 _ v2 (by omega) I2 hq
theorem m_laySayings (hc : CS M) (ht : ∀ i : Nat, i < 600 → hh M 359 (i : Int) = pT (i : Int)) (hz : ∀ i : Nat, hh M 361 (i : Int) = 0 ∧ hh M 362 (i : Int) = 0) : wc X (d + 3) 191 [(32, 354)] M (fun r M1 => r = none ∧ TI M M1 20) := by
  show wp X (d + 3) 191 0 [(32, 354), (9, 0), (9, 0), (9, 0), (9, 0), (9, 0)] [] M _
  simp only [w191_0, w191_1, w191_2, w191_3, ↓reduceIte, hh_wr, hl_wr, b10, b11, ite_not, ne_eq, Int.reduceEq, Int.reduceLE, Int.reduceLT, Int.reduceNe, Int.reduceNeg, Int.reduceAdd, Int.reduceSub, Int.reduceMul, not_false_eq_true, not_true_eq_false, false_and, and_false, true_and, and_true, and_self, true_or, or_true, false_or, or_false, if_true, if_false, ite_true, ite_false, mj_tl_some, mj_tl_none, mj_cs0, mj_cs1, mj_cs2, mj_cs3, mj_cs4]
  have outer : ∀ (m k : Nat) (M1 : mj_M) (v3 v4 v : mj_V), k + m = 5 → TI M M1 (nbS k 0 0) → wp X (d + 3) 191 4 [(32, 354), (0, ((nbS k 0 0 : Nat) : Int)), (0, (k : Int)), v3, v4, v] [] M1 (fun r M1 => r = none ∧ TI M M1 20) := by
    intro m
    induction m with
    | zero =>
      intro k M1 v3 v4 v hk I
      have : k = 5 := by omega
      subst this
      rw [say_3.2.2] at I
      rw [w191_4]
      simp only [w191_5, w191_6, w191_157, show ¬ (((5 : Nat) : Int) < 5) by decide, ↓reduceIte, hh_wr, hl_wr, b10, b11, ite_not, ne_eq, Int.reduceEq, Int.reduceLE, Int.reduceLT, Int.reduceNe, Int.reduceNeg, Int.reduceAdd, Int.reduceSub, Int.reduceMul, not_false_eq_true, not_true_eq_false, false_and, and_false, true_and, and_true, and_self, true_or, or_true, false_or, or_false, if_true, if_false, ite_true, ite_false, mj_tl_some, mj_tl_none, mj_cs0, mj_cs1, mj_cs2, mj_cs3, mj_cs4]
      exact I
    | succ m ih =>
      intro k M1 v3 v4 v hk I
      have e3 := say_3.1 k (by omega)
      have ak : ji_add (k : Int) 1 = ((k + 1 : Nat) : Int) := jp1 (by omega)
      rw [w191_4]
      simp only [w191_5, w191_6, w191_9, w191_10, show (k : Int) < 5 by omega, ↓reduceIte, hh_wr, hl_wr, b10, b11, ite_not, ne_eq, Int.reduceEq, Int.reduceLE, Int.reduceLT, Int.reduceNe, Int.reduceNeg, Int.reduceAdd, Int.reduceSub, Int.reduceMul, not_false_eq_true, not_true_eq_false, false_and, and_false, true_and, and_true, and_self, true_or, or_true, false_or, or_false, if_true, if_false, ite_true, ite_false, mj_tl_some, mj_tl_none, mj_cs0, mj_cs1, mj_cs2, mj_cs3, mj_cs4]
      refine say_d hc ht (show k < 5 by omega) 5 0 M1 v4 v (by omega) I (fun M2 v4 v I2 => ?_)
      simp only [w191_151, w191_154, ak, ↓reduceIte, hh_wr, hl_wr, b10, b11, ite_not, ne_eq, Int.reduceEq, Int.reduceLE, Int.reduceLT, Int.reduceNe, Int.reduceNeg, Int.reduceAdd, Int.reduceSub, Int.reduceMul, not_false_eq_true, not_true_eq_false, false_and, and_false, true_and, and_true, and_self, true_or, or_true, false_or, or_false, if_true, if_false, ite_true, ite_false, mj_tl_some, mj_tl_none, mj_cs0, mj_cs1, mj_cs2, mj_cs3, mj_cs4]
      rw [e3] at I2 ⊢
      exact ih (k + 1) M2 _ v4 v (by omega) I2
  have st := outer 5 0 M (9, 0) (9, 0) (9, 0) (by omega) (by rw [say_3.2.1]; exact ⟨fun _ _ _ _ _ => rfl, fun _ => rfl, rfl, rfl, fun i hi => by omega, fun i hi => by omega, fun i hi => by omega, fun i _ => hz i⟩)
  rw [say_3.2.1] at st
  exact st
end Say3
