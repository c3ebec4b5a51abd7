/-! THE MAKER OF THE ORDERS -/
/-- just the cells a and b are changed -/
def K2 (a b : Int) (M M1 : mj_M) : Prop := (∀ x j, x ≠ a → x ≠ b → hh M1 x j = hh M x j) ∧ (∀ x, hl M1 x = hl M x) ∧ (M1.1 = M.1) ∧ (M1.2.1 = M.2.1)
theorem K2.h {a b : Int} {M M1 : mj_M} (h : K2 a b M M1) : ∀ x j, x ≠ a → x ≠ b → hh M1 x j = hh M x j := h.1
theorem K2.l {a b : Int} {M M1 : mj_M} (h : K2 a b M M1) : ∀ x, hl M1 x = hl M x := h.2.1
theorem K2.n {a b : Int} {M M1 : mj_M} (h : K2 a b M M1) : M1.1 = M.1 := h.2.2.1
theorem K2.s {a b : Int} {M M1 : mj_M} (h : K2 a b M M1) : M1.2.1 = M.2.1 := h.2.2.2
theorem K2.rfl' {a b : Int} {M : mj_M} : K2 a b M M := ⟨fun _ _ _ _ => rfl, fun _ => rfl, rfl, rfl⟩
theorem K2.w {a b i v z : Int} {M M1 : mj_M} (k : K2 a b M M1) (h : z = a ∨ z = b) : K2 a b M (mj_wr M1 z i v) := ⟨fun x j h1 h2 => by rw [hh_wr, if_neg (by omega)]; exact k.h x j h1 h2, k.l, k.n, k.s⟩
/-- the tables up to order o, of this order k places -/
def OI (a b : Int) (M M1 : mj_M) (o k : Nat) : Prop := (K2 a b M M1) ∧ (∀ i : Nat, i < 5 * o + k → hh M1 a (i : Int) = dT (i : Int)) ∧ (∀ i : Nat, i < 5 * o → hh M1 b (i : Int) = pT (i : Int)) ∧ (∀ i : Nat, i < k → hh M1 b (5 * (o : Int) + dT (5 * (o : Int) + (i : Int))) = (i : Int))
theorem OI.f {a b : Int} {M M1 : mj_M} {o k : Nat} (h : OI a b M M1 o k) : K2 a b M M1 := h.1
theorem OI.d {a b : Int} {M M1 : mj_M} {o k : Nat} (h : OI a b M M1 o k) : ∀ i : Nat, i < 5 * o + k → hh M1 a (i : Int) = dT (i : Int) := h.2.1
theorem OI.p {a b : Int} {M M1 : mj_M} {o k : Nat} (h : OI a b M M1 o k) : ∀ i : Nat, i < 5 * o → hh M1 b (i : Int) = pT (i : Int) := h.2.2.1
theorem OI.q {a b : Int} {M M1 : mj_M} {o k : Nat} (h : OI a b M M1 o k) : ∀ i : Nat, i < k → hh M1 b (5 * (o : Int) + dT (5 * (o : Int) + (i : Int))) = (i : Int) := h.2.2.2
/-- a whole order laid, in whatever way -/
theorem OI.next {a b : Int} {M M1 : mj_M} {o : Nat} (h : OI a b M M1 o 5) (ho : o < 120) : OI a b M M1 (o + 1) 0 := by
  refine ⟨h.f, fun i hi => h.d i (by omega), fun i hi => ?_, fun i hi => by omega⟩
  by_cases c : i < 5 * o
  · exact h.p i c
  · have hi2 : i - 5 * o < 5 := by omega
    obtain ⟨e1, e2, e3⟩ := ord_inv o ho (i - 5 * o) hi2
    have ei : 5 * (o : Int) + ((i - 5 * o : Nat) : Int) = (i : Int) := by omega
    rw [ei] at e1 e2 e3
    obtain ⟨u, hu⟩ := nat_of e2
    have := h.q u (by omega)
    rw [hu] at e1
    rw [e1, ei] at this
    rw [this, hu]
section MakeOrders3
variable {X : mj_X} {d : Nat} {M : mj_M} {Q : Option mj_V → mj_M → Prop}
theorem tkO_s (o : Int) (i : Nat) : tkO o (i + 1) = ji_or (tkO o i) (ji_shl 1 (fdg (tkO o i) 5 0 (rkA o (i : Int)))) := rfl
theorem i_OrdI {c : Int} {M0 : mj_M} (hc : 1 ≤ c) (e0 : hh M0 c 0 = c + 1) (e1 : hh M0 c 1 = c + 2) (l1 : hl M0 (c + 1) = 600) (l2 : hl M0 (c + 2) = 600) {o : Nat} (ho : o < 120) : ∀ (m k : Nat) (M1 : mj_M) (v : mj_V), k + m = 5 → OI (c + 1) (c + 2) M0 M1 o k → (∀ M2 v, OI (c + 1) (c + 2) M0 M2 o 5 → wp X (d + 1) 1 87 [(25, c), (0, (o : Int)), (0, tkO (o : Int) 5), (0, 5), v] [] M2 Q) → wp X (d + 1) 1 34 [(25, c), (0, (o : Int)), (0, tkO (o : Int) k), (0, (k : Int)), v] [] M1 Q := by
  intro m
  induction m with
  | zero =>
    intro k M1 v hk I hq
    have : k = 5 := by omega
    subst this
    rw [w1_34]
    simp only [w1_35, w1_36, show ¬ (((5 : Nat) : Int) < 5) by decide, ↓reduceIte, hh_wr, hl_wr, b10, b11, ite_not, ne_eq, Int.reduceEq, Int.reduceLE, Int.reduceLT, Int.reduceNe, Int.reduceNeg, Int.reduceAdd, Int.reduceSub, Int.reduceMul, not_false_eq_true, not_true_eq_false, false_and, and_false, true_and, and_true, and_self, true_or, or_true, false_or, or_false, if_true, if_false, ite_true, ite_false, mj_tl_some, mj_tl_none, mj_cs0, mj_cs1, mj_cs2, mj_cs3, mj_cs4]
    exact hq M1 v I
  | succ m ih =>
    intro k M1 v hk I hq
    obtain ⟨f1, f2, f3⟩ := ord_all o ho k (by omega)
    have dr := dT_r (5 * (o : Int) + (k : Int))
    have g0 : hh M1 c 0 = c + 1 := (I.f.h c 0 (by omega) (by omega)).trans e0
    have g1 : hh M1 c 1 = c + 2 := (I.f.h c 1 (by omega) (by omega)).trans e1
    have k1 : hl M1 (c + 1) = 600 := (I.f.l _).trans l1
    have k2 : hl M1 (c + 2) = 600 := (I.f.l _).trans l2
    have m5 : ji_mul (o : Int) 5 = 5 * (o : Int) := m5r ⟨by omega, by omega⟩
    have a1 : ji_add (5 * (o : Int)) (k : Int) = 5 * (o : Int) + (k : Int) := aj ⟨by omega, by omega⟩
    have a2 : ji_add (5 * (o : Int)) (dT (5 * (o : Int) + (k : Int))) = 5 * (o : Int) + dT (5 * (o : Int) + (k : Int)) := aj ⟨by omega, by omega⟩
    have a3 : ji_add (k : Int) 1 = ((k + 1 : Nat) : Int) := jp1 (by omega)
    have ts := tkO_s (o : Int) k
    rw [f1] at ts
    rw [w1_34]
    simp only [w1_35, w1_36, w1_39, w1_40, w1_41, w1_42, w1_45, w1_48, w1_50, w1_51, w1_54, w1_55, w1_56, w1_57, w1_58, w1_59, w1_61, w1_62, w1_63, w1_66, w1_67, w1_68, w1_69, w1_71, w1_72, w1_73, w1_74, w1_75, w1_76, w1_78, w1_79, w1_80, w1_81, w1_84, c_rank (o := (o : Int)) (i := (k : Int)) ⟨by omega, by omega⟩ ⟨by omega, by omega⟩, c_free (t := tkO (o : Int) k) (r0 := rkA (o : Int) (k : Int)) ⟨f3.1, by omega⟩, f1, g0, g1, k1, k2, m5, a1, a2, a3, show (k : Int) < 5 by omega, show ¬ c = 0 by omega, show ¬ c + 1 = 0 by omega, show ¬ c + 2 = 0 by omega, show ¬ c = c + 1 by omega, show (0 : Int) ≤ 5 * (o : Int) + (k : Int) by omega, show 5 * (o : Int) + (k : Int) < 600 by omega, show (0 : Int) ≤ 5 * (o : Int) + dT (5 * (o : Int) + (k : Int)) by omega, show 5 * (o : Int) + dT (5 * (o : Int) + (k : Int)) < 600 by omega, ↓reduceIte, hh_wr, hl_wr, b10, b11, ite_not, ne_eq, Int.reduceEq, Int.reduceLE, Int.reduceLT, Int.reduceNe, Int.reduceNeg, Int.reduceAdd, Int.reduceSub, Int.reduceMul, not_false_eq_true, not_true_eq_false, false_and, and_false, true_and, and_true, and_self, true_or, or_true, false_or, or_false, if_true, if_false, ite_true, ite_false, mj_tl_some, mj_tl_none, mj_cs0, mj_cs1, mj_cs2, mj_cs3, mj_cs4]
    rw [← ts]
    refine ih (k + 1) _ _ (by omega) ⟨(I.f.w (Or.inl rfl)).w (Or.inr rfl), fun i hi => ?_, fun i hi => ?_, fun i hi => ?_⟩ hq
    · rw [hh_wr, if_neg (by omega), hh_wr]
      by_cases c1 : i = 5 * o + k
      · rw [if_pos ⟨rfl, by omega⟩, show (i : Int) = 5 * (o : Int) + (k : Int) by omega]
      · rw [if_neg (by omega)]; exact I.d i (by omega)
    · rw [hh_wr, if_neg (by omega), hh_wr, if_neg (by omega)]; exact I.p i hi
    · rw [hh_wr]
      by_cases c1 : i = k
      · rw [c1, if_pos ⟨rfl, rfl⟩]
      · have g := (ord_all o ho i (by omega)).2.1
        rw [if_neg (fun q => c1 (by
          have q2 : dT (5 * (o : Int) + (i : Int)) = dT (5 * (o : Int) + (k : Int)) := by have := q.2; omega
          rw [q2, f2] at g
          omega)), hh_wr, if_neg (by omega)]
        exact I.q i (by omega)
theorem i_Orders {c : Int} (hc : nx M = c) (hc1 : 1 ≤ c) : wc X (d + 1) 1 [(25, c)] M (fun r M' => r = none ∧ nx M' = c + 2 ∧ M'.2.1 ≤ M.2.1 + 1200 ∧ old c M M' ∧ (hh M' c 0 = c + 1 ∧ hh M' c 1 = c + 2 ∧ hl M' (c + 1) = 600 ∧ hl M' (c + 2) = 600) ∧ (∀ i : Nat, i < 600 → hh M' (c + 1) (i : Int) = dT (i : Int)) ∧ (∀ i : Nat, i < 600 → hh M' (c + 2) (i : Int) = pT (i : Int))) := by
  show wp X (d + 1) 1 0 [(25, c), (9, 0), (9, 0), (9, 0), (9, 0)] [] M _
  have hx : ¬ (c = 0) := by omega
  simp only [w1_0, w1_1, w1_4, w1_5, w1_8, w1_10, w1_13, w1_14, w1_17, w1_19, w1_22, w1_23, hx, nx_def, nx_nw, nx_wr, hc, add11, ↓reduceIte, hh_wr, hl_wr, b10, b11, ite_not, ne_eq, Int.reduceEq, Int.reduceLE, Int.reduceLT, Int.reduceNe, Int.reduceNeg, Int.reduceAdd, Int.reduceSub, Int.reduceMul, not_false_eq_true, not_true_eq_false, false_and, and_false, true_and, and_true, and_self, true_or, or_true, false_or, or_false, if_true, if_false, ite_true, ite_false, mj_tl_some, mj_tl_none, mj_cs0, mj_cs1, mj_cs2, mj_cs3, mj_cs4]
  generalize hM0 : mj_wr (mj_nw (mj_wr (mj_nw M 3 600 (fun _ => 0)) c 0 (c + 1)) 3 600 (fun _ => 0)) c 1 (c + 2) = M0
  have e0 : hh M0 c 0 = c + 1 := by subst hM0; simp only [hh_wr, hh_nx, nx_nw, nx_wr, hc, add11, ne01, ne02, ne03, ne04, ne05, ne10, ne12, ne13, ne14, ne15, ne20, ne21, ne23, ne24, ne25, ne30, ne31, ne32, ne34, ne35, ne40, ne41, ne42, ne43, ne45, ne50, ne51, ne52, ne53, ne54, ↓reduceIte, hh_wr, hl_wr, b10, b11, ite_not, ne_eq, Int.reduceEq, Int.reduceLE, Int.reduceLT, Int.reduceNe, Int.reduceNeg, Int.reduceAdd, Int.reduceSub, Int.reduceMul, not_false_eq_true, not_true_eq_false, false_and, and_false, true_and, and_true, and_self, true_or, or_true, false_or, or_false, if_true, if_false, ite_true, ite_false, mj_tl_some, mj_tl_none, mj_cs0, mj_cs1, mj_cs2, mj_cs3, mj_cs4]
  have e1 : hh M0 c 1 = c + 2 := by subst hM0; simp only [hh_wr, ↓reduceIte, hh_wr, hl_wr, b10, b11, ite_not, ne_eq, Int.reduceEq, Int.reduceLE, Int.reduceLT, Int.reduceNe, Int.reduceNeg, Int.reduceAdd, Int.reduceSub, Int.reduceMul, not_false_eq_true, not_true_eq_false, false_and, and_false, true_and, and_true, and_self, true_or, or_true, false_or, or_false, if_true, if_false, ite_true, ite_false, mj_tl_some, mj_tl_none, mj_cs0, mj_cs1, mj_cs2, mj_cs3, mj_cs4]
  have l1 : hl M0 (c + 1) = 600 := by subst hM0; simp only [hl_wr, hl_nx, nx_nw, nx_wr, hc, add11, ne01, ne02, ne03, ne04, ne05, ne10, ne12, ne13, ne14, ne15, ne20, ne21, ne23, ne24, ne25, ne30, ne31, ne32, ne34, ne35, ne40, ne41, ne42, ne43, ne45, ne50, ne51, ne52, ne53, ne54, ↓reduceIte, hh_wr, hl_wr, b10, b11, ite_not, ne_eq, Int.reduceEq, Int.reduceLE, Int.reduceLT, Int.reduceNe, Int.reduceNeg, Int.reduceAdd, Int.reduceSub, Int.reduceMul, not_false_eq_true, not_true_eq_false, false_and, and_false, true_and, and_true, and_self, true_or, or_true, false_or, or_false, if_true, if_false, ite_true, ite_false, mj_tl_some, mj_tl_none, mj_cs0, mj_cs1, mj_cs2, mj_cs3, mj_cs4]
  have l2 : hl M0 (c + 2) = 600 := by subst hM0; simp only [hl_wr, hl_nx, nx_nw, nx_wr, hc, add11, ne01, ne02, ne03, ne04, ne05, ne10, ne12, ne13, ne14, ne15, ne20, ne21, ne23, ne24, ne25, ne30, ne31, ne32, ne34, ne35, ne40, ne41, ne42, ne43, ne45, ne50, ne51, ne52, ne53, ne54, ↓reduceIte, hh_wr, hl_wr, b10, b11, ite_not, ne_eq, Int.reduceEq, Int.reduceLE, Int.reduceLT, Int.reduceNe, Int.reduceNeg, Int.reduceAdd, Int.reduceSub, Int.reduceMul, not_false_eq_true, not_true_eq_false, false_and, and_false, true_and, and_true, and_self, true_or, or_true, false_or, or_false, if_true, if_false, ite_true, ite_false, mj_tl_some, mj_tl_none, mj_cs0, mj_cs1, mj_cs2, mj_cs3, mj_cs4]
  have n0 : nx M0 = c + 2 := by subst hM0; simp only [nx_nw, nx_wr, hc, add11]
  have s0 : M0.2.1 = M.2.1 + 1200 := by subst hM0; simp only [s_nw, s_wr]; omega
  have o0 : old c M M0 := by
    subst hM0
    exact (((old.nw (by omega)).tr (old.wr (Int.le_refl _)) (Int.le_refl _)).tr (old.nw (by simp only [nx_nw, nx_wr, hc]; omega)) (Int.le_refl _)).tr (old.wr (Int.le_refl _)) (Int.le_refl _)
  clear hM0
  have outer : ∀ (m o : Nat) (M1 : mj_M) (v2 v3 v4 : mj_V), o + m = 120 → OI (c + 1) (c + 2) M0 M1 o 0 → wp X (d + 1) 1 24 [(25, c), (0, (o : Int)), v2, v3, v4] [] M1 (fun r M' => r = none ∧ OI (c + 1) (c + 2) M0 M' 120 0) := by
    intro m
    induction m with
    | zero =>
      intro o M1 v2 v3 v4 ho I
      have : o = 120 := by omega
      subst this
      rw [w1_24]
      simp only [w1_25, w1_27, w1_93, show ¬ (((120 : Nat) : Int) < 120) by decide, ↓reduceIte, hh_wr, hl_wr, b10, b11, ite_not, ne_eq, Int.reduceEq, Int.reduceLE, Int.reduceLT, Int.reduceNe, Int.reduceNeg, Int.reduceAdd, Int.reduceSub, Int.reduceMul, not_false_eq_true, not_true_eq_false, false_and, and_false, true_and, and_true, and_self, true_or, or_true, false_or, or_false, if_true, if_false, ite_true, ite_false, mj_tl_some, mj_tl_none, mj_cs0, mj_cs1, mj_cs2, mj_cs3, mj_cs4]
      exact I
    | succ m ih =>
      intro o M1 v2 v3 v4 ho I
      rw [w1_24]
      simp only [w1_25, w1_27, w1_30, w1_31, w1_32, w1_33, show (o : Int) < 120 by omega, ↓reduceIte, hh_wr, hl_wr, b10, b11, ite_not, ne_eq, Int.reduceEq, Int.reduceLE, Int.reduceLT, Int.reduceNe, Int.reduceNeg, Int.reduceAdd, Int.reduceSub, Int.reduceMul, not_false_eq_true, not_true_eq_false, false_and, and_false, true_and, and_true, and_self, true_or, or_true, false_or, or_false, if_true, if_false, ite_true, ite_false, mj_tl_some, mj_tl_none, mj_cs0, mj_cs1, mj_cs2, mj_cs3, mj_cs4]
      refine i_OrdI (o := o) hc1 e0 e1 l1 l2 (by omega) 5 0 M1 v4 (by omega) I (fun M2 v I2 => ?_)
      simp only [w1_87, w1_90, jp1 (p := o) (by omega), ↓reduceIte, hh_wr, hl_wr, b10, b11, ite_not, ne_eq, Int.reduceEq, Int.reduceLE, Int.reduceLT, Int.reduceNe, Int.reduceNeg, Int.reduceAdd, Int.reduceSub, Int.reduceMul, not_false_eq_true, not_true_eq_false, false_and, and_false, true_and, and_true, and_self, true_or, or_true, false_or, or_false, if_true, if_false, ite_true, ite_false, mj_tl_some, mj_tl_none, mj_cs0, mj_cs1, mj_cs2, mj_cs3, mj_cs4]
      exact ih (o + 1) M2 _ _ _ (by omega) (I2.next (by omega))
  refine wp.mono (outer 120 0 M0 _ _ _ (by omega) ⟨K2.rfl', fun i hi => by omega, fun i hi => by omega, fun i hi => by omega⟩) ?_
  rintro r M' ⟨rfl, I⟩
  refine ⟨rfl, ?_, ?_, fun x hx => ⟨fun j => ?_, ?_⟩, ⟨?_, ?_, ?_, ?_⟩, fun i hi => I.d i (by omega), fun i hi => I.p i (by omega)⟩
  · have := I.f.n; unfold nx at n0 ⊢; omega
  · have := I.f.s; omega
  · rw [I.f.h x j (by omega) (by omega)]; exact (o0 x hx).1 j
  · rw [I.f.l]; exact (o0 x hx).2
  · rw [I.f.h c 0 (by omega) (by omega)]; exact e0
  · rw [I.f.h c 1 (by omega) (by omega)]; exact e1
  · rw [I.f.l]; exact l1
  · rw [I.f.l]; exact l2
end MakeOrders3
