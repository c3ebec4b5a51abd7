/-! ORDERS: places, sayings -/
def fr (c : Nat → Bool) (r : Nat → Int) (z : Int) : Nat → Nat → Int
  | 0, _ => z
  | n + 1, p => if c p then r p else fr c r z n (p + 1)
theorem loopF {S : Nat → Int → Prop} {c : Nat → Bool} {r : Nat → Int} {z : Int} {P : Nat} (h1 : ∀ p, p < P → c p = true → S p (r p)) (h2 : ∀ p v, p < P → c p = false → S (p + 1) v → S p v) (h3 : S P z) : S 0 (fr c r z P 0) := by
  have : ∀ n p, p + n = P → S p (fr c r z n p) := by
    intro n
    induction n with
    | zero => intro p hp; rw [show p = P by omega]; exact h3
    | succ n ih =>
      intro p hp
      rw [fr]
      cases hc : c p
      · exact h2 p _ (by omega) hc (ih (p + 1) (by omega))
      · exact h1 p (by omega) hc
  exact this P 0 (by omega)
theorem fr_congr {c c' : Nat → Bool} {r r' : Nat → Int} {z : Int} {P : Nat} (h : ∀ p, p < P → c p = c' p ∧ (c p = true → r p = r' p)) : fr c r z P 0 = fr c' r' z P 0 := by
  have : ∀ n p, p + n = P → fr c r z n p = fr c' r' z n p := by
    intro n
    induction n with
    | zero => intro p hp; rfl
    | succ n ih =>
      intro p hp
      rw [fr, fr, ih (p + 1) (by omega), ← (h p (by omega)).1]
      cases hc : c p
      · rfl
      · simp only [if_true]; exact (h p (by omega)).2 hc
  exact this P 0 (by omega)
/-- the first one -/
theorem fr_eq {c : Nat → Bool} {r : Nat → Int} {z : Int} {P q : Nat} (hq : q < P) (hc : c q = true) (h : ∀ p, p < q → c p = false) : fr c r z P 0 = r q := by
  have : ∀ n p, p + n = P → p ≤ q → fr c r z n p = r q := by
    intro n
    induction n with
    | zero => intro p hp h1; omega
    | succ n ih =>
      intro p hp h1
      rw [fr]
      by_cases e : p = q
      · subst e; rw [if_pos hc]
      · rw [h p (by omega)]; exact ih (p + 1) (by omega) (by omega)
  exact this P 0 (by omega) (by omega)
theorem fr_none {c : Nat → Bool} {r : Nat → Int} {z : Int} {P : Nat} (h : ∀ p, p < P → c p = false) : fr c r z P 0 = z := by
  have : ∀ n p, p + n = P → fr c r z n p = z := by
    intro n
    induction n with
    | zero => intro p hp; rfl
    | succ n ih =>
      intro p hp
      rw [fr, h p (by omega)]
      exact ih (p + 1) (by omega)
  exact this P 0 (by omega)
def al (c : Nat → Bool) : Nat → Nat → Bool
  | 0, _ => true
  | n + 1, p => if c p then al c n (p + 1) else false
theorem loopA {S : Nat → Bool → Prop} {c : Nat → Bool} {P : Nat} (h1 : ∀ p, p < P → c p = false → S p false) (h2 : ∀ p b, p < P → c p = true → S (p + 1) b → S p b) (h3 : S P true) : S 0 (al c P 0) := by
  have : ∀ n p, p + n = P → S p (al c n p) := by
    intro n
    induction n with
    | zero => intro p hp; rw [show p = P by omega]; exact h3
    | succ n ih =>
      intro p hp
      rw [al]
      cases hc : c p
      · exact h1 p (by omega) hc
      · exact h2 p _ (by omega) hc (ih (p + 1) (by omega))
  exact this P 0 (by omega)
theorem al_congr {c c' : Nat → Bool} {P : Nat} (h : ∀ p, p < P → c p = c' p) : al c P 0 = al c' P 0 := by
  have : ∀ n p, p + n = P → al c n p = al c' n p := by
    intro n
    induction n with
    | zero => intro p hp; rfl
    | succ n ih => intro p hp; rw [al, al, ih (p + 1) (by omega), h p (by omega)]
  exact this P 0 (by omega)
def cn (c : Nat → Bool) : Nat → Nat
  | 0 => 0
  | p + 1 => cn c p + (if c p then 1 else 0)
theorem cn_le (c : Nat → Bool) : ∀ P, cn c P ≤ P
  | 0 => Nat.le_refl _
  | p + 1 => by
    have := cn_le c p
    rw [cn]
    split <;> omega
theorem cn_mono {c : Nat → Bool} {p q : Nat} (h : p ≤ q) : cn c p ≤ cn c q := by
  induction h with
  | refl => exact Nat.le_refl _
  | step h ih => rw [cn]; omega
theorem cn_lt {c : Nat → Bool} {p q : Nat} (h : p < q) (hc : c p = true) : cn c p < cn c q := by
  have : cn c (p + 1) = cn c p + 1 := by rw [cn, if_pos hc]
  have := cn_mono (c := c) (show p + 1 ≤ q from h)
  omega
theorem cn_t {c : Nat → Bool} {p : Nat} (h : c p = true) : cn c (p + 1) = cn c p + 1 := by rw [cn, if_pos h]
theorem cn_f {c : Nat → Bool} {p : Nat} (h : c p = false) : cn c (p + 1) = cn c p := by rw [cn, h]; rfl
theorem cn_congr {c c' : Nat → Bool} : ∀ {P : Nat}, (∀ p, p < P → c p = c' p) → cn c P = cn c' P
  | 0, _ => rfl
  | P + 1, h => by rw [cn, cn, h P (by omega), cn_congr (fun q hq => h q (by omega))]
def sm (f : Nat → Int) : Nat → Int
  | 0 => 0
  | n + 1 => sm f n + f n
theorem sm_rng {f : Nat → Int} {lo hi : Int} : ∀ {n : Nat}, (∀ i, i < n → lo ≤ f i ∧ f i ≤ hi) → lo * n ≤ sm f n ∧ sm f n ≤ hi * n
  | 0, _ => by simp [sm]
  | n + 1, h => by
    have h1 := sm_rng (f := f) (lo := lo) (hi := hi) (n := n) (fun i hi => h i (by omega))
    have h2 := h n (by omega)
    rw [sm, show ((n + 1 : Nat) : Int) = (n : Int) + 1 by omega, Int.mul_add, Int.mul_add]
    omega
theorem sm_congr {f g : Nat → Int} : ∀ {n : Nat}, (∀ i, i < n → f i = g i) → sm f n = sm g n
  | 0, _ => rfl
  | n + 1, h => by rw [sm, sm, h n (by omega), sm_congr (fun i hi => h i (by omega))]
theorem lst_rng {l : List Int} {lo hi : Int} (h0 : lo ≤ 0 ∧ 0 ≤ hi) (h : l.all (fun x => decide (lo ≤ x ∧ x ≤ hi)) = true) (i : Nat) : lo ≤ l.getD i 0 ∧ l.getD i 0 ≤ hi := by
  rw [List.getD_eq_getElem?_getD]
  cases e : l[i]? with
  | none => exact h0
  | some x =>
    have := List.all_eq_true.mp h x (List.mem_of_getElem? e)
    simpa using this
theorem pT_r (i : Int) : 0 ≤ pT i ∧ pT i ≤ 4 := lst_rng (by decide) (by decide +kernel) _
theorem dT_r (i : Int) : 0 ≤ dT i ∧ dT i ≤ 4 := lst_rng (by decide) (by decide +kernel) _
/-- a saying holds of an order -/
def so (o k a b : Int) : Bool := if k = 0 then decide (pT (5 * o + a) < pT (5 * o + b)) else if k = 1 then decide (pT (5 * o + a) + 1 = pT (5 * o + b)) else if k = 2 then decide (pT (5 * o + a) = 0) else if k = 3 then decide (pT (5 * o + a) = 4) else decide (pT (5 * o + a) + 1 = pT (5 * o + b) ∨ pT (5 * o + b) + 1 = pT (5 * o + a))
def isS (k a b : Int) : Bool := decide ((0 ≤ k ∧ k ≤ 4) ∧ (0 ≤ a ∧ a ≤ 4) ∧ (0 ≤ b ∧ b ≤ 4) ∧ ((k = 2 ∨ k = 3) ↔ a = b))
theorem m5r {o : Int} (h : 0 ≤ o ∧ o ≤ 1000) : ji_mul o 5 = 5 * o := by rw [ji_mul_eq (nn ⟨by omega, by omega⟩)]; omega
theorem m3r {o : Int} (h : 0 ≤ o ∧ o ≤ 1000) : ji_mul o 3 = 3 * o := by rw [ji_mul_eq (nn ⟨by omega, by omega⟩)]; omega
theorem m3l {o : Int} (h : 0 ≤ o ∧ o ≤ 1000) : ji_mul 3 o = 3 * o := by rw [ji_mul_eq (nn ⟨by omega, by omega⟩)]
theorem m4r {o : Int} (h : 0 ≤ o ∧ o ≤ 1000) : ji_mul o 4 = 4 * o := by rw [ji_mul_eq (nn ⟨by omega, by omega⟩)]; omega
section Ord
variable {X : mj_X} {d : Nat} {M : mj_M} {Q : Option mj_V → mj_M → Prop}
theorem ite_q {c : Prop} {hc : Decidable c} {t : Nat} {x y : Int} : (@ite Prop c hc (Q (some (t, x)) M) (Q (some (t, y)) M)) = Q (some (t, @ite Int c hc x y)) M := by by_cases h : c <;> simp [h]
theorem qe {a b : Int} {t : Nat} (e : a = b) : Q (some (t, a)) M ↔ Q (some (t, b)) M := by rw [e]
theorem c_placeOf {o a : Int} (h : CS M) (t : Tb M) (ho : 0 ≤ o ∧ o ≤ 119) (ha : 0 ≤ a ∧ a ≤ 4) : wc X (d + 1) 136 [(25, 2), (0, o), (0, a)] M Q ↔ Q (some (0, pT (5 * o + a))) M := by
  show wp X (d + 1) 136 0 [(25, 2), (0, o), (0, a)] [] M Q ↔ _
  simp only [w136_0, w136_1, w136_4, w136_7, w136_8, w136_11, w136_14, w136_15, w136_18, w136_19, w136_20, w136_21, w136_22, w136_23, w136_24, w136_27, w136_28, c_isOrder, c_isDoing, c_2_1 h, l_4 h, ho, ha, m5r (o := o) ⟨by omega, by omega⟩, aj (x := 5 * o) (y := a) ⟨by omega, by omega⟩, t.p (5 * o + a) (by omega) (by omega), ↓reduceIte, hh_wr, hl_wr, b10, b11, ite_not, ne_eq, Int.reduceEq, Int.reduceLE, Int.reduceLT, Int.reduceNe, Int.reduceNeg, Int.reduceAdd, Int.reduceSub, Int.reduceMul, not_false_eq_true, not_true_eq_false, false_and, and_false, true_and, and_true, and_self, true_or, or_true, false_or, or_false, if_true, if_false, ite_true, ite_false, mj_tl_some, mj_tl_none, mj_cs0, mj_cs1, mj_cs2, mj_cs3, mj_cs4]
  simp only [show 0 ≤ 5 * o + a by omega, show 5 * o + a < 600 by omega, ↓reduceIte, hh_wr, hl_wr, b10, b11, ite_not, ne_eq, Int.reduceEq, Int.reduceLE, Int.reduceLT, Int.reduceNe, Int.reduceNeg, Int.reduceAdd, Int.reduceSub, Int.reduceMul, not_false_eq_true, not_true_eq_false, false_and, and_false, true_and, and_true, and_self, true_or, or_true, false_or, or_false, if_true, if_false, ite_true, ite_false, mj_tl_some, mj_tl_none, mj_cs0, mj_cs1, mj_cs2, mj_cs3, mj_cs4]
theorem m_placeOf {o a : Int} (h : CS M) (t : Tb M) (ho : 0 ≤ o ∧ o ≤ 119) (ha : 0 ≤ a ∧ a ≤ 4) : wc X d 196 [(32, 354), (0, o), (0, a)] M Q ↔ Q (some (0, pT (5 * o + a))) M := by
  show wp X d 196 0 [(32, 354), (0, o), (0, a)] [] M Q ↔ _
  simp only [w196_0, w196_1, w196_4, w196_5, w196_6, w196_7, w196_8, w196_9, w196_10, c_354_4 h, l_359 h, mj5 (p := o) ⟨by omega, by omega⟩, aj (x := 5 * o) (y := a) ⟨by omega, by omega⟩, t.p' (5 * o + a) (by omega) (by omega), ↓reduceIte, hh_wr, hl_wr, b10, b11, ite_not, ne_eq, Int.reduceEq, Int.reduceLE, Int.reduceLT, Int.reduceNe, Int.reduceNeg, Int.reduceAdd, Int.reduceSub, Int.reduceMul, not_false_eq_true, not_true_eq_false, false_and, and_false, true_and, and_true, and_self, true_or, or_true, false_or, or_false, if_true, if_false, ite_true, ite_false, mj_tl_some, mj_tl_none, mj_cs0, mj_cs1, mj_cs2, mj_cs3, mj_cs4]
  simp only [show 0 ≤ 5 * o + a by omega, show 5 * o + a < 600 by omega, ↓reduceIte, hh_wr, hl_wr, b10, b11, ite_not, ne_eq, Int.reduceEq, Int.reduceLE, Int.reduceLT, Int.reduceNe, Int.reduceNeg, Int.reduceAdd, Int.reduceSub, Int.reduceMul, not_false_eq_true, not_true_eq_false, false_and, and_false, true_and, and_true, and_self, true_or, or_true, false_or, or_false, if_true, if_false, ite_true, ite_false, mj_tl_some, mj_tl_none, mj_cs0, mj_cs1, mj_cs2, mj_cs3, mj_cs4]
theorem c_doingAt {o a : Int} (h : CS M) (t : Tb M) : wc X (d + 1) 129 [(25, 2), (0, o), (0, a)] M Q ↔ Q (some (0, if (0 ≤ o ∧ o ≤ 119) ∧ (0 ≤ a ∧ a ≤ 4) then dT (5 * o + a) else -1)) M := by
  show wp X (d + 1) 129 0 [(25, 2), (0, o), (0, a)] [] M Q ↔ _
  by_cases ho : 0 ≤ o ∧ o ≤ 119
  · by_cases ha : 0 ≤ a ∧ a ≤ 4
    · have e1 : ¬ a < 0 := by omega
      have e2 : a < 5 := by omega
      simp only [w129_0, w129_1, w129_4, w129_7, w129_8, w129_11, w129_12, w129_13, w129_16, w129_17, w129_20, w129_21, w129_22, w129_23, w129_24, w129_25, w129_26, w129_29, w129_30, c_isOrder, c_2_0 h, l_3 h, ho, ha, e1, e2, m5r (o := o) ⟨by omega, by omega⟩, aj (x := 5 * o) (y := a) ⟨by omega, by omega⟩, t.d (5 * o + a) (by omega) (by omega), ↓reduceIte, hh_wr, hl_wr, b10, b11, ite_not, ne_eq, Int.reduceEq, Int.reduceLE, Int.reduceLT, Int.reduceNe, Int.reduceNeg, Int.reduceAdd, Int.reduceSub, Int.reduceMul, not_false_eq_true, not_true_eq_false, false_and, and_false, true_and, and_true, and_self, true_or, or_true, false_or, or_false, if_true, if_false, ite_true, ite_false, mj_tl_some, mj_tl_none, mj_cs0, mj_cs1, mj_cs2, mj_cs3, mj_cs4]
      simp only [show 0 ≤ 5 * o + a by omega, show 5 * o + a < 600 by omega, ↓reduceIte, hh_wr, hl_wr, b10, b11, ite_not, ne_eq, Int.reduceEq, Int.reduceLE, Int.reduceLT, Int.reduceNe, Int.reduceNeg, Int.reduceAdd, Int.reduceSub, Int.reduceMul, not_false_eq_true, not_true_eq_false, false_and, and_false, true_and, and_true, and_self, true_or, or_true, false_or, or_false, if_true, if_false, ite_true, ite_false, mj_tl_some, mj_tl_none, mj_cs0, mj_cs1, mj_cs2, mj_cs3, mj_cs4]
    · by_cases e1 : a < 0
      · simp only [w129_0, w129_1, w129_4, w129_7, w129_8, w129_11, w129_12, w129_13, w129_16, w129_17, w129_20, w129_21, w129_22, w129_23, w129_24, w129_25, w129_26, w129_29, w129_30, c_isOrder, ho, ha, e1, ↓reduceIte, hh_wr, hl_wr, b10, b11, ite_not, ne_eq, Int.reduceEq, Int.reduceLE, Int.reduceLT, Int.reduceNe, Int.reduceNeg, Int.reduceAdd, Int.reduceSub, Int.reduceMul, not_false_eq_true, not_true_eq_false, false_and, and_false, true_and, and_true, and_self, true_or, or_true, false_or, or_false, if_true, if_false, ite_true, ite_false, mj_tl_some, mj_tl_none, mj_cs0, mj_cs1, mj_cs2, mj_cs3, mj_cs4]
      · have e2 : ¬ a < 5 := by omega
        simp only [w129_0, w129_1, w129_4, w129_7, w129_8, w129_11, w129_12, w129_13, w129_16, w129_17, w129_20, w129_21, w129_22, w129_23, w129_24, w129_25, w129_26, w129_29, w129_30, c_isOrder, ho, ha, e1, e2, ↓reduceIte, hh_wr, hl_wr, b10, b11, ite_not, ne_eq, Int.reduceEq, Int.reduceLE, Int.reduceLT, Int.reduceNe, Int.reduceNeg, Int.reduceAdd, Int.reduceSub, Int.reduceMul, not_false_eq_true, not_true_eq_false, false_and, and_false, true_and, and_true, and_self, true_or, or_true, false_or, or_false, if_true, if_false, ite_true, ite_false, mj_tl_some, mj_tl_none, mj_cs0, mj_cs1, mj_cs2, mj_cs3, mj_cs4]
  · simp only [w129_0, w129_1, w129_4, w129_7, w129_8, w129_11, w129_12, w129_13, w129_16, w129_17, w129_20, w129_21, w129_22, w129_23, w129_24, w129_25, w129_26, w129_29, w129_30, c_isOrder, ho, ↓reduceIte, hh_wr, hl_wr, b10, b11, ite_not, ne_eq, Int.reduceEq, Int.reduceLE, Int.reduceLT, Int.reduceNe, Int.reduceNeg, Int.reduceAdd, Int.reduceSub, Int.reduceMul, not_false_eq_true, not_true_eq_false, false_and, and_false, true_and, and_true, and_self, true_or, or_true, false_or, or_false, if_true, if_false, ite_true, ite_false, mj_tl_some, mj_tl_none, mj_cs0, mj_cs1, mj_cs2, mj_cs3, mj_cs4]
theorem c_isSo {o k a b : Int} (h : CS M) (t : Tb M) (ho : 0 ≤ o ∧ o ≤ 119) (hk : 0 ≤ k ∧ k ≤ 4) (ha : 0 ≤ a ∧ a ≤ 4) (hb : 0 ≤ b ∧ b ≤ 4) : wc X (d + 2) 135 [(25, 2), (0, o), (0, k), (0, a), (0, b)] M Q ↔ Q (some (0, if so o k a b then 1 else 0)) M := by
  show wp X (d + 2) 135 0 [(25, 2), (0, o), (0, k), (0, a), (0, b), (9, 0), (9, 0)] [] M Q ↔ _
  have r1 := pT_r (5 * o + a)
  have r2 := pT_r (5 * o + b)
  simp only [w135_0, w135_1, w135_2, w135_3, w135_6, w135_8, w135_9, w135_10, w135_12, w135_15, w135_17, w135_18, w135_52, w135_54, w135_56, w135_59, w135_60, w135_63, w135_64_i, w135_64_0, w135_64_1, w135_65, w135_67, w135_68, w135_69, w135_71, w135_74, w135_75, w135_78, w135_79_i, w135_79_0, w135_79_1, w135_80, w135_82, w135_85, w135_86, w135_89, w135_90_i, w135_90_0, w135_90_1, w135_91, w135_93, w135_94, w135_97, w135_98, w135_101, w135_102_i, w135_102_0, w135_102_1, w135_103, w135_105, w135_106, w135_107, w135_109, w135_112, w135_114, w135_115, w135_116, w135_118, w135_121, w135_122, w135_125, w135_126_i, w135_126_0, w135_126_1, w135_127, w135_128_i, w135_128_0, w135_128_1, c_placeOf h t ho ha, c_placeOf h t ho hb, aj (x := pT (5 * o + a)) (y := 1) ⟨by omega, by omega⟩, aj (x := pT (5 * o + b)) (y := 1) ⟨by omega, by omega⟩, ite_q, ↓reduceIte, hh_wr, hl_wr, b10, b11, ite_not, ne_eq, Int.reduceEq, Int.reduceLE, Int.reduceLT, Int.reduceNe, Int.reduceNeg, Int.reduceAdd, Int.reduceSub, Int.reduceMul, not_false_eq_true, not_true_eq_false, false_and, and_false, true_and, and_true, and_self, true_or, or_true, false_or, or_false, if_true, if_false, ite_true, ite_false, mj_tl_some, mj_tl_none, mj_cs0, mj_cs1, mj_cs2, mj_cs3, mj_cs4]
  refine qe ?_
  unfold so
  rcases (show k = 0 ∨ k = 1 ∨ k = 2 ∨ k = 3 ∨ k = 4 by omega) with rfl | rfl | rfl | rfl | rfl <;> simp only [decide_eq_true_eq, ↓reduceIte, hh_wr, hl_wr, b10, b11, ite_not, ne_eq, Int.reduceEq, Int.reduceLE, Int.reduceLT, Int.reduceNe, Int.reduceNeg, Int.reduceAdd, Int.reduceSub, Int.reduceMul, not_false_eq_true, not_true_eq_false, false_and, and_false, true_and, and_true, and_self, true_or, or_true, false_or, or_false, if_true, if_false, ite_true, ite_false, mj_tl_some, mj_tl_none, mj_cs0, mj_cs1, mj_cs2, mj_cs3, mj_cs4]
  repeat' split
  all_goals first | rfl | omega
theorem m_isSo {o k a b : Int} (h : CS M) (t : Tb M) (ho : 0 ≤ o ∧ o ≤ 119) (hk : 0 ≤ k ∧ k ≤ 4) (ha : 0 ≤ a ∧ a ≤ 4) (hb : 0 ≤ b ∧ b ≤ 4) : wc X (d + 1) 195 [(32, 354), (0, o), (0, k), (0, a), (0, b)] M Q ↔ Q (some (0, if so o k a b then 1 else 0)) M := by
  show wp X (d + 1) 195 0 [(32, 354), (0, o), (0, k), (0, a), (0, b), (9, 0)] [] M Q ↔ _
  have r1 := pT_r (5 * o + a)
  have r2 := pT_r (5 * o + b)
  simp only [w195_0, w195_1, w195_2, w195_4, w195_7, w195_8, w195_9, w195_10, w195_13, w195_14, w195_16, w195_17, w195_48, w195_50, w195_53, w195_54, w195_57, w195_58_i, w195_58_0, w195_58_1, w195_59, w195_61, w195_62, w195_65, w195_66, w195_69, w195_70_i, w195_70_0, w195_70_1, w195_71, w195_72, w195_73, w195_74, w195_77, w195_80, w195_81, w195_84, w195_85_i, w195_85_0, w195_85_1, w195_86, w195_87, w195_88, w195_89, w195_92, w195_93, w195_96, w195_97, w195_100, w195_101_i, w195_101_0, w195_101_1, w195_102, w195_104, w195_105, w195_108, w195_110, w195_111, w195_114, w195_115, w195_118, w195_119_i, w195_119_0, w195_119_1, m_placeOf h t ho ha, m_placeOf h t ho hb, sj (x := pT (5 * o + b)) (y := pT (5 * o + a)) ⟨by omega, by omega⟩, ite_q, ↓reduceIte, hh_wr, hl_wr, b10, b11, ite_not, ne_eq, Int.reduceEq, Int.reduceLE, Int.reduceLT, Int.reduceNe, Int.reduceNeg, Int.reduceAdd, Int.reduceSub, Int.reduceMul, not_false_eq_true, not_true_eq_false, false_and, and_false, true_and, and_true, and_self, true_or, or_true, false_or, or_false, if_true, if_false, ite_true, ite_false, mj_tl_some, mj_tl_none, mj_cs0, mj_cs1, mj_cs2, mj_cs3, mj_cs4]
  refine qe ?_
  unfold so
  rcases (show k = 0 ∨ k = 1 ∨ k = 2 ∨ k = 3 ∨ k = 4 by omega) with rfl | rfl | rfl | rfl | rfl <;> simp only [decide_eq_true_eq, ↓reduceIte, hh_wr, hl_wr, b10, b11, ite_not, ne_eq, Int.reduceEq, Int.reduceLE, Int.reduceLT, Int.reduceNe, Int.reduceNeg, Int.reduceAdd, Int.reduceSub, Int.reduceMul, not_false_eq_true, not_true_eq_false, false_and, and_false, true_and, and_true, and_self, true_or, or_true, false_or, or_false, if_true, if_false, ite_true, ite_false, mj_tl_some, mj_tl_none, mj_cs0, mj_cs1, mj_cs2, mj_cs3, mj_cs4]
  all_goals (repeat' split)
  all_goals first | rfl | omega
theorem c_isSaying {k a b : Int} : wc X (d + 1) 133 [(0, k), (0, a), (0, b)] M Q ↔ Q (some (0, if isS k a b then 1 else 0)) M := by
  show wp X (d + 1) 133 0 [(0, k), (0, a), (0, b), (9, 0)] [] M Q ↔ _
  simp only [w133_0, w133_1, w133_4, w133_5, w133_6, w133_9, w133_10, w133_13, w133_16, w133_17, w133_20, w133_23, w133_24_i, w133_24_0, w133_24_1, w133_25, w133_26, w133_27, w133_30, w133_31, w133_32, w133_35, w133_36, w133_39, w133_40, w133_41, w133_42, w133_43, w133_44, w133_47, w133_48, w133_51, w133_52, w133_55, w133_56, w133_59, w133_60_i, w133_60_0, w133_60_1, c_isDoing, ite_q, ↓reduceIte, hh_wr, hl_wr, b10, b11, ite_not, ne_eq, Int.reduceEq, Int.reduceLE, Int.reduceLT, Int.reduceNe, Int.reduceNeg, Int.reduceAdd, Int.reduceSub, Int.reduceMul, not_false_eq_true, not_true_eq_false, false_and, and_false, true_and, and_true, and_self, true_or, or_true, false_or, or_false, if_true, if_false, ite_true, ite_false, mj_tl_some, mj_tl_none, mj_cs0, mj_cs1, mj_cs2, mj_cs3, mj_cs4]
  refine qe ?_
  unfold isS
  simp only [decide_eq_true_eq]
  repeat' split
  all_goals first | rfl | omega
theorem m_isSaying {k a b : Int} : wc X (d + 2) 192 [(0, k), (0, a), (0, b)] M Q ↔ Q (some (0, if isS k a b then 1 else 0)) M := by
  show wp X (d + 2) 192 0 [(0, k), (0, a), (0, b)] [] M Q ↔ _
  simp only [w192_0, w192_1, w192_2, w192_3, w192_6, w192_9, w192_10, w192_13, w192_16, w192_17, w192_20, w192_23, w192_24, w192_25, w192_28, w192_29, w192_30, w192_33, w192_34, w192_37, w192_38, w192_39, w192_40, w192_43, w192_44, w192_47, w192_48, w192_51, w192_52, w192_55, w192_56_i, w192_56_0, w192_56_1, s_isIn, m_isDoing, ite_q, ↓reduceIte, hh_wr, hl_wr, b10, b11, ite_not, ne_eq, Int.reduceEq, Int.reduceLE, Int.reduceLT, Int.reduceNe, Int.reduceNeg, Int.reduceAdd, Int.reduceSub, Int.reduceMul, not_false_eq_true, not_true_eq_false, false_and, and_false, true_and, and_true, and_self, true_or, or_true, false_or, or_false, if_true, if_false, ite_true, ite_false, mj_tl_some, mj_tl_none, mj_cs0, mj_cs1, mj_cs2, mj_cs3, mj_cs4]
  refine qe ?_
  unfold isS
  simp only [decide_eq_true_eq]
  repeat' split
  all_goals first | rfl | omega
theorem c_isAhead {o a b : Int} (h : CS M) (t : Tb M) (ho : 0 ≤ o ∧ o ≤ 119) (ha : 0 ≤ a ∧ a ≤ 4) (hb : 0 ≤ b ∧ b ≤ 4) : wc X (d + 2) 146 [(25, 2), (0, o), (0, a), (0, b)] M Q ↔ Q (some (0, if pT (5 * o + a) < pT (5 * o + b) then 1 else 0)) M := by
  show wp X (d + 2) 146 0 [(25, 2), (0, o), (0, a), (0, b)] [] M Q ↔ _
  simp only [w146_0, w146_1, w146_2, w146_3, w146_6, w146_7, w146_8, w146_9, w146_12, w146_15, w146_16, w146_19, w146_20_i, w146_20_0, w146_20_1, c_placeOf h t ho ha, c_placeOf h t ho hb, ite_q, ↓reduceIte, hh_wr, hl_wr, b10, b11, ite_not, ne_eq, Int.reduceEq, Int.reduceLE, Int.reduceLT, Int.reduceNe, Int.reduceNeg, Int.reduceAdd, Int.reduceSub, Int.reduceMul, not_false_eq_true, not_true_eq_false, false_and, and_false, true_and, and_true, and_self, true_or, or_true, false_or, or_false, if_true, if_false, ite_true, ite_false, mj_tl_some, mj_tl_none, mj_cs0, mj_cs1, mj_cs2, mj_cs3, mj_cs4]
end Ord
