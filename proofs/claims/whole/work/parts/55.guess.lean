/-! WHAT COULD BE -/
theorem RR.s8 {M M1 : mj_M} (h : RR M) (f : fz [8] M M1) : RR M1 := h.sc (f.mono (fun z hz => by simp at hz; subst hz; decide)) (h.co.fz f (by decide))
theorem fz8_355 {M M1 : mj_M} (f : fz [8] M M1) : hh M1 355 = hh M 355 := f.row z_355 (by decide)
/-- order p could be by what was said -/
def cb (A : Int → Int) (p : Nat) : Bool := al (fun i => so (p : Int) (A (61 + 3 * (i : Int))) (A (61 + 3 * (i : Int) + 1)) (A (61 + 3 * (i : Int) + 2))) (A 6).toNat 0
def nCb (A : Int → Int) : Nat := cn (cb A) 120
/-- in how many of them d is ahead of e -/
def ah (A : Int → Int) (d e : Int) : Nat := cn (fun p => cb A p && decide (pT (5 * (p : Int) + d) < pT (5 * (p : Int) + e))) 120
theorem cn_sub {c g : Nat → Bool} {l : Nat → Nat} : ∀ {P : Nat}, (∀ p, p < P → c p = true → l (cn c p) = p) → cn (fun i => g (l i)) (cn c P) = cn (fun p => c p && g p) P
  | 0, _ => rfl
  | P + 1, h => by
    have ih := cn_sub (c := c) (g := g) (l := l) (P := P) (fun p hp => h p (by omega))
    rw [cn.eq_2 (fun p => c p && g p)]
    cases hc : c P
    · rw [cn_f hc, ih]; simp
    · rw [cn_t hc, cn, ih, h P (by omega) hc]; simp
theorem cn_ex {c : Nat → Bool} : ∀ {P j : Nat}, j < cn c P → ∃ p, p < P ∧ c p = true ∧ cn c p = j
  | 0, j, h => by simp [cn] at h
  | P + 1, j, h => by
    by_cases e : j < cn c P
    · obtain ⟨p, h1, h2, h3⟩ := cn_ex e
      exact ⟨p, by omega, h2, h3⟩
    · cases hc : c P
      · rw [cn_f hc] at h; omega
      · rw [cn_t hc] at h; exact ⟨P, by omega, hc, by omega⟩
theorem z_348 (j : Int) : zone 348 j = 8 := rfl
section Guess
variable {X : mj_X} {d : Nat} {M : mj_M} {Q : Option mj_V → mj_M → Prop}
theorem c_cell {r i k : Int} (h0 : 1 ≤ r) (h1 : hh M r 1 = r + 1) (h2 : hl M (r + 1) = 24) (hi : 0 ≤ i ∧ i < hh M r 0) (h8 : hh M r 0 ≤ 8) (hk : 0 ≤ k ∧ k < 3) : wc X d 143 [(27, r), (0, i), (0, k)] M Q ↔ Q (some (0, hh M (r + 1) (3 * i + k))) M := by
  show wp X d 143 0 [(27, r), (0, i), (0, k), (9, 0)] [] M Q ↔ _
  simp only [w143_0, w143_1, w143_4, w143_5, w143_6, w143_9, w143_12, w143_13, w143_16, w143_17, w143_18, w143_21, w143_22, w143_25, w143_26, w143_27, w143_28, w143_31, w143_32, w143_35, w143_36, w143_37, w143_38, w143_39, w143_40, w143_41, w143_44, w143_45, h1, h2, hi, hk, show ¬ r = 0 by omega, show ¬ r + 1 = 0 by omega, show ¬ i < 0 by omega, show ¬ k < 0 by omega, m3r (o := i) ⟨by omega, by omega⟩, aj (x := 3 * i) (y := k) ⟨by omega, by omega⟩, show 0 ≤ 3 * i + k by omega, show 3 * i + k < 24 by omega, ↓reduceIte, hh_wr, hl_wr, b10, b11, ite_not, ne_eq, Int.reduceEq, Int.reduceLE, Int.reduceLT, Int.reduceNe, Int.reduceNeg, Int.reduceAdd, Int.reduceSub, Int.reduceMul, not_false_eq_true, not_true_eq_false, false_and, and_false, true_and, and_true, and_self, true_or, or_true, false_or, or_false, if_true, if_false, ite_true, ite_false, mj_tl_some, mj_tl_none, mj_cs0, mj_cs1, mj_cs2, mj_cs3, mj_cs4]
theorem c_cell15 {i k : Int} (h : RR M) (hi : 0 ≤ i ∧ i < hh M 355 6) (hk : 0 ≤ k ∧ k < 3) : wc X d 143 [(27, 15), (0, i), (0, k)] M Q ↔ Q (some (0, hh M 355 (61 + 3 * i + k))) M := by
  rw [← h.gd hi hk]
  have := h.ai.d8
  exact c_cell (r := 15) (by decide) (c_15_1 h.cs) (l_16 h.cs) (by rw [h.gnd]; exact hi) (by rw [h.gnd]; exact this) hk
theorem c_fits {p : Nat} (h : RR M) (hp : p < 120) : wc X (d + 3) 142 [(21, 347), (0, (p : Int))] M Q ↔ Q (some (0, if cb (hh M 355) p then 1 else 0)) M := by
  show wp X (d + 3) 142 0 [(21, 347), (0, (p : Int)), (9, 0)] [] M Q ↔ _
  refine wp.det ?_
  simp only [w142_0, w142_1]
  obtain ⟨n, hn⟩ := nat_of h.ai.d0
  have hn8 := h.ai.d8
  have e : (hh M 355 6).toNat = n := by omega
  unfold cb
  rw [e]
  refine loopA (S := fun i b => wp X (d + 3) 142 2 [(21, 347), (0, (p : Int)), (0, (i : Int))] [] M (fun r M' => r = some (0, if b then 1 else 0) ∧ M' = M)) ?_ ?_ ?_
  · intro i hi hc
    obtain ⟨r1, r2, r3⟩ := h.ai.d i (by omega) (by omega)
    have r1' : 0 ≤ hh M 355 (61 + 3 * (i : Int) + 0) ∧ hh M 355 (61 + 3 * (i : Int) + 0) ≤ 4 := by rw [Int.add_zero]; exact r1
    have r2' : 0 ≤ hh M 355 (61 + 3 * (i : Int) + 1) ∧ hh M 355 (61 + 3 * (i : Int) + 1) ≤ 4 := by rw [show 61 + 3 * (i : Int) + 1 = 62 + 3 * i by omega]; exact r2
    have r3' : 0 ≤ hh M 355 (61 + 3 * (i : Int) + 2) ∧ hh M 355 (61 + 3 * (i : Int) + 2) ≤ 4 := by rw [show 61 + 3 * (i : Int) + 2 = 63 + 3 * i by omega]; exact r3
    have g0 : ∀ Q k, 0 ≤ k ∧ k < 3 → (wc X (d + 2) 143 [(27, 15), (0, (i : Int)), (0, k)] M Q ↔ Q (some (0, hh M 355 (61 + 3 * (i : Int) + k))) M) := fun Q k hk => c_cell15 h ⟨by omega, by omega⟩ hk
    have s0 : ∀ Q, (wc X (d + 2) 135 [(25, 2), (0, (p : Int)), (0, hh M 355 (61 + 3 * (i : Int) + 0)), (0, hh M 355 (61 + 3 * (i : Int) + 1)), (0, hh M 355 (61 + 3 * (i : Int) + 2))] M Q ↔ Q (some (0, if so (p : Int) (hh M 355 (61 + 3 * (i : Int) + 0)) (hh M 355 (61 + 3 * (i : Int) + 1)) (hh M 355 (61 + 3 * (i : Int) + 2)) then 1 else 0)) M) := fun Q => c_isSo h.cs h.tb ⟨by omega, by omega⟩ r1' r2' r3'
    rw [Int.add_zero] at s0
    have g1 := fun Q => g0 Q 0 (by decide)
    simp only [Int.add_zero] at g1
    simp only [w142_0, w142_1, w142_2, w142_3, w142_4, w142_7, w142_10, w142_13, w142_14, w142_17, w142_18, w142_19, w142_22, w142_23, w142_24, w142_27, w142_28, w142_31, w142_32, w142_33, w142_36, w142_37, w142_40, w142_41, w142_42, w142_45, w142_48, w142_51, w142_52_i, w142_52_0, w142_52_1, w142_53, w142_56, w142_59, w142_60_i, w142_60_0, w142_60_1, c_347_2 h.cs, c_347_3 h.cs, h.gnd, hn, g1, g0 _ 1 (by decide), g0 _ 2 (by decide), s0, hc, show (i : Int) < (n : Int) by omega, ↓reduceIte, hh_wr, hl_wr, b10, b11, ite_not, ne_eq, Int.reduceEq, Int.reduceLE, Int.reduceLT, Int.reduceNe, Int.reduceNeg, Int.reduceAdd, Int.reduceSub, Int.reduceMul, not_false_eq_true, not_true_eq_false, false_and, and_false, true_and, and_true, and_self, true_or, or_true, false_or, or_false, if_true, if_false, ite_true, ite_false, mj_tl_some, mj_tl_none, mj_cs0, mj_cs1, mj_cs2, mj_cs3, mj_cs4]
    simp
  · intro i b hi hc hS
    obtain ⟨r1, r2, r3⟩ := h.ai.d i (by omega) (by omega)
    have r1' : 0 ≤ hh M 355 (61 + 3 * (i : Int) + 0) ∧ hh M 355 (61 + 3 * (i : Int) + 0) ≤ 4 := by rw [Int.add_zero]; exact r1
    have r2' : 0 ≤ hh M 355 (61 + 3 * (i : Int) + 1) ∧ hh M 355 (61 + 3 * (i : Int) + 1) ≤ 4 := by rw [show 61 + 3 * (i : Int) + 1 = 62 + 3 * i by omega]; exact r2
    have r3' : 0 ≤ hh M 355 (61 + 3 * (i : Int) + 2) ∧ hh M 355 (61 + 3 * (i : Int) + 2) ≤ 4 := by rw [show 61 + 3 * (i : Int) + 2 = 63 + 3 * i by omega]; exact r3
    have g0 : ∀ Q k, 0 ≤ k ∧ k < 3 → (wc X (d + 2) 143 [(27, 15), (0, (i : Int)), (0, k)] M Q ↔ Q (some (0, hh M 355 (61 + 3 * (i : Int) + k))) M) := fun Q k hk => c_cell15 h ⟨by omega, by omega⟩ hk
    have s0 : ∀ Q, (wc X (d + 2) 135 [(25, 2), (0, (p : Int)), (0, hh M 355 (61 + 3 * (i : Int) + 0)), (0, hh M 355 (61 + 3 * (i : Int) + 1)), (0, hh M 355 (61 + 3 * (i : Int) + 2))] M Q ↔ Q (some (0, if so (p : Int) (hh M 355 (61 + 3 * (i : Int) + 0)) (hh M 355 (61 + 3 * (i : Int) + 1)) (hh M 355 (61 + 3 * (i : Int) + 2)) then 1 else 0)) M) := fun Q => c_isSo h.cs h.tb ⟨by omega, by omega⟩ r1' r2' r3'
    rw [Int.add_zero] at s0
    have g1 := fun Q => g0 Q 0 (by decide)
    simp only [Int.add_zero] at g1
    rw [w142_2]
    simp only [w142_0, w142_1, w142_3, w142_4, w142_7, w142_10, w142_13, w142_14, w142_17, w142_18, w142_19, w142_22, w142_23, w142_24, w142_27, w142_28, w142_31, w142_32, w142_33, w142_36, w142_37, w142_40, w142_41, w142_42, w142_45, w142_48, w142_51, w142_52_i, w142_52_0, w142_52_1, w142_53, w142_56, w142_59, w142_60_i, w142_60_0, w142_60_1, c_347_2 h.cs, c_347_3 h.cs, h.gnd, hn, g1, g0 _ 1 (by decide), g0 _ 2 (by decide), s0, hc, show (i : Int) < (n : Int) by omega, jp1 (p := i) (by omega), ↓reduceIte, hh_wr, hl_wr, b10, b11, ite_not, ne_eq, Int.reduceEq, Int.reduceLE, Int.reduceLT, Int.reduceNe, Int.reduceNeg, Int.reduceAdd, Int.reduceSub, Int.reduceMul, not_false_eq_true, not_true_eq_false, false_and, and_false, true_and, and_true, and_self, true_or, or_true, false_or, or_false, if_true, if_false, ite_true, ite_false, mj_tl_some, mj_tl_none, mj_cs0, mj_cs1, mj_cs2, mj_cs3, mj_cs4]
    exact hS
  · simp only [w142_0, w142_1, w142_2, w142_3, w142_4, w142_7, w142_10, w142_13, w142_14, w142_17, w142_18, w142_19, w142_22, w142_23, w142_24, w142_27, w142_28, w142_31, w142_32, w142_33, w142_36, w142_37, w142_40, w142_41, w142_42, w142_45, w142_48, w142_51, w142_52_i, w142_52_0, w142_52_1, w142_53, w142_56, w142_59, w142_60_i, w142_60_0, w142_60_1, c_347_3 h.cs, h.gnd, hn, Int.lt_irrefl, ↓reduceIte, hh_wr, hl_wr, b10, b11, ite_not, ne_eq, Int.reduceEq, Int.reduceLE, Int.reduceLT, Int.reduceNe, Int.reduceNeg, Int.reduceAdd, Int.reduceSub, Int.reduceMul, not_false_eq_true, not_true_eq_false, false_and, and_false, true_and, and_true, and_self, true_or, or_true, false_or, or_false, if_true, if_false, ite_true, ite_false, mj_tl_some, mj_tl_none, mj_cs0, mj_cs1, mj_cs2, mj_cs3, mj_cs4]
theorem m_canBe {p : Nat} (h : RR M) (hp : p < 120) : wc X (d + 2) 314 [(32, 354), (0, (p : Int))] M Q ↔ Q (some (0, if cb (hh M 355) p then 1 else 0)) M := by
  show wp X (d + 2) 314 0 [(32, 354), (0, (p : Int)), (9, 0)] [] M Q ↔ _
  refine wp.det ?_
  simp only [w314_0, w314_2]
  obtain ⟨n, hn⟩ := nat_of h.ai.d0
  have hn8 := h.ai.d8
  have e : (hh M 355 6).toNat = n := by omega
  unfold cb
  rw [e]
  have en : ji_add 61 (ji_mul 3 (n : Int)) = 61 + 3 * (n : Int) := by rw [m3l ⟨by omega, by omega⟩, aj ⟨by omega, by omega⟩]
  have key := loopA (S := fun i b => wp X (d + 2) 314 3 [(32, 354), (0, (p : Int)), (0, 61 + 3 * (i : Int))] [] M (fun r M' => r = some (0, if b then 1 else 0) ∧ M' = M)) (c := fun i => so (p : Int) (hh M 355 (61 + 3 * (i : Int))) (hh M 355 (61 + 3 * (i : Int) + 1)) (hh M 355 (61 + 3 * (i : Int) + 2))) (P := n) ?_ ?_ ?_
  · exact key
  · intro i hi hc
    obtain ⟨r1, r2, r3⟩ := h.ai.d i (by omega) (by omega)
    rw [show 62 + 3 * (i : Int) = 61 + 3 * i + 1 by omega] at r2
    rw [show 63 + 3 * (i : Int) = 61 + 3 * i + 2 by omega] at r3
    simp only [w314_0, w314_2, w314_3, w314_4, w314_6, w314_7, w314_8, w314_11, w314_13, w314_14, w314_15, w314_16, w314_19, w314_20, w314_21, w314_22, w314_25, w314_26, w314_27, w314_28, w314_31, w314_32, w314_33, w314_34, w314_35, w314_36, w314_39, w314_40, w314_41, w314_42, w314_43, w314_46, w314_49, w314_50_i, w314_50_0, w314_50_1, w314_51, w314_54, w314_57, w314_58_i, w314_58_0, w314_58_1, c_354_0 h.cs, l_355 h.cs, hn, en, m_isSo h.cs h.tb (o := (p : Int)) ⟨by omega, by omega⟩ r1 r2 r3, hc, aj (x := 61 + 3 * (i : Int)) (y := 1) ⟨by omega, by omega⟩, aj (x := 61 + 3 * (i : Int)) (y := 2) ⟨by omega, by omega⟩, show 61 + 3 * (i : Int) < 61 + 3 * (n : Int) by omega, ↓reduceIte, hh_wr, hl_wr, b10, b11, ite_not, ne_eq, Int.reduceEq, Int.reduceLE, Int.reduceLT, Int.reduceNe, Int.reduceNeg, Int.reduceAdd, Int.reduceSub, Int.reduceMul, not_false_eq_true, not_true_eq_false, false_and, and_false, true_and, and_true, and_self, true_or, or_true, false_or, or_false, if_true, if_false, ite_true, ite_false, mj_tl_some, mj_tl_none, mj_cs0, mj_cs1, mj_cs2, mj_cs3, mj_cs4]
    simp
    omega
  · intro i b hi hc hS
    obtain ⟨r1, r2, r3⟩ := h.ai.d i (by omega) (by omega)
    rw [show 62 + 3 * (i : Int) = 61 + 3 * i + 1 by omega] at r2
    rw [show 63 + 3 * (i : Int) = 61 + 3 * i + 2 by omega] at r3
    rw [w314_3]
    simp only [w314_0, w314_2, w314_4, w314_6, w314_7, w314_8, w314_11, w314_13, w314_14, w314_15, w314_16, w314_19, w314_20, w314_21, w314_22, w314_25, w314_26, w314_27, w314_28, w314_31, w314_32, w314_33, w314_34, w314_35, w314_36, w314_39, w314_40, w314_41, w314_42, w314_43, w314_46, w314_49, w314_50_i, w314_50_0, w314_50_1, w314_51, w314_54, w314_57, w314_58_i, w314_58_0, w314_58_1, c_354_0 h.cs, l_355 h.cs, hn, en, m_isSo h.cs h.tb (o := (p : Int)) ⟨by omega, by omega⟩ r1 r2 r3, hc, aj (x := 61 + 3 * (i : Int)) (y := 1) ⟨by omega, by omega⟩, aj (x := 61 + 3 * (i : Int)) (y := 2) ⟨by omega, by omega⟩, aj (x := 61 + 3 * (i : Int)) (y := 3) ⟨by omega, by omega⟩, show 61 + 3 * (i : Int) < 61 + 3 * (n : Int) by omega, ↓reduceIte, hh_wr, hl_wr, b10, b11, ite_not, ne_eq, Int.reduceEq, Int.reduceLE, Int.reduceLT, Int.reduceNe, Int.reduceNeg, Int.reduceAdd, Int.reduceSub, Int.reduceMul, not_false_eq_true, not_true_eq_false, false_and, and_false, true_and, and_true, and_self, true_or, or_true, false_or, or_false, if_true, if_false, ite_true, ite_false, mj_tl_some, mj_tl_none, mj_cs0, mj_cs1, mj_cs2, mj_cs3, mj_cs4]
    refine ⟨⟨by omega, by omega⟩, ⟨by omega, by omega⟩, ⟨by omega, by omega⟩, ?_⟩
    rw [show 61 + 3 * (i : Int) + 3 = 61 + 3 * ((i + 1 : Nat) : Int) by omega]
    exact hS
  · simp only [w314_0, w314_2, w314_3, w314_4, w314_6, w314_7, w314_8, w314_11, w314_13, w314_14, w314_15, w314_16, w314_19, w314_20, w314_21, w314_22, w314_25, w314_26, w314_27, w314_28, w314_31, w314_32, w314_33, w314_34, w314_35, w314_36, w314_39, w314_40, w314_41, w314_42, w314_43, w314_46, w314_49, w314_50_i, w314_50_0, w314_50_1, w314_51, w314_54, w314_57, w314_58_i, w314_58_0, w314_58_1, c_354_0 h.cs, l_355 h.cs, hn, en, Int.lt_irrefl, ↓reduceIte, hh_wr, hl_wr, b10, b11, ite_not, ne_eq, Int.reduceEq, Int.reduceLE, Int.reduceLT, Int.reduceNe, Int.reduceNeg, Int.reduceAdd, Int.reduceSub, Int.reduceMul, not_false_eq_true, not_true_eq_false, false_and, and_false, true_and, and_true, and_self, true_or, or_true, false_or, or_false, if_true, if_false, ite_true, ite_false, mj_tl_some, mj_tl_none, mj_cs0, mj_cs1, mj_cs2, mj_cs3, mj_cs4]
/-- what find leaves -/
def Found (M M1 : mj_M) : Prop := fz [8] M M1 ∧ hh M1 347 1 = (nCb (hh M 355) : Int) ∧ ∀ p, p < 120 → cb (hh M 355) p = true → hh M1 348 (cn (cb (hh M 355)) p : Int) = (p : Int)
theorem c_find (h : RR M) : wc X (d + 4) 141 [(21, 347)] M (fun r M1 => r = some (0, (nCb (hh M 355) : Int)) ∧ Found M M1) := by
  show wp X (d + 4) 141 0 [(21, 347), (9, 0)] [] M _
  simp only [w141_0, w141_1, w141_2, w141_5, w141_6, ↓reduceIte, hh_wr, hl_wr, b10, b11, ite_not, ne_eq, Int.reduceEq, Int.reduceLE, Int.reduceLT, Int.reduceNe, Int.reduceNeg, Int.reduceAdd, Int.reduceSub, Int.reduceMul, not_false_eq_true, not_true_eq_false, false_and, and_false, true_and, and_true, and_self, true_or, or_true, false_or, or_false, if_true, if_false, ite_true, ite_false, mj_tl_some, mj_tl_none, mj_cs0, mj_cs1, mj_cs2, mj_cs3, mj_cs4]
  have key := loop1 (S := fun p M1 => wp X (d + 4) 141 7 [(21, 347), (0, (p : Int))] [] M1 (fun r M2 => r = some (0, (nCb (hh M 355) : Int)) ∧ Found M M2)) (I := fun p M1 => fz [8] M M1 ∧ hh M1 347 1 = (cn (cb (hh M 355)) p : Int) ∧ ∀ q, q < p → cb (hh M 355) q = true → hh M1 348 (cn (cb (hh M 355)) q : Int) = (q : Int)) (P := 120) ?_ ?_
  · exact key _ ⟨(fz.rfl').wr (by decide), by rw [hh_wr, if_pos ⟨rfl, rfl⟩]; rfl, fun q hq => by omega⟩
  · rintro p M1 hp ⟨f, h1, h2⟩ ih
    have h' := h.s8 f
    have e5 := fz8_355 f
    have hle := cn_le (cb (hh M 355)) p
    have hf : ∀ Q, (wc X (d + 3) 142 [(21, 347), (0, (p : Int))] M1 Q ↔ Q (some (0, if cb (hh M 355) p then 1 else 0)) M1) := fun Q => by rw [c_fits h' hp, e5]
    rw [w141_7]
    cases hc : cb (hh M 355) p
    · simp only [w141_0, w141_1, w141_2, w141_5, w141_6, w141_8, w141_10, w141_13, w141_14, w141_15, w141_18, w141_21, w141_22, w141_25, w141_26, w141_29, w141_30, w141_31, w141_32, w141_33, w141_36, w141_37, w141_38, w141_41, w141_44, w141_47, w141_48, w141_51, hf, hc, show (p : Int) < 120 by omega, jp1 (p := p) (by omega), ↓reduceIte, hh_wr, hl_wr, b10, b11, ite_not, ne_eq, Int.reduceEq, Int.reduceLE, Int.reduceLT, Int.reduceNe, Int.reduceNeg, Int.reduceAdd, Int.reduceSub, Int.reduceMul, not_false_eq_true, not_true_eq_false, false_and, and_false, true_and, and_true, and_self, true_or, or_true, false_or, or_false, if_true, if_false, ite_true, ite_false, mj_tl_some, mj_tl_none, mj_cs0, mj_cs1, mj_cs2, mj_cs3, mj_cs4]
      exact ih _ ⟨f, by rw [cn_f hc]; exact h1, fun q hq hq2 => h2 q (by rcases Nat.lt_or_ge q p with g | g; exact g; exfalso; rw [show q = p by omega] at hq2; rw [hc] at hq2; cases hq2) hq2⟩
    · simp only [w141_0, w141_1, w141_2, w141_5, w141_6, w141_8, w141_10, w141_13, w141_14, w141_15, w141_18, w141_21, w141_22, w141_25, w141_26, w141_29, w141_30, w141_31, w141_32, w141_33, w141_36, w141_37, w141_38, w141_41, w141_44, w141_47, w141_48, w141_51, hf, hc, h1, c_347_0 h'.cs, l_348 h'.cs, show (p : Int) < 120 by omega, jp1 (p := p) (by omega), jp1 (p := cn (cb (hh M 355)) p) (by omega), ↓reduceIte, hh_wr, hl_wr, b10, b11, ite_not, ne_eq, Int.reduceEq, Int.reduceLE, Int.reduceLT, Int.reduceNe, Int.reduceNeg, Int.reduceAdd, Int.reduceSub, Int.reduceMul, not_false_eq_true, not_true_eq_false, false_and, and_false, true_and, and_true, and_self, true_or, or_true, false_or, or_false, if_true, if_false, ite_true, ite_false, mj_tl_some, mj_tl_none, mj_cs0, mj_cs1, mj_cs2, mj_cs3, mj_cs4]
      refine ⟨⟨by omega, by omega⟩, ih _ ⟨(f.wr (by rw [z_348]; decide)).wr (by decide), by rw [hh_wr, if_pos ⟨rfl, rfl⟩, cn_t hc], ?_⟩⟩
      intro q hq hq2
      rw [hh_wr, if_neg (by omega), hh_wr]
      by_cases e : q = p
      · subst e; rw [if_pos ⟨rfl, rfl⟩]
      · have := cn_lt (c := cb (hh M 355)) (show q < p by omega) hq2
        rw [if_neg (by omega)]
        exact h2 q (by omega) hq2
  · rintro M1 ⟨f, h1, h2⟩
    simp only [w141_0, w141_1, w141_2, w141_5, w141_6, w141_7, w141_8, w141_10, w141_13, w141_14, w141_15, w141_18, w141_21, w141_22, w141_25, w141_26, w141_29, w141_30, w141_31, w141_32, w141_33, w141_36, w141_37, w141_38, w141_41, w141_44, w141_47, w141_48, w141_51, h1, ↓reduceIte, hh_wr, hl_wr, b10, b11, ite_not, ne_eq, Int.reduceEq, Int.reduceLE, Int.reduceLT, Int.reduceNe, Int.reduceNeg, Int.reduceAdd, Int.reduceSub, Int.reduceMul, not_false_eq_true, not_true_eq_false, false_and, and_false, true_and, and_true, and_self, true_or, or_true, false_or, or_false, if_true, if_false, ite_true, ite_false, mj_tl_some, mj_tl_none, mj_cs0, mj_cs1, mj_cs2, mj_cs3, mj_cs4]
    exact ⟨by rfl, f, h1, h2⟩
theorem c_howMany {M1 : mj_M} {a b : Int} (h : RR M) (g : Found M M1) (ha : 0 ≤ a ∧ a ≤ 4) (hb : 0 ≤ b ∧ b ≤ 4) : wc X (d + 3) 145 [(21, 347), (0, a), (0, b)] M1 Q ↔ Q (some (0, (ah (hh M 355) a b : Int))) M1 := by
  obtain ⟨f, g1, g2⟩ := g
  have h' := h.s8 f
  show wp X (d + 3) 145 0 [(21, 347), (0, a), (0, b), (9, 0), (9, 0)] [] M1 Q ↔ _
  refine wp.det ?_
  have hle := cn_le (cb (hh M 355)) 120
  have el : ∀ i, i < nCb (hh M 355) → 0 ≤ hh M1 348 (i : Int) ∧ hh M1 348 (i : Int) ≤ 119 := by
    intro i hi
    obtain ⟨p, q1, q2, q3⟩ := cn_ex hi
    rw [← q3, g2 p q1 q2]; omega
  have key := loop0 (S := fun i => wp X (d + 3) 145 5 [(21, 347), (0, a), (0, b), (0, (cn (fun i => decide (pT (5 * hh M1 348 (i : Int) + a) < pT (5 * hh M1 348 (i : Int) + b))) i : Int)), (0, (i : Int))] [] M1 (fun r M2 => r = some (0, (ah (hh M 355) a b : Int)) ∧ M2 = M1)) (P := nCb (hh M 355)) ?_ ?_
  · simp only [w145_0, w145_1, w145_2, w145_3]
    exact key
  · intro i hi hS
    have hle2 := cn_le (fun i => decide (pT (5 * hh M1 348 (i : Int) + a) < pT (5 * hh M1 348 (i : Int) + b))) i
    have hi2 : i < 120 := by unfold nCb at hi; omega
    rw [w145_5]
    have ca : ∀ Q, (wc X (d + 2) 146 [(25, 2), (0, hh M1 348 (i : Int)), (0, a), (0, b)] M1 Q ↔ Q (some (0, if pT (5 * hh M1 348 (i : Int) + a) < pT (5 * hh M1 348 (i : Int) + b) then 1 else 0)) M1) := fun Q => c_isAhead h'.cs h'.tb (el i hi) ha hb
    simp only [w145_0, w145_1, w145_2, w145_3, w145_7, w145_8, w145_11, w145_14, w145_15, w145_18, w145_19, w145_22, w145_24, w145_25, w145_26, w145_27, w145_30, w145_33, w145_36, w145_39, w145_42, w145_43, c_347_0 h'.cs, c_347_2 h'.cs, l_348 h'.cs, g1, ca, show (i : Int) < (nCb (hh M 355) : Int) by omega, show (0 : Int) ≤ (i : Int) by omega, show (i : Int) < 120 by omega, jp1 (p := i) (by omega), ↓reduceIte, hh_wr, hl_wr, b10, b11, ite_not, ne_eq, Int.reduceEq, Int.reduceLE, Int.reduceLT, Int.reduceNe, Int.reduceNeg, Int.reduceAdd, Int.reduceSub, Int.reduceMul, not_false_eq_true, not_true_eq_false, false_and, and_false, true_and, and_true, and_self, true_or, or_true, false_or, or_false, if_true, if_false, ite_true, ite_false, mj_tl_some, mj_tl_none, mj_cs0, mj_cs1, mj_cs2, mj_cs3, mj_cs4]
    by_cases hC : pT (5 * hh M1 348 (i : Int) + a) < pT (5 * hh M1 348 (i : Int) + b)
    · rw [cn_t (by simpa using hC)] at hS
      simp only [hC, jp1 (p := cn (fun i => decide (pT (5 * hh M1 348 (i : Int) + a) < pT (5 * hh M1 348 (i : Int) + b))) i) (by omega), ↓reduceIte, hh_wr, hl_wr, b10, b11, ite_not, ne_eq, Int.reduceEq, Int.reduceLE, Int.reduceLT, Int.reduceNe, Int.reduceNeg, Int.reduceAdd, Int.reduceSub, Int.reduceMul, not_false_eq_true, not_true_eq_false, false_and, and_false, true_and, and_true, and_self, true_or, or_true, false_or, or_false, if_true, if_false, ite_true, ite_false, mj_tl_some, mj_tl_none, mj_cs0, mj_cs1, mj_cs2, mj_cs3, mj_cs4]
      exact hS
    · rw [cn_f (by simpa using hC)] at hS
      simp only [hC, ↓reduceIte, hh_wr, hl_wr, b10, b11, ite_not, ne_eq, Int.reduceEq, Int.reduceLE, Int.reduceLT, Int.reduceNe, Int.reduceNeg, Int.reduceAdd, Int.reduceSub, Int.reduceMul, not_false_eq_true, not_true_eq_false, false_and, and_false, true_and, and_true, and_self, true_or, or_true, false_or, or_false, if_true, if_false, ite_true, ite_false, mj_tl_some, mj_tl_none, mj_cs0, mj_cs1, mj_cs2, mj_cs3, mj_cs4]
      exact hS
  · simp only [w145_0, w145_1, w145_2, w145_3, w145_5, w145_7, w145_8, w145_11, w145_14, w145_15, w145_18, w145_19, w145_22, w145_24, w145_25, w145_26, w145_27, w145_30, w145_33, w145_36, w145_39, w145_42, w145_43, g1, Int.lt_irrefl, ↓reduceIte, hh_wr, hl_wr, b10, b11, ite_not, ne_eq, Int.reduceEq, Int.reduceLE, Int.reduceLT, Int.reduceNe, Int.reduceNeg, Int.reduceAdd, Int.reduceSub, Int.reduceMul, not_false_eq_true, not_true_eq_false, false_and, and_false, true_and, and_true, and_self, true_or, or_true, false_or, or_false, if_true, if_false, ite_true, ite_false, mj_tl_some, mj_tl_none, mj_cs0, mj_cs1, mj_cs2, mj_cs3, mj_cs4]
    have e1 := cn_sub (c := cb (hh M 355)) (g := fun p => decide (pT (5 * (p : Int) + a) < pT (5 * (p : Int) + b))) (l := fun i => (hh M1 348 (i : Int)).toNat) (P := 120) (fun p hp hc => by have := g2 p hp hc; simp only [this]; omega)
    have e2 := cn_congr (c := fun i : Nat => decide (pT (5 * ((hh M1 348 (i : Int)).toNat : Int) + a) < pT (5 * ((hh M1 348 (i : Int)).toNat : Int) + b))) (c' := fun i : Nat => decide (pT (5 * hh M1 348 (i : Int) + a) < pT (5 * hh M1 348 (i : Int) + b))) (P := cn (cb (hh M 355)) 120) (fun i hi => by simp only [show (((hh M1 348 (i : Int)).toNat : Nat) : Int) = hh M1 348 (i : Int) by have := el i hi; omega])
    have e3 : cn (fun i : Nat => decide (pT (5 * hh M1 348 (i : Int) + a) < pT (5 * hh M1 348 (i : Int) + b))) (nCb (hh M 355)) = ah (hh M 355) a b := e2.symm.trans e1
    rw [e3]
theorem m_aheadIn {a b : Int} (h : RR M) (ha : 0 ≤ a ∧ a ≤ 4) (hb : 0 ≤ b ∧ b ≤ 4) : wc X (d + 3) 316 [(32, 354), (0, a), (0, b)] M Q ↔ Q (some (0, (ah (hh M 355) a b : Int))) M := by
  show wp X (d + 3) 316 0 [(32, 354), (0, a), (0, b), (9, 0), (9, 0)] [] M Q ↔ _
  refine wp.det ?_
  have key := loop0 (S := fun p => wp X (d + 3) 316 5 [(32, 354), (0, a), (0, b), (0, (cn (fun p => cb (hh M 355) p && decide (pT (5 * (p : Int) + a) < pT (5 * (p : Int) + b))) p : Int)), (0, (p : Int))] [] M (fun r M2 => r = some (0, (ah (hh M 355) a b : Int)) ∧ M2 = M)) (P := 120) ?_ ?_
  · simp only [w316_0, w316_1, w316_2, w316_3]
    exact key
  · intro p hp hS
    have hle := cn_le (fun p => cb (hh M 355) p && decide (pT (5 * (p : Int) + a) < pT (5 * (p : Int) + b))) p
    generalize hn : cn (fun p => cb (hh M 355) p && decide (pT (5 * (p : Int) + a) < pT (5 * (p : Int) + b))) p = n at *
    have c1 : ∀ Q, (wc X (d + 2) 314 [(32, 354), (0, (p : Int))] M Q ↔ Q (some (0, if cb (hh M 355) p then 1 else 0)) M) := fun Q => m_canBe h hp
    have p1 : ∀ Q, (wc X (d + 2) 196 [(32, 354), (0, (p : Int)), (0, a)] M Q ↔ Q (some (0, pT (5 * (p : Int) + a))) M) := fun Q => m_placeOf h.cs h.tb ⟨by omega, by omega⟩ ha
    have p2 : ∀ Q, (wc X (d + 2) 196 [(32, 354), (0, (p : Int)), (0, b)] M Q ↔ Q (some (0, pT (5 * (p : Int) + b))) M) := fun Q => m_placeOf h.cs h.tb ⟨by omega, by omega⟩ hb
    rw [w316_5]
    simp only [w316_0, w316_1, w316_2, w316_3, w316_7, w316_9, w316_12, w316_13, w316_14, w316_16, w316_19, w316_22, w316_23, w316_25, w316_26, w316_29, w316_30, w316_32, w316_33, w316_36, w316_39, w316_40, w316_43, w316_44, w316_45, w316_46, w316_49, w316_52, w316_53, c1, p1, p2, show (p : Int) < 120 by omega, jp1 (p := p) (by omega), ↓reduceIte, hh_wr, hl_wr, b10, b11, ite_not, ne_eq, Int.reduceEq, Int.reduceLE, Int.reduceLT, Int.reduceNe, Int.reduceNeg, Int.reduceAdd, Int.reduceSub, Int.reduceMul, not_false_eq_true, not_true_eq_false, false_and, and_false, true_and, and_true, and_self, true_or, or_true, false_or, or_false, if_true, if_false, ite_true, ite_false, mj_tl_some, mj_tl_none, mj_cs0, mj_cs1, mj_cs2, mj_cs3, mj_cs4]
    cases hc : cb (hh M 355) p
    · rw [cn_f (by simp [hc]), hn] at hS
      simp only [aj (x := (n : Int)) (y := 0) ⟨by omega, by omega⟩, Int.add_zero, Bool.false_eq_true, ↓reduceIte, hh_wr, hl_wr, b10, b11, ite_not, ne_eq, Int.reduceEq, Int.reduceLE, Int.reduceLT, Int.reduceNe, Int.reduceNeg, Int.reduceAdd, Int.reduceSub, Int.reduceMul, not_false_eq_true, not_true_eq_false, false_and, and_false, true_and, and_true, and_self, true_or, or_true, false_or, or_false, if_true, if_false, ite_true, ite_false, mj_tl_some, mj_tl_none, mj_cs0, mj_cs1, mj_cs2, mj_cs3, mj_cs4]
      exact hS
    · by_cases hC : pT (5 * (p : Int) + a) < pT (5 * (p : Int) + b)
      · rw [cn_t (by simp [hc, hC]), hn] at hS
        simp only [hC, jp1 (p := n) (by omega), ↓reduceIte, hh_wr, hl_wr, b10, b11, ite_not, ne_eq, Int.reduceEq, Int.reduceLE, Int.reduceLT, Int.reduceNe, Int.reduceNeg, Int.reduceAdd, Int.reduceSub, Int.reduceMul, not_false_eq_true, not_true_eq_false, false_and, and_false, true_and, and_true, and_self, true_or, or_true, false_or, or_false, if_true, if_false, ite_true, ite_false, mj_tl_some, mj_tl_none, mj_cs0, mj_cs1, mj_cs2, mj_cs3, mj_cs4]
        exact hS
      · rw [cn_f (by simp [hC]), hn] at hS
        simp only [hC, aj (x := (n : Int)) (y := 0) ⟨by omega, by omega⟩, Int.add_zero, ↓reduceIte, hh_wr, hl_wr, b10, b11, ite_not, ne_eq, Int.reduceEq, Int.reduceLE, Int.reduceLT, Int.reduceNe, Int.reduceNeg, Int.reduceAdd, Int.reduceSub, Int.reduceMul, not_false_eq_true, not_true_eq_false, false_and, and_false, true_and, and_true, and_self, true_or, or_true, false_or, or_false, if_true, if_false, ite_true, ite_false, mj_tl_some, mj_tl_none, mj_cs0, mj_cs1, mj_cs2, mj_cs3, mj_cs4]
        exact hS
  · simp only [w316_0, w316_1, w316_2, w316_3, w316_5, w316_7, w316_9, w316_12, w316_13, w316_14, w316_16, w316_19, w316_22, w316_23, w316_25, w316_26, w316_29, w316_30, w316_32, w316_33, w316_36, w316_39, w316_40, w316_43, w316_44, w316_45, w316_46, w316_49, w316_52, w316_53, ↓reduceIte, hh_wr, hl_wr, b10, b11, ite_not, ne_eq, Int.reduceEq, Int.reduceLE, Int.reduceLT, Int.reduceNe, Int.reduceNeg, Int.reduceAdd, Int.reduceSub, Int.reduceMul, not_false_eq_true, not_true_eq_false, false_and, and_false, true_and, and_true, and_self, true_or, or_true, false_or, or_false, if_true, if_false, ite_true, ite_false, mj_tl_some, mj_tl_none, mj_cs0, mj_cs1, mj_cs2, mj_cs3, mj_cs4]
    rfl
end Guess
