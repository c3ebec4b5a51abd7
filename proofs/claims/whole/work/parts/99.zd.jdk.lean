/-! TEXT: words and signs (the JDK's part, and pure) -/
section Jdk
variable {X : mj_X} {d : Nat} {M : mj_M} {Q : Option mj_V → mj_M → Prop}
theorem c_isLatin1 {x : Int} : wc X d 34 [(10, x)] M Q ↔ Q (some (0, 1)) M := by
  show wp X d 34 0 [(10, x)] [] M Q ↔ _
  simp only [w34_0, w34_3, w34_6, w34_7, w34_10, w34_13, w34_14, w34_17, w34_18_i, w34_18_0, w34_18_1, ↓reduceIte, hh_wr, hl_wr, b10, b11, ite_not, ne_eq, Int.reduceEq, Int.reduceLE, Int.reduceLT, Int.reduceNe, Int.reduceNeg, Int.reduceAdd, Int.reduceSub, Int.reduceMul, not_false_eq_true, not_true_eq_false, false_and, and_false, true_and, and_true, and_self, true_or, or_true, false_or, or_false, if_true, if_false, ite_true, ite_false, mj_tl_some, mj_tl_none, mj_cs0, mj_cs1, mj_cs2, mj_cs3, mj_cs4]
theorem c_chk37 {j n : Int} (h : 0 ≤ j ∧ j < n) : wc X d 37 [(0, j), (0, n), (12, 0)] M Q ↔ Q (some (0, j)) M := by
  show wp X d 37 0 [(0, j), (0, n), (12, 0)] [] M Q ↔ _
  simp only [w37_0, w37_1, w37_4, w37_5, w37_6, w37_16, w37_17, h.2, show ¬ j < 0 by omega, ↓reduceIte, hh_wr, hl_wr, b10, b11, ite_not, ne_eq, Int.reduceEq, Int.reduceLE, Int.reduceLT, Int.reduceNe, Int.reduceNeg, Int.reduceAdd, Int.reduceSub, Int.reduceMul, not_false_eq_true, not_true_eq_false, false_and, and_false, true_and, and_true, and_self, true_or, or_true, false_or, or_false, if_true, if_false, ite_true, ite_false, mj_tl_some, mj_tl_none, mj_cs0, mj_cs1, mj_cs2, mj_cs3, mj_cs4]
theorem c_chk36 {j n : Int} (h : 0 ≤ j ∧ j < n) : wc X (d + 1) 36 [(0, j), (0, n)] M Q ↔ Q none M := by
  show wp X (d + 1) 36 0 [(0, j), (0, n)] [] M Q ↔ _
  simp only [w36_0, w36_1, w36_2, w36_5, w36_8, w36_9, c_chk37 h, ↓reduceIte, hh_wr, hl_wr, b10, b11, ite_not, ne_eq, Int.reduceEq, Int.reduceLE, Int.reduceLT, Int.reduceNe, Int.reduceNeg, Int.reduceAdd, Int.reduceSub, Int.reduceMul, not_false_eq_true, not_true_eq_false, false_and, and_false, true_and, and_true, and_self, true_or, or_true, false_or, or_false, if_true, if_false, ite_true, ite_false, mj_tl_some, mj_tl_none, mj_cs0, mj_cs1, mj_cs2, mj_cs3, mj_cs4]
theorem tl0_len : (mj_tl 0).length = 156 := by decide +kernel
theorem tl1_len : (mj_tl 1).length = 11 := by decide +kernel
theorem tl0_c : ∀ j : Nat, j < 156 → ji_2c (ji_and ((mj_tl 0).getD j 0) 255) = (mj_tl 0).getD j 0 ∧ 0 ≤ (mj_tl 0).getD j 0 ∧ (mj_tl 0).getD j 0 < 65536 := by decide +kernel
theorem c_charAt {j : Nat} (hj : j < 156) : wc X (d + 3) 33 [(10, 0), (0, (j : Int))] M Q ↔ Q (some (0, (mj_tl 0).getD j 0)) M := by
  obtain ⟨h1, h2⟩ := tl0_c j hj
  have g : ∀ Q, (wc X (d + 2) 35 [(11, 0), (0, (j : Int))] M Q ↔ Q (some (0, (mj_tl 0).getD j 0)) M) := fun Q => by
    show wp X (d + 2) 35 0 [(11, 0), (0, (j : Int))] [] M Q ↔ _
    simp only [w35_0, w35_1, w35_2, w35_3, w35_6, w35_7, w35_8, w35_9, w35_12, w35_13, tl0_len, c_chk36 (d := d) (j := (j : Int)) (n := ((156 : Nat) : Int)) ⟨by omega, by omega⟩, show (0 : Int) ≤ (j : Int) by omega, show (j : Int) < ((156 : Nat) : Int) by omega, Int.toNat_natCast, h1, w35_14 h2, ↓reduceIte, hh_wr, hl_wr, b10, b11, ite_not, ne_eq, Int.reduceEq, Int.reduceLE, Int.reduceLT, Int.reduceNe, Int.reduceNeg, Int.reduceAdd, Int.reduceSub, Int.reduceMul, not_false_eq_true, not_true_eq_false, false_and, and_false, true_and, and_true, and_self, true_or, or_true, false_or, or_false, if_true, if_false, ite_true, ite_false, mj_tl_some, mj_tl_none, mj_cs0, mj_cs1, mj_cs2, mj_cs3, mj_cs4]
  show wp X (d + 3) 33 0 [(10, 0), (0, (j : Int))] [] M Q ↔ _
  simp only [w33_0, w33_1, w33_4, w33_7, w33_8, w33_11, w33_12, c_isLatin1, g, w33_15 h2, ↓reduceIte, hh_wr, hl_wr, b10, b11, ite_not, ne_eq, Int.reduceEq, Int.reduceLE, Int.reduceLT, Int.reduceNe, Int.reduceNeg, Int.reduceAdd, Int.reduceSub, Int.reduceMul, not_false_eq_true, not_true_eq_false, false_and, and_false, true_and, and_true, and_self, true_or, or_true, false_or, or_false, if_true, if_false, ite_true, ite_false, mj_tl_some, mj_tl_none, mj_cs0, mj_cs1, mj_cs2, mj_cs3, mj_cs4]
theorem ji2b : ∀ x : Nat, x < 256 → ji_2b (x : Int) = (if x < 128 then (x : Int) else (x : Int) - 256) ∧ ji_2c (x : Int) = (x : Int) := by decide +kernel
theorem ji2b_eq {x c : Int} (hx : 0 ≤ x ∧ x ≤ 255) (hc : 0 ≤ c ∧ c < 128) : (c = ji_2b x) = (x = c) := by
  obtain ⟨n, rfl⟩ := nat_of hx.1
  rw [(ji2b n (by omega)).1]
  apply propext
  split <;> omega
theorem ji2c_eq {x : Int} (hx : 0 ≤ x ∧ x ≤ 255) : ji_2c x = x := by
  obtain ⟨n, rfl⟩ := nat_of hx.1
  exact (ji2b n (by omega)).2
theorem jis : (ji_add 0 1 = 1 ∧ ji_add 1 1 = 2 ∧ ji_add 2 1 = 3 ∧ ji_add 3 1 = 4 ∧ ji_add 4 1 = 5 ∧ ji_add 5 1 = 6) ∧ (ji_add 6 1 = 7 ∧ ji_add 7 1 = 8 ∧ ji_add 8 1 = 9 ∧ ji_add 9 1 = 10 ∧ ji_add 10 1 = 11) ∧ ji_shr 11 0 = 11 := by decide +kernel
theorem tl1_c : ((mj_tl 1).getD (0 : Int).toNat 0 = 60 ∧ (mj_tl 1).getD (1 : Int).toNat 0 = 62 ∧ (mj_tl 1).getD (2 : Int).toNat 0 = 61 ∧ (mj_tl 1).getD (3 : Int).toNat 0 = 35 ∧ (mj_tl 1).getD (4 : Int).toNat 0 = 43 ∧ (mj_tl 1).getD (5 : Int).toNat 0 = 45) ∧ ((mj_tl 1).getD (6 : Int).toNat 0 = 42 ∧ (mj_tl 1).getD (7 : Int).toNat 0 = 47 ∧ (mj_tl 1).getD (8 : Int).toNat 0 = 40 ∧ (mj_tl 1).getD (9 : Int).toNat 0 = 41 ∧ (mj_tl 1).getD (10 : Int).toNat 0 = 59) := by decide +kernel
theorem c_indexC {x : Int} (hx : 0 ≤ x ∧ x ≤ 255) : wc X d 48 [(11, 1), (0, x), (0, 0), (0, 11)] M Q ↔ Q (some (0, sgi x)) M := by
  show wp X d 48 0 [(11, 1), (0, x), (0, 0), (0, 11), (9, 0), (9, 0)] [] M Q ↔ _
  obtain ⟨⟨a0, a1, a2, a3, a4, a5⟩, ⟨a6, a7, a8, a9, a10⟩, -⟩ := jis
  obtain ⟨⟨b0, b1, b2, b3, b4, b5⟩, b6, b7, b8, b9, b10⟩ := tl1_c
  have l11 : (((mj_tl 1).length : Nat) : Int) = 11 := by rw [tl1_len]; rfl
  simp only [w48_0, w48_1, w48_2, w48_4, w48_5, w48_7, w48_9, w48_10, w48_13, w48_14, w48_16, w48_17, w48_19, w48_22, w48_24, w48_25, w48_28, w48_31, w48_32, l11, a0, a1, a2, a3, a4, a5, a6, a7, a8, a9, a10, b0, b1, b2, b3, b4, b5, b6, b7, b8, b9, b10, ji2b_eq hx (c := 60) (by decide), ji2b_eq hx (c := 62) (by decide), ji2b_eq hx (c := 61) (by decide), ji2b_eq hx (c := 35) (by decide), ji2b_eq hx (c := 43) (by decide), ji2b_eq hx (c := 45) (by decide), ji2b_eq hx (c := 42) (by decide), ji2b_eq hx (c := 47) (by decide), ji2b_eq hx (c := 40) (by decide), ji2b_eq hx (c := 41) (by decide), ji2b_eq hx (c := 59) (by decide), ite_q, sgi, ↓reduceIte, hh_wr, hl_wr, b10, b11, ite_not, ne_eq, Int.reduceEq, Int.reduceLE, Int.reduceLT, Int.reduceNe, Int.reduceNeg, Int.reduceAdd, Int.reduceSub, Int.reduceMul, not_false_eq_true, not_true_eq_false, false_and, and_false, true_and, and_true, and_self, true_or, or_true, false_or, or_false, if_true, if_false, ite_true, ite_false, mj_tl_some, mj_tl_none, mj_cs0, mj_cs1, mj_cs2, mj_cs3, mj_cs4]
theorem c_canEnc {x : Int} (hx : 0 ≤ x ∧ x ≤ 255) : wc X d 46 [(0, x)] M Q ↔ Q (some (0, 1)) M := by
  show wp X d 46 0 [(0, x)] [] M Q ↔ _
  simp only [w46_0, w46_1, w46_4, w46_5, w46_8, w46_11, w46_12, w46_15, w46_16_i, w46_16_0, w46_16_1, show ¬ x < 0 by omega, hx.2, ↓reduceIte, hh_wr, hl_wr, b10, b11, ite_not, ne_eq, Int.reduceEq, Int.reduceLE, Int.reduceLT, Int.reduceNe, Int.reduceNeg, Int.reduceAdd, Int.reduceSub, Int.reduceMul, not_false_eq_true, not_true_eq_false, false_and, and_false, true_and, and_true, and_self, true_or, or_true, false_or, or_false, if_true, if_false, ite_true, ite_false, mj_tl_some, mj_tl_none, mj_cs0, mj_cs1, mj_cs2, mj_cs3, mj_cs4]
theorem c_coder : wc X d 44 [(10, 1)] M Q ↔ Q (some (0, 0)) M := by
  show wp X d 44 0 [(10, 1)] [] M Q ↔ _
  simp only [w44_0, w44_3, w44_6, w44_7, w44_10, w44_14 (x := 0) (by decide), ↓reduceIte, hh_wr, hl_wr, b10, b11, ite_not, ne_eq, Int.reduceEq, Int.reduceLE, Int.reduceLT, Int.reduceNe, Int.reduceNeg, Int.reduceAdd, Int.reduceSub, Int.reduceMul, not_false_eq_true, not_true_eq_false, false_and, and_false, true_and, and_true, and_self, true_or, or_true, false_or, or_false, if_true, if_false, ite_true, ite_false, mj_tl_some, mj_tl_none, mj_cs0, mj_cs1, mj_cs2, mj_cs3, mj_cs4]
theorem c_slen : wc X (d + 1) 43 [(10, 1)] M Q ↔ Q (some (0, 11)) M := by
  show wp X (d + 1) 43 0 [(10, 1)] [] M Q ↔ _
  have l11 : (((mj_tl 1).length : Nat) : Int) = 11 := by rw [tl1_len]; rfl
  simp only [w43_0, w43_1, w43_4, w43_5, w43_6, w43_9, w43_10, c_coder, l11, jis.2.2, ↓reduceIte, hh_wr, hl_wr, b10, b11, ite_not, ne_eq, Int.reduceEq, Int.reduceLE, Int.reduceLT, Int.reduceNe, Int.reduceNeg, Int.reduceAdd, Int.reduceSub, Int.reduceMul, not_false_eq_true, not_true_eq_false, false_and, and_false, true_and, and_true, and_self, true_or, or_true, false_or, or_false, if_true, if_false, ite_true, ite_false, mj_tl_some, mj_tl_none, mj_cs0, mj_cs1, mj_cs2, mj_cs3, mj_cs4]
theorem c_index45 {x : Int} (hx : 0 ≤ x ∧ x ≤ 255) : wc X (d + 1) 45 [(11, 1), (0, x), (0, 0), (0, 11)] M Q ↔ Q (some (0, sgi x)) M := by
  show wp X (d + 1) 45 0 [(11, 1), (0, x), (0, 0), (0, 11)] [] M Q ↔ _
  have l11 : (((mj_tl 1).length : Nat) : Int) = 11 := by rw [tl1_len]; rfl
  simp only [w45_0, w45_1, w45_4, w45_7, w45_8, w45_9, w45_10, w45_11, w45_14, w45_15, w45_16, w45_17, w45_18, w45_21, w45_22, w45_23, w45_24, w45_27, w45_28, w45_29, w45_30, w45_31, w45_32, w45_33, w45_36, l11, c_canEnc hx, c_max, c_min, c_indexC hx, ↓reduceIte, hh_wr, hl_wr, b10, b11, ite_not, ne_eq, Int.reduceEq, Int.reduceLE, Int.reduceLT, Int.reduceNe, Int.reduceNeg, Int.reduceAdd, Int.reduceSub, Int.reduceMul, not_false_eq_true, not_true_eq_false, false_and, and_false, true_and, and_true, and_self, true_or, or_true, false_or, or_false, if_true, if_false, ite_true, ite_false, mj_tl_some, mj_tl_none, mj_cs0, mj_cs1, mj_cs2, mj_cs3, mj_cs4]
theorem c_indexOf {x : Int} (hx : 0 ≤ x ∧ x ≤ 255) : wc X (d + 3) 41 [(10, 1), (0, x)] M Q ↔ Q (some (0, sgi x)) M := by
  have g : ∀ Q, (wc X (d + 2) 42 [(10, 1), (0, x), (0, 0)] M Q ↔ Q (some (0, sgi x)) M) := fun Q => by
    show wp X (d + 2) 42 0 [(10, 1), (0, x), (0, 0)] [] M Q ↔ _
    simp only [w42_0, w42_1, w42_4, w42_7, w42_8, w42_11, w42_12, w42_13, w42_14, w42_17, w42_20, w42_36, c_isLatin1, c_slen, c_index45 hx, ↓reduceIte, hh_wr, hl_wr, b10, b11, ite_not, ne_eq, Int.reduceEq, Int.reduceLE, Int.reduceLT, Int.reduceNe, Int.reduceNeg, Int.reduceAdd, Int.reduceSub, Int.reduceMul, not_false_eq_true, not_true_eq_false, false_and, and_false, true_and, and_true, and_self, true_or, or_true, false_or, or_false, if_true, if_false, ite_true, ite_false, mj_tl_some, mj_tl_none, mj_cs0, mj_cs1, mj_cs2, mj_cs3, mj_cs4]
  show wp X (d + 3) 41 0 [(10, 1), (0, x)] [] M Q ↔ _
  simp only [w41_0, w41_1, w41_2, w41_3, w41_6, g, ↓reduceIte, hh_wr, hl_wr, b10, b11, ite_not, ne_eq, Int.reduceEq, Int.reduceLE, Int.reduceLT, Int.reduceNe, Int.reduceNeg, Int.reduceAdd, Int.reduceSub, Int.reduceMul, not_false_eq_true, not_true_eq_false, false_and, and_false, true_and, and_true, and_self, true_or, or_true, false_or, or_false, if_true, if_false, ite_true, ite_false, mj_tl_some, mj_tl_none, mj_cs0, mj_cs1, mj_cs2, mj_cs3, mj_cs4]
end Jdk
/-! words: the class's spelling, the reference's number -/
def pv (f : Nat → Int) : Nat → Int
  | 0 => 0
  | n + 1 => pv f n * 256 + f n
theorem pv_r (f : Nat → Int) : ∀ n, (∀ i, i < n → 1 ≤ f i ∧ f i ≤ 255) → 0 ≤ pv f n ∧ pv f n < 256 ^ n ∧ (1 ≤ n → 256 ^ (n - 1) ≤ pv f n)
  | 0, _ => ⟨Int.le_refl _, show (0 : Int) < 1 by decide, by omega⟩
  | n + 1, h => by
    obtain ⟨h1, h2, h3⟩ := pv_r f n (fun i hi => h i (by omega))
    have hn := h n (by omega)
    rw [pv, Int.pow_succ]
    refine ⟨by omega, by omega, fun _ => ?_⟩
    rw [Nat.add_sub_cancel]
    cases n with
    | zero => simp [pv]; omega
    | succ m =>
      have := h3 (by omega)
      rw [Nat.add_sub_cancel] at this
      rw [Int.pow_succ]
      omega
theorem pv_inj (f g : Nat → Int) : ∀ n m, (∀ i, i < n → 1 ≤ f i ∧ f i ≤ 255) → (∀ i, i < m → 1 ≤ g i ∧ g i ≤ 255) → (pv f n = pv g m ↔ n = m ∧ ∀ i, i < n → f i = g i)
  | 0, 0, _, _ => by simp [pv]
  | 0, m + 1, _, hg => by
    have h1 := (pv_r g m (fun i hi => hg i (by omega))).1
    have h2 := hg m (by omega)
    simp only [pv]
    omega
  | n + 1, 0, hf, _ => by
    have h1 := (pv_r f n (fun i hi => hf i (by omega))).1
    have h2 := hf n (by omega)
    simp only [pv]
    omega
  | n + 1, m + 1, hf, hg => by
    have ih := pv_inj f g n m (fun i hi => hf i (by omega)) (fun i hi => hg i (by omega))
    have h1 := hf n (by omega)
    have h2 := hg m (by omega)
    rw [pv, pv]
    constructor
    · intro e
      obtain ⟨e1, e2⟩ := ih.mp (by omega)
      subst e1
      refine ⟨rfl, fun i hi => ?_⟩
      by_cases e : i = n
      · subst e; omega
      · exact e2 i (by omega)
    · rintro ⟨e1, e2⟩
      have e1 : n = m := by omega
      subst e1
      have := ih.mpr ⟨rfl, fun i hi => e2 i (by omega)⟩
      rw [this, e2 n (by omega)]
theorem rwv_le {T : Int → Int} {s : Int} : ∀ n : Nat, n ≤ 7 → (∀ i : Nat, i < n → 1 ≤ T (s + i) ∧ T (s + i) ≤ 255) → rwv T s n = pv (fun i => T (s + i)) n
  | 0, _, _ => rfl
  | n + 1, hn, h => by
    have ih := rwv_le (T := T) (s := s) n (by omega) (fun i hi => h i (by omega))
    have h2 := (pv_r (fun i => T (s + i)) n (fun i hi => h i (by omega))).2.1
    have h3 := (show ∀ m : Nat, m < 7 → (256 : Int) ^ m ≤ 281474976710656 by decide +kernel) n (by omega)
    rw [rwv, ih, if_neg (by omega), pv]
theorem rwv_ge {T : Int → Int} {s : Int} : ∀ n : Nat, 7 ≤ n → (∀ i : Nat, i < n → 1 ≤ T (s + i) ∧ T (s + i) ≤ 255) → 281474976710656 ≤ rwv T s n
  | 0, hn, _ => by omega
  | n + 1, hn, h => by
    by_cases e : n = 6
    · subst e
      rw [rwv_le 7 (by omega) h]
      have := (pv_r (fun i => T (s + i)) 7 h).2.2 (by decide)
      have h4 : (256 : Int) ^ (7 - 1) = 281474976710656 := by decide
      omega
    · have ih := rwv_ge (T := T) (s := s) n (by omega) (fun i hi => h i (by omega))
      rw [rwv, if_pos ih]
      decide
def lnL : List Nat := [5, 6, 4, 6, 6, 5, 5, 5, 2, 2, 6, 4, 4, 4, 3, 3, 6, 4, 5, 2, 4, 4, 3, 2, 3, 3]
def wch (k i : Nat) : Int := (mj_tl 0).getD (6 * k + i) 0
set_option maxRecDepth 100000 in
theorem wch_all : ∀ k : Nat, k < 26 → lnL.getD k 0 ≤ 6 ∧ (∀ i : Nat, i < 6 → (i < lnL.getD k 0 → 65 ≤ wch k i ∧ wch k i ≤ 122) ∧ (lnL.getD k 0 ≤ i → wch k i = 32)) ∧ PL.getD k 0 = pv (wch k) (lnL.getD k 0) ∧ PL.getD k 0 < 281474976710656 := by decide +kernel
/-- the class's test: the letters, then blanks -/
def spl (T : Int → Int) (s : Int) (n k : Nat) : Prop := n ≤ 6 ∧ ∀ i : Nat, i < 6 → wch k i = if i < n then T (s + i) else 32
theorem spl_iff {T : Int → Int} {s : Int} {n k : Nat} (hk : k < 26) (hl : ∀ i : Nat, i < n → ltp (T (s + i))) : spl T s n k ↔ rwv T s n = PL.getD k 0 := by
  obtain ⟨w1, w2, w3, w4⟩ := wch_all k hk
  have h1 : ∀ i : Nat, i < n → 1 ≤ T (s + i) ∧ T (s + i) ≤ 255 := fun i hi => by
    have := hl i hi
    unfold ltp at this
    omega
  by_cases h6 : n ≤ 6
  · rw [rwv_le n (by omega) h1, w3, pv_inj _ _ n _ h1 (fun i hi => by have := (w2 i (by omega)).1 hi; omega)]
    constructor
    · rintro ⟨-, q⟩
      have e : n = lnL.getD k 0 := by
        by_cases c1 : n < lnL.getD k 0
        · have q1 := q n (by omega)
          rw [if_neg (by omega)] at q1
          have := (w2 n (by omega)).1 c1
          omega
        · by_cases c2 : lnL.getD k 0 < n
          · have q1 := q (lnL.getD k 0) (by omega)
            rw [if_pos c2, (w2 _ (by omega)).2 (Nat.le_refl _)] at q1
            have := hl _ c2
            unfold ltp at this
            omega
          · omega
      refine ⟨e, fun i hi => ?_⟩
      have q1 := q i (by omega)
      rw [if_pos hi] at q1
      exact q1.symm
    · rintro ⟨e, q⟩
      refine ⟨h6, fun i hi => ?_⟩
      by_cases c : i < n
      · rw [if_pos c]; exact (q i c).symm
      · rw [if_neg c]; exact (w2 i hi).2 (by omega)
  · have := rwv_ge n (by omega) h1
    exact ⟨fun q => absurd q.1 h6, fun q => by omega⟩
