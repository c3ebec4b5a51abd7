/-! GREATEST COMMON PARTS -/
theorem mj_bmod64 {z : Int} (h : mj_in64 z) : z.bmod 18446744073709551616 = z := by
  obtain ⟨a, b⟩ := h
  apply Int.bmod_eq_of_le <;> omega
theorem jl_div_eq {x y : Int} (hx : mj_in64 x) (hy : mj_in64 y) (hx2 : x ≠ -9223372036854775808) : jl_div x y = x.tdiv y := by
  unfold jl_div
  have h1 := Int64.toInt_div (Int64.ofInt x) (Int64.ofInt y)
  rw [mj_i64 hx, mj_i64 hy] at h1
  rw [h1]
  apply mj_bmod64
  have := Int.natAbs_tdiv_le_natAbs x y
  obtain ⟨a, b⟩ := hx
  constructor <;> omega
theorem jl_rem_eq {x y : Int} (hx : mj_in64 x) (hy : mj_in64 y) (hx2 : x ≠ -9223372036854775808) : jl_rem x y = x.tmod y := by
  have h1 : Int64.ofInt x / Int64.ofInt y = Int64.ofInt (x.tdiv y) := by
    have e := jl_div_eq hx hy hx2
    unfold jl_div at e
    rw [← e, Int64.ofInt_toInt]
  unfold jl_rem
  rw [h1, ← Int64.ofInt_mul, ← Int64.ofInt_sub]
  have e : x - x.tdiv y * y = x.tmod y := by rw [Int.tmod_def, Int.mul_comm]
  rw [e]
  apply mj_i64
  have h2 : (x.tmod y).natAbs ≤ x.natAbs := by
    rw [Int.natAbs_tmod]
    exact Nat.mod_le _ _
  obtain ⟨a, b⟩ := hx
  constructor <;> omega
theorem jl_rem_nat {x y : Nat} (hx : x < 2 ^ 62) (hy : y < 2 ^ 62) : jl_rem (x : Int) (y : Int) = ((x % y : Nat) : Int) := by
  rw [jl_rem_eq ⟨by omega, by omega⟩ ⟨by omega, by omega⟩ (by omega), Int.tmod_eq_emod_of_nonneg (by omega)]
  simp
theorem jl_div_nat {x y : Nat} (hx : x < 2 ^ 62) (hy : y < 2 ^ 62) : jl_div (x : Int) (y : Int) = ((x / y : Nat) : Int) := by
  rw [jl_div_eq ⟨by omega, by omega⟩ ⟨by omega, by omega⟩ (by omega), Int.tdiv_eq_ediv_of_nonneg (by omega)]
  simp
theorem jl_cmp0 {x : Int} (h : mj_in64 x) : (jl_cmp x 0 = 0) = (x = 0) := by
  rw [jl_cmp_eq h ⟨by decide, by decide⟩]
  apply propext
  split
  · constructor <;> intro q <;> omega
  · split
    · constructor <;> intro q <;> omega
    · constructor <;> intro q <;> omega
section Gcd
variable {X : mj_X} {d : Nat} {M : mj_M} {Q : Option mj_V → mj_M → Prop}
theorem c_cp0 {a b big : Nat} {w1 w2 : mj_V} {i : Int} : wp X d 147 9 [(1, (a : Int)), (9, 0), (1, (b : Int)), (9, 0), (1, (big : Int)), (9, 0), (1, 0), (9, 0), (0, i), w1, w2] [] M Q ↔ Q (some (1, (big : Int))) M := by
  simp only [w147_0, w147_1, w147_3, w147_4, w147_6, w147_7, w147_9, w147_11, w147_14, w147_17, w147_19, w147_20, w147_21, w147_24, w147_26, w147_28, w147_29, w147_31, w147_33, w147_35, w147_37, w147_39, w147_42, w147_45, w147_47, jl_cmp_self, ↓reduceIte, hh_wr, hl_wr, b10, b11, ite_not, ne_eq, Int.reduceEq, Int.reduceLE, Int.reduceLT, Int.reduceNe, Int.reduceNeg, Int.reduceAdd, Int.reduceSub, Int.reduceMul, not_false_eq_true, not_true_eq_false, false_and, and_false, true_and, and_true, and_self, true_or, or_true, false_or, or_false, if_true, if_false, ite_true, ite_false, mj_tl_some, mj_tl_none, mj_cs0, mj_cs1, mj_cs2, mj_cs3, mj_cs4]
  simp
theorem c_cp1 {a b big small : Nat} {w1 w2 : mj_V} {i : Int} (hs : 0 < small) (hb : big < 2 ^ 62) (hs2 : small < 2 ^ 62) (hi : 0 ≤ i ∧ i < 200) : wp X d 147 9 [(1, (a : Int)), (9, 0), (1, (b : Int)), (9, 0), (1, (big : Int)), (9, 0), (1, (small : Int)), (9, 0), (0, i), w1, w2] [] M Q ↔ wp X d 147 9 [(1, (a : Int)), (9, 0), (1, (b : Int)), (9, 0), (1, (small : Int)), (9, 0), (1, ((big % small : Nat) : Int)), (9, 0), (0, i + 1), (1, ((big % small : Nat) : Int)), (9, 0)] [] M Q := by
  rw [w147_9]
  have e : ¬ (small : Int) = 0 := by omega
  simp only [w147_0, w147_1, w147_3, w147_4, w147_6, w147_7, w147_11, w147_14, w147_17, w147_19, w147_20, w147_21, w147_24, w147_26, w147_28, w147_29, w147_31, w147_33, w147_35, w147_37, w147_39, w147_42, w147_45, w147_47, hi, jl_cmp0 (x := (small : Int)) ⟨by omega, by omega⟩, e, jl_rem_nat hb hs2, aj (x := i) (y := 1) ⟨by omega, by omega⟩, ↓reduceIte, hh_wr, hl_wr, b10, b11, ite_not, ne_eq, Int.reduceEq, Int.reduceLE, Int.reduceLT, Int.reduceNe, Int.reduceNeg, Int.reduceAdd, Int.reduceSub, Int.reduceMul, not_false_eq_true, not_true_eq_false, false_and, and_false, true_and, and_true, and_self, true_or, or_true, false_or, or_false, if_true, if_false, ite_true, ite_false, mj_tl_some, mj_tl_none, mj_cs0, mj_cs1, mj_cs2, mj_cs3, mj_cs4]
theorem c_common {a b : Nat} (ha : a ≤ b) (hb : b < 2 ^ 62) : wc X d 147 [(1, (a : Int)), (1, (b : Int))] M Q ↔ Q (some (1, (Nat.gcd a b : Int))) M := by
  show wp X d 147 0 [(1, (a : Int)), (9, 0), (1, (b : Int)), (9, 0), (9, 0), (9, 0), (9, 0), (9, 0), (9, 0), (9, 0), (9, 0)] [] M Q ↔ _
  have key : ∀ (j big small i : Nat) (w1 w2 : mj_V), small ≤ big → big < 2 ^ j → j ≤ 62 → i + 2 * j ≤ 200 → (wp X d 147 9 [(1, (a : Int)), (9, 0), (1, (b : Int)), (9, 0), (1, (big : Int)), (9, 0), (1, (small : Int)), (9, 0), (0, (i : Int)), w1, w2] [] M Q ↔ Q (some (1, (Nat.gcd small big : Int))) M) := by
    intro j
    induction j with
    | zero =>
      intro big small i w1 w2 h1 h2 h3 h4
      have : big = 0 := by omega
      subst this
      have : small = 0 := by omega
      subst this
      exact c_cp0
    | succ j ih =>
      intro big small i w1 w2 h1 h2 h3 h4
      have hp : 2 ^ (j + 1) ≤ 2 ^ 62 := Nat.pow_le_pow_right (by decide) h3
      rw [Nat.pow_succ] at h2 hp
      rcases Nat.eq_zero_or_pos small with h0 | h0
      · subst h0
        rw [Nat.gcd_zero_left]
        exact c_cp0
      · rw [c_cp1 h0 (by omega) (by omega) ⟨by omega, by omega⟩]
        have hr := Nat.mod_lt big h0
        have hd := Nat.div_add_mod big small
        have hq : 1 ≤ big / small := Nat.div_pos h1 h0
        have hm : small ≤ small * (big / small) := Nat.le_mul_of_pos_right _ hq
        rcases Nat.eq_zero_or_pos (big % small) with g0 | g0
        · rw [g0, Nat.gcd_rec, g0, Nat.gcd_zero_left]
          exact c_cp0
        · rw [c_cp1 g0 (by omega) (by omega) ⟨by omega, by omega⟩]
          rw [show (i : Int) + 1 + 1 = ((i + 2 : Nat) : Int) by omega, ih _ _ _ _ _ (Nat.le_of_lt (Nat.mod_lt _ g0)) (by omega) (by omega) (by omega)]
          rw [← Nat.gcd_rec, ← Nat.gcd_rec]
  simp only [w147_0, w147_1, w147_3, w147_4, w147_6, w147_7]
  exact key 62 b a 0 _ _ ha (by omega) (by omega) (by omega)
theorem m_divisor {a b : Nat} (ha : a < 2 ^ 62) (hb : b < 2 ^ 62) : wc X d 317 [(1, (a : Int)), (1, (b : Int))] M Q ↔ Q (some (1, (Nat.gcd a b : Int))) M := by
  show wp X d 317 0 [(1, (a : Int)), (9, 0), (1, (b : Int)), (9, 0), (9, 0), (9, 0), (9, 0), (9, 0), (9, 0), (9, 0)] [] M Q ↔ _
  have key : ∀ (n p q : Nat) (w1 w2 : mj_V), q ≤ n → p < 2 ^ 62 → q < 2 ^ 62 → (wp X d 317 6 [(1, (a : Int)), (9, 0), (1, (b : Int)), (9, 0), (1, (p : Int)), (9, 0), (1, (q : Int)), (9, 0), w1, w2] [] M Q ↔ Q (some (1, (Nat.gcd p q : Int))) M) := by
    intro n
    induction n with
    | zero =>
      intro p q w1 w2 h1 h2 h3
      have : q = 0 := by omega
      subst this
      rw [Nat.gcd_zero_right]
      rw [show ((0 : Nat) : Int) = 0 from rfl]
      simp only [w317_0, w317_1, w317_3, w317_4, w317_6, w317_8, w317_9, w317_10, w317_13, w317_15, w317_17, w317_18, w317_20, w317_22, w317_24, w317_26, w317_28, w317_31, w317_33, jl_cmp_self, ↓reduceIte, hh_wr, hl_wr, b10, b11, ite_not, ne_eq, Int.reduceEq, Int.reduceLE, Int.reduceLT, Int.reduceNe, Int.reduceNeg, Int.reduceAdd, Int.reduceSub, Int.reduceMul, not_false_eq_true, not_true_eq_false, false_and, and_false, true_and, and_true, and_self, true_or, or_true, false_or, or_false, if_true, if_false, ite_true, ite_false, mj_tl_some, mj_tl_none, mj_cs0, mj_cs1, mj_cs2, mj_cs3, mj_cs4]
    | succ n ih =>
      intro p q w1 w2 h1 h2 h3
      rcases Nat.eq_zero_or_pos q with h0 | h0
      · exact ih p q w1 w2 (by omega) h2 h3
      · have e : ¬ (q : Int) = 0 := by omega
        have hr := Nat.mod_lt p h0
        rw [w317_6]
        simp only [w317_0, w317_1, w317_3, w317_4, w317_8, w317_9, w317_10, w317_13, w317_15, w317_17, w317_18, w317_20, w317_22, w317_24, w317_26, w317_28, w317_31, w317_33, jl_cmp0 (x := (q : Int)) ⟨by omega, by omega⟩, e, jl_rem_nat h2 h3, ↓reduceIte, hh_wr, hl_wr, b10, b11, ite_not, ne_eq, Int.reduceEq, Int.reduceLE, Int.reduceLT, Int.reduceNe, Int.reduceNeg, Int.reduceAdd, Int.reduceSub, Int.reduceMul, not_false_eq_true, not_true_eq_false, false_and, and_false, true_and, and_true, and_self, true_or, or_true, false_or, or_false, if_true, if_false, ite_true, ite_false, mj_tl_some, mj_tl_none, mj_cs0, mj_cs1, mj_cs2, mj_cs3, mj_cs4]
        rw [ih q (p % q) _ _ (by omega) h3 (by omega), Nat.gcd_comm p q, Nat.gcd_rec q p, Nat.gcd_comm]
  simp only [w317_0, w317_1, w317_3, w317_4]
  exact key b a b _ _ (Nat.le_refl _) ha hb
end Gcd
