/-! FIRST SPECS -/
section Spec1
variable {X : mj_X} {d : Nat} {M : mj_M} {Q : Option mj_V → mj_M → Prop}
theorem mj_tl_some (v : mj_V) (st : List mj_V) : (some v).toList ++ st = v :: st := rfl
theorem mj_tl_none (st : List mj_V) : (none : Option mj_V).toList ++ st = st := rfl
theorem mj_cw (v : mj_V) : (if v.1 = 1 then 2 else 1 : Nat) ≤ 2 := by split <;> omega
theorem mj_cs0 : (mj_cs [] ≤ 8) = True := eq_true (by decide)
theorem mj_cs1 (a : mj_V) : (mj_cs [a] ≤ 8) = True := eq_true (by have := mj_cw a; show (if a.1 = 1 then 2 else 1) + 0 ≤ 8; omega)
theorem mj_cs2 (a b : mj_V) : (mj_cs [a, b] ≤ 8) = True := eq_true (by have := mj_cw a; have := mj_cw b; show (if a.1 = 1 then 2 else 1) + ((if b.1 = 1 then 2 else 1) + 0) ≤ 8; omega)
theorem mj_cs3 (a b c : mj_V) : (mj_cs [a, b, c] ≤ 8) = True := eq_true (by have := mj_cw a; have := mj_cw b; have := mj_cw c; show (if a.1 = 1 then 2 else 1) + ((if b.1 = 1 then 2 else 1) + ((if c.1 = 1 then 2 else 1) + 0)) ≤ 8; omega)
theorem mj_cs4 (a b c d : mj_V) : (mj_cs [a, b, c, d] ≤ 8) = True := eq_true (by have := mj_cw a; have := mj_cw b; have := mj_cw c; have := mj_cw d; show (if a.1 = 1 then 2 else 1) + ((if b.1 = 1 then 2 else 1) + ((if c.1 = 1 then 2 else 1) + ((if d.1 = 1 then 2 else 1) + 0))) ≤ 8; omega)
theorem s_isIn {v l t : Int} : wc X d 193 [(0, v), (0, l), (0, t)] M Q ↔ Q (some (0, if l ≤ v ∧ v ≤ t then 1 else 0)) M := by
  show wp X d 193 0 [(0, v), (0, l), (0, t)] [] M Q ↔ _
  simp only [w193_0, w193_1, w193_2, w193_5, w193_6, w193_7, w193_10, w193_11, w193_14, w193_15_0, w193_15_1]
  by_cases h1 : v < l
  · rw [if_pos h1, if_neg (by omega)]
  · by_cases h2 : v ≤ t
    · rw [if_neg h1, if_pos h2, if_pos (by omega)]
    · rw [if_neg h1, if_neg h2, if_neg (by omega)]
theorem s_has {v k : Int} : wc X d 223 [(0, v), (0, k)] M Q ↔ Q (some (0, if ji_and (ji_shr v k) 1 = 1 then 1 else 0)) M := by
  show wp X d 223 0 [(0, v), (0, k)] [] M Q ↔ _
  simp only [w223_0, w223_1, w223_2, w223_3, w223_4, w223_5, w223_6, w223_9, w223_10, w223_13, w223_14_0, w223_14_1]
  split <;> rfl
theorem s_get {m am p w : Int} (hm : m ≠ 0) (ha : hh M m 0 = am) (ham : am ≠ 0) (hla : hl M am = 1691) (hp : 0 ≤ p ∧ p < 6) (hw : 0 ≤ w ∧ w < 5) : wc X d 203 [(32, m), (0, p), (0, w)] M Q ↔ Q (some (0, hh M am (11 + 5 * p + w))) M := by
  show wp X d 203 0 [(32, m), (0, p), (0, w)] [] M Q ↔ _
  simp only [w203_0, w203_1, w203_4, w203_6, w203_7, w203_8, w203_9, w203_10, w203_11, w203_12, w203_13, ha]
  rw [ji_mul_eq (x := 5) (y := p) ⟨by omega, by omega⟩, ji_add_eq (x := 11) ⟨by omega, by omega⟩, ji_add_eq ⟨by omega, by omega⟩, hla]
  simp only [ne_eq, hm, ham, not_false_eq_true, true_and]
  constructor
  · exact fun q => q.2
  · exact fun q => ⟨by omega, q⟩
/-- who knows a form: its bits -/
def kb (h : Int → Int) (f : Int) : Nat → Int
  | 0 => 0
  | p + 1 => ji_or (kb h f p) (if ji_and (ji_shr (h (11 + 5 * (p : Int) + 1)) f) 1 = 1 then ji_shl 1 (p : Int) else 0)
theorem s_knownBy {m am f : Int} {P : Nat} (hm : m ≠ 0) (ha : hh M m 0 = am) (ham : am ≠ 0) (hla : hl M am = 1691) (hP : hh M am 1 = (P : Int)) (hP6 : P ≤ 6) : wc X (d + 1) 271 [(32, m), (0, f)] M Q ↔ Q (some (0, kb (hh M am) f P)) M := by
  have loop : ∀ (n p : Nat), p + n = P → (wp X (d + 1) 271 4 [(32, m), (0, f), (0, kb (hh M am) f p), (0, (p : Int))] [] M Q ↔ Q (some (0, kb (hh M am) f P)) M) := by
    intro n
    induction n with
    | zero =>
      intro p hp
      obtain rfl : p = P := by omega
      simp only [w271_0, w271_1, w271_2, w271_3, w271_4, w271_5, w271_6, w271_9, w271_10, w271_11, w271_14, w271_15, w271_16, w271_17, w271_18, w271_21, w271_22, w271_25, w271_28, w271_29, w271_30, w271_31, w271_34, w271_35, w271_36, w271_37, w271_40, w271_43, w271_44, ha, hP, hla, if_neg (Int.lt_irrefl _)]
      simp [hm, ham]
    | succ n ih =>
      intro p hp
      have g : ∀ Q, (wc X d 203 [(32, m), (0, (p : Int)), (0, 1)] M Q ↔ Q (some (0, hh M am (11 + 5 * (p : Int) + 1))) M) := fun Q => s_get hm ha ham hla ⟨by omega, by omega⟩ ⟨by omega, by omega⟩
      rw [w271_4]
      simp only [w271_0, w271_1, w271_2, w271_3, w271_5, w271_6, w271_9, w271_10, w271_11, w271_14, w271_15, w271_16, w271_17, w271_18, w271_21, w271_22, w271_25, w271_28, w271_29, w271_30, w271_31, w271_34, w271_35, w271_36, w271_37, w271_40, w271_43, w271_44, ha, hP, hla, s_has, g, mj_tl_some, mj_cs0, mj_cs1, mj_cs2, mj_cs3, mj_cs4, if_pos (show (p : Int) < (P : Int) by omega), hm, ham, ne_eq, not_false_eq_true, true_and]
      have e : ji_add (p : Int) 1 = ((p + 1 : Nat) : Int) := by rw [ji_add_eq ⟨by omega, by omega⟩]; omega
      have ih' := ih (p + 1) (by omega)
      have hk : kb (hh M am) f (p + 1) = ji_or (kb (hh M am) f p) (if ji_and (ji_shr (hh M am (11 + 5 * (p : Int) + 1)) f) 1 = 1 then ji_shl 1 (p : Int) else 0) := rfl
      rw [hk] at ih'
      by_cases hC : ji_and (ji_shr (hh M am (11 + 5 * (p : Int) + 1)) f) 1 = 1
      · simp only [if_pos hC] at ih' ⊢
        simp only [e, ih', ite_false, ite_true, Int.reduceEq, Nat.reduceAdd, Nat.reduceLeDiff, Int.reduceLE, Int.reduceLT, and_self, true_and]
      · simp only [if_neg hC] at ih' ⊢
        simp only [e, ih', ite_false, ite_true, Int.reduceEq, Nat.reduceAdd, Nat.reduceLeDiff, Int.reduceLE, Int.reduceLT, and_self, true_and]
  show wp X (d + 1) 271 0 [(32, m), (0, f), (9, 0), (9, 0)] [] M Q ↔ _
  simp only [w271_0, w271_1, w271_2, w271_3]
  exact loop P 0 (by omega)
end Spec1
