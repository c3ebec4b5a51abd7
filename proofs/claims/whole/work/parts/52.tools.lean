/-! TOOLS: loops, bits, what the relation says of each cell -/
theorem loop0 {S : Nat → Prop} {P : Nat} (h : ∀ p, p < P → S (p + 1) → S p) (he : S P) : S 0 := by
  have : ∀ n p, p + n = P → S p := by
    intro n
    induction n with
    | zero => intro p hp; rw [show p = P by omega]; exact he
    | succ n ih => intro p hp; exact h p (by omega) (ih (p + 1) (by omega))
  exact this P 0 (by omega)
theorem loop1 {α : Type} {S : Nat → α → Prop} {I : Nat → α → Prop} {P : Nat} (h : ∀ p a, p < P → I p a → (∀ a', I (p + 1) a' → S (p + 1) a') → S p a) (he : ∀ a, I P a → S P a) : ∀ a, I 0 a → S 0 a := by
  have : ∀ n p, p + n = P → ∀ a, I p a → S p a := by
    intro n
    induction n with
    | zero => intro p hp; rw [show p = P by omega]; exact he
    | succ n ih => intro p hp a ha; exact h p a (by omega) ha (ih (p + 1) (by omega))
  exact this P 0 (by omega)
theorem loop2 {α β : Type} {S : Nat → α → β → Prop} {I : Nat → α → β → Prop} {P : Nat} (h : ∀ p a b, p < P → I p a b → (∀ a' b', I (p + 1) a' b' → S (p + 1) a' b') → S p a b) (he : ∀ a b, I P a b → S P a b) : ∀ a b, I 0 a b → S 0 a b := fun a b hi => loop1 (S := fun p (q : α × β) => S p q.1 q.2) (I := fun p q => I p q.1 q.2) (fun p q hp hI ih => h p q.1 q.2 hp hI (fun a' b' => ih (a', b'))) (fun q hq => he q.1 q.2 hq) (a, b) hi
theorem loop3 {α β γ : Type} {S : Nat → α → β → γ → Prop} {I : Nat → α → β → γ → Prop} {P : Nat} (h : ∀ p a b c, p < P → I p a b c → (∀ a' b' c', I (p + 1) a' b' c' → S (p + 1) a' b' c') → S p a b c) (he : ∀ a b c, I P a b c → S P a b c) : ∀ a b c, I 0 a b c → S 0 a b c := fun a b c hi => loop1 (S := fun p (q : α × β × γ) => S p q.1 q.2.1 q.2.2) (I := fun p q => I p q.1 q.2.1 q.2.2) (fun p q hp hI ih => h p q.1 q.2.1 q.2.2 hp hI (fun a' b' c' => ih (a', b', c'))) (fun q hq => he q.1 q.2.1 q.2.2 hq) (a, b, c) hi
theorem jp1 {p : Nat} (h : p < 1000000) : ji_add (p : Int) 1 = ((p + 1 : Nat) : Int) := by rw [ji_add_eq ⟨by omega, by omega⟩]; omega
/-- numbers as they come -/
theorem nat_of {x : Int} (h : 0 ≤ x) : ∃ n : Nat, x = (n : Int) := ⟨x.toNat, by omega⟩
/-- bits: those p below P of which c holds -/
def bt (c : Nat → Bool) : Nat → Nat
  | 0 => 0
  | p + 1 => bt c p + (if c p then 2 ^ p else 0)
theorem bt_lt (c : Nat → Bool) : ∀ P, bt c P < 2 ^ P
  | 0 => by simp [bt]
  | p + 1 => by
    have := bt_lt c p
    rw [bt, Nat.pow_succ]
    split <;> omega
theorem pow30 {p : Nat} (h : p < 30) : 2 ^ p < 1073741824 := Nat.pow_lt_pow_right (by decide) h
theorem or_pow {a p : Nat} (ha : a < 2 ^ p) (hp : p < 30) : ji_or (a : Int) (ji_shl 1 (p : Int)) = ((a + 2 ^ p : Nat) : Int) := by
  have := pow30 hp
  rw [ji_shl1 p (by omega), show ((2 : Int) ^ p) = ((2 ^ p : Nat) : Int) by simp, ji_or_nat (by omega) (by omega)]
  congr 1
  have := Nat.two_pow_add_eq_or_of_lt ha 1
  rw [Nat.or_comm]
  simp only [Nat.mul_one] at this
  omega
theorem or_zero {a : Nat} (ha : a < 2147483648) : ji_or (a : Int) 0 = (a : Int) := by
  have := ji_or_nat (a := a) (b := 0) ha (by decide)
  simpa using this
theorem bt_t {c : Nat → Bool} {p : Nat} (h : c p = true) (hp : p < 30) : ji_or (bt c p : Int) (ji_shl 1 (p : Int)) = (bt c (p + 1) : Int) := by
  rw [or_pow (bt_lt c p) hp, bt, if_pos h]
theorem bt_e {c : Nat → Bool} {p : Nat} (h : c p = false) : bt c (p + 1) = bt c p := by
  rw [bt, h]; simp
theorem bt_f {c : Nat → Bool} {p : Nat} (h : c p = false) (hp : p < 30) : ji_or (bt c p : Int) 0 = (bt c (p + 1) : Int) := by
  have := bt_lt c p
  have := pow30 hp
  rw [or_zero (by omega), bt_e h]
theorem bt_congr {c c' : Nat → Bool} : ∀ {P : Nat}, (∀ p, p < P → c p = c' p) → bt c P = bt c' P
  | 0, _ => rfl
  | p + 1, h => by rw [bt, bt, h p (by omega), bt_congr (fun q hq => h q (by omega))]
theorem bt_0 {c : Nat → Bool} : ∀ {P : Nat}, bt c P = 0 ↔ ∀ p, p < P → c p = false
  | 0 => by simp [bt]
  | P + 1 => by
    rw [bt]
    have ih := bt_0 (c := c) (P := P)
    have : 0 < 2 ^ P := Nat.pow_pos (by decide)
    constructor
    · intro h p hp
      have h0 : bt c P = 0 := by omega
      by_cases e : p = P
      · subst e
        cases hc : c p
        · rfl
        · rw [hc] at h; simp at h
      · exact ih.mp h0 p (by omega)
    · intro h
      rw [ih.mpr (fun p hp => h p (by omega)), h P (by omega)]
      rfl
/-- how many bits: the JDK's way -/
def pcI (v : Int) : Int :=
  let a := ji_sub v (ji_and (ji_ushr v 1) 1431655765)
  let b := ji_add (ji_and a 858993459) (ji_and (ji_ushr a 2) 858993459)
  let c := ji_and (ji_add b (ji_ushr b 4)) 252645135
  let e := ji_add c (ji_ushr c 8)
  let f := ji_add e (ji_ushr e 16)
  ji_and f 63
/-- the reference's: what is left behind n turns -/
def lfI : Nat → Int → Int
  | 0, v => v
  | n + 1, v => lfI n (if v = 0 then 0 else ji_and v (ji_sub v 1))
def ctI : Nat → Int → Int → Int
  | 0, _, n => n
  | k + 1, v, n => if v = 0 then n else ctI k (ji_and v (ji_sub v 1)) (n + 1)
set_option maxRecDepth 20000 in
theorem bits_all : ∀ v : Nat, v < 256 → lfI 8 (v : Int) = 0 ∧ ctI 9 (v : Int) 0 = pcI (v : Int) ∧ 0 ≤ pcI (v : Int) ∧ pcI (v : Int) ≤ 8 ∧ (pcI (v : Int) = 0 ↔ v = 0) := by decide +kernel
theorem pc_0 {v : Int} (h : 0 ≤ v ∧ v < 256) : 0 ≤ pcI v := by
  obtain ⟨n, rfl⟩ := nat_of h.1
  exact (bits_all n (by omega)).2.2.1
theorem pc_8 {v : Int} (h : 0 ≤ v ∧ v < 256) : pcI v ≤ 8 := by
  obtain ⟨n, rfl⟩ := nat_of h.1
  exact (bits_all n (by omega)).2.2.2.1
theorem pc_z {v : Int} (h : 0 ≤ v ∧ v < 256) : pcI v = 0 ↔ v = 0 := by
  obtain ⟨n, rfl⟩ := nat_of h.1
  exact (bits_all n (by omega)).2.2.2.2.trans (by omega)
section Bits
variable {X : mj_X} {d : Nat} {M : mj_M} {Q : Option mj_V → mj_M → Prop}
theorem c_bitCount {v : Int} : wc X d 85 [(0, v)] M Q ↔ Q (some (0, pcI v)) M := by
  show wp X d 85 0 [(0, v)] [] M Q ↔ _
  simp only [w85_0, w85_1, w85_2, w85_3, w85_4, w85_7, w85_8, w85_9, w85_10, w85_11, w85_14, w85_15, w85_16, w85_17, w85_18, w85_21, w85_22, w85_23, w85_24, w85_25, w85_26, w85_27, w85_28, w85_29, w85_32, w85_33, w85_34, w85_35, w85_36, w85_38, w85_39, w85_40, w85_41, w85_42, w85_43, w85_45, w85_46, w85_47, w85_48, w85_49, w85_51, w85_52, pcI]
theorem m_bits {v : Int} (hv : 0 ≤ v ∧ v < 256) : wc X d 265 [(0, v)] M Q ↔ Q (some (0, pcI v)) M := by
  obtain ⟨n, rfl⟩ := nat_of hv.1
  obtain ⟨h1, h2, -⟩ := bits_all n (by omega)
  show wp X d 265 0 [(0, (n : Int)), (9, 0), (9, 0)] [] M Q ↔ _
  refine wp.det ?_
  have loop : ∀ (k : Nat) (w c : Int), lfI k w = 0 → -100 ≤ c → c + k ≤ 100 → wp X d 265 4 [(0, (n : Int)), (0, c), (0, w)] [] M (fun r M' => r = some (0, ctI (k + 1) w c) ∧ M' = M) := by
    intro k
    induction k with
    | zero =>
      intro w c hw hc0 hc
      rw [lfI] at hw
      simp only [w265_0, w265_1, w265_2, w265_3, w265_4, w265_5, w265_8, w265_11, w265_12, w265_13, w265_14, w265_15, w265_16, w265_17, w265_20, w265_21, hw, ctI, ↓reduceIte, hh_wr, hl_wr, b10, b11, ite_not, ne_eq, Int.reduceEq, Int.reduceLE, Int.reduceLT, Int.reduceNe, Int.reduceNeg, Int.reduceAdd, Int.reduceSub, Int.reduceMul, not_false_eq_true, not_true_eq_false, false_and, and_false, true_and, and_true, and_self, true_or, or_true, false_or, or_false, if_true, if_false, ite_true, ite_false, mj_tl_some, mj_tl_none, mj_cs0, mj_cs1, mj_cs2, mj_cs3, mj_cs4]
    | succ k ih =>
      intro w c hw hc0 hc
      rw [lfI] at hw
      by_cases h0 : w = 0
      · simp only [w265_0, w265_1, w265_2, w265_3, w265_4, w265_5, w265_8, w265_11, w265_12, w265_13, w265_14, w265_15, w265_16, w265_17, w265_20, w265_21, h0, ctI, ↓reduceIte, hh_wr, hl_wr, b10, b11, ite_not, ne_eq, Int.reduceEq, Int.reduceLE, Int.reduceLT, Int.reduceNe, Int.reduceNeg, Int.reduceAdd, Int.reduceSub, Int.reduceMul, not_false_eq_true, not_true_eq_false, false_and, and_false, true_and, and_true, and_self, true_or, or_true, false_or, or_false, if_true, if_false, ite_true, ite_false, mj_tl_some, mj_tl_none, mj_cs0, mj_cs1, mj_cs2, mj_cs3, mj_cs4]
      · rw [if_neg h0] at hw
        rw [ctI, if_neg h0]
        rw [w265_4]
        simp only [w265_0, w265_1, w265_2, w265_3, w265_5, w265_8, w265_11, w265_12, w265_13, w265_14, w265_15, w265_16, w265_17, w265_20, w265_21, h0, aj (x := c) (y := 1) ⟨by omega, by omega⟩, ↓reduceIte, hh_wr, hl_wr, b10, b11, ite_not, ne_eq, Int.reduceEq, Int.reduceLE, Int.reduceLT, Int.reduceNe, Int.reduceNeg, Int.reduceAdd, Int.reduceSub, Int.reduceMul, not_false_eq_true, not_true_eq_false, false_and, and_false, true_and, and_true, and_self, true_or, or_true, false_or, or_false, if_true, if_false, ite_true, ite_false, mj_tl_some, mj_tl_none, mj_cs0, mj_cs1, mj_cs2, mj_cs3, mj_cs4]
        exact ih _ _ hw (by omega) (by omega)
  simp only [w265_0, w265_1, w265_2, w265_3]
  rw [← h2]
  exact loop 8 _ 0 h1 (by omega) (by omega)
end Bits
