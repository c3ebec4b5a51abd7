/-! THE REFERENCE LAYS THE ORDERS: the loops -/
def LO (o c : Nat) : Prop := o ≤ 120 ∧ (∀ i, i < o → pcN i < c) ∧ (∀ i, o ≤ i → i < 120 → c ≤ pcN i)
theorem LO.y {o c : Nat} (h : LO o c) (hc : c < 3125) (e : stS 5 0 c = 31) : o < 120 ∧ pcN o = c ∧ LO (o + 1) (c + 1) := by
  obtain ⟨i, hi, ei⟩ := pc_ex hc e
  have h1 : ¬ i < o := fun q => by have := h.2.1 i q; omega
  have h2 := h.2.2 o (Nat.le_refl _) (by omega)
  have h3 : ¬ o < i := fun q => by have := pc_lt q hi; omega
  have : i = o := by omega
  subst this
  refine ⟨hi, ei, by omega, fun k hk => ?_, fun k hk k2 => ?_⟩
  · by_cases c1 : k = i
    · rw [c1]; omega
    · have := h.2.1 k (by omega); omega
  · have := pc_lt (show i < k by omega) k2; omega
theorem LO.n {o c : Nat} (h : LO o c) (e : stS 5 0 c ≠ 31) : LO o (c + 1) := by
  refine ⟨h.1, fun k hk => by have := h.2.1 k hk; omega, fun k hk k2 => ?_⟩
  have h1 := h.2.2 k hk k2
  have h2 := (pc_1 k k2).1
  have : pcN k ≠ c := fun q => e (by rw [← q]; exact h2)
  omega
theorem LO.e {o : Nat} (h : LO o 3125) : o = 120 := by
  have h1 := h.1
  by_cases c : o < 120
  · have h2 := h.2.2 o (Nat.le_refl _) c
    have h3 := (pc_1 o c).2.1
    omega
  · omega
section LayO
variable {X : mj_X} {d : Nat} {M : mj_M} {Q : Option mj_V → mj_M → Prop}
theorem lay_set {a : mj_V} {b : Int} : ∀ (m k s l : Nat), k + m = 5 → s < 32 → l < 5000 → (∀ l' : Int, wp X d 190 46 [(32, 354), a, (0, b), (0, ((stS m s l : Nat) : Int)), (0, l'), (0, 5)] [] M Q) → wp X d 190 19 [(32, 354), a, (0, b), (0, (s : Int)), (0, (l : Int)), (0, (k : Int))] [] M Q := by
  intro m
  induction m with
  | zero =>
    intro k s l hk hs hl hq
    have : k = 5 := by omega
    subst this
    rw [w190_19]
    simp only [w190_21, w190_22, show ¬ (((5 : Nat) : Int) < 5) by decide, ↓reduceIte, hh_wr, hl_wr, b10, b11, ite_not, ne_eq, Int.reduceEq, Int.reduceLE, Int.reduceLT, Int.reduceNe, Int.reduceNeg, Int.reduceAdd, Int.reduceSub, Int.reduceMul, not_false_eq_true, not_true_eq_false, false_and, and_false, true_and, and_true, and_self, true_or, or_true, false_or, or_false, if_true, if_false, ite_true, ite_false, mj_tl_some, mj_tl_none, mj_cs0, mj_cs1, mj_cs2, mj_cs3, mj_cs4]
    exact hq _
  | succ m ih =>
    intro k s l hk hs hl hq
    have r5 : ji_rem (l : Int) 5 = ((l % 5 : Nat) : Int) := by rw [ji_rem_nn ⟨by omega, by omega⟩ ⟨by decide, by decide⟩ (by omega)]; omega
    have d5 : ji_div (l : Int) 5 = ((l / 5 : Nat) : Int) := by rw [ji_div_nn ⟨by omega, by omega⟩ ⟨by decide, by decide⟩ (by omega)]; omega
    have p5 : 2 ^ (l % 5) < 32 := by
      have : ∀ n : Nat, n < 5 → 2 ^ n < 32 := by decide
      exact this _ (by omega)
    have o5 : ji_or (s : Int) (ji_shl 1 ((l % 5 : Nat) : Int)) = ((s ||| 2 ^ (l % 5) : Nat) : Int) := by
      rw [ji_shl1 (l % 5) (by omega), show ((2 : Int) ^ (l % 5)) = ((2 ^ (l % 5) : Nat) : Int) by simp, ji_or_nat (by omega) (by omega)]
    rw [w190_19]
    simp only [w190_21, w190_22, w190_25, w190_26, w190_27, w190_29, w190_30, w190_31, w190_32, w190_33, w190_34, w190_36, w190_37, w190_38, w190_40, w190_43, r5, d5, o5, jp1 (p := k) (by omega), show (k : Int) < 5 by omega, ↓reduceIte, hh_wr, hl_wr, b10, b11, ite_not, ne_eq, Int.reduceEq, Int.reduceLE, Int.reduceLT, Int.reduceNe, Int.reduceNeg, Int.reduceAdd, Int.reduceSub, Int.reduceMul, not_false_eq_true, not_true_eq_false, false_and, and_false, true_and, and_true, and_self, true_or, or_true, false_or, or_false, if_true, if_false, ite_true, ite_false, mj_tl_some, mj_tl_none, mj_cs0, mj_cs1, mj_cs2, mj_cs3, mj_cs4]
    exact ih (k + 1) _ _ (by omega) (Nat.or_lt_two_pow (n := 5) hs p5) (by omega) hq
def Dv (c t x : Nat) : Prop := x = c / 5 ^ t
theorem Dv.s {o c t x : Nat} (h : Dv c t x) (ho : o < 120) (e : pcN o = c) (ht : t < 5) : ((x % 5 : Nat) : Int) = dT (5 * (o : Int) + (4 - (t : Int))) ∧ x < 3125 ∧ Dv c (t + 1) (x / 5) := by
  have h1 := pc_1 o ho
  unfold Dv at h ⊢
  subst h
  subst e
  exact ⟨h1.2.2 t ht, Nat.lt_of_le_of_lt (Nat.div_le_self _ _) h1.2.1, by rw [Nat.pow_succ, ← Nat.div_div_eq_div_mul]⟩
theorem dT_ne {o : Nat} (ho : o < 120) {i t : Nat} (hi : i < t) (ht : t < 5) : dT (5 * (o : Int) + (4 - (i : Int))) ≠ dT (5 * (o : Int) + (4 - (t : Int))) := by
  intro q2
  have g1 := (ord_all o ho (4 - i) (by omega)).2.1
  have g2 := (ord_all o ho (4 - t) (by omega)).2.1
  rw [show ((4 - i : Nat) : Int) = 4 - (i : Int) by omega] at g1
  rw [show ((4 - t : Nat) : Int) = 4 - (t : Int) by omega] at g2
  rw [q2, g2] at g1
  omega
/-- one place of an order -/
theorem lay_one {M1 : mj_M} {O x x' dv k : Int} {v : mj_V} (cs1 : CS M1) (ho : 0 ≤ O ∧ O < 120) (hk : 0 ≤ k ∧ k ≤ 4) (r5 : ji_rem x 5 = dv) (d5 : ji_div x 5 = x') (dr : 0 ≤ dv ∧ dv ≤ 4) (hq : wp X d 190 61 [(32, 354), (0, O), v, (0, 31), (0, x'), (0, k - 1)] [] (mj_wr (mj_wr M1 358 (5 * O + k) dv) 359 (5 * O + dv) k) Q) : wp X d 190 61 [(32, 354), (0, O), v, (0, 31), (0, x), (0, k)] [] M1 Q := by
  have m5 : ji_mul 5 O = 5 * O := mj5 ⟨by omega, by omega⟩
  have a1 : ji_add (5 * O) k = 5 * O + k := aj ⟨by omega, by omega⟩
  have a2 : ji_add (5 * O) dv = 5 * O + dv := aj ⟨by omega, by omega⟩
  have a3 : ji_add k (-1) = k - 1 := by rw [aj ⟨by omega, by omega⟩]; omega
  have b1 : (0 : Int) ≤ 5 * O + k := by omega
  have b2 : 5 * O + k < 600 := by omega
  have b3 : (0 : Int) ≤ 5 * O + dv := by omega
  have b4 : 5 * O + dv < 600 := by omega
  have b5 : ¬ k < 0 := by omega
  rw [w190_61]
  simp only [w190_63, w190_66, w190_67, w190_70, w190_71, w190_72, w190_73, w190_75, w190_76, w190_78, w190_79, w190_80, w190_81, w190_82, w190_85, w190_86, w190_87, w190_88, w190_90, w190_91, w190_92, w190_93, w190_95, w190_96, w190_98, w190_99, w190_100, w190_102, w190_105, c_354_3 cs1, c_354_4 cs1, l_358 cs1, l_359 cs1, r5, d5, m5, a1, a2, a3, b1, b2, b3, b4, b5, ↓reduceIte, hh_wr, hl_wr, b10, b11, ite_not, ne_eq, Int.reduceEq, Int.reduceLE, Int.reduceLT, Int.reduceNe, Int.reduceNeg, Int.reduceAdd, Int.reduceSub, Int.reduceMul, not_false_eq_true, not_true_eq_false, false_and, and_false, true_and, and_true, and_self, true_or, or_true, false_or, or_false, if_true, if_false, ite_true, ite_false, mj_tl_some, mj_tl_none, mj_cs0, mj_cs1, mj_cs2, mj_cs3, mj_cs4]
  exact hq
theorem lay_row {M0 : mj_M} {o c : Nat} (hc : CS M0) (ho : o < 120) (e : pcN o = c) {v : mj_V} : ∀ (m t x : Nat) (k : Int) (M1 : mj_M), t + m = 5 → k = 4 - (t : Int) → Dv c t x → K2 358 359 M0 M1 → (∀ i : Nat, i < 5 * o → hh M1 358 (i : Int) = dT (i : Int)) → (∀ i : Nat, i < 5 * o → hh M1 359 (i : Int) = pT (i : Int)) → (∀ i : Nat, i < t → hh M1 358 (5 * (o : Int) + (4 - (i : Int))) = dT (5 * (o : Int) + (4 - (i : Int))) ∧ hh M1 359 (5 * (o : Int) + dT (5 * (o : Int) + (4 - (i : Int)))) = 4 - (i : Int)) → (∀ M2 l', OI 358 359 M0 M2 o 5 → wp X d 190 108 [(32, 354), (0, (o : Int)), v, (0, 31), (0, l'), (0, -1)] [] M2 Q) → wp X d 190 61 [(32, 354), (0, (o : Int)), v, (0, 31), (0, (x : Int)), (0, k)] [] M1 Q := by
  intro m
  induction m with
  | zero =>
    intro t x k M1 ht hk hx f I1 I2 I3 hq
    have : t = 5 := by omega
    subst this
    have k1 : k = -1 := by omega
    subst k1
    clear hx hk
    rw [w190_61]
    simp only [w190_63, ↓reduceIte, hh_wr, hl_wr, b10, b11, ite_not, ne_eq, Int.reduceEq, Int.reduceLE, Int.reduceLT, Int.reduceNe, Int.reduceNeg, Int.reduceAdd, Int.reduceSub, Int.reduceMul, not_false_eq_true, not_true_eq_false, false_and, and_false, true_and, and_true, and_self, true_or, or_true, false_or, or_false, if_true, if_false, ite_true, ite_false, mj_tl_some, mj_tl_none, mj_cs0, mj_cs1, mj_cs2, mj_cs3, mj_cs4]
    refine hq M1 _ ⟨f, fun i hi => ?_, I2, fun i hi => ?_⟩
    · by_cases c1 : i < 5 * o
      · exact I1 i c1
      · have := (I3 (4 - (i - 5 * o)) (by omega)).1
        rw [show 5 * (o : Int) + (4 - ((4 - (i - 5 * o) : Nat) : Int)) = (i : Int) by omega] at this
        exact this
    · have := (I3 (4 - i) (by omega)).2
      rw [show (4 : Int) - ((4 - i : Nat) : Int) = (i : Int) by omega] at this
      exact this
  | succ m ih =>
    intro t x k M1 ht hk hx f I1 I2 I3 hq
    have cs1 : CS M1 := hc.fz (zs := [7]) ⟨fun x j z => f.h x j (fun q => z (by subst q; exact List.mem_singleton.mpr rfl)) (fun q => z (by subst q; exact List.mem_singleton.mpr rfl)), f.l, f.n, f.s⟩ (by decide)
    have t5 : t < 5 := by omega
    obtain ⟨hp, x3, hx2⟩ := hx.s ho e t5
    have ih' := fun k' M1 h1 h2 => ih (t + 1) (x / 5) k' M1 h1 h2 hx2
    have g1 : ∀ i : Nat, i < t → dT (5 * (o : Int) + (4 - (i : Int))) ≠ dT (5 * (o : Int) + (4 - (t : Int))) := fun i hi => dT_ne ho hi t5
    have dr := dT_r (5 * (o : Int) + (4 - (t : Int)))
    clear ih hx e hx2
    have ek : 5 * (o : Int) + (4 - (t : Int)) = 5 * (o : Int) + k := by rw [hk]
    rw [ek] at hp g1 dr
    generalize hdv : dT (5 * (o : Int) + k) = dv at hp dr g1
    have r5 : ji_rem (x : Int) 5 = dv := by rw [ji_rem_nn ⟨by omega, by omega⟩ ⟨by decide, by decide⟩ (by omega), ← hp]; omega
    have d5 : ji_div (x : Int) 5 = ((x / 5 : Nat) : Int) := by rw [ji_div_nn ⟨by omega, by omega⟩ ⟨by decide, by decide⟩ (by omega)]; omega
    refine lay_one cs1 ⟨by omega, by omega⟩ ⟨by omega, by omega⟩ r5 d5 dr ?_
    refine ih' (k - 1) _ (by omega) (by omega) ((f.w (Or.inl rfl)).w (Or.inr rfl)) (fun i hi => ?_) (fun i hi => ?_) (fun i hi => ⟨?_, ?_⟩) hq
    · rw [hh_wr, if_neg (by omega), hh_wr, if_neg (by omega)]; exact I1 i hi
    · rw [hh_wr, if_neg (by omega), hh_wr, if_neg (by omega)]; exact I2 i hi
    · rw [hh_wr, if_neg (by omega), hh_wr]
      by_cases c1 : i = t
      · subst c1
        rw [if_pos ⟨rfl, ek⟩, ek, hdv]
      · rw [if_neg (by omega)]; exact (I3 i (by omega)).1
    · rw [hh_wr]
      by_cases c1 : i = t
      · subst c1
        rw [ek, hdv, if_pos ⟨rfl, rfl⟩, hk]
      · have := g1 i (by omega)
        rw [if_neg (by omega), hh_wr, if_neg (by omega)]
        exact (I3 i (by omega)).2
end LayO
