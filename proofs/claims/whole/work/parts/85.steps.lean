/-! STEPS -/
/-- the eldest step goes; a step is laid at x -/
def sh (A : Int → Int) (k : Int) : Int → Int := fun j => if 101 ≤ j ∧ j < 101 + k then A (j + 52) else A j
def src (B : Int → Int) (o : Int) : Int := if o = 0 then B 1 else if o < 4 then B (7 + o) else if o < 22 then B (11 + 5 * ((o - 4) / 3) + (o - 4) % 3) else B (1639 + o)
def cpn (B : Int → Int) (x n : Int) : Int → Int := fun j => if x ≤ j ∧ j < x + n then src B (j - x) else B j
def ksB (A : Int → Int) : Int → Int := if A 5 = 30 then up (sh A 1508) 5 29 else A
def kst (A : Int → Int) : Int → Int := up (cpn (ksB A) (101 + 52 * ksB A 5) 52) 5 (ksB A 5 + 1)
def ksS (A : Int → Int) : Int := if A 5 = 30 then 29 else A 5
def ksD (A : Int → Int) : Int := if A 5 = 30 then 1 else 0
theorem ksB_5 (A : Int → Int) : ksB A 5 = ksS A := by
  unfold ksB ksS
  split
  · exact up_eq
  · rfl
theorem ksB_o {A : Int → Int} {j : Int} (h5 : j ≠ 5) (h : j < 101 ∨ 1609 ≤ j) : ksB A j = A j := by
  unfold ksB
  split
  · rw [up_ne h5]
    unfold sh
    rw [if_neg (by omega)]
  · rfl
theorem ksB_m {A : Int → Int} {i o : Int} (h0 : 0 ≤ A 5 ∧ A 5 ≤ 30) (hi : 0 ≤ i ∧ i < ksS A) (ho : 0 ≤ o ∧ o < 52) : ksB A (101 + 52 * i + o) = A (101 + 52 * (i + ksD A) + o) := by
  unfold ksB ksD
  unfold ksS at hi
  by_cases h : A 5 = 30
  · rw [if_pos h] at hi ⊢
    rw [if_pos h, up_ne (by omega)]
    unfold sh
    rw [if_pos (by omega)]
    congr 1
    omega
  · rw [if_neg h, if_neg h, Int.add_zero]
theorem kst_5 (A : Int → Int) : kst A 5 = ksS A + 1 := by unfold kst; rw [up_eq, ksB_5]
theorem ksS_r {A : Int → Int} (h0 : 0 ≤ A 5 ∧ A 5 ≤ 30) : 0 ≤ ksS A ∧ ksS A ≤ 29 ∧ ksS A + ksD A = A 5 := by unfold ksS ksD; split <;> omega
theorem kst_o {A : Int → Int} {j : Int} (h0 : 0 ≤ A 5 ∧ A 5 ≤ 30) (h5 : j ≠ 5) (h : j < 101 ∨ 1661 ≤ j) : kst A j = A j := by
  have := ksS_r h0
  unfold kst
  rw [up_ne h5, ksB_5]
  unfold cpn
  rw [if_neg (by omega), ksB_o h5 (by omega)]
theorem kst_m {A : Int → Int} {i o : Int} (h0 : 0 ≤ A 5 ∧ A 5 ≤ 30) (hi : 0 ≤ i ∧ i < ksS A) (ho : 0 ≤ o ∧ o < 52) : kst A (101 + 52 * i + o) = A (101 + 52 * (i + ksD A) + o) := by
  have := ksS_r h0
  unfold kst
  rw [up_ne (by omega), ksB_5]
  unfold cpn
  rw [if_neg (by omega), ksB_m h0 hi ho]
theorem kst_n {A : Int → Int} {o : Int} (h0 : 0 ≤ A 5 ∧ A 5 ≤ 30) (ho : 0 ≤ o ∧ o < 52) : kst A (101 + 52 * ksS A + o) = src A o := by
  have := ksS_r h0
  unfold kst
  rw [up_ne (by omega), ksB_5]
  unfold cpn
  rw [if_pos (by omega), show 101 + 52 * ksS A + o - (101 + 52 * ksS A) = o by omega]
  unfold src
  split
  · exact ksB_o (by omega) (by omega)
  · split
    · exact ksB_o (by omega) (by omega)
    · split
      · exact ksB_o (by omega) (by omega)
      · exact ksB_o (by omega) (by omega)
section KstA
variable {A : Int → Int}
theorem AI.n5 (h : AI A) : 0 ≤ A 5 ∧ A 5 ≤ 30 := ⟨h.n0, h.n3⟩
theorem kst_now (h : AI A) : MEq (mn A) (mn (kst A)) := mn_eq h.now (fun j hj => kst_o h.n5 (by omega) (by omega))
theorem kst_old (h : AI A) {i : Int} (hi : 0 ≤ i ∧ i < ksS A) : MEq (ms A (i + ksD A)) (ms (kst A) i) := by
  have hs := ksS_r h.n5
  have m := h.sp (i + ksD A) (by unfold ksD; split <;> omega) (by omega)
  have p6 := m.p6
  have t3 := m.t3
  have e : ∀ o, 0 ≤ o ∧ o < 52 → kst A (101 + 52 * i + o) = A (101 + 52 * (i + ksD A) + o) := fun o ho => kst_m h.n5 hi ho
  refine ⟨?_, ?_, ?_, ?_, fun p k a b c d => ?_, fun j a b => ?_⟩
  · have := e 0 (by decide); rw [Int.add_zero, Int.add_zero] at this; exact this
  · have := e 1 (by decide); rw [show 101 + 52 * i + 1 = 102 + 52 * i by omega, show 101 + 52 * (i + ksD A) + 1 = 102 + 52 * (i + ksD A) by omega] at this; exact this
  · have := e 2 (by decide); rw [show 101 + 52 * i + 2 = 103 + 52 * i by omega, show 101 + 52 * (i + ksD A) + 2 = 103 + 52 * (i + ksD A) by omega] at this; exact this
  · have := e 3 (by decide); rw [show 101 + 52 * i + 3 = 104 + 52 * i by omega, show 101 + 52 * (i + ksD A) + 3 = 104 + 52 * (i + ksD A) by omega] at this; exact this
  · have hp6 : p < 6 := Int.lt_of_lt_of_le b p6
    have := e (4 + 3 * p + k) ⟨by omega, by omega⟩
    rw [show 101 + 52 * i + (4 + 3 * p + k) = 105 + 52 * i + 3 * p + k by omega, show 101 + 52 * (i + ksD A) + (4 + 3 * p + k) = 105 + 52 * (i + ksD A) + 3 * p + k by omega] at this
    exact this
  · have hj : j < 30 := Int.lt_of_lt_of_le b t3
    have := e (22 + j) ⟨by omega, by omega⟩
    rw [show 101 + 52 * i + (22 + j) = 123 + 52 * i + j by omega, show 101 + 52 * (i + ksD A) + (22 + j) = 123 + 52 * (i + ksD A) + j by omega] at this
    exact this
theorem kst_new (h : AI A) : MEq (mn A) (ms (kst A) (ksS A)) := by
  have p6 := h.now.p6
  have t3 := h.now.t3
  have e : ∀ o, 0 ≤ o ∧ o < 52 → kst A (101 + 52 * ksS A + o) = src A o := fun o ho => kst_n h.n5 ho
  refine ⟨?_, ?_, ?_, ?_, fun p k a b c d => ?_, fun j a b => ?_⟩
  · have := e 0 (by decide); rw [Int.add_zero] at this; exact this
  · have := e 1 (by decide); rw [show 101 + 52 * ksS A + 1 = 102 + 52 * ksS A by omega] at this; exact this
  · have := e 2 (by decide); rw [show 101 + 52 * ksS A + 2 = 103 + 52 * ksS A by omega] at this; exact this
  · have := e 3 (by decide); rw [show 101 + 52 * ksS A + 3 = 104 + 52 * ksS A by omega] at this; exact this
  · have hp6 : p < 6 := Int.lt_of_lt_of_le b p6
    have := e (4 + 3 * p + k) ⟨by omega, by omega⟩
    rw [show 101 + 52 * ksS A + (4 + 3 * p + k) = 105 + 52 * ksS A + 3 * p + k by omega] at this
    refine this.trans ?_
    unfold src
    rw [if_neg (by omega), if_neg (by omega), if_pos (by omega)]
    show A _ = A (11 + 5 * p + k)
    congr 1
    omega
  · have hj : j < 30 := Int.lt_of_lt_of_le b t3
    have := e (22 + j) ⟨by omega, by omega⟩
    rw [show 101 + 52 * ksS A + (22 + j) = 123 + 52 * ksS A + j by omega] at this
    refine this.trans ?_
    unfold src
    rw [if_neg (by omega), if_neg (by omega), if_neg (by omega)]
    show A _ = A (1661 + j)
    congr 1
    omega
/-- the last step is as the people are now -/
def stp (A : Int → Int) : Prop := 1 ≤ A 5 ∧ (ms A (A 5 - 1)).P = A 1
theorem kst_stp (h : AI A) : stp (kst A) := by
  have hs := ksS_r h.n5
  unfold stp
  rw [kst_5, show ksS A + 1 - 1 = ksS A by omega, (kst_new h).P, kst_o h.n5 (by omega) (by omega)]
  exact ⟨by omega, rfl⟩
theorem kst_ai (h : AI A) : AI (kst A) := by
  have hs := ksS_r h.n5
  have q : ∀ j, j ≠ 5 ∧ (j < 101 ∨ 1661 ≤ j) → kst A j = A j := fun j hj => kst_o h.n5 hj.1 hj.2
  have k5 := kst_5 A
  have mi : ∀ i, 0 ≤ i → i < ksS A + 1 → MI (A 0) (ms (kst A) i) := by
    intro i a b
    by_cases e : i = ksS A
    · rw [e]; exact h.now.eq (kst_new h)
    · exact (h.sp (i + ksD A) (by unfold ksD; split <;> omega) (by omega)).eq (kst_old h ⟨a, by omega⟩)
  have nx : ∀ i, 0 ≤ i → i < ksS A → MEq (mnx A (i + ksD A)) (mnx (kst A) i) := by
    intro i a b
    have e1 : mnx (kst A) i = ms (kst A) (i + 1) := by unfold mnx; rw [k5, if_pos (by omega)]
    rw [e1]
    unfold mnx
    by_cases e : i + ksD A + 1 < A 5
    · rw [if_pos e, show i + ksD A + 1 = (i + 1) + ksD A by omega]
      exact kst_old h ⟨by omega, by omega⟩
    · rw [if_neg e, show i + 1 = ksS A by omega]
      exact kst_new h
  have nxl : mnx (kst A) (ksS A) = mn (kst A) := by
    unfold mnx
    rw [k5, if_neg (by omega)]
  have d0 : 0 ≤ ksD A := by unfold ksD; split <;> omega
  exact ⟨(by rw [q 0 (by omega)]; exact h.f0), (by rw [q 0 (by omega)]; exact h.f8), (fun i a b => by rw [q (41 + 2 * i) (by omega)]; exact h.fk i a b), (fun i a b => by rw [q (42 + 2 * i) (by omega)]; exact h.fl i a b), (fun i a b => by have := h.f8; rw [q 0 (by omega)] at b; rw [q (42 + 2 * i) (by omega)]; exact h.fl1 i a b), (by rw [q 0 (by omega)]; exact h.now.eq (mn_eq h.now (fun j hj => q j (by omega)))), (fun p a b => by have h6 : _ ≤ (6 : Int) := h.now.p6; rw [q 1 (by omega)] at b; have hp5 : p < 6 := Int.lt_of_lt_of_le b h6; rw [q 0 (by omega), q (14 + 5 * p) (by omega), q (15 + 5 * p) (by omega)]; exact h.tl p a b), (by rw [q 2 (by omega)]; exact h.s0), (by rw [q 2 (by omega)]; exact h.s4), (fun i a b => by have := h.s4; rw [q 2 (by omega)] at b; rw [q (57 + i) (by omega)]; exact h.st i a b), (by rw [q 3 (by omega)]; exact h.t0), (by rw [q 3 (by omega)]; exact h.t4), (by rw [q 4 (by omega)]; exact h.r0), (by rw [q 4 (by omega), q 3 (by omega)]; exact h.r4), (by rw [k5]; omega), (by rw [k5]; omega), (fun i a b => by rw [k5] at b; rw [q 0 (by omega)]; exact mi i a b), (fun i a b => by
    rw [k5] at b
    by_cases e : i = ksS A
    · rw [e, nxl, (kst_new h).P, (kst_now h).P]; exact Int.le_refl _
    · rw [(kst_old h ⟨a, by omega⟩).P, (nx i a (by omega)).P]
      exact h.sm (i + ksD A) (by omega) (by omega)), (fun i a b p c e => by
    rw [k5] at b
    by_cases ei : i = ksS A
    · rw [ei, nxl, (kst_now h).P] at e
      rw [ei, (kst_new h).P] at c
      exact absurd c (by omega)
    · rw [(kst_old h ⟨a, by omega⟩).P] at c
      have g := nx i a (by omega)
      rw [g.P] at e
      have u0 := (h.sp (i + ksD A) (by omega) (by omega)).p0
      have u6 := (mnx_P h (i := i + ksD A) ⟨by omega, by omega⟩).p6
      have hp0 : 0 ≤ p := Int.le_trans u0 c
      have hp6 : p < 6 := Int.lt_of_lt_of_le e u6
      exact (h.ti (i + ksD A) (by omega) (by omega) p c e).eq g ⟨hp0, e⟩ (q _ (by omega)) (q _ (by omega))), (by rw [q 6 (by omega)]; exact h.d0), (by rw [q 6 (by omega)]; exact h.d8), (fun i a b => by have := h.d8; rw [q 6 (by omega)] at b; rw [q (61 + 3 * i) (by omega), q (62 + 3 * i) (by omega), q (63 + 3 * i) (by omega)]; exact h.d i a b), (by rw [q 7 (by omega)]; exact h.e0), (by rw [q 7 (by omega)]; exact h.e8), (fun i a b => by have := h.e8; rw [q 7 (by omega)] at b; rw [q (85 + 2 * i) (by omega), q (86 + 2 * i) (by omega), q 1 (by omega)]; exact h.e i a b)⟩
end KstA
theorem hh_cp (M : mj_M) (a sp b dp n x j : Int) : hh (mj_cp M a sp b dp n) x j = if x = b ∧ dp ≤ j ∧ j < dp + n then hh M a (sp + (j - dp)) else hh M x j := rfl
theorem hl_cp (M : mj_M) (a sp b dp n : Int) : hl (mj_cp M a sp b dp n) = hl M := rfl
/-- just the moment at c is changed -/
def Fm (c : Int) (M M1 : mj_M) : Prop := (∀ x j, (x < c ∨ c + 4 < x ∨ (x = c ∧ 4 ≤ j)) → hh M1 x j = hh M x j) ∧ (∀ x, hl M1 x = hl M x) ∧ (M1.1 = M.1) ∧ (M1.2.1 = M.2.1)
theorem Fm.h {c : Int} {M M1 : mj_M} (h : Fm c M M1) : ∀ x j, (x < c ∨ c + 4 < x ∨ (x = c ∧ 4 ≤ j)) → hh M1 x j = hh M x j := h.1
theorem Fm.l {c : Int} {M M1 : mj_M} (h : Fm c M M1) : ∀ x, hl M1 x = hl M x := h.2.1
theorem Fm.n {c : Int} {M M1 : mj_M} (h : Fm c M M1) : M1.1 = M.1 := h.2.2.1
theorem Fm.s {c : Int} {M M1 : mj_M} (h : Fm c M M1) : M1.2.1 = M.2.1 := h.2.2.2
section Back
variable {X : mj_X} {d : Nat} {M : mj_M} {A : Int → Int} {Q : Option mj_V → mj_M → Prop}
/-- goBackTo: what the moment c2 has then -/
def Gb (M : mj_M) (c1 c2 : Int) (M1 : mj_M) : Prop := (Fm c2 M M1) ∧ (hh M1 c2 0 = hh M c1 0) ∧ (hh M1 c2 1 = hh M c1 1) ∧ (hh M1 c2 2 = hh M c2 2) ∧ (hh M1 c2 3 = hh M c1 3) ∧ (∀ w q, 1 ≤ w → w ≤ 3 → 0 ≤ q → hh M1 (c2 + w) q = if q < hh M c1 2 then hh M (c1 + w) q else hh M (c2 + w) q) ∧ (∀ j, 0 ≤ j → j < 4 * hh M c1 3 → hh M1 (c2 + 4) j = hh M (c1 + 4) j)
theorem Gb.f {M : mj_M} {c1 c2 : Int} {M1 : mj_M} (h : Gb M c1 c2 M1) : Fm c2 M M1 := h.1
theorem Gb.y {M : mj_M} {c1 c2 : Int} {M1 : mj_M} (h : Gb M c1 c2 M1) : hh M1 c2 0 = hh M c1 0 := h.2.1
theorem Gb.x {M : mj_M} {c1 c2 : Int} {M1 : mj_M} (h : Gb M c1 c2 M1) : hh M1 c2 1 = hh M c1 1 := h.2.2.1
theorem Gb.p {M : mj_M} {c1 c2 : Int} {M1 : mj_M} (h : Gb M c1 c2 M1) : hh M1 c2 2 = hh M c2 2 := h.2.2.2.1
theorem Gb.t {M : mj_M} {c1 c2 : Int} {M1 : mj_M} (h : Gb M c1 c2 M1) : hh M1 c2 3 = hh M c1 3 := h.2.2.2.2.1
theorem Gb.a {M : mj_M} {c1 c2 : Int} {M1 : mj_M} (h : Gb M c1 c2 M1) : ∀ w q, 1 ≤ w → w ≤ 3 → 0 ≤ q → hh M1 (c2 + w) q = if q < hh M c1 2 then hh M (c1 + w) q else hh M (c2 + w) q := h.2.2.2.2.2.1
theorem Gb.b {M : mj_M} {c1 c2 : Int} {M1 : mj_M} (h : Gb M c1 c2 M1) : ∀ j, 0 ≤ j → j < 4 * hh M c1 3 → hh M1 (c2 + 4) j = hh M (c1 + 4) j := h.2.2.2.2.2.2
theorem c_goBack {c1 c2 : Int} (s1 : MS M c1) (s2 : MS M c2) (hd : c1 + 4 < c2 ∨ c2 + 4 < c1) (hP : 0 ≤ hh M c1 2 ∧ hh M c1 2 ≤ 6) (ht : 0 ≤ hh M c1 3 ∧ hh M c1 3 ≤ 30) : wc X d 91 [(24, c2), (24, c1)] M (fun q M1 => q = none ∧ Gb M c1 c2 M1) := by
  show wp X d 91 0 [(24, c2), (24, c1)] [] M _
  obtain ⟨a0, ⟨a4, a5, a6, a7⟩, b1, b2, b3, b4⟩ := s1
  obtain ⟨x0, ⟨x4, x5, x6, x7⟩, y1, y2, y3, y4⟩ := s2
  have n1 : ¬ c1 = c2 := by omega
  have m4 : ji_mul (hh M c1 3) 4 = 4 * hh M c1 3 := by rw [ji_mul_eq (nn ⟨by omega, by omega⟩)]; omega
  have q : ∀ u v : Int, 0 ≤ u → u ≤ 4 → 0 ≤ v → v ≤ 4 → ¬ c1 + u = c2 + v := fun u v h1 h2 h3 h4 => by omega
  have q0 : ∀ v : Int, 0 ≤ v → v ≤ 4 → ¬ c1 = c2 + v := fun v h3 h4 => by omega
  have q1 : ∀ u : Int, 0 ≤ u → u ≤ 4 → ¬ c1 + u = c2 := fun u h3 h4 => by omega
  have q2 : ∀ u : Int, 1 ≤ u → u ≤ 4 → ¬ c2 = c2 + u := fun u h3 h4 => by omega
  simp only [w91_0, w91_1, w91_2, w91_5, w91_8, w91_9, w91_10, w91_13, w91_16, w91_17, w91_18, w91_21, w91_24, w91_25, w91_28, w91_29, w91_30, w91_33, w91_34, w91_35, w91_38, w91_41, w91_42, w91_45, w91_46, w91_47, w91_50, w91_51, w91_52, w91_55, w91_58, w91_59, w91_62, w91_63, w91_64, w91_67, w91_68, w91_69, w91_72, w91_75, w91_76, w91_79, w91_80, w91_81, w91_84, w91_85, w91_86, w91_89, w91_90, w91_91, w91_94, hh_cp, hl_cp, a4, a5, a6, a7, b1, b2, b3, b4, x4, x5, x6, x7, y1, y2, y3, y4, n1, m4, q0 1 (by decide) (by decide), q0 2 (by decide) (by decide), q0 3 (by decide) (by decide), q0 4 (by decide) (by decide), q1 1 (by decide) (by decide), q1 2 (by decide) (by decide), q1 3 (by decide) (by decide), q1 4 (by decide) (by decide), q2 1 (by decide) (by decide), q2 2 (by decide) (by decide), q2 3 (by decide) (by decide), q2 4 (by decide) (by decide), show ¬ c1 = 0 by omega, show ¬ c2 = 0 by omega, show ¬ c1 + 1 = 0 by omega, show ¬ c1 + 2 = 0 by omega, show ¬ c1 + 3 = 0 by omega, show ¬ c1 + 4 = 0 by omega, show ¬ c2 + 1 = 0 by omega, show ¬ c2 + 2 = 0 by omega, show ¬ c2 + 3 = 0 by omega, show ¬ c2 + 4 = 0 by omega, hP.1, Int.le_refl, Int.zero_add, hP.2, show 0 ≤ 4 * hh M c1 3 by omega, show 4 * hh M c1 3 ≤ 120 by omega, ↓reduceIte, hh_wr, hl_wr, b10, b11, ite_not, ne_eq, Int.reduceEq, Int.reduceLE, Int.reduceLT, Int.reduceNe, Int.reduceNeg, Int.reduceAdd, Int.reduceSub, Int.reduceMul, not_false_eq_true, not_true_eq_false, false_and, and_false, true_and, and_true, and_self, true_or, or_true, false_or, or_false, if_true, if_false, ite_true, ite_false, mj_tl_some, mj_tl_none, mj_cs0, mj_cs1, mj_cs2, mj_cs3, mj_cs4]
  generalize hM1 : mj_cp (mj_cp (mj_cp (mj_cp (mj_wr (mj_wr (mj_wr M c2 0 (hh M c1 0)) c2 1 (hh M c1 1)) c2 3 (hh M c1 3)) (c1 + 1) 0 (c2 + 1) 0 (hh M c1 2)) (c1 + 2) 0 (c2 + 2) 0 (hh M c1 2)) (c1 + 3) 0 (c2 + 3) 0 (hh M c1 2)) (c1 + 4) 0 (c2 + 4) 0 (4 * hh M c1 3) = M1
  have R : ∀ x j, hh M1 x j = if x = c2 + 4 ∧ 0 ≤ j ∧ j < 4 * hh M c1 3 then hh M (c1 + 4) j else if x = c2 + 3 ∧ 0 ≤ j ∧ j < hh M c1 2 then hh M (c1 + 3) j else if x = c2 + 2 ∧ 0 ≤ j ∧ j < hh M c1 2 then hh M (c1 + 2) j else if x = c2 + 1 ∧ 0 ≤ j ∧ j < hh M c1 2 then hh M (c1 + 1) j else if x = c2 ∧ j = 3 then hh M c1 3 else if x = c2 ∧ j = 1 then hh M c1 1 else if x = c2 ∧ j = 0 then hh M c1 0 else hh M x j := by
    intro x j
    subst hM1
    simp only [hh_cp, hh_wr, Int.zero_add, Int.sub_zero, show ¬ c1 + 4 = c2 + 3 by omega, show ¬ c1 + 4 = c2 + 2 by omega, show ¬ c1 + 4 = c2 + 1 by omega, show ¬ c1 + 4 = c2 by omega, show ¬ c1 + 3 = c2 + 2 by omega, show ¬ c1 + 3 = c2 + 1 by omega, show ¬ c1 + 3 = c2 by omega, show ¬ c1 + 2 = c2 + 1 by omega, show ¬ c1 + 2 = c2 by omega, show ¬ c1 + 1 = c2 by omega, false_and, if_false]
  have L : ∀ x, hl M1 x = hl M x := by intro x; subst hM1; rfl
  have N : M1.1 = M.1 ∧ M1.2.1 = M.2.1 := by subst hM1; exact ⟨rfl, rfl⟩
  clear hM1
  refine ⟨⟨fun x j h => ?_, L, N.1, N.2⟩, ?_, ?_, ?_, ?_, fun w u w1 w3 u0 => ?_, fun j j0 j1 => ?_⟩
  · rw [R, if_neg (by omega), if_neg (by omega), if_neg (by omega), if_neg (by omega), if_neg (by omega), if_neg (by omega), if_neg (by omega)]
  · rw [R, if_neg (by omega), if_neg (by omega), if_neg (by omega), if_neg (by omega), if_neg (by omega), if_neg (by omega), if_pos (by omega)]
  · rw [R, if_neg (by omega), if_neg (by omega), if_neg (by omega), if_neg (by omega), if_neg (by omega), if_pos (by omega)]
  · rw [R, if_neg (by omega), if_neg (by omega), if_neg (by omega), if_neg (by omega), if_neg (by omega), if_neg (by omega), if_neg (by omega)]
  · rw [R, if_neg (by omega), if_neg (by omega), if_neg (by omega), if_neg (by omega), if_pos (by omega)]
  · by_cases hu : u < hh M c1 2
    · rw [if_pos hu]
      rcases (show w = 1 ∨ w = 2 ∨ w = 3 by omega) with rfl | rfl | rfl
      · rw [R, if_neg (by omega), if_neg (by omega), if_neg (by omega), if_pos (by omega)]
      · rw [R, if_neg (by omega), if_neg (by omega), if_pos (by omega)]
      · rw [R, if_neg (by omega), if_pos (by omega)]
    · rw [if_neg hu, R, if_neg (by omega), if_neg (by omega), if_neg (by omega), if_neg (by omega), if_neg (by omega), if_neg (by omega), if_neg (by omega)]
  · rw [R, if_pos (by omega)]
theorem c_take {c1 c2 F : Int} {m : Mom} (s1 : MS M c1) (s2 : MS M c2) (hd : c1 + 4 < c2 ∨ c2 + 4 < c1) (mr : MR M c1 m) (mi : MI F m) : wc X (d + 1) 90 [(24, c2), (24, c1)] M (fun q M1 => q = none ∧ Fm c2 M M1 ∧ MR M1 c2 m) := by
  show wp X (d + 1) 90 0 [(24, c2), (24, c1)] [] M _
  have a0 := s1.1
  have x0 := s2.1
  simp only [w90_0, w90_1, w90_2, w90_5, w90_8, w90_9, w90_10, show ¬ c1 = 0 by omega, show ¬ c2 = 0 by omega, ↓reduceIte, hh_wr, hl_wr, b10, b11, ite_not, ne_eq, Int.reduceEq, Int.reduceLE, Int.reduceLT, Int.reduceNe, Int.reduceNeg, Int.reduceAdd, Int.reduceSub, Int.reduceMul, not_false_eq_true, not_true_eq_false, false_and, and_false, true_and, and_true, and_self, true_or, or_true, false_or, or_false, if_true, if_false, ite_true, ite_false, mj_tl_some, mj_tl_none, mj_cs0, mj_cs1, mj_cs2, mj_cs3, mj_cs4]
  generalize hM0 : mj_wr M c2 2 (hh M c1 2) = M0
  have R : ∀ x j, hh M0 x j = if x = c2 ∧ j = 2 then hh M c1 2 else hh M x j := by subst hM0; exact fun x j => rfl
  have L : ∀ x, hl M0 x = hl M x := by subst hM0; exact fun x => rfl
  have N : M0.1 = M.1 ∧ M0.2.1 = M.2.1 := by subst hM0; exact ⟨rfl, rfl⟩
  clear hM0
  have K : ∀ x j, (x ≠ c2 ∨ j ≠ 2) → hh M0 x j = hh M x j := fun x j h => by rw [R, if_neg (by omega)]
  have s1' : MS M0 c1 := s1.keep (fun j hj => K c1 j (by omega)) L
  have s2' : MS M0 c2 := s2.keep (fun j hj => K c2 j (by omega)) L
  have p0 := mi.p0; have p6 := mi.p6; have t0 := mi.t0; have t3 := mi.t3
  have e2 : hh M0 c1 2 = m.P := by rw [K c1 2 (by omega)]; exact mr.hp
  have e3 : hh M0 c1 3 = m.t := by rw [K c1 3 (by omega)]; exact mr.ht
  refine wc.mono (c_goBack (d := d) s1' s2' hd (by rw [e2]; exact ⟨p0, p6⟩) (by rw [e3]; exact ⟨t0, t3⟩)) ?_
  rintro q M1 ⟨rfl, g⟩
  simp only [w90_0, w90_1, w90_2, w90_5, w90_8, w90_9, w90_10, w90_13, ↓reduceIte, hh_wr, hl_wr, b10, b11, ite_not, ne_eq, Int.reduceEq, Int.reduceLE, Int.reduceLT, Int.reduceNe, Int.reduceNeg, Int.reduceAdd, Int.reduceSub, Int.reduceMul, not_false_eq_true, not_true_eq_false, false_and, and_false, true_and, and_true, and_self, true_or, or_true, false_or, or_false, if_true, if_false, ite_true, ite_false, mj_tl_some, mj_tl_none, mj_cs0, mj_cs1, mj_cs2, mj_cs3, mj_cs4]
  refine ⟨⟨fun x j h => by rw [g.f.h x j h, K x j (by omega)], fun x => (g.f.l x).trans (L x), g.f.n.trans N.1, g.f.s.trans N.2⟩, ?_⟩
  have ga : ∀ w q, 1 ≤ w → w ≤ 3 → 0 ≤ q → q < m.P → hh M1 (c2 + w) q = hh M (c1 + w) q := fun w q w1 w3 q0 q1 => by rw [g.a w q w1 w3 q0, e2, if_pos q1, K (c1 + w) q (by omega)]
  refine ⟨?_, ?_, ?_, ?_, fun q a b => ?_, fun q a b => ?_, fun q a b => ?_, fun i a b k u v => ?_⟩
  · rw [g.p, R, if_pos ⟨rfl, rfl⟩]; exact mr.hp
  · rw [g.y, K c1 0 (by omega)]; exact mr.hy
  · rw [g.x, K c1 1 (by omega)]; exact mr.hx
  · rw [g.t, e3]
  · rw [ga 1 q (by decide) (by decide) a b]; exact mr.ha q a b
  · rw [ga 2 q (by decide) (by decide) a b]; exact mr.hk q a b
  · rw [ga 3 q (by decide) (by decide) a b]; exact mr.hb q a b
  · rw [g.b (4 * i + k) (by omega) (by rw [e3]; omega), K (c1 + 4) _ (by omega)]; exact mr.hbk i a b k u v
end Back
