/-! A PERSON TOLD -/
def pnA (A : Int → Int) (g b : Int) : Int → Int := up (up (up (up (up (up A (11 + 5 * A 1 + 3) g) (11 + 5 * A 1 + 4) b) (11 + 5 * A 1 + 0) g) (11 + 5 * A 1 + 1) b) (11 + 5 * A 1 + 2) 20) 1 (A 1 + 1)
abbrev pnB (A : Int → Int) (g b : Int) : Prop := (0 ≤ g ∧ g ≤ 99) ∧ (0 ≤ b ∧ b < pw (A 0)) ∧ A 1 ≠ 6
section PersonP
variable {A : Int → Int} {g b : Int}
theorem pnA_q {j : Int} (h1 : j ≠ 1) (h : j < 11 + 5 * A 1 ∨ 15 + 5 * A 1 < j) : pnA A g b j = A j := by
  unfold pnA
  rw [up_ne h1, up_ne (by omega), up_ne (by omega), up_ne (by omega), up_ne (by omega), up_ne (by omega)]
theorem pnA_1 : pnA A g b 1 = A 1 + 1 := up_eq
theorem pnA_n (p0 : 0 ≤ A 1) {k : Int} (hk : 0 ≤ k ∧ k < 5) : pnA A g b (11 + 5 * A 1 + k) = if k = 0 ∨ k = 3 then g else if k = 2 then 20 else b := by
  unfold pnA
  rw [up_ne (by omega)]
  rcases (show k = 0 ∨ k = 1 ∨ k = 2 ∨ k = 3 ∨ k = 4 by omega) with rfl | rfl | rfl | rfl | rfl
  · rw [up_ne (by omega), up_ne (by omega), up_eq]; rfl
  · rw [up_ne (by omega), up_eq]; rfl
  · rw [up_eq]; rfl
  · rw [up_ne (by omega), up_ne (by omega), up_ne (by omega), up_ne (by omega), up_eq]; rfl
  · rw [up_ne (by omega), up_ne (by omega), up_ne (by omega), up_eq]; rfl
theorem pnA_mi (h : AI A) (hb : pnB A g b) : MI (A 0) (mn (pnA A g b)) := by
  have p0 : 0 ≤ A 1 := h.now.p0
  have p6 : A 1 ≤ 6 := h.now.p6
  have n6 := hb.2.2
  have t3 : A 10 ≤ 30 := h.now.t3
  have hP : (mn (pnA A g b)).P = A 1 + 1 := pnA_1 (g := g) (b := b)
  have hY : (mn (pnA A g b)).y = A 8 := pnA_q (g := g) (b := b) (j := 8) (by omega) (by omega)
  have hX : (mn (pnA A g b)).x = A 9 := pnA_q (g := g) (b := b) (j := 9) (by omega) (by omega)
  have hT : (mn (pnA A g b)).t = A 10 := pnA_q (g := g) (b := b) (j := 10) (by omega) (by omega)
  have old : ∀ p k, 0 ≤ p → p < A 1 → 0 ≤ k → k < 3 → (mn (pnA A g b)).ps p k = A (11 + 5 * p + k) := fun p k _ _ _ _ => pnA_q (j := 11 + 5 * p + k) (by omega) (by omega)
  have nw : ∀ k, 0 ≤ k → k < 3 → (mn (pnA A g b)).ps (A 1) k = if k = 0 ∨ k = 3 then g else if k = 2 then 20 else b := fun k a c => pnA_n p0 ⟨a, by omega⟩
  refine ⟨by rw [hP]; omega, by rw [hP]; omega, by rw [hY]; exact h.now.y0, by rw [hY]; exact h.now.y9, by rw [hX]; exact h.now.x0, by rw [hX]; exact h.now.x9, by rw [hT]; exact h.now.t0, by rw [hT]; exact h.now.t3, fun p a c => ?_, fun p a c => ?_, fun p a c => ?_, fun i a c => ?_⟩
  · rw [hP] at c
    by_cases e : p = A 1
    · rw [e, nw 0 (by decide) (by decide)]; exact hb.1
    · rw [old p 0 a (by omega) (by decide) (by decide)]; exact h.now.a p a (show p < A 1 by omega)
  · rw [hP] at c
    by_cases e : p = A 1
    · rw [e, nw 1 (by decide) (by decide)]; exact hb.2.1
    · rw [old p 1 a (by omega) (by decide) (by decide)]; exact h.now.k p a (show p < A 1 by omega)
  · rw [hP] at c
    by_cases e : p = A 1
    · rw [e, nw 2 (by decide) (by decide)]; show (0 : Int) ≤ 20 ∧ (20 : Int) ≤ 99; decide
    · rw [old p 2 a (by omega) (by decide) (by decide)]; exact h.now.b p a (show p < A 1 by omega)
  · rw [hT] at c
    have e : (mn (pnA A g b)).bo i = A (1661 + i) := pnA_q (j := 1661 + i) (by omega) (by omega)
    rw [e]
    exact h.now.bo i a c
/-- people only come -/
theorem ms_le (h : AI A) : ∀ i, 0 ≤ i → i < A 5 → (ms A i).P ≤ A 1 := by
  have key : ∀ n : Nat, ∀ i, 0 ≤ i → i + n = A 5 - 1 → (ms A i).P ≤ A 1 := by
    intro n
    induction n with
    | zero =>
      intro i a e
      have := h.sm i a (by omega)
      unfold mnx at this
      rw [if_neg (by omega)] at this
      exact this
    | succ n ih =>
      intro i a e
      have := h.sm i a (by omega)
      unfold mnx at this
      rw [if_pos (by omega)] at this
      exact Int.le_trans this (ih (i + 1) (by omega) (by omega))
  intro i a c
  exact key (A 5 - 1 - i).toNat i a (by omega)
theorem pnA_ai (h : AI A) (hb : pnB A g b) : AI (pnA A g b) := by
  have p0 : 0 ≤ A 1 := h.now.p0
  have p6 : A 1 ≤ 6 := h.now.p6
  have n6 := hb.2.2
  have n3 := h.n3
  generalize hA : pnA A g b = A1
  have q : ∀ j, (j ≠ 1 ∧ (j < 11 + 5 * A 1 ∨ 15 + 5 * A 1 < j)) → A1 j = A j := fun j hj => by rw [← hA]; exact pnA_q hj.1 hj.2
  have e1 : A1 1 = A 1 + 1 := by rw [← hA]; exact pnA_1
  have e5 : A1 5 = A 5 := q 5 (by omega)
  have v3 : A1 (14 + 5 * A 1) = g := by rw [← hA, show 14 + 5 * A 1 = 11 + 5 * A 1 + 3 by omega, pnA_n p0 (by decide)]; rfl
  have v4 : A1 (15 + 5 * A 1) = b := by rw [← hA, show 15 + 5 * A 1 = 11 + 5 * A 1 + 4 by omega, pnA_n p0 (by decide)]; rfl
  have v0 : (mn A1).ps (A 1) 0 = g := by rw [← hA]; exact pnA_n p0 (k := 0) (by decide)
  have v1 : (mn A1).ps (A 1) 1 = b := by rw [← hA]; exact pnA_n p0 (k := 1) (by decide)
  have v2 : (mn A1).ps (A 1) 2 = 20 := by rw [← hA]; exact pnA_n p0 (k := 2) (by decide)
  have mp : (mn A1).P = A 1 + 1 := e1
  have mi : MI (A 0) (mn A1) := by rw [← hA]; exact pnA_mi h hb
  exact ⟨(by rw [q 0 (by omega)]; exact h.f0), (by rw [q 0 (by omega)]; exact h.f8), (fun i a b => by rw [q (41 + 2 * i) (by omega)]; exact h.fk i a b), (fun i a b => by rw [q (42 + 2 * i) (by omega)]; exact h.fl i a b), (fun i a b => by have := h.f8; rw [q 0 (by omega)] at b; rw [q (42 + 2 * i) (by omega)]; exact h.fl1 i a b), (by rw [q 0 (by omega)]; exact mi), (fun p a c => by
    rw [e1] at c
    rw [q 0 (by omega)]
    by_cases e : p = A 1
    · rw [e, v3, v4]; exact ⟨hb.1, hb.2.1⟩
    · rw [q (14 + 5 * p) (by omega), q (15 + 5 * p) (by omega)]; exact h.tl p a (by omega)), (by rw [q 2 (by omega)]; exact h.s0), (by rw [q 2 (by omega)]; exact h.s4), (fun i a b => by have := h.s4; rw [q 2 (by omega)] at b; rw [q (57 + i) (by omega)]; exact h.st i a b), (by rw [q 3 (by omega)]; exact h.t0), (by rw [q 3 (by omega)]; exact h.t4), (by rw [q 4 (by omega)]; exact h.r0), (by rw [q 4 (by omega), q 3 (by omega)]; exact h.r4), (by rw [q 5 (by omega)]; exact h.n0), (by rw [q 5 (by omega)]; exact h.n3), (fun i a b => by have := h.n3; rw [q 5 (by omega)] at b; rw [q 0 (by omega)]; exact (h.sp i a b).eq (ms_eq (h.sp i a b) ⟨a, by omega⟩ (fun j j1 j2 => q j (by omega)))), (fun i a c => by
    rw [e5] at c
    rw [(ms_eq (h.sp i a c) ⟨a, by omega⟩ (fun j j1 j2 => q j (by omega))).P]
    have ho := h.sm i a c
    unfold mnx at ho ⊢
    rw [e5]
    by_cases el : i + 1 < A 5
    · rw [if_pos el] at ho ⊢
      rw [(ms_eq (h.sp (i + 1) (by omega) el) ⟨by omega, by omega⟩ (fun j j1 j2 => q j (by omega))).P]
      exact ho
    · rw [if_neg el] at ho ⊢
      rw [mp]
      have : (mn A).P = A 1 := rfl
      omega), (fun i a c p u v => by
    rw [e5] at c
    rw [(ms_eq (h.sp i a c) ⟨a, by omega⟩ (fun j j1 j2 => q j (by omega))).P] at u
    have u0 := (h.sp i a c).p0
    have hp0 : 0 ≤ p := Int.le_trans u0 u
    by_cases el : i + 1 < A 5
    · have m1 : mnx A1 i = ms A1 (i + 1) := by unfold mnx; rw [e5, if_pos el]
      have m2 : mnx A i = ms A (i + 1) := by unfold mnx; rw [if_pos el]
      have me := ms_eq (A1 := A1) (h.sp (i + 1) (by omega) el) ⟨by omega, by omega⟩ (fun j j1 j2 => q j (by omega))
      rw [m1, me.P] at v
      have ht := h.ti i a c p u (by rw [m2]; exact v)
      have le1 : (ms A (i + 1)).P ≤ A 1 := ms_le h (i + 1) (by omega) el
      have hp1 : p < A 1 := Int.lt_of_lt_of_le v le1
      rw [m2] at ht
      rw [m1]
      exact ht.eq me ⟨hp0, v⟩ (q _ (by omega)) (q _ (by omega))
    · have m1 : mnx A1 i = mn A1 := by unfold mnx; rw [e5, if_neg el]
      have m2 : mnx A i = mn A := by unfold mnx; rw [if_neg el]
      rw [m1, mp] at v
      rw [m1]
      by_cases e : p = A 1
      · rw [e]
        exact ⟨v0.trans v3.symm, v1.trans v4.symm, v2⟩
      · have ht := h.ti i a c p u (by rw [m2]; show p < A 1; omega)
        rw [m2] at ht
        have o : ∀ k, 0 ≤ k → k < 3 → (mn A1).ps p k = (mn A).ps p k := fun k k0 k3 => q (11 + 5 * p + k) (by omega)
        refine ⟨(o 0 (by decide) (by decide)).trans (ht.1.trans (q _ (by omega)).symm), (o 1 (by decide) (by decide)).trans (ht.2.1.trans (q _ (by omega)).symm), (o 2 (by decide) (by decide)).trans ht.2.2⟩), (by rw [q 6 (by omega)]; exact h.d0), (by rw [q 6 (by omega)]; exact h.d8), (fun i a b => by have := h.d8; rw [q 6 (by omega)] at b; rw [q (61 + 3 * i) (by omega), q (62 + 3 * i) (by omega), q (63 + 3 * i) (by omega)]; exact h.d i a b), (by rw [q 7 (by omega)]; exact h.e0), (by rw [q 7 (by omega)]; exact h.e8), (fun i a c => by
    have e8 := h.e8
    rw [q 7 (by omega)] at c
    rw [e1, q (85 + 2 * i) (by omega), q (86 + 2 * i) (by omega)]
    obtain ⟨w1, w2⟩ := h.e i a c
    exact ⟨⟨w1.1, by omega⟩, w2⟩)⟩
end PersonP
section Person
variable {X : mj_X} {d : Nat} {M : mj_M} {A : Int → Int} {g b : Int}
theorem c_pers (h : CW M A) : wc X (d + 2) 16 [(30, 5), (0, g), (0, b)] M (fun r M1 => (pnB A g b → r = some (0, A 1) ∧ CW M1 (pnA A g b) ∧ Cf M M1) ∧ (¬ pnB A g b → r = some (0, -1) ∧ M1 = M)) := by
  obtain ⟨n, hn⟩ := nat_of (show 0 ≤ A 1 from h.ai.now.p0)
  obtain ⟨k, hk⟩ := nat_of h.ai.f0
  have p6 := h.P6
  have f8 := h.ai.f8
  rw [c_addPerson (d := d + 1) h.cs (h.gP.trans hn) (by omega) (h.gnf.trans hk) (by omega)]
  have epw : pw (A 0) = 2 ^ k := by unfold pw; rw [hk]; rfl
  have iff1 : ((0 ≤ g ∧ g ≤ 99) ∧ (0 ≤ b ∧ b ≤ 2 ^ k - 1) ∧ n ≠ 6) ↔ pnB A g b := by
    unfold pnB
    rw [epw, hn]
    constructor
    · rintro ⟨a, c, e⟩; exact ⟨a, ⟨c.1, by omega⟩, by omega⟩
    · rintro ⟨a, c, e⟩; exact ⟨a, ⟨c.1, by omega⟩, by omega⟩
  by_cases hb : pnB A g b
  · rw [if_pos (iff1.mpr hb)]
    refine ⟨fun _ => ?_, fun q => absurd hb q⟩
    rw [← hn]
    refine ⟨rfl, ?_⟩
    have n6 := hb.2.2
    have p0 : 0 ≤ A 1 := h.ai.now.p0
    have fc : Fc 10 M (mj_wr (mj_wr (mj_wr (mj_wr M 11 (A 1) g) 12 (A 1) b) 13 (A 1) 20) 10 2 (A 1 + 1)) := (((Fc.rfl'.wr (by omega)).wr (by omega)).wr (by omega)).wr (by omega)
    have R : ∀ x j, hh (mj_wr (mj_wr (mj_wr (mj_wr M 11 (A 1) g) 12 (A 1) b) 13 (A 1) 20) 10 2 (A 1 + 1)) x j = if x = 10 ∧ j = 2 then A 1 + 1 else if x = 13 ∧ j = A 1 then 20 else if x = 12 ∧ j = A 1 then b else if x = 11 ∧ j = A 1 then g else hh M x j := fun x j => rfl
    generalize mj_wr (mj_wr (mj_wr (mj_wr M 11 (A 1) g) 12 (A 1) b) 13 (A 1) 20) 10 2 (A 1 + 1) = M1 at fc R ⊢
    have hw := h.wr
    have hai := h.ai
    have ai1 := pnA_ai hai hb
    have hP : (mn (pnA A g b)).P = A 1 + 1 := pnA_1 (g := g) (b := b)
    have hT : (mn (pnA A g b)).t = A 10 := pnA_q (g := g) (b := b) (j := 10) (by omega) (by omega)
    have old : ∀ p k, 0 ≤ p → p < A 1 → 0 ≤ k → k < 3 → (mn (pnA A g b)).ps p k = A (11 + 5 * p + k) := fun p k _ _ _ _ => pnA_q (j := 11 + 5 * p + k) (by omega) (by omega)
    have nw : ∀ k, 0 ≤ k → k < 3 → (mn (pnA A g b)).ps (A 1) k = if k = 0 ∨ k = 3 then g else if k = 2 then 20 else b := fun k a c => pnA_n p0 ⟨a, by omega⟩
    have mr : MR M1 10 (mn (pnA A g b)) := by
      refine ⟨by rw [R, if_pos ⟨rfl, rfl⟩, hP], ?_, ?_, ?_, fun p a c => ?_, fun p a c => ?_, fun p a c => ?_, fun i a c w u v => ?_⟩
      · rw [R, if_neg (by omega), if_neg (by omega), if_neg (by omega), if_neg (by omega)]; exact h.gy.trans (pnA_q (by omega) (by omega)).symm
      · rw [R, if_neg (by omega), if_neg (by omega), if_neg (by omega), if_neg (by omega)]; exact h.gx.trans (pnA_q (by omega) (by omega)).symm
      · rw [R, if_neg (by omega), if_neg (by omega), if_neg (by omega), if_neg (by omega)]; exact h.gt.trans hT.symm
      · rw [hP] at c
        rw [R, if_neg (by omega), if_neg (by omega), if_neg (by omega)]
        by_cases e : p = A 1
        · rw [if_pos ⟨rfl, e⟩, e, nw 0 (by decide) (by decide)]; rfl
        · rw [if_neg (by omega), old p 0 a (by omega) (by decide) (by decide)]; exact h.ga ⟨a, by omega⟩
      · rw [hP] at c
        rw [R, if_neg (by omega), if_neg (by omega)]
        by_cases e : p = A 1
        · rw [if_pos ⟨rfl, e⟩, e, nw 1 (by decide) (by decide)]; rfl
        · rw [if_neg (by omega), if_neg (by omega), old p 1 a (by omega) (by decide) (by decide)]; exact h.gk ⟨a, by omega⟩
      · rw [hP] at c
        rw [R, if_neg (by omega)]
        by_cases e : p = A 1
        · rw [if_pos ⟨rfl, e⟩, e, nw 2 (by decide) (by decide)]; rfl
        · rw [if_neg (by omega), if_neg (by omega), if_neg (by omega), old p 2 a (by omega) (by decide) (by decide)]; exact h.gb ⟨a, by omega⟩
      · rw [hT] at c
        rw [R, if_neg (by omega), if_neg (by omega), if_neg (by omega), if_neg (by omega)]
        have e : (mn (pnA A g b)).bo i = A (1661 + i) := pnA_q (j := 1661 + i) (by omega) (by have : A 10 ≤ 30 := hai.now.t3; omega)
        rw [e]
        exact hw.now.hbk i a c w u v
    have q : ∀ j, (j ≠ 1 ∧ (j < 11 ∨ 40 < j)) → pnA A g b j = A j := fun j hj => pnA_q hj.1 (by omega)
    have K : ∀ x j, (x < 10 ∨ 14 < x) ∧ x ≠ 340 → hh M1 x j = hh M x j := fun x j hx => fc.h x j (by omega) hx.2
    exact ⟨⟨h.cs.fz fc.fz10 (by decide), ⟨((K 6 0 (by omega)).trans (hw.nf.trans (q 0 (by omega)).symm)), (fun i a b => (K 7 i (by omega)).trans ((hw.fk i a b).trans (q (41 + 2 * i) (by omega)).symm)), (fun i a b => (K 8 i (by omega)).trans ((hw.fl i a b).trans (q (42 + 2 * i) (by omega)).symm)), (mr), ((K 5 4 (by omega)).trans (hw.ns.trans (q 2 (by omega)).symm)), (fun i a b => by have := hai.s4; rw [q 2 (by omega)] at b; exact (K 19 i (by omega)).trans ((hw.st i a b).trans (q (57 + i) (by omega)).symm)), ((K 5 6 (by omega)).trans (hw.nt.trans (q 3 (by omega)).symm)), ((K 5 7 (by omega)).trans (hw.ru.trans (q 4 (by omega)).symm)), ((K 5 9 (by omega)).trans (hw.np.trans (q 5 (by omega)).symm)), (by rw [K 5 10 (by omega)]; exact hw.e0), (by rw [K 5 10 (by omega)]; exact hw.e3), (fun i a b => by have := hai.n3; rw [q 5 (by omega)] at b; rw [K 5 10 (by omega)]; exact ((hw.sp i a b).keep (fun x j a b => Or.inl (K x j (by omega)))).eq (ms_eq (hai.sp i a b) ⟨a, by omega⟩ (fun j j1 j2 => q j (by omega)))), ((K 15 0 (by omega)).trans (hw.nd.trans (q 6 (by omega)).symm)), (fun i a b k c e => by have := hai.d8; rw [q 6 (by omega)] at b; exact (K 16 _ (by omega)).trans ((hw.d i a b k c e).trans (q _ (by omega)).symm)), ((K 17 0 (by omega)).trans (hw.ne.trans (q 7 (by omega)).symm)), (fun i a b k c e => by have := hai.e8; rw [q 7 (by omega)] at b; exact (K 18 _ (by omega)).trans ((hw.e i a b k c e).trans (q _ (by omega)).symm))⟩, ai1⟩, Cf.fc fc⟩
  · rw [if_neg (fun q => hb (iff1.mp q))]
    exact ⟨fun q => absurd q hb, fun _ => ⟨rfl, rfl⟩⟩
theorem m_person (hc : CS M) (ai : AI (hh M 355)) : wc X (d + 2) 199 [(32, 354), (0, g), (0, b)] M (fun r M1 => (pnB (hh M 355) g b → r = some (0, hh M 355 1) ∧ fz [3] M M1 ∧ hh M1 355 = pnA (hh M 355) g b) ∧ (¬ pnB (hh M 355) g b → r = some (0, -1) ∧ M1 = M)) := by
  show wp X (d + 2) 199 0 [(32, 354), (0, g), (0, b), (9, 0)] [] M _
  generalize hA : hh M 355 = A at ai ⊢
  obtain ⟨k, hk⟩ := nat_of ai.f0
  have p0 : 0 ≤ A 1 := ai.now.p0
  have p6 : A 1 ≤ 6 := ai.now.p6
  have f8 := ai.f8
  have epw : pw (A 0) = 2 ^ k := by unfold pw; rw [hk]; rfl
  have af := fun Q => m_areForms (X := X) (d := d) (M := M) (Q := Q) (b := b) hc (n := k) (by rw [hA]; exact hk) (by omega)
  by_cases hg : 0 ≤ g ∧ g ≤ 99
  · by_cases hb : 0 ≤ b ∧ b ≤ 2 ^ k - 1
    · by_cases h6 : A 1 = 6
      · have no : ¬ pnB A g b := fun q => q.2.2 h6
        simp only [w199_0, w199_1, w199_2, w199_4, w199_7, w199_10, w199_11, w199_12, w199_15, w199_18, w199_19, w199_22, w199_23, w199_24, w199_26, w199_29, w199_30, w199_31, w199_32, w199_35, w199_36, w199_37, w199_38, w199_39, w199_40, w199_41, w199_42, w199_45, w199_46, w199_47, w199_48, w199_49, w199_52, w199_53, w199_54, w199_57, w199_58, w199_61, w199_62, w199_63, w199_64, w199_65, w199_66, w199_67, w199_68, c_1_0 hc, c_1_1 hc, c_1_2 hc, c_1_3 hc, c_1_4 hc, c_1_5 hc, c_1_6 hc, c_1_7 hc, c_1_8 hc, c_2_0 hc, c_2_1 hc, c_5_0 hc, c_5_1 hc, c_5_2 hc, c_5_3 hc, c_5_5 hc, c_5_8 hc, c_5_11 hc, c_6_1 hc, c_6_2 hc, c_6_3 hc, c_10_4 hc, c_10_5 hc, c_10_6 hc, c_10_7 hc, c_15_1 hc, c_17_1 hc, c_339_0 hc, c_341_0 hc, c_341_1 hc, c_341_2 hc, c_342_4 hc, c_342_5 hc, c_342_6 hc, c_342_7 hc, c_347_0 hc, c_347_2 hc, c_347_3 hc, c_349_0 hc, c_349_1 hc, c_349_2 hc, c_351_2 hc, c_351_10 hc, c_351_12 hc, c_354_0 hc, c_354_1 hc, c_354_2 hc, c_354_3 hc, c_354_4 hc, c_354_5 hc, c_354_6 hc, c_354_7 hc, c_354_8 hc, c_354_20 hc, c_354_25 hc, c_354_26 hc, c_354_27 hc, c_354_28 hc, c_354_32 hc, c_354_33 hc, c_354_34 hc, c_354_35 hc, c_354_38 hc, l_3 hc, l_4 hc, l_7 hc, l_8 hc, l_9 hc, l_11 hc, l_12 hc, l_13 hc, l_14 hc, l_16 hc, l_18 hc, l_19 hc, l_20 hc, l_21 hc, l_340 hc, l_343 hc, l_344 hc, l_345 hc, l_346 hc, l_348 hc, l_350 hc, l_352 hc, l_353 hc, l_355 hc, l_356 hc, l_357 hc, l_358 hc, l_359 hc, l_360 hc, l_361 hc, l_362 hc, l_363 hc, l_364 hc, l_365 hc, l_366 hc, l_367 hc, l_368 hc, l_369 hc, l_370 hc, l_371 hc, l_372 hc, l_373 hc, hA, s_isIn, af, hg, hb, h6, ↓reduceIte, hh_wr, hl_wr, b10, b11, ite_not, ne_eq, Int.reduceEq, Int.reduceLE, Int.reduceLT, Int.reduceNe, Int.reduceNeg, Int.reduceAdd, Int.reduceSub, Int.reduceMul, not_false_eq_true, not_true_eq_false, false_and, and_false, true_and, and_true, and_self, true_or, or_true, false_or, or_false, if_true, if_false, ite_true, ite_false, mj_tl_some, mj_tl_none, mj_cs0, mj_cs1, mj_cs2, mj_cs3, mj_cs4]
        exact ⟨fun q => absurd q no, fun _ => trivial⟩
      · have yes : pnB A g b := ⟨hg, ⟨hb.1, by rw [epw]; omega⟩, h6⟩
        have hp : 0 ≤ A 1 ∧ A 1 < 6 := ⟨p0, by omega⟩
        have u1 := fun Q => m_put (X := X) (d := d + 1) (M := M) (Q := Q) (p := A 1) (w := 3) (v := g) hc hp (by decide)
        have hc1 := cs355 (i := 11 + 5 * A 1 + 3) (v := g) hc
        have u2 := fun Q => m_put (X := X) (d := d + 1) (M := mj_wr M 355 (11 + 5 * A 1 + 3) g) (Q := Q) (p := A 1) (w := 4) (v := b) hc1 hp (by decide)
        have hc2 := cs355 (i := 11 + 5 * A 1 + 4) (v := b) hc1
        have u3 := fun Q => m_begin (X := X) (d := d) (M := mj_wr (mj_wr M 355 (11 + 5 * A 1 + 3) g) 355 (11 + 5 * A 1 + 4) b) (Q := Q) (p := A 1) hc2 hp
        have r3 : hh (mj_wr (mj_wr M 355 (11 + 5 * A 1 + 3) g) 355 (11 + 5 * A 1 + 4) b) 355 (11 + 5 * A 1 + 3) = g := by rw [row_wr, up_ne (by omega), row_wr, up_eq]
        have r4 : hh (mj_wr (mj_wr M 355 (11 + 5 * A 1 + 3) g) 355 (11 + 5 * A 1 + 4) b) 355 (11 + 5 * A 1 + 4) = b := by rw [row_wr, up_eq]
        rw [r3, r4] at u3
        have hc3 := cs355 (i := 11 + 5 * A 1 + 2) (v := 20) (cs355 (i := 11 + 5 * A 1 + 1) (v := b) (cs355 (i := 11 + 5 * A 1 + 0) (v := g) hc2))
        have z1 : fz [3] M (mj_wr (mj_wr (mj_wr (mj_wr (mj_wr M 355 (11 + 5 * A 1 + 3) g) 355 (11 + 5 * A 1 + 4) b) 355 (11 + 5 * A 1 + 0) g) 355 (11 + 5 * A 1 + 1) b) 355 (11 + 5 * A 1 + 2) 20) := ((((fz.rfl'.wr (z355m (by decide) _)).wr (z355m (by decide) _)).wr (z355m (by decide) _)).wr (z355m (by decide) _)).wr (z355m (by decide) _)
        have rr : hh (mj_wr (mj_wr (mj_wr (mj_wr (mj_wr M 355 (11 + 5 * A 1 + 3) g) 355 (11 + 5 * A 1 + 4) b) 355 (11 + 5 * A 1 + 0) g) 355 (11 + 5 * A 1 + 1) b) 355 (11 + 5 * A 1 + 2) 20) 355 = up (up (up (up (up A (11 + 5 * A 1 + 3) g) (11 + 5 * A 1 + 4) b) (11 + 5 * A 1 + 0) g) (11 + 5 * A 1 + 1) b) (11 + 5 * A 1 + 2) 20 := by rw [row_wr, row_wr, row_wr, row_wr, row_wr, hA]
        have rr1 : hh (mj_wr (mj_wr (mj_wr (mj_wr (mj_wr M 355 (11 + 5 * A 1 + 3) g) 355 (11 + 5 * A 1 + 4) b) 355 (11 + 5 * A 1 + 0) g) 355 (11 + 5 * A 1 + 1) b) 355 (11 + 5 * A 1 + 2) 20) 355 1 = A 1 := by
          rw [rr, up_ne (by omega), up_ne (by omega), up_ne (by omega), up_ne (by omega), up_ne (by omega)]
        simp only [w199_0, w199_1, w199_2, w199_4, w199_7, w199_10, w199_11, w199_12, w199_15, w199_18, w199_19, w199_22, w199_23, w199_24, w199_26, w199_31, w199_32, w199_35, w199_36, w199_37, w199_38, w199_39, w199_40, w199_41, w199_42, w199_45, w199_46, w199_47, w199_48, w199_49, w199_52, w199_53, w199_54, c_1_0 hc, c_1_1 hc, c_1_2 hc, c_1_3 hc, c_1_4 hc, c_1_5 hc, c_1_6 hc, c_1_7 hc, c_1_8 hc, c_2_0 hc, c_2_1 hc, c_5_0 hc, c_5_1 hc, c_5_2 hc, c_5_3 hc, c_5_5 hc, c_5_8 hc, c_5_11 hc, c_6_1 hc, c_6_2 hc, c_6_3 hc, c_10_4 hc, c_10_5 hc, c_10_6 hc, c_10_7 hc, c_15_1 hc, c_17_1 hc, c_339_0 hc, c_341_0 hc, c_341_1 hc, c_341_2 hc, c_342_4 hc, c_342_5 hc, c_342_6 hc, c_342_7 hc, c_347_0 hc, c_347_2 hc, c_347_3 hc, c_349_0 hc, c_349_1 hc, c_349_2 hc, c_351_2 hc, c_351_10 hc, c_351_12 hc, c_354_0 hc, c_354_1 hc, c_354_2 hc, c_354_3 hc, c_354_4 hc, c_354_5 hc, c_354_6 hc, c_354_7 hc, c_354_8 hc, c_354_20 hc, c_354_25 hc, c_354_26 hc, c_354_27 hc, c_354_28 hc, c_354_32 hc, c_354_33 hc, c_354_34 hc, c_354_35 hc, c_354_38 hc, l_3 hc, l_4 hc, l_7 hc, l_8 hc, l_9 hc, l_11 hc, l_12 hc, l_13 hc, l_14 hc, l_16 hc, l_18 hc, l_19 hc, l_20 hc, l_21 hc, l_340 hc, l_343 hc, l_344 hc, l_345 hc, l_346 hc, l_348 hc, l_350 hc, l_352 hc, l_353 hc, l_355 hc, l_356 hc, l_357 hc, l_358 hc, l_359 hc, l_360 hc, l_361 hc, l_362 hc, l_363 hc, l_364 hc, l_365 hc, l_366 hc, l_367 hc, l_368 hc, l_369 hc, l_370 hc, l_371 hc, l_372 hc, l_373 hc, hA, s_isIn, af, hg, hb, h6, u1, u2, u3, ↓reduceIte, hh_wr, hl_wr, b10, b11, ite_not, ne_eq, Int.reduceEq, Int.reduceLE, Int.reduceLT, Int.reduceNe, Int.reduceNeg, Int.reduceAdd, Int.reduceSub, Int.reduceMul, not_false_eq_true, not_true_eq_false, false_and, and_false, true_and, and_true, and_self, true_or, or_true, false_or, or_false, if_true, if_false, ite_true, ite_false, mj_tl_some, mj_tl_none, mj_cs0, mj_cs1, mj_cs2, mj_cs3, mj_cs4]
        generalize mj_wr (mj_wr (mj_wr (mj_wr (mj_wr M 355 (11 + 5 * A 1 + 3) g) 355 (11 + 5 * A 1 + 4) b) 355 (11 + 5 * A 1 + 0) g) 355 (11 + 5 * A 1 + 1) b) 355 (11 + 5 * A 1 + 2) 20 = M1 at z1 rr rr1 hc3 ⊢
        simp only [w199_0, w199_1, w199_2, w199_4, w199_7, w199_10, w199_11, w199_12, w199_15, w199_18, w199_19, w199_22, w199_23, w199_24, w199_26, w199_29, w199_30, w199_31, w199_32, w199_35, w199_36, w199_37, w199_38, w199_39, w199_40, w199_41, w199_42, w199_45, w199_46, w199_47, w199_48, w199_49, w199_52, w199_53, w199_54, w199_57, w199_58, w199_61, w199_62, w199_63, w199_64, w199_65, w199_66, w199_67, w199_68, c_1_0 hc3, c_1_1 hc3, c_1_2 hc3, c_1_3 hc3, c_1_4 hc3, c_1_5 hc3, c_1_6 hc3, c_1_7 hc3, c_1_8 hc3, c_2_0 hc3, c_2_1 hc3, c_5_0 hc3, c_5_1 hc3, c_5_2 hc3, c_5_3 hc3, c_5_5 hc3, c_5_8 hc3, c_5_11 hc3, c_6_1 hc3, c_6_2 hc3, c_6_3 hc3, c_10_4 hc3, c_10_5 hc3, c_10_6 hc3, c_10_7 hc3, c_15_1 hc3, c_17_1 hc3, c_339_0 hc3, c_341_0 hc3, c_341_1 hc3, c_341_2 hc3, c_342_4 hc3, c_342_5 hc3, c_342_6 hc3, c_342_7 hc3, c_347_0 hc3, c_347_2 hc3, c_347_3 hc3, c_349_0 hc3, c_349_1 hc3, c_349_2 hc3, c_351_2 hc3, c_351_10 hc3, c_351_12 hc3, c_354_0 hc3, c_354_1 hc3, c_354_2 hc3, c_354_3 hc3, c_354_4 hc3, c_354_5 hc3, c_354_6 hc3, c_354_7 hc3, c_354_8 hc3, c_354_20 hc3, c_354_25 hc3, c_354_26 hc3, c_354_27 hc3, c_354_28 hc3, c_354_32 hc3, c_354_33 hc3, c_354_34 hc3, c_354_35 hc3, c_354_38 hc3, l_3 hc3, l_4 hc3, l_7 hc3, l_8 hc3, l_9 hc3, l_11 hc3, l_12 hc3, l_13 hc3, l_14 hc3, l_16 hc3, l_18 hc3, l_19 hc3, l_20 hc3, l_21 hc3, l_340 hc3, l_343 hc3, l_344 hc3, l_345 hc3, l_346 hc3, l_348 hc3, l_350 hc3, l_352 hc3, l_353 hc3, l_355 hc3, l_356 hc3, l_357 hc3, l_358 hc3, l_359 hc3, l_360 hc3, l_361 hc3, l_362 hc3, l_363 hc3, l_364 hc3, l_365 hc3, l_366 hc3, l_367 hc3, l_368 hc3, l_369 hc3, l_370 hc3, l_371 hc3, l_372 hc3, l_373 hc3, rr1, aj (x := A 1) (y := 1) ⟨by omega, by omega⟩, ↓reduceIte, hh_wr, hl_wr, b10, b11, ite_not, ne_eq, Int.reduceEq, Int.reduceLE, Int.reduceLT, Int.reduceNe, Int.reduceNeg, Int.reduceAdd, Int.reduceSub, Int.reduceMul, not_false_eq_true, not_true_eq_false, false_and, and_false, true_and, and_true, and_self, true_or, or_true, false_or, or_false, if_true, if_false, ite_true, ite_false, mj_tl_some, mj_tl_none, mj_cs0, mj_cs1, mj_cs2, mj_cs3, mj_cs4]
        refine ⟨fun _ => ⟨z1.wr (z355m (by decide) _), ?_⟩, fun q => absurd yes q⟩
        rw [row_wr, rr]
        rfl
    · have no : ¬ pnB A g b := fun q => hb ⟨q.2.1.1, by have := q.2.1.2; rw [epw] at this; omega⟩
      simp only [w199_0, w199_1, w199_2, w199_4, w199_7, w199_10, w199_11, w199_12, w199_15, w199_18, w199_19, w199_22, w199_23, w199_24, w199_26, w199_29, w199_30, w199_31, w199_32, w199_35, w199_36, w199_37, w199_38, w199_39, w199_40, w199_41, w199_42, w199_45, w199_46, w199_47, w199_48, w199_49, w199_52, w199_53, w199_54, w199_57, w199_58, w199_61, w199_62, w199_63, w199_64, w199_65, w199_66, w199_67, w199_68, s_isIn, af, hg, hb, ↓reduceIte, hh_wr, hl_wr, b10, b11, ite_not, ne_eq, Int.reduceEq, Int.reduceLE, Int.reduceLT, Int.reduceNe, Int.reduceNeg, Int.reduceAdd, Int.reduceSub, Int.reduceMul, not_false_eq_true, not_true_eq_false, false_and, and_false, true_and, and_true, and_self, true_or, or_true, false_or, or_false, if_true, if_false, ite_true, ite_false, mj_tl_some, mj_tl_none, mj_cs0, mj_cs1, mj_cs2, mj_cs3, mj_cs4]
      exact ⟨fun q => absurd q no, fun _ => trivial⟩
  · have no : ¬ pnB A g b := fun q => hg q.1
    simp only [w199_0, w199_1, w199_2, w199_4, w199_7, w199_10, w199_11, w199_12, w199_15, w199_18, w199_19, w199_22, w199_23, w199_24, w199_26, w199_29, w199_30, w199_31, w199_32, w199_35, w199_36, w199_37, w199_38, w199_39, w199_40, w199_41, w199_42, w199_45, w199_46, w199_47, w199_48, w199_49, w199_52, w199_53, w199_54, w199_57, w199_58, w199_61, w199_62, w199_63, w199_64, w199_65, w199_66, w199_67, w199_68, s_isIn, hg, ↓reduceIte, hh_wr, hl_wr, b10, b11, ite_not, ne_eq, Int.reduceEq, Int.reduceLE, Int.reduceLT, Int.reduceNe, Int.reduceNeg, Int.reduceAdd, Int.reduceSub, Int.reduceMul, not_false_eq_true, not_true_eq_false, false_and, and_false, true_and, and_true, and_self, true_or, or_true, false_or, or_false, if_true, if_false, ite_true, ite_false, mj_tl_some, mj_tl_none, mj_cs0, mj_cs1, mj_cs2, mj_cs3, mj_cs4]
    exact ⟨fun q => absurd q no, fun _ => trivial⟩
theorem st1 : St1 RR (d + 60) := by
  intro X M g b h i1 i2
  unfold LS2
  have p6 := h.P6
  show wp X (d + 60) 15 0 [(31, 1), (0, g), (0, b)] [] M _
  simp only [w15_0, w15_1, w15_4, w15_5, w15_6, c_1_0 h.cs, c_1_1 h.cs, c_1_2 h.cs, c_1_3 h.cs, c_1_4 h.cs, c_1_5 h.cs, c_1_6 h.cs, c_1_7 h.cs, c_1_8 h.cs, c_2_0 h.cs, c_2_1 h.cs, c_5_0 h.cs, c_5_1 h.cs, c_5_2 h.cs, c_5_3 h.cs, c_5_5 h.cs, c_5_8 h.cs, c_5_11 h.cs, c_6_1 h.cs, c_6_2 h.cs, c_6_3 h.cs, c_10_4 h.cs, c_10_5 h.cs, c_10_6 h.cs, c_10_7 h.cs, c_15_1 h.cs, c_17_1 h.cs, c_339_0 h.cs, c_341_0 h.cs, c_341_1 h.cs, c_341_2 h.cs, c_342_4 h.cs, c_342_5 h.cs, c_342_6 h.cs, c_342_7 h.cs, c_347_0 h.cs, c_347_2 h.cs, c_347_3 h.cs, c_349_0 h.cs, c_349_1 h.cs, c_349_2 h.cs, c_351_2 h.cs, c_351_10 h.cs, c_351_12 h.cs, c_354_0 h.cs, c_354_1 h.cs, c_354_2 h.cs, c_354_3 h.cs, c_354_4 h.cs, c_354_5 h.cs, c_354_6 h.cs, c_354_7 h.cs, c_354_8 h.cs, c_354_20 h.cs, c_354_25 h.cs, c_354_26 h.cs, c_354_27 h.cs, c_354_28 h.cs, c_354_32 h.cs, c_354_33 h.cs, c_354_34 h.cs, c_354_35 h.cs, c_354_38 h.cs, l_3 h.cs, l_4 h.cs, l_7 h.cs, l_8 h.cs, l_9 h.cs, l_11 h.cs, l_12 h.cs, l_13 h.cs, l_14 h.cs, l_16 h.cs, l_18 h.cs, l_19 h.cs, l_20 h.cs, l_21 h.cs, l_340 h.cs, l_343 h.cs, l_344 h.cs, l_345 h.cs, l_346 h.cs, l_348 h.cs, l_350 h.cs, l_352 h.cs, l_353 h.cs, l_355 h.cs, l_356 h.cs, l_357 h.cs, l_358 h.cs, l_359 h.cs, l_360 h.cs, l_361 h.cs, l_362 h.cs, l_363 h.cs, l_364 h.cs, l_365 h.cs, l_366 h.cs, l_367 h.cs, l_368 h.cs, l_369 h.cs, l_370 h.cs, l_371 h.cs, l_372 h.cs, l_373 h.cs, h.gnf, h.gP, h.gy, h.gx, h.gt, h.gns, h.gnt, h.gru, h.gnp, h.gnd, h.gne, ↓reduceIte, hh_wr, hl_wr, b10, b11, ite_not, ne_eq, Int.reduceEq, Int.reduceLE, Int.reduceLT, Int.reduceNe, Int.reduceNeg, Int.reduceAdd, Int.reduceSub, Int.reduceMul, not_false_eq_true, not_true_eq_false, false_and, and_false, true_and, and_true, and_self, true_or, or_true, false_or, or_false, if_true, if_false, ite_true, ite_false, mj_tl_some, mj_tl_none, mj_cs0, mj_cs1, mj_cs2, mj_cs3, mj_cs4]
  refine wc.mono (c_pers (d := d + 57) h.cw) ?_
  rintro r M1 ⟨hy, hno⟩
  by_cases hb : pnB (hh M 355) g b
  · obtain ⟨rfl, h1, c1⟩ := hy hb
    have e5 : hh M1 355 = hh M 355 := c1.f.row z_355 (by decide)
    simp only [w15_0, w15_1, w15_4, w15_5, w15_6, w15_9, ↓reduceIte, hh_wr, hl_wr, b10, b11, ite_not, ne_eq, Int.reduceEq, Int.reduceLE, Int.reduceLT, Int.reduceNe, Int.reduceNeg, Int.reduceAdd, Int.reduceSub, Int.reduceMul, not_false_eq_true, not_true_eq_false, false_and, and_false, true_and, and_true, and_self, true_or, or_true, false_or, or_false, if_true, if_false, ite_true, ite_false, mj_tl_some, mj_tl_none, mj_cs0, mj_cs1, mj_cs2, mj_cs3, mj_cs4]
    refine wc.mono (m_person (d := d + 58) (g := g) (b := b) h1.cs (by rw [e5]; exact h.ai)) ?_
    rintro r M2 ⟨my, _⟩
    rw [e5] at my
    obtain ⟨rfl, f2, r2⟩ := my hb
    exact ⟨_, rfl, rfl, h.fin c1 h1 (f2.mono (fun z hz => by simp at hz ⊢; omega)) r2 (pnA_q (by omega) (by have := h.ai.now.p0; have : (mn (hh M 355)).P = hh M 355 1 := rfl; omega)) ((h.co.fz c1.f (by decide)).fz f2 (by decide))⟩
  · obtain ⟨rfl, rfl⟩ := hno hb
    simp only [w15_0, w15_1, w15_4, w15_5, w15_6, w15_9, ↓reduceIte, hh_wr, hl_wr, b10, b11, ite_not, ne_eq, Int.reduceEq, Int.reduceLE, Int.reduceLT, Int.reduceNe, Int.reduceNeg, Int.reduceAdd, Int.reduceSub, Int.reduceMul, not_false_eq_true, not_true_eq_false, false_and, and_false, true_and, and_true, and_self, true_or, or_true, false_or, or_false, if_true, if_false, ite_true, ite_false, mj_tl_some, mj_tl_none, mj_cs0, mj_cs1, mj_cs2, mj_cs3, mj_cs4]
    refine wc.mono (m_person (d := d + 58) (g := g) (b := b) h.cs h.ai) ?_
    rintro r M2 ⟨_, mn'⟩
    obtain ⟨rfl, rfl⟩ := mn' hb
    exact ⟨_, rfl, rfl, Pst.id h⟩
end Person
