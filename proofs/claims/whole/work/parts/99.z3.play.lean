/-! PLAYED: a form and a story told, class and reference apart -/
def fmA (A : Int → Int) (kd l : Int) : Int → Int := up (up (up A (41 + 2 * A 0) kd) (41 + 2 * A 0 + 1) l) 0 (A 0 + 1)
abbrev fmB (A : Int → Int) (kd l : Int) : Prop := (0 ≤ kd ∧ kd ≤ 4) ∧ (1 ≤ l ∧ l ≤ 9) ∧ A 0 ≠ 8
def syA (A : Int → Int) (o : Int) : Int → Int := up (up A (57 + A 2) o) 2 (A 2 + 1)
abbrev syB (A : Int → Int) (o : Int) : Prop := (0 ≤ o ∧ o ≤ 119) ∧ A 2 ≠ 4
section Play
variable {X : mj_X} {d : Nat} {M : mj_M} {A : Int → Int}
theorem fmA_ai {kd l : Int} (h : AI A) (hb : fmB A kd l) : AI (fmA A kd l) := by
  have f0 := h.f0
  have f8 := h.f8
  have n8 := hb.2.2
  have hb1 := hb.1
  have hb2 := hb.2.1
  have q : ∀ j, j ≠ 0 ∧ j ≠ 41 + 2 * A 0 ∧ j ≠ 42 + 2 * A 0 → fmA A kd l j = A j := fun j hj => by
    unfold fmA; rw [up_ne hj.1, up_ne (by omega), up_ne hj.2.1]
  have v0 : fmA A kd l 0 = A 0 + 1 := up_eq
  have v1 : fmA A kd l (41 + 2 * A 0) = kd := by unfold fmA; rw [up_ne (by omega), up_ne (by omega), up_eq]
  have v2 : fmA A kd l (42 + 2 * A 0) = l := by unfold fmA; rw [up_ne (by omega), show 42 + 2 * A 0 = 41 + 2 * A 0 + 1 by omega, up_eq]
  generalize fmA A kd l = A1 at q v0 v1 v2 ⊢
  have ple := pw_le (show A 0 ≤ A 0 + 1 by omega)
  exact ⟨(by rw [v0]; omega), (by rw [v0]; omega), (fun i a b => by
        by_cases e : i = A 0
        · rw [e, v1]; exact hb1
        · rw [q (41 + 2 * i) (by omega)]; exact h.fk i a b), (fun i a b => by
        by_cases e : i = A 0
        · rw [e, v2]; omega
        · rw [q (42 + 2 * i) (by omega)]; exact h.fl i a b), (fun i a b => by
        rw [v0] at b
        by_cases e : i = A 0
        · rw [e, v2]; omega
        · rw [q (42 + 2 * i) (by omega)]; exact h.fl1 i a (by omega)), (by rw [v0]; exact (h.now.eq (mn_eq h.now (fun j hj => q j (by omega)))).up (by omega)), (fun p a b => by
        have h6 : A 1 ≤ 6 := h.now.p6
        rw [q 1 (by omega)] at b
        rw [v0, q (14 + 5 * p) (by omega), q (15 + 5 * p) (by omega)]
        obtain ⟨u1, u2, u3⟩ := h.tl p a b
        exact ⟨u1, u2, by omega⟩), (by rw [q 2 (by omega)]; exact h.s0), (by rw [q 2 (by omega)]; exact h.s4), (fun i a b => by have := h.s4; rw [q 2 (by omega)] at b; rw [q (57 + i) (by omega)]; exact h.st i a b), (by rw [q 3 (by omega)]; exact h.t0), (by rw [q 3 (by omega)]; exact h.t4), (by rw [q 4 (by omega)]; exact h.r0), (by rw [q 4 (by omega), q 3 (by omega)]; exact h.r4), (by rw [q 5 (by omega)]; exact h.n0), (by rw [q 5 (by omega)]; exact h.n3), (fun i a b => by
        have := h.n3
        rw [q 5 (by omega)] at b
        rw [v0]
        exact ((h.sp i a b).eq (ms_eq (h.sp i a b) ⟨a, by omega⟩ (fun j j1 j2 => q j (by omega)))).up (by omega)), (fun i a b => by have := h.n3; rw [q 5 (by omega)] at b; rw [(ms_eq (h.sp i a b) ⟨a, by omega⟩ (fun j j1 j2 => q j (by omega))).P, (mnx_eq h ⟨a, b⟩ (q 5 (by omega)) (fun j j1 j2 => q j (by omega)) (fun j hj => q j (by omega))).P]; exact h.sm i a b), (fun i a b p c e => by have := h.n3; rw [q 5 (by omega)] at b; have g := mnx_eq h ⟨a, b⟩ (q 5 (by omega)) (fun j j1 j2 => q j (by omega)) (fun j hj => q j (by omega)); have g0 := (ms_eq (h.sp i a b) ⟨a, by omega⟩ (fun j j1 j2 => q j (by omega))).P; rw [g0] at c; rw [g.P] at e; have u0 := (h.sp i a b).p0; have u6 := (mnx_P h ⟨a, b⟩).p6; have hp5 : p < 6 := Int.lt_of_lt_of_le e u6; have hp0 : 0 ≤ p := Int.le_trans u0 c; exact (h.ti i a b p c e).eq g ⟨hp0, e⟩ (q _ (by omega)) (q _ (by omega))), (by rw [q 6 (by omega)]; exact h.d0), (by rw [q 6 (by omega)]; exact h.d8), (fun i a b => by have := h.d8; rw [q 6 (by omega)] at b; rw [q (61 + 3 * i) (by omega), q (62 + 3 * i) (by omega), q (63 + 3 * i) (by omega)]; exact h.d i a b), (by rw [q 7 (by omega)]; exact h.e0), (by rw [q 7 (by omega)]; exact h.e8), (fun i a b => by have := h.e8; rw [q 7 (by omega)] at b; rw [q (85 + 2 * i) (by omega), q (86 + 2 * i) (by omega), q 1 (by omega)]; exact h.e i a b)⟩
theorem syA_ai {o : Int} (h : AI A) (hb : syB A o) : AI (syA A o) := by
  have s0 := h.s0
  have s4 := h.s4
  have n4 := hb.2
  have hb1 := hb.1
  have q : ∀ j, j ≠ 2 ∧ j ≠ 57 + A 2 → syA A o j = A j := fun j hj => by
    unfold syA; rw [up_ne hj.1, up_ne hj.2]
  have v0 : syA A o 2 = A 2 + 1 := up_eq
  have v1 : syA A o (57 + A 2) = o := by unfold syA; rw [up_ne (by omega), up_eq]
  generalize syA A o = A1 at q v0 v1 ⊢
  exact ⟨(by rw [q 0 (by omega)]; exact h.f0), (by rw [q 0 (by omega)]; exact h.f8), (fun i a b => by rw [q (41 + 2 * i) (by omega)]; exact h.fk i a b), (fun i a b => by rw [q (42 + 2 * i) (by omega)]; exact h.fl i a b), (fun i a b => by have := h.f8; rw [q 0 (by omega)] at b; rw [q (42 + 2 * i) (by omega)]; exact h.fl1 i a b), (by rw [q 0 (by omega)]; exact h.now.eq (mn_eq h.now (fun j hj => q j (by omega)))), (fun p a b => by have h6 : _ ≤ (6 : Int) := h.now.p6; rw [q 1 (by omega)] at b; have hp5 : p < 6 := Int.lt_of_lt_of_le b h6; rw [q 0 (by omega), q (14 + 5 * p) (by omega), q (15 + 5 * p) (by omega)]; exact h.tl p a b), (by rw [v0]; omega), (by rw [v0]; omega), (fun i a b => by
        rw [v0] at b
        by_cases e : i = A 2
        · rw [e, v1]; exact hb1
        · rw [q (57 + i) (by omega)]; exact h.st i a (by omega)), (by rw [q 3 (by omega)]; exact h.t0), (by rw [q 3 (by omega)]; exact h.t4), (by rw [q 4 (by omega)]; exact h.r0), (by rw [q 4 (by omega), q 3 (by omega)]; exact h.r4), (by rw [q 5 (by omega)]; exact h.n0), (by rw [q 5 (by omega)]; exact h.n3), (fun i a b => by have := h.n3; rw [q 5 (by omega)] at b; rw [q 0 (by omega)]; exact (h.sp i a b).eq (ms_eq (h.sp i a b) ⟨a, by omega⟩ (fun j j1 j2 => q j (by omega)))), (fun i a b => by have := h.n3; rw [q 5 (by omega)] at b; rw [(ms_eq (h.sp i a b) ⟨a, by omega⟩ (fun j j1 j2 => q j (by omega))).P, (mnx_eq h ⟨a, b⟩ (q 5 (by omega)) (fun j j1 j2 => q j (by omega)) (fun j hj => q j (by omega))).P]; exact h.sm i a b), (fun i a b p c e => by have := h.n3; rw [q 5 (by omega)] at b; have g := mnx_eq h ⟨a, b⟩ (q 5 (by omega)) (fun j j1 j2 => q j (by omega)) (fun j hj => q j (by omega)); have g0 := (ms_eq (h.sp i a b) ⟨a, by omega⟩ (fun j j1 j2 => q j (by omega))).P; rw [g0] at c; rw [g.P] at e; have u0 := (h.sp i a b).p0; have u6 := (mnx_P h ⟨a, b⟩).p6; have hp5 : p < 6 := Int.lt_of_lt_of_le e u6; have hp0 : 0 ≤ p := Int.le_trans u0 c; exact (h.ti i a b p c e).eq g ⟨hp0, e⟩ (q _ (by omega)) (q _ (by omega))), (by rw [q 6 (by omega)]; exact h.d0), (by rw [q 6 (by omega)]; exact h.d8), (fun i a b => by have := h.d8; rw [q 6 (by omega)] at b; rw [q (61 + 3 * i) (by omega), q (62 + 3 * i) (by omega), q (63 + 3 * i) (by omega)]; exact h.d i a b), (by rw [q 7 (by omega)]; exact h.e0), (by rw [q 7 (by omega)]; exact h.e8), (fun i a b => by have := h.e8; rw [q 7 (by omega)] at b; rw [q (85 + 2 * i) (by omega), q (86 + 2 * i) (by omega), q 1 (by omega)]; exact h.e i a b)⟩
theorem c_formW {kd l : Int} (h : CW M A) : wc X d 14 [(29, 6), (0, kd), (0, l)] M (fun r M1 => (fmB A kd l → r = some (0, A 0) ∧ CW M1 (fmA A kd l) ∧ Cf M M1) ∧ (¬ fmB A kd l → r = some (0, -1) ∧ M1 = M)) := by
  obtain ⟨n, hn⟩ := nat_of h.ai.f0
  have f0 := h.ai.f0
  have f8 := h.ai.f8
  rw [c_add h.cs (h.gnf.trans hn) (by omega)]
  have iff1 : ((0 ≤ kd ∧ kd ≤ 4) ∧ (1 ≤ l ∧ l ≤ 9) ∧ n ≠ 8) ↔ fmB A kd l := by
    unfold fmB
    rw [hn]
    constructor
    · rintro ⟨a, c, e⟩; exact ⟨a, c, by omega⟩
    · rintro ⟨a, c, e⟩; exact ⟨a, c, by omega⟩
  by_cases hb : fmB A kd l
  · rw [if_pos (iff1.mpr hb)]
    refine ⟨fun _ => ?_, fun q => absurd hb q⟩
    rw [← hn]
    refine ⟨rfl, ?_⟩
    have n8 := hb.2.2
    have f : fz [1, 8] M (mj_wr (mj_wr (mj_wr M 7 (A 0) kd) 8 (A 0) l) 6 0 (A 0 + 1)) := ((fz.rfl'.wr (by rw [z_7]; decide)).wr (by rw [z_8]; decide)).wr (by decide)
    have R : ∀ x j, hh (mj_wr (mj_wr (mj_wr M 7 (A 0) kd) 8 (A 0) l) 6 0 (A 0 + 1)) x j = if x = 6 ∧ j = 0 then A 0 + 1 else if x = 8 ∧ j = A 0 then l else if x = 7 ∧ j = A 0 then kd else hh M x j := fun x j => rfl
    generalize mj_wr (mj_wr (mj_wr M 7 (A 0) kd) 8 (A 0) l) 6 0 (A 0 + 1) = M2 at f R ⊢
    have hw := h.wr
    have hai := h.ai
    have K : ∀ x j, x ≠ 6 ∧ x ≠ 7 ∧ x ≠ 8 → hh M2 x j = hh M x j := fun x j hx => by rw [R, if_neg (by omega), if_neg (by omega), if_neg (by omega)]
    have q : ∀ j, j ≠ 0 ∧ j ≠ 41 + 2 * A 0 ∧ j ≠ 42 + 2 * A 0 → fmA A kd l j = A j := fun j hj => by
      unfold fmA; rw [up_ne hj.1, up_ne (by omega), up_ne hj.2.1]
    have v0 : fmA A kd l 0 = A 0 + 1 := up_eq
    have v1 : fmA A kd l (41 + 2 * A 0) = kd := by unfold fmA; rw [up_ne (by omega), up_ne (by omega), up_eq]
    have v2 : fmA A kd l (42 + 2 * A 0) = l := by unfold fmA; rw [up_ne (by omega), show 42 + 2 * A 0 = 41 + 2 * A 0 + 1 by omega, up_eq]
    have a1 := fmA_ai hai hb
    generalize fmA A kd l = A1 at q v0 v1 v2 a1 ⊢
    refine ⟨⟨h.cs.fz f (by decide), ?_, a1⟩, f, fun j => K 20 j (by omega)⟩
    exact ⟨(by rw [v0]; show hh M2 6 0 = _; rw [R, if_pos ⟨rfl, rfl⟩]), (fun i a b => by
        show hh M2 7 i = _
        rw [R, if_neg (by omega), if_neg (by omega)]
        by_cases e : i = A 0
        · rw [if_pos ⟨rfl, e⟩, e, v1]
        · rw [if_neg (by omega), q (41 + 2 * i) (by omega)]; exact hw.fk i a b), (fun i a b => by
        show hh M2 8 i = _
        rw [R, if_neg (by omega)]
        by_cases e : i = A 0
        · rw [if_pos ⟨rfl, e⟩, e, v2]
        · rw [if_neg (by omega), if_neg (by omega), q (42 + 2 * i) (by omega)]; exact hw.fl i a b), ((hw.now.keep (fun x j a b => Or.inl (K x j (by omega)))).eq (mn_eq hai.now (fun j hj => q j (by omega)))), ((K 5 4 (by omega)).trans (hw.ns.trans (q 2 (by omega)).symm)), (fun i a b => by have := hai.s4; rw [q 2 (by omega)] at b; exact (K 19 i (by omega)).trans ((hw.st i a b).trans (q (57 + i) (by omega)).symm)), ((K 5 6 (by omega)).trans (hw.nt.trans (q 3 (by omega)).symm)), ((K 5 7 (by omega)).trans (hw.ru.trans (q 4 (by omega)).symm)), ((K 5 9 (by omega)).trans (hw.np.trans (q 5 (by omega)).symm)), (by rw [K 5 10 (by omega)]; exact hw.e0), (by rw [K 5 10 (by omega)]; exact hw.e3), (fun i a b => by have := hai.n3; rw [q 5 (by omega)] at b; rw [K 5 10 (by omega)]; exact ((hw.sp i a b).keep (fun x j a b => Or.inl (K x j (by omega)))).eq (ms_eq (hai.sp i a b) ⟨a, by omega⟩ (fun j j1 j2 => q j (by omega)))), ((K 15 0 (by omega)).trans (hw.nd.trans (q 6 (by omega)).symm)), (fun i a b k c e => by have := hai.d8; rw [q 6 (by omega)] at b; exact (K 16 _ (by omega)).trans ((hw.d i a b k c e).trans (q _ (by omega)).symm)), ((K 17 0 (by omega)).trans (hw.ne.trans (q 7 (by omega)).symm)), (fun i a b k c e => by have := hai.e8; rw [q 7 (by omega)] at b; exact (K 18 _ (by omega)).trans ((hw.e i a b k c e).trans (q _ (by omega)).symm))⟩
  · rw [if_neg (fun q => hb (iff1.mp q))]
    exact ⟨fun q => absurd q hb, fun _ => ⟨rfl, rfl⟩⟩
theorem c_storyW {o : Int} (h : CW M A) : wc X (d + 1) 20 [(30, 5), (0, o)] M (fun r M1 => (syB A o → r = some (0, A 2) ∧ CW M1 (syA A o) ∧ Cf M M1) ∧ (¬ syB A o → r = some (0, -1) ∧ M1 = M)) := by
  obtain ⟨n, hn⟩ := nat_of h.ai.s0
  have s0 := h.ai.s0
  have s4 := h.ai.s4
  rw [c_addStory h.cs (h.wr.ns.trans hn) (by omega)]
  have iff1 : ((0 ≤ o ∧ o ≤ 119) ∧ n ≠ 4) ↔ syB A o := by
    unfold syB
    rw [hn]
    constructor
    · rintro ⟨a, e⟩; exact ⟨a, by omega⟩
    · rintro ⟨a, e⟩; exact ⟨a, by omega⟩
  by_cases hb : syB A o
  · rw [if_pos (iff1.mpr hb)]
    refine ⟨fun _ => ?_, fun q => absurd hb q⟩
    rw [← hn]
    refine ⟨rfl, ?_⟩
    have n4 := hb.2
    have f : fz [1, 8] M (mj_wr (mj_wr M 19 (A 2) o) 5 4 (A 2 + 1)) := (fz.rfl'.wr (by rw [z_19]; decide)).wr (by decide)
    have R : ∀ x j, hh (mj_wr (mj_wr M 19 (A 2) o) 5 4 (A 2 + 1)) x j = if x = 5 ∧ j = 4 then A 2 + 1 else if x = 19 ∧ j = A 2 then o else hh M x j := fun x j => rfl
    generalize mj_wr (mj_wr M 19 (A 2) o) 5 4 (A 2 + 1) = M2 at f R ⊢
    have hw := h.wr
    have hai := h.ai
    have K : ∀ x j, x ≠ 19 ∧ (x ≠ 5 ∨ j ≠ 4) → hh M2 x j = hh M x j := fun x j hx => by rw [R, if_neg (by omega), if_neg (by omega)]
    have q : ∀ j, j ≠ 2 ∧ j ≠ 57 + A 2 → syA A o j = A j := fun j hj => by
      unfold syA; rw [up_ne hj.1, up_ne hj.2]
    have v0 : syA A o 2 = A 2 + 1 := up_eq
    have v1 : syA A o (57 + A 2) = o := by unfold syA; rw [up_ne (by omega), up_eq]
    have a1 := syA_ai hai hb
    generalize syA A o = A1 at q v0 v1 a1 ⊢
    refine ⟨⟨h.cs.fz f (by decide), ?_, a1⟩, f, fun j => K 20 j (by omega)⟩
    exact ⟨((K 6 0 (by omega)).trans (hw.nf.trans (q 0 (by omega)).symm)), (fun i a b => (K 7 i (by omega)).trans ((hw.fk i a b).trans (q (41 + 2 * i) (by omega)).symm)), (fun i a b => (K 8 i (by omega)).trans ((hw.fl i a b).trans (q (42 + 2 * i) (by omega)).symm)), ((hw.now.keep (fun x j a b => Or.inl (K x j (by omega)))).eq (mn_eq hai.now (fun j hj => q j (by omega)))), (by rw [v0]; show hh M2 5 4 = _; rw [R, if_pos ⟨rfl, rfl⟩]), (fun i a b => by
        show hh M2 19 i = _
        rw [v0] at b
        rw [R, if_neg (by omega)]
        by_cases e : i = A 2
        · rw [if_pos ⟨rfl, e⟩, e, v1]
        · rw [if_neg (by omega), q (57 + i) (by omega)]; exact hw.st i a (by omega)), ((K 5 6 (by omega)).trans (hw.nt.trans (q 3 (by omega)).symm)), ((K 5 7 (by omega)).trans (hw.ru.trans (q 4 (by omega)).symm)), ((K 5 9 (by omega)).trans (hw.np.trans (q 5 (by omega)).symm)), (by rw [K 5 10 (by omega)]; exact hw.e0), (by rw [K 5 10 (by omega)]; exact hw.e3), (fun i a b => by have := hai.n3; rw [q 5 (by omega)] at b; rw [K 5 10 (by omega)]; exact ((hw.sp i a b).keep (fun x j a b => Or.inl (K x j (by omega)))).eq (ms_eq (hai.sp i a b) ⟨a, by omega⟩ (fun j j1 j2 => q j (by omega)))), ((K 15 0 (by omega)).trans (hw.nd.trans (q 6 (by omega)).symm)), (fun i a b k c e => by have := hai.d8; rw [q 6 (by omega)] at b; exact (K 16 _ (by omega)).trans ((hw.d i a b k c e).trans (q _ (by omega)).symm)), ((K 17 0 (by omega)).trans (hw.ne.trans (q 7 (by omega)).symm)), (fun i a b k c e => by have := hai.e8; rw [q 7 (by omega)] at b; exact (K 18 _ (by omega)).trans ((hw.e i a b k c e).trans (q _ (by omega)).symm))⟩
  · rw [if_neg (fun q => hb (iff1.mp q))]
    exact ⟨fun q => absurd q hb, fun _ => ⟨rfl, rfl⟩⟩
theorem m_formW {kd l : Int} (hc : CS M) (ai : AI (hh M 355)) : wc X (d + 1) 198 [(32, 354), (0, kd), (0, l)] M (fun r M1 => (fmB (hh M 355) kd l → r = some (0, hh M 355 0) ∧ fz [3] M M1 ∧ hh M1 355 = fmA (hh M 355) kd l) ∧ (¬ fmB (hh M 355) kd l → r = some (0, -1) ∧ M1 = M)) := by
  obtain ⟨n, hn⟩ := nat_of ai.f0
  have f8 := ai.f8
  rw [m_form hc hn (by omega)]
  have iff1 : ((0 ≤ kd ∧ kd ≤ 4) ∧ (1 ≤ l ∧ l ≤ 9) ∧ n ≠ 8) ↔ fmB (hh M 355) kd l := by
    unfold fmB
    rw [hn]
    constructor
    · rintro ⟨a, c, e⟩; exact ⟨a, c, by omega⟩
    · rintro ⟨a, c, e⟩; exact ⟨a, c, by omega⟩
  by_cases hb : fmB (hh M 355) kd l
  · rw [if_pos (iff1.mpr hb)]
    refine ⟨fun _ => ?_, fun q => absurd hb q⟩
    rw [← hn]
    refine ⟨rfl, ((fz.rfl'.wr (z355m (by decide) _)).wr (z355m (by decide) _)).wr (z355m (by decide) _), ?_⟩
    rw [row_wr, row_wr, row_wr]
    rfl
  · rw [if_neg (fun q => hb (iff1.mp q))]
    exact ⟨fun q => absurd q hb, fun _ => ⟨rfl, rfl⟩⟩
theorem m_storyW {o : Int} (hc : CS M) (ai : AI (hh M 355)) : wc X (d + 1) 204 [(32, 354), (0, o)] M (fun r M1 => (syB (hh M 355) o → r = some (0, hh M 355 2) ∧ fz [3] M M1 ∧ hh M1 355 = syA (hh M 355) o) ∧ (¬ syB (hh M 355) o → r = some (0, -1) ∧ M1 = M)) := by
  obtain ⟨n, hn⟩ := nat_of ai.s0
  have s4 := ai.s4
  rw [m_story hc hn (by omega)]
  have iff1 : ((0 ≤ o ∧ o ≤ 119) ∧ n ≠ 4) ↔ syB (hh M 355) o := by
    unfold syB
    rw [hn]
    constructor
    · rintro ⟨a, e⟩; exact ⟨a, by omega⟩
    · rintro ⟨a, e⟩; exact ⟨a, by omega⟩
  by_cases hb : syB (hh M 355) o
  · rw [if_pos (iff1.mpr hb)]
    refine ⟨fun _ => ?_, fun q => absurd hb q⟩
    rw [← hn]
    refine ⟨rfl, (fz.rfl'.wr (z355m (by decide) _)).wr (z355m (by decide) _), ?_⟩
    rw [row_wr, row_wr]
    rfl
  · rw [if_neg (fun q => hb (iff1.mp q))]
    exact ⟨fun q => absurd q hb, fun _ => ⟨rfl, rfl⟩⟩
end Play
