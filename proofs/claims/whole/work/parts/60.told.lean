/-! CALLS THAT TELL: form, story, say, seen, by, end, fault -/
theorem RR.upd {M M1 : mj_M} (h : RR M) (f : fz [1, 3] M M1) (hw : WR M1 5 (hh M1 355)) (ha : AI (hh M1 355)) (h3 : hh M1 355 3 = hh M 355 3) (h20 : ∀ j, hh M1 20 j = hh M 20 j) : Pst RR M M1 := Pst.of (h.up (f.mono (fun z hz => by simp at hz ⊢; omega)) hw ha h3 h20 (h.co.fz f (by decide))) f
theorem z_7 (j : Int) : zone 7 j = 1 := rfl
theorem z_8 (j : Int) : zone 8 j = 1 := rfl
theorem z_11 (j : Int) : zone 11 j = 1 := rfl
theorem z_12 (j : Int) : zone 12 j = 1 := rfl
theorem z_13 (j : Int) : zone 13 j = 1 := rfl
theorem z_14 (j : Int) : zone 14 j = 1 := rfl
theorem z_16 (j : Int) : zone 16 j = 1 := rfl
theorem z_18 (j : Int) : zone 18 j = 1 := rfl
theorem z_19 (j : Int) : zone 19 j = 1 := rfl
section Told
variable {X : mj_X} {d : Nat} {M : mj_M} {Q : Option mj_V → mj_M → Prop}
theorem st0 : St0 RR (d + 60) := by
  intro X M a1 a2 h i1 i2
  obtain ⟨n, hn⟩ := nat_of h.F0
  have h8 := h.F8
  have hn8 : n ≤ 8 := by omega
  unfold LS2
  rw [p_form h.cs (h.gnf.trans hn) hn8]
  by_cases hc : (0 ≤ a1 ∧ a1 ≤ 4) ∧ (1 ≤ a2 ∧ a2 ≤ 9) ∧ n ≠ 8
  · rw [if_pos hc, m_form (cs6_0 (cs8 (cs7 h.cs))) (n := n) (by simp only [hh_wr, Int.reduceEq, false_and, if_false]; exact hn) hn8, if_pos hc]
    refine ⟨_, rfl, rfl, ?_⟩
    generalize hM2 : mj_wr (mj_wr (mj_wr (mj_wr (mj_wr (mj_wr M 7 (n : Int) a1) 8 (n : Int) a2) 6 0 ((n : Int) + 1)) 355 (41 + 2 * (n : Int)) a1) 355 (41 + 2 * (n : Int) + 1) a2) 355 0 ((n : Int) + 1) = M2
    have K : ∀ x j, x ≠ 6 ∧ x ≠ 7 ∧ x ≠ 8 ∧ x ≠ 355 → hh M2 x j = hh M x j := by
      intro x j hx
      subst hM2
      simp only [hh_wr, hx.1, hx.2.1, hx.2.2.1, hx.2.2.2, false_and, if_false]
    have q : ∀ j, j ≠ 0 ∧ j ≠ 41 + 2 * (n : Int) ∧ j ≠ 42 + 2 * (n : Int) → hh M2 355 j = hh M 355 j := by
      intro j hj
      subst hM2
      simp only [hh_wr, hj.1, hj.2.1, show ¬ j = 41 + 2 * (n : Int) + 1 by omega, Int.reduceEq, false_and, and_false, if_false]
    have v0 : hh M2 355 0 = (n : Int) + 1 := by
      subst hM2
      simp only [hh_wr, true_and, and_self, if_true]
    have v1 : hh M2 355 (41 + 2 * (n : Int)) = a1 := by
      subst hM2
      simp only [hh_wr, true_and, show ¬ 41 + 2 * (n : Int) = 0 by omega, show ¬ 41 + 2 * (n : Int) = 41 + 2 * (n : Int) + 1 by omega, if_true, if_false]
    have v2 : hh M2 355 (42 + 2 * (n : Int)) = a2 := by
      subst hM2
      simp only [hh_wr, true_and, show ¬ 42 + 2 * (n : Int) = 0 by omega, show 42 + 2 * (n : Int) = 41 + 2 * (n : Int) + 1 by omega, show ¬ 41 + 2 * (n : Int) + 1 = 0 by omega, if_true, if_false]
    have w7 : ∀ i, hh M2 7 i = if i = (n : Int) then a1 else hh M 7 i := by
      intro i
      subst hM2
      simp only [hh_wr, Int.reduceEq, false_and, true_and, if_false]
    have w8 : ∀ i, hh M2 8 i = if i = (n : Int) then a2 else hh M 8 i := by
      intro i
      subst hM2
      simp only [hh_wr, Int.reduceEq, false_and, true_and, if_false]
    have w6 : hh M2 6 0 = (n : Int) + 1 := by
      subst hM2
      simp only [hh_wr, Int.reduceEq, false_and, and_self, if_false, if_true]
    have f : fz [1, 3] M M2 := by
      subst hM2
      exact (((((fz.rfl'.wr (by rw [z_7]; decide)).wr (by rw [z_8]; decide)).wr (by decide)).wr (by rw [z_355]; decide)).wr (by rw [z_355]; decide)).wr (by decide)
    have hw := h.wr
    have hai := h.ai
    clear hM2
    refine h.upd f ?_ ?_ (q 3 (by omega)) (fun j => K 20 j (by omega))
    · exact ⟨(by rw [v0]; exact w6), (fun i a b => by
        show hh M2 7 i = _
        rw [w7]
        by_cases e : i = (n : Int)
        · rw [if_pos e, e, v1]
        · rw [if_neg e, q (41 + 2 * i) (by omega)]; exact hw.fk i a b), (fun i a b => by
        show hh M2 8 i = _
        rw [w8]
        by_cases e : i = (n : Int)
        · rw [if_pos e, e, v2]
        · rw [if_neg e, q (42 + 2 * i) (by omega)]; exact hw.fl i a b), ((hw.now.keep (fun x j a b => Or.inl (K x j (by omega)))).eq (mn_eq hai.now (fun j hj => q j (by omega)))), ((K 5 4 (by omega)).trans (hw.ns.trans (q 2 (by omega)).symm)), (fun i a b => by have := hai.s4; rw [q 2 (by omega)] at b; exact (K 19 i (by omega)).trans ((hw.st i a b).trans (q (57 + i) (by omega)).symm)), ((K 5 6 (by omega)).trans (hw.nt.trans (q 3 (by omega)).symm)), ((K 5 7 (by omega)).trans (hw.ru.trans (q 4 (by omega)).symm)), ((K 5 9 (by omega)).trans (hw.np.trans (q 5 (by omega)).symm)), (by rw [K 5 10 (by omega)]; exact hw.e0), (by rw [K 5 10 (by omega)]; exact hw.e3), (fun i a b => by have := hai.n3; rw [q 5 (by omega)] at b; rw [K 5 10 (by omega)]; exact ((hw.sp i a b).keep (fun x j a b => Or.inl (K x j (by omega)))).eq (ms_eq (hai.sp i a b) ⟨a, by omega⟩ (fun j j1 j2 => q j (by omega)))), ((K 15 0 (by omega)).trans (hw.nd.trans (q 6 (by omega)).symm)), (fun i a b k c e => by have := hai.d8; rw [q 6 (by omega)] at b; exact (K 16 _ (by omega)).trans ((hw.d i a b k c e).trans (q _ (by omega)).symm)), ((K 17 0 (by omega)).trans (hw.ne.trans (q 7 (by omega)).symm)), (fun i a b k c e => by have := hai.e8; rw [q 7 (by omega)] at b; exact (K 18 _ (by omega)).trans ((hw.e i a b k c e).trans (q _ (by omega)).symm))⟩
    · exact ⟨(by rw [v0]; omega), (by rw [v0]; omega), (fun i a b => by
        by_cases e : i = (n : Int)
        · rw [e, v1]; exact hc.1
        · rw [q (41 + 2 * i) (by omega)]; exact hai.fk i a b), (fun i a b => by
        by_cases e : i = (n : Int)
        · rw [e, v2]; omega
        · rw [q (42 + 2 * i) (by omega)]; exact hai.fl i a b), (fun i a b => by
        rw [v0] at b
        by_cases e : i = (n : Int)
        · rw [e, v2]; omega
        · rw [q (42 + 2 * i) (by omega)]; exact hai.fl1 i a (by rw [hn]; omega)), (by rw [v0]; exact (hai.now.eq (mn_eq hai.now (fun j hj => q j (by omega)))).up (by rw [hn]; omega)), (fun p a b => by
        have h6 : hh M 355 1 ≤ 6 := hai.now.p6
        rw [q 1 (by omega)] at b
        have := pw_le (show hh M 355 0 ≤ (n : Int) + 1 by omega)
        rw [v0, q (14 + 5 * p) (by omega), q (15 + 5 * p) (by omega)]
        obtain ⟨u1, u2, u3⟩ := hai.tl p a b
        exact ⟨u1, u2, by omega⟩), (by rw [q 2 (by omega)]; exact hai.s0), (by rw [q 2 (by omega)]; exact hai.s4), (fun i a b => by have := hai.s4; rw [q 2 (by omega)] at b; rw [q (57 + i) (by omega)]; exact hai.st i a b), (by rw [q 3 (by omega)]; exact hai.t0), (by rw [q 3 (by omega)]; exact hai.t4), (by rw [q 4 (by omega)]; exact hai.r0), (by rw [q 4 (by omega), q 3 (by omega)]; exact hai.r4), (by rw [q 5 (by omega)]; exact hai.n0), (by rw [q 5 (by omega)]; exact hai.n3), (fun i a b => by
        have := hai.n3
        rw [q 5 (by omega)] at b
        rw [v0]
        exact ((hai.sp i a b).eq (ms_eq (hai.sp i a b) ⟨a, by omega⟩ (fun j j1 j2 => q j (by omega)))).up (by rw [hn]; omega)), (fun i a b => by have := hai.n3; rw [q 5 (by omega)] at b; rw [(ms_eq (hai.sp i a b) ⟨a, by omega⟩ (fun j j1 j2 => q j (by omega))).P, (mnx_eq hai ⟨a, b⟩ (q 5 (by omega)) (fun j j1 j2 => q j (by omega)) (fun j hj => q j (by omega))).P]; exact hai.sm i a b), (fun i a b p c e => by have := hai.n3; rw [q 5 (by omega)] at b; have g := mnx_eq hai ⟨a, b⟩ (q 5 (by omega)) (fun j j1 j2 => q j (by omega)) (fun j hj => q j (by omega)); have g0 := (ms_eq (hai.sp i a b) ⟨a, by omega⟩ (fun j j1 j2 => q j (by omega))).P; rw [g0] at c; rw [g.P] at e; have u0 := (hai.sp i a b).p0; have u6 := (mnx_P hai ⟨a, b⟩).p6; have hp5 : p < 6 := Int.lt_of_lt_of_le e u6; have hp0 : 0 ≤ p := Int.le_trans u0 c; exact (hai.ti i a b p c e).eq g ⟨hp0, e⟩ (q _ (by omega)) (q _ (by omega))), (by rw [q 6 (by omega)]; exact hai.d0), (by rw [q 6 (by omega)]; exact hai.d8), (fun i a b => by have := hai.d8; rw [q 6 (by omega)] at b; rw [q (61 + 3 * i) (by omega), q (62 + 3 * i) (by omega), q (63 + 3 * i) (by omega)]; exact hai.d i a b), (by rw [q 7 (by omega)]; exact hai.e0), (by rw [q 7 (by omega)]; exact hai.e8), (fun i a b => by have := hai.e8; rw [q 7 (by omega)] at b; rw [q (85 + 2 * i) (by omega), q (86 + 2 * i) (by omega), q 1 (by omega)]; exact hai.e i a b)⟩
  · rw [if_neg hc, m_form h.cs hn hn8, if_neg hc]
    exact ls_id h rfl
theorem st2 : St2 RR (d + 60) := by
  intro X M a1 h i1
  obtain ⟨n, hn⟩ := nat_of h.S0
  have h8 := h.S4
  have hn8 : n ≤ 4 := by omega
  unfold LS2
  rw [p_story h.cs (h.gns.trans hn) hn8]
  by_cases hc : (0 ≤ a1 ∧ a1 ≤ 119) ∧ n ≠ 4
  · rw [if_pos hc, m_story (cs5_4 (cs19 h.cs)) (n := n) (by simp only [hh_wr, Int.reduceEq, false_and, if_false]; exact hn) hn8, if_pos hc]
    refine ⟨_, rfl, rfl, ?_⟩
    generalize hM2 : mj_wr (mj_wr (mj_wr (mj_wr M 19 (n : Int) a1) 5 4 ((n : Int) + 1)) 355 (57 + (n : Int)) a1) 355 2 ((n : Int) + 1) = M2
    have K : ∀ x j, x ≠ 19 ∧ (x ≠ 5 ∨ j ≠ 4) ∧ x ≠ 355 → hh M2 x j = hh M x j := by
      intro x j hx
      subst hM2
      simp only [hh_wr, hx.1, show ¬ (x = 5 ∧ j = 4) by omega, hx.2.2, false_and, if_false]
    have q : ∀ j, j ≠ 2 ∧ j ≠ 57 + (n : Int) → hh M2 355 j = hh M 355 j := by
      intro j hj
      subst hM2
      simp only [hh_wr, hj.1, hj.2, Int.reduceEq, false_and, and_false, if_false]
    have v0 : hh M2 355 2 = (n : Int) + 1 := by
      subst hM2
      simp only [hh_wr, true_and, and_self, if_true]
    have v1 : hh M2 355 (57 + (n : Int)) = a1 := by
      subst hM2
      simp only [hh_wr, true_and, show ¬ 57 + (n : Int) = 2 by omega, if_true, if_false]
    have w19 : ∀ i, hh M2 19 i = if i = (n : Int) then a1 else hh M 19 i := by
      intro i
      subst hM2
      simp only [hh_wr, Int.reduceEq, false_and, true_and, if_false]
    have w5 : hh M2 5 4 = (n : Int) + 1 := by
      subst hM2
      simp only [hh_wr, Int.reduceEq, false_and, and_self, if_false, if_true]
    have f : fz [1, 3] M M2 := by
      subst hM2
      exact (((fz.rfl'.wr (by rw [z_19]; decide)).wr (by decide)).wr (by rw [z_355]; decide)).wr (by decide)
    have hw := h.wr
    have hai := h.ai
    clear hM2
    refine h.upd f ?_ ?_ (q 3 (by omega)) (fun j => K 20 j (by omega))
    · exact ⟨((K 6 0 (by omega)).trans (hw.nf.trans (q 0 (by omega)).symm)), (fun i a b => (K 7 i (by omega)).trans ((hw.fk i a b).trans (q (41 + 2 * i) (by omega)).symm)), (fun i a b => (K 8 i (by omega)).trans ((hw.fl i a b).trans (q (42 + 2 * i) (by omega)).symm)), ((hw.now.keep (fun x j a b => Or.inl (K x j (by omega)))).eq (mn_eq hai.now (fun j hj => q j (by omega)))), (by rw [v0]; exact w5), (fun i a b => by
        show hh M2 19 i = _
        rw [v0] at b
        rw [w19]
        by_cases e : i = (n : Int)
        · rw [if_pos e, e, v1]
        · rw [if_neg e, q (57 + i) (by omega)]; exact hw.st i a (by rw [hn]; omega)), ((K 5 6 (by omega)).trans (hw.nt.trans (q 3 (by omega)).symm)), ((K 5 7 (by omega)).trans (hw.ru.trans (q 4 (by omega)).symm)), ((K 5 9 (by omega)).trans (hw.np.trans (q 5 (by omega)).symm)), (by rw [K 5 10 (by omega)]; exact hw.e0), (by rw [K 5 10 (by omega)]; exact hw.e3), (fun i a b => by have := hai.n3; rw [q 5 (by omega)] at b; rw [K 5 10 (by omega)]; exact ((hw.sp i a b).keep (fun x j a b => Or.inl (K x j (by omega)))).eq (ms_eq (hai.sp i a b) ⟨a, by omega⟩ (fun j j1 j2 => q j (by omega)))), ((K 15 0 (by omega)).trans (hw.nd.trans (q 6 (by omega)).symm)), (fun i a b k c e => by have := hai.d8; rw [q 6 (by omega)] at b; exact (K 16 _ (by omega)).trans ((hw.d i a b k c e).trans (q _ (by omega)).symm)), ((K 17 0 (by omega)).trans (hw.ne.trans (q 7 (by omega)).symm)), (fun i a b k c e => by have := hai.e8; rw [q 7 (by omega)] at b; exact (K 18 _ (by omega)).trans ((hw.e i a b k c e).trans (q _ (by omega)).symm))⟩
    · exact ⟨(by rw [q 0 (by omega)]; exact hai.f0), (by rw [q 0 (by omega)]; exact hai.f8), (fun i a b => by rw [q (41 + 2 * i) (by omega)]; exact hai.fk i a b), (fun i a b => by rw [q (42 + 2 * i) (by omega)]; exact hai.fl i a b), (fun i a b => by have := hai.f8; rw [q 0 (by omega)] at b; rw [q (42 + 2 * i) (by omega)]; exact hai.fl1 i a b), (by rw [q 0 (by omega)]; exact hai.now.eq (mn_eq hai.now (fun j hj => q j (by omega)))), (fun p a b => by have h6 : _ ≤ (6 : Int) := hai.now.p6; rw [q 1 (by omega)] at b; have hp5 : p < 6 := Int.lt_of_lt_of_le b h6; rw [q 0 (by omega), q (14 + 5 * p) (by omega), q (15 + 5 * p) (by omega)]; exact hai.tl p a b), (by rw [v0]; omega), (by rw [v0]; omega), (fun i a b => by
        rw [v0] at b
        by_cases e : i = (n : Int)
        · rw [e, v1]; exact hc.1
        · rw [q (57 + i) (by omega)]; exact hai.st i a (by rw [hn]; omega)), (by rw [q 3 (by omega)]; exact hai.t0), (by rw [q 3 (by omega)]; exact hai.t4), (by rw [q 4 (by omega)]; exact hai.r0), (by rw [q 4 (by omega), q 3 (by omega)]; exact hai.r4), (by rw [q 5 (by omega)]; exact hai.n0), (by rw [q 5 (by omega)]; exact hai.n3), (fun i a b => by have := hai.n3; rw [q 5 (by omega)] at b; rw [q 0 (by omega)]; exact (hai.sp i a b).eq (ms_eq (hai.sp i a b) ⟨a, by omega⟩ (fun j j1 j2 => q j (by omega)))), (fun i a b => by have := hai.n3; rw [q 5 (by omega)] at b; rw [(ms_eq (hai.sp i a b) ⟨a, by omega⟩ (fun j j1 j2 => q j (by omega))).P, (mnx_eq hai ⟨a, b⟩ (q 5 (by omega)) (fun j j1 j2 => q j (by omega)) (fun j hj => q j (by omega))).P]; exact hai.sm i a b), (fun i a b p c e => by have := hai.n3; rw [q 5 (by omega)] at b; have g := mnx_eq hai ⟨a, b⟩ (q 5 (by omega)) (fun j j1 j2 => q j (by omega)) (fun j hj => q j (by omega)); have g0 := (ms_eq (hai.sp i a b) ⟨a, by omega⟩ (fun j j1 j2 => q j (by omega))).P; rw [g0] at c; rw [g.P] at e; have u0 := (hai.sp i a b).p0; have u6 := (mnx_P hai ⟨a, b⟩).p6; have hp5 : p < 6 := Int.lt_of_lt_of_le e u6; have hp0 : 0 ≤ p := Int.le_trans u0 c; exact (hai.ti i a b p c e).eq g ⟨hp0, e⟩ (q _ (by omega)) (q _ (by omega))), (by rw [q 6 (by omega)]; exact hai.d0), (by rw [q 6 (by omega)]; exact hai.d8), (fun i a b => by have := hai.d8; rw [q 6 (by omega)] at b; rw [q (61 + 3 * i) (by omega), q (62 + 3 * i) (by omega), q (63 + 3 * i) (by omega)]; exact hai.d i a b), (by rw [q 7 (by omega)]; exact hai.e0), (by rw [q 7 (by omega)]; exact hai.e8), (fun i a b => by have := hai.e8; rw [q 7 (by omega)] at b; rw [q (85 + 2 * i) (by omega), q (86 + 2 * i) (by omega), q 1 (by omega)]; exact hai.e i a b)⟩
  · rw [if_neg hc, m_story h.cs hn hn8, if_neg hc]
    exact ls_id h rfl
end Told
