/-! THE MAKERS LEAVE THE RELATION -/
/-- the reference's first row -/
def A0r (j : Int) : Int := if j = 4 then -1 else if j = 9 then 271 else 0
theorem A0r_z {j : Int} (h : j ≠ 4) (h2 : j ≠ 9) : A0r j = 0 := by unfold A0r; rw [if_neg h, if_neg h2]
theorem noI {i : Int} {C : Prop} (a : 0 ≤ i) (b : i < 0) : C := by exfalso; omega
theorem A0r_ai : AI A0r := by
  have m : MI (A0r 0) (mn A0r) := ⟨by decide, by decide, by decide, by decide, by decide, by decide, by decide, by decide, fun p a b => noI a b, fun p a b => noI a b, fun p a b => noI a b, fun p a b => noI a b⟩
  refine ⟨by decide, by decide, fun i a b => ?_, fun i a b => ?_, fun i a b => noI a b, m, fun p a b => noI a b, by decide, by decide, fun i a b => noI a b, by decide, by decide, by decide, Or.inr rfl, by decide, by decide, fun i a b => noI a b, fun i a b => noI a b, fun i a b => noI a b, by decide, by decide, fun i a b => noI a b, by decide, by decide, fun i a b => noI a b⟩
  · rw [A0r_z (by omega) (by omega)]; decide
  · rw [A0r_z (by omega) (by omega)]; decide
theorem wr_new {w : Int} {M : mj_M} (h : WorldNew w M) : WR M w A0r := by
  obtain ⟨⟨-, -, -, -, f4, -, f6, f7, -, f9, f10, -⟩, ⟨t0, -, -, -, t4, t5, -⟩, ⟨m0, m1, m2, m3, -⟩, ⟨r0, -⟩, ⟨s0, -⟩, -, -⟩ := h
  refine ⟨t0, fun i a b => ?_, fun i a b => ?_, ⟨m2, m0, m1, m3, fun p a b => noI a b, fun p a b => noI a b, fun p a b => noI a b, fun i a b => noI a b⟩, f4, fun i a b => noI a b, f6, f7, f9, by rw [f10]; decide, by rw [f10]; decide, fun i a b => noI a b, r0, fun i a b => noI a b, s0, fun i a b => noI a b⟩
  · rw [show w + 2 = w + 1 + 1 by omega, t4, A0r_z (by omega) (by omega)]
  · rw [show w + 3 = w + 1 + 2 by omega, t5, A0r_z (by omega) (by omega)]
section MakeAll
variable {X : mj_X} {d : Nat} {M : mj_M}
theorem i_M (h : nx M = 353) (p : PN M) : wc X (d + 4) 189 [(32, 354)] (mj_nw M 32 39 (fun _ => 0)) (fun r M2 => r = none ∧ RR M2 ∧ M2.1 ≤ 400 ∧ M2.2.1 ≤ M.2.1 + 9000) := by
  refine mk_rows h ?_
  intro B a
  have cs := a.cs p
  simp only [w189_184, w189_185, w189_188, w189_190, w189_193, c_354_0 cs, l_355 cs, ↓reduceIte, hh_wr, hl_wr, b10, b11, ite_not, ne_eq, Int.reduceEq, Int.reduceLE, Int.reduceLT, Int.reduceNe, Int.reduceNeg, Int.reduceAdd, Int.reduceSub, Int.reduceMul, not_false_eq_true, not_true_eq_false, false_and, and_false, true_and, and_true, and_self, true_or, or_true, false_or, or_false, if_true, if_false, ite_true, ite_false, mj_tl_some, mj_tl_none, mj_cs0, mj_cs1, mj_cs2, mj_cs3, mj_cs4]
  have cs1 : CS (mj_wr B 355 9 271) := cs.wa (by decide +kernel)
  have cs2 : CS (mj_wr (mj_wr B 355 9 271) 355 4 (-1)) := cs1.wa (by decide +kernel)
  simp only [w189_194, w189_195, w189_198, w189_199, w189_200, w189_201, w189_202, c_354_0 cs1, l_355 cs1, ↓reduceIte, hh_wr, hl_wr, b10, b11, ite_not, ne_eq, Int.reduceEq, Int.reduceLE, Int.reduceLT, Int.reduceNe, Int.reduceNeg, Int.reduceAdd, Int.reduceSub, Int.reduceMul, not_false_eq_true, not_true_eq_false, false_and, and_false, true_and, and_true, and_self, true_or, or_true, false_or, or_false, if_true, if_false, ite_true, ite_false, mj_tl_some, mj_tl_none, mj_cs0, mj_cs1, mj_cs2, mj_cs3, mj_cs4]
  generalize hC : mj_wr (mj_wr B 355 9 271) 355 4 (-1) = C at cs2 ⊢
  have Ch : ∀ x j, hh C x j = if x = 355 ∧ j = 4 then -1 else if x = 355 ∧ j = 9 then 271 else hh B x j := fun x j => by subst hC; rw [hh_wr, hh_wr]
  have Cl : ∀ x, hl C x = hl B x := fun x => by subst hC; rfl
  have Cn : C.1 = B.1 := by subst hC; rfl
  have Cs : C.2.1 = B.2.1 := by subst hC; rfl
  clear hC
  refine wc.mono (m_layOrders cs2) ?_
  rintro r D ⟨rfl, k, td, tp⟩
  have csD : CS D := cs2.fz (zs := [7]) ⟨fun x j z => k.h x j (fun q => z (by subst q; exact List.mem_singleton.mpr rfl)) (fun q => z (by subst q; exact List.mem_singleton.mpr rfl)), k.l, k.n, k.s⟩ (by decide)
  have hz : ∀ i : Nat, hh D 361 (i : Int) = 0 ∧ hh D 362 (i : Int) = 0 := fun i => by
    rw [k.h 361 _ (by decide) (by decide), k.h 362 _ (by decide) (by decide), Ch, Ch, if_neg (by omega), if_neg (by omega), if_neg (by omega), if_neg (by omega)]
    exact ⟨a.z 361 (by decide) (by decide) _, a.z 362 (by decide) (by decide) _⟩
  simp only [w189_205, w189_206, ↓reduceIte, hh_wr, hl_wr, b10, b11, ite_not, ne_eq, Int.reduceEq, Int.reduceLE, Int.reduceLT, Int.reduceNe, Int.reduceNeg, Int.reduceAdd, Int.reduceSub, Int.reduceMul, not_false_eq_true, not_true_eq_false, false_and, and_false, true_and, and_true, and_self, true_or, or_true, false_or, or_false, if_true, if_false, ite_true, ite_false, mj_tl_some, mj_tl_none, mj_cs0, mj_cs1, mj_cs2, mj_cs3, mj_cs4]
  refine wc.mono (m_laySayings (d := d) csD tp hz) ?_
  rintro r E ⟨rfl, t⟩
  have csE := t.cs csD
  simp only [w189_209, w189_210, w189_213, w189_214, w189_217, c_354_0 csE, c_354_1 csE, ↓reduceIte, hh_wr, hl_wr, b10, b11, ite_not, ne_eq, Int.reduceEq, Int.reduceLE, Int.reduceLT, Int.reduceNe, Int.reduceNeg, Int.reduceAdd, Int.reduceSub, Int.reduceMul, not_false_eq_true, not_true_eq_false, false_and, and_false, true_and, and_true, and_self, true_or, or_true, false_or, or_false, if_true, if_false, ite_true, ite_false, mj_tl_some, mj_tl_none, mj_cs0, mj_cs1, mj_cs2, mj_cs3, mj_cs4]
  refine wc.mono (m_copy (a := 355) (b := 356) (by decide) (by decide) (by decide) (l_355 csE) (l_356 csE)) ?_
  rintro r G ⟨rfl, H, Hl, Hn, Hs⟩
  simp only [w189_220, ↓reduceIte, hh_wr, hl_wr, b10, b11, ite_not, ne_eq, Int.reduceEq, Int.reduceLE, Int.reduceLT, Int.reduceNe, Int.reduceNeg, Int.reduceAdd, Int.reduceSub, Int.reduceMul, not_false_eq_true, not_true_eq_false, false_and, and_false, true_and, and_true, and_self, true_or, or_true, false_or, or_false, if_true, if_false, ite_true, ite_false, mj_tl_some, mj_tl_none, mj_cs0, mj_cs1, mj_cs2, mj_cs3, mj_cs4]
  have csG : CS G := csE.fz (zs := [4]) ⟨fun x j z => by rw [H, if_neg (fun q => z (by rw [q.1]; exact List.mem_singleton.mpr rfl))], Hl, Hn, Hs⟩ (by decide)
  -- the cells that only the makers of the class made
  have fr : ∀ x, x < 354 → (∀ j, hh G x j = hh M x j) ∧ hl G x = hl M x := fun x hx => ⟨fun j => by
    rw [H, if_neg (by omega), t.h x j (by omega) (by omega) (by omega), k.h x j (by omega) (by omega), Ch, if_neg (by omega), if_neg (by omega)]
    exact (a.o x hx).1 j, by rw [Hl, t.l, k.l, Cl]; exact (a.o x hx).2⟩
  have g4 : ∀ j, hh G 354 j = FMm j := fun j => by
    rw [H, if_neg (by omega), t.h 354 j (by decide) (by decide) (by decide), k.h 354 j (by decide) (by decide), Ch, if_neg (by omega), if_neg (by omega)]
    exact a.f j
  have e5 : ∀ j, hh E 355 j = A0r j := fun j => by
    rw [t.h 355 j (by decide) (by decide) (by decide), k.h 355 j (by decide) (by decide), Ch, a.z 355 (by decide) (by decide)]
    unfold A0r
    simp only [true_and]
  have g5 : hh G 355 = A0r := funext fun j => by rw [H, if_neg (by omega)]; exact e5 j
  have g6 : hh G 356 = A0r := funext fun j => by
    rw [H]
    by_cases q : 0 ≤ j ∧ j < 1691
    · rw [if_pos ⟨rfl, q.1, q.2⟩]; exact e5 j
    · rw [if_neg (fun z => q z.2), t.h 356 j (by decide) (by decide) (by decide), k.h 356 j (by decide) (by decide), Ch, if_neg (by omega), if_neg (by omega), a.z 356 (by decide) (by decide), A0r_z (by omega) (by omega)]
  have na : nx G = 373 := by
    show ((G.1 : Nat) : Int) = 373
    rw [Hn, t.n, k.n, Cn]
    exact a.n
  have sa : G.2.1 = M.2.1 + 8759 := by rw [Hs, t.s, k.s, Cs, a.s]
  have na' : ((G.1 : Nat) : Int) = 373 := na
  refine ⟨⟨csG, by omega, ?_, ?_, ?_, ?_, ?_, fun i u v => ?_, fun i u v => ?_, ?_, ?_, ?_⟩, by omega, by omega⟩
  · rw [g5]; exact wr_new (p.w.same (fun x _ y => fr x (by omega)))
  · rw [g6]; exact wr_new (p.i.same (fun x _ y => fr x (by omega)))
  · rw [g5]; exact A0r_ai
  · rw [g6]; exact A0r_ai
  · rw [g5, g6]; exact Int.le_refl _
  · rw [g5] at v; exact noI u v
  · rw [g6] at v; exact noI u v
  · have nn : ∀ {n : Nat} {f g : Int → Int}, (∀ i : Nat, i < n → f (i : Int) = g (i : Int)) → ∀ i, 0 ≤ i → i < (n : Int) → f i = g i := fun {n f g} q i u v => by
      have := q i.toNat (by omega)
      rw [show ((i.toNat : Nat) : Int) = i by omega] at this
      exact this
    have gz : ∀ x j, 354 < x → x ≠ 355 → x ≠ 356 → hh G x j = hh E x j := fun x j u v w => by rw [H, if_neg (by omega)]
    refine ⟨fun i u v => ?_, fun i u v => ?_, fun i u v => ?_, fun i u v => ?_, fun i u v => ?_, fun i u v => ?_, fun i u v => ?_⟩
    · rw [(fr 3 (by decide)).1]; exact nn (n := 600) p.o.2.1 i u v
    · rw [(fr 4 (by decide)).1]; exact nn (n := 600) p.o.2.2 i u v
    · rw [gz 358 i (by decide) (by decide) (by decide), t.h 358 i (by decide) (by decide) (by decide)]; exact nn (n := 600) td i u v
    · rw [gz 359 i (by decide) (by decide) (by decide), t.h 359 i (by decide) (by decide) (by decide)]; exact nn (n := 600) tp i u v
    · rw [gz 360 i (by decide) (by decide) (by decide)]; exact nn (n := 20) t.k i u v
    · rw [gz 361 i (by decide) (by decide) (by decide)]; exact nn (n := 20) t.lo i u v
    · rw [gz 362 i (by decide) (by decide) (by decide)]; exact nn (n := 20) t.hi i u v
  · have q9 : hh G 354 9 = 0 := (g4 9).trans (by decide)
    refine ⟨by rw [q9]; decide, by rw [q9]; decide, ?_, fun i u v => ?_, Or.inl ⟨?_, ?_, ?_⟩, ?_⟩
    · rw [q9, (fr 1 (by decide)).1]; exact p.f.2.2.1
    · rw [q9] at v; exact noI u v
    · rw [(fr 1 (by decide)).1]; exact p.f.2.2.2.1
    · exact (g4 10).trans (by decide)
    · exact (g4 11).trans (by decide)
    · exact (g4 36).trans (by decide)
  · exact Or.inl ((g4 29).trans (by decide))
theorem init_RR : Init RR (d + 4) := by
  intro X
  refine wc.mono (i_P (d := d + 2)) ?_
  rintro r M ⟨rfl, n, s, p⟩
  have n' : ((M.1 : Nat) : Int) = 353 := n
  refine ⟨rfl, by omega, ?_⟩
  refine wc.mono (i_M n p) ?_
  rintro r M2 ⟨rfl, h, a, b⟩
  exact ⟨rfl, h, a, by omega⟩
end MakeAll
