/-! A YEAR: the reference -/
theorem row_wr {M : mj_M} {i v : Int} : hh (mj_wr M 355 i v) 355 = up (hh M 355) i v := by
  funext j
  rw [hh_wr]
  unfold up
  simp only [true_and]
theorem SE0.ofN {M : mj_M} {p f : Int} (hc : CS M) (h : AN (hh M 355)) (hp : 0 ≤ p ∧ p < hh M 355 1) (hf : 0 ≤ f ∧ f < 8) : SE0 M p f := ⟨hc, h.mi, h.F0, h.F8, hp, hf, h.fk f hf.1 hf.2, h.fl f hf.1 hf.2⟩
theorem kno_hi {A : Int → Int} {p : Int} {f : Nat} (h : AN A) (hp : 0 ≤ p ∧ p < A 1) (hf : A 0 ≤ (f : Int) ∧ f < 8) : kno A p (f : Int) = false := by
  have kk : 0 ≤ A (11 + 5 * p + 1) ∧ A (11 + 5 * p + 1) < pw (A 0) := h.mi.k p hp.1 hp.2
  exact decide_eq_false (bit_hi kk h.F0 ⟨hf.1, by omega⟩)
theorem fsts_hi {A : Int → Int} {L : Option (Env → Int)} {p : Int} {s : (Int → Int) × Int} (hp : 0 ≤ p ∧ p < A 1) (h : Go A s.1) (h2 : 0 ≤ s.2) {F : Nat} (hF : A 0 = (F : Int)) : ∀ n : Nat, F ≤ n → n ≤ 8 → fsts L p s n = fsts L p s F := by
  intro n
  induction n with
  | zero => intro h1 h2; rw [show F = 0 by omega]
  | succ n ih =>
    intro h1 h3
    by_cases e : F = n + 1
    · rw [e]
    · have ih' := ih (by omega) (by omega)
      obtain ⟨g, g1, g2⟩ := Go.fs (L := L) hp h h2 n (by omega)
      have es : fsts L p s (n + 1) = fstp L p n (fsts L p s n) := rfl
      rw [es, ← ih']
      unfold fstp
      rw [kno_hi g.an (by rw [g.P]; exact hp) ⟨by rw [g.f, hF]; omega, by omega⟩]
      rfl
theorem z355m {zs : List Nat} (h : 3 ∈ zs) (j : Int) : zone 355 j ∈ zs := by rw [z_355]; exact h
section Pass2
variable {X : mj_X} {d : Nat} {M : mj_M} {A : Int → Int} {Q : Option mj_V → mj_M → Prop} {L : Option (Env → Int)}
theorem m_anew {x : Int} (hc : CS M) (ex : hh M 355 9 = x) (hx : 0 ≤ x ∧ x ≤ 30702) : wc X d 291 [(32, 354)] M Q ↔ Q none (mj_wr M 355 9 (nxx x)) := by
  show wp X d 291 0 [(32, 354)] [] M Q ↔ _
  have e0 : ji_2l x = x := ji_2l_eq ⟨by omega, by omega⟩
  have e1 : jl_mul x 521 = x * 521 := jl_mul_eq ⟨by omega, by omega⟩
  have e2 : jl_add (x * 521) 401 = x * 521 + 401 := jl_add_eq ⟨by omega, by omega⟩
  have e3 : jl_rem (x * 521 + 401) 30703 = nxx x := by
    rw [jl_rem_eq ⟨by omega, by omega⟩ ⟨by decide, by decide⟩ (by omega), Int.tmod_eq_emod_of_nonneg (by omega)]
    rfl
  have r := nxx_r x
  have e4 : jl_2i (nxx x) = nxx x := jl_2i_eq ⟨by omega, by omega⟩
  simp only [w291_0, w291_1, w291_4, w291_6, w291_7, w291_10, w291_12, w291_13, w291_14, w291_17, w291_18, w291_21, w291_22, w291_25, w291_26, w291_27, w291_28, c_1_0 hc, c_1_1 hc, c_1_2 hc, c_1_3 hc, c_1_4 hc, c_1_5 hc, c_1_6 hc, c_1_7 hc, c_1_8 hc, c_2_0 hc, c_2_1 hc, c_5_0 hc, c_5_1 hc, c_5_2 hc, c_5_3 hc, c_5_5 hc, c_5_8 hc, c_5_11 hc, c_6_1 hc, c_6_2 hc, c_6_3 hc, c_10_4 hc, c_10_5 hc, c_10_6 hc, c_10_7 hc, c_15_1 hc, c_17_1 hc, c_339_0 hc, c_341_0 hc, c_341_1 hc, c_341_2 hc, c_342_4 hc, c_342_5 hc, c_342_6 hc, c_342_7 hc, c_347_0 hc, c_347_2 hc, c_347_3 hc, c_349_0 hc, c_349_1 hc, c_349_2 hc, c_351_2 hc, c_351_10 hc, c_351_12 hc, c_354_0 hc, c_354_1 hc, c_354_2 hc, c_354_3 hc, c_354_4 hc, c_354_5 hc, c_354_6 hc, c_354_7 hc, c_354_8 hc, c_354_20 hc, c_354_25 hc, c_354_26 hc, c_354_27 hc, c_354_28 hc, c_354_32 hc, c_354_33 hc, c_354_34 hc, c_354_35 hc, c_354_38 hc, l_3 hc, l_4 hc, l_7 hc, l_8 hc, l_9 hc, l_11 hc, l_12 hc, l_13 hc, l_14 hc, l_16 hc, l_18 hc, l_19 hc, l_20 hc, l_21 hc, l_340 hc, l_343 hc, l_344 hc, l_345 hc, l_346 hc, l_348 hc, l_350 hc, l_352 hc, l_353 hc, l_355 hc, l_356 hc, l_357 hc, l_358 hc, l_359 hc, l_360 hc, l_361 hc, l_362 hc, l_363 hc, l_364 hc, l_365 hc, l_366 hc, l_367 hc, l_368 hc, l_369 hc, l_370 hc, l_371 hc, l_372 hc, l_373 hc, ex, e0, e1, e2, e3, e4, ↓reduceIte, hh_wr, hl_wr, b10, b11, ite_not, ne_eq, Int.reduceEq, Int.reduceLE, Int.reduceLT, Int.reduceNe, Int.reduceNeg, Int.reduceAdd, Int.reduceSub, Int.reduceMul, not_false_eq_true, not_true_eq_false, false_and, and_false, true_and, and_true, and_self, true_or, or_true, false_or, or_false, if_true, if_false, ite_true, ite_false, mj_tl_some, mj_tl_none, mj_cs0, mj_cs1, mj_cs2, mj_cs3, mj_cs4]
/-- what asking a law may change -/
def Sf (M M1 : mj_M) : Prop := (∀ x j, (x < 365 ∨ 367 < x) → hh M1 x j = hh M x j) ∧ (∀ x, hl M1 x = hl M x) ∧ (M1.1 = M.1) ∧ (M1.2.1 = M.2.1)
theorem Sf.h {M M1 : mj_M} (h : Sf M M1) : ∀ x j, (x < 365 ∨ 367 < x) → hh M1 x j = hh M x j := h.1
theorem Sf.l {M M1 : mj_M} (h : Sf M M1) : ∀ x, hl M1 x = hl M x := h.2.1
theorem Sf.n {M M1 : mj_M} (h : Sf M M1) : M1.1 = M.1 := h.2.2.1
theorem Sf.s {M M1 : mj_M} (h : Sf M M1) : M1.2.1 = M.2.1 := h.2.2.2
theorem Sf.fz {M1 : mj_M} (h : Sf M M1) : fz [8] M M1 := ⟨fun x j hx => h.h x j (by
  by_cases g : x < 365
  · exact Or.inl g
  · by_cases g2 : 367 < x
    · exact Or.inr g2
    · exfalso
      apply hx
      rcases (show x = 365 ∨ x = 366 ∨ x = 367 by omega) with rfl | rfl | rfl
      all_goals exact List.mem_cons_self ..), h.l, h.n, h.s⟩
theorem m_fadesOf' {p f r j : Int} (se : SE0 M p f) (t : TxL M r j 0 2 L) : wc X (d + 6) 290 [(32, 354), (0, j), (0, p), (0, f)] M (fun q M1 => q = some (0, fdV L (envA (hh M 355) (mn (hh M 355)) p f)) ∧ Sf M M1) := by
  show wp X (d + 6) 290 0 [(32, 354), (0, j), (0, p), (0, f)] [] M _
  simp only [w290_0, w290_1, w290_2, w290_3, ↓reduceIte, hh_wr, hl_wr, b10, b11, ite_not, ne_eq, Int.reduceEq, Int.reduceLE, Int.reduceLT, Int.reduceNe, Int.reduceNeg, Int.reduceAdd, Int.reduceSub, Int.reduceMul, not_false_eq_true, not_true_eq_false, false_and, and_false, true_and, and_true, and_self, true_or, or_true, false_or, or_false, if_true, if_false, ite_true, ite_false, mj_tl_some, mj_tl_none, mj_cs0, mj_cs1, mj_cs2, mj_cs3, mj_cs4]
  refine wc.mono (m_name (d := d + 3) se) ?_
  rintro q M1 ⟨rfl, s1, se1⟩
  have f1 := s1.fz z365
  have e5 : hh M1 355 = hh M 355 := s1.row (by decide)
  have n4 := se1.nm 4 (by decide)
  rw [e5] at n4
  have hp := se.hp
  have ar := se.ai.a p hp.1 hp.2
  have n4' : hh M1 365 4 = (mn (hh M 355)).ps p 0 := n4
  have ed : ji_div ((mn (hh M 355)).ps p 0) 20 = (mn (hh M 355)).ps p 0 / 20 := ji_div_nn ⟨by omega, by omega⟩ ⟨by decide, by decide⟩ ar.1
  have hc := se1.cs
  simp only [w290_6, w290_7, w290_8, w290_9, w290_10, w290_13, w290_14, w290_15, w290_17, w290_18, w290_19, w290_21, c_1_0 hc, c_1_1 hc, c_1_2 hc, c_1_3 hc, c_1_4 hc, c_1_5 hc, c_1_6 hc, c_1_7 hc, c_1_8 hc, c_2_0 hc, c_2_1 hc, c_5_0 hc, c_5_1 hc, c_5_2 hc, c_5_3 hc, c_5_5 hc, c_5_8 hc, c_5_11 hc, c_6_1 hc, c_6_2 hc, c_6_3 hc, c_10_4 hc, c_10_5 hc, c_10_6 hc, c_10_7 hc, c_15_1 hc, c_17_1 hc, c_339_0 hc, c_341_0 hc, c_341_1 hc, c_341_2 hc, c_342_4 hc, c_342_5 hc, c_342_6 hc, c_342_7 hc, c_347_0 hc, c_347_2 hc, c_347_3 hc, c_349_0 hc, c_349_1 hc, c_349_2 hc, c_351_2 hc, c_351_10 hc, c_351_12 hc, c_354_0 hc, c_354_1 hc, c_354_2 hc, c_354_3 hc, c_354_4 hc, c_354_5 hc, c_354_6 hc, c_354_7 hc, c_354_8 hc, c_354_20 hc, c_354_25 hc, c_354_26 hc, c_354_27 hc, c_354_28 hc, c_354_32 hc, c_354_33 hc, c_354_34 hc, c_354_35 hc, c_354_38 hc, l_3 hc, l_4 hc, l_7 hc, l_8 hc, l_9 hc, l_11 hc, l_12 hc, l_13 hc, l_14 hc, l_16 hc, l_18 hc, l_19 hc, l_20 hc, l_21 hc, l_340 hc, l_343 hc, l_344 hc, l_345 hc, l_346 hc, l_348 hc, l_350 hc, l_352 hc, l_353 hc, l_355 hc, l_356 hc, l_357 hc, l_358 hc, l_359 hc, l_360 hc, l_361 hc, l_362 hc, l_363 hc, l_364 hc, l_365 hc, l_366 hc, l_367 hc, l_368 hc, l_369 hc, l_370 hc, l_371 hc, l_372 hc, l_373 hc, n4', ed, ↓reduceIte, hh_wr, hl_wr, b10, b11, ite_not, ne_eq, Int.reduceEq, Int.reduceLE, Int.reduceLT, Int.reduceNe, Int.reduceNeg, Int.reduceAdd, Int.reduceSub, Int.reduceMul, not_false_eq_true, not_true_eq_false, false_and, and_false, true_and, and_true, and_self, true_or, or_true, false_or, or_false, if_true, if_false, ite_true, ite_false, mj_tl_some, mj_tl_none, mj_cs0, mj_cs1, mj_cs2, mj_cs3, mj_cs4]
  refine wc.mono (m_says (d := d) (wo := (mn (hh M 355)).ps p 0 / 20) (lo := 0) (hi := 10) se1 (t.fz f1 (by decide)) (by decide) (by decide)) ?_
  rintro q M2 ⟨rfl, s2⟩
  simp only [w290_24, ↓reduceIte, hh_wr, hl_wr, b10, b11, ite_not, ne_eq, Int.reduceEq, Int.reduceLE, Int.reduceLT, Int.reduceNe, Int.reduceNeg, Int.reduceAdd, Int.reduceSub, Int.reduceMul, not_false_eq_true, not_true_eq_false, false_and, and_false, true_and, and_true, and_self, true_or, or_true, false_or, or_false, if_true, if_false, ite_true, ite_false, mj_tl_some, mj_tl_none, mj_cs0, mj_cs1, mj_cs2, mj_cs3, mj_cs4]
  refine ⟨?_, fun x j hx => by rw [s2.h x j (by omega) (by omega)]; exact s1.h x j (by omega), fun x => (s2.l x).trans (s1.l x), s2.n.trans s1.n, s2.s.trans s1.s⟩
  rw [e5]
  cases L <;> rfl
/-- the reference's row is s, what was forgotten is b more -/
def RP (M0 M : mj_M) (b : Int) (s : (Int → Int) × Int) : Prop := (fz [3, 8] M0 M) ∧ (hh M 355 = s.1) ∧ (hh M 354 37 = b + s.2 ∨ b < 0 ∨ 100000 < b) ∧ (∀ j, hh M 373 j = hh M0 373 j)
theorem RP.f {M0 M : mj_M} {b : Int} {s : (Int → Int) × Int} (h : RP M0 M b s) : fz [3, 8] M0 M := h.1
theorem RP.e {M0 M : mj_M} {b : Int} {s : (Int → Int) × Int} (h : RP M0 M b s) : hh M 355 = s.1 := h.2.1
theorem RP.g {M0 M : mj_M} {b : Int} {s : (Int → Int) × Int} (h : RP M0 M b s) : hh M 354 37 = b + s.2 ∨ b < 0 ∨ 100000 < b := h.2.2.1
theorem RP.k {M0 M : mj_M} {b : Int} {s : (Int → Int) × Int} (h : RP M0 M b s) : ∀ j, hh M 373 j = hh M0 373 j := h.2.2.2
theorem m_fstep {p r b : Int} {f : Nat} {A0 : Int → Int} {s : (Int → Int) × Int} {M0 : mj_M} {w : mj_V} (hc : CS M0) (h : RP M0 M b s) (go : Go A0 s.1) (hp : 0 ≤ p ∧ p < s.1 1) (hf : f < 8) (hfF : (f : Int) < s.1 0) (hs : 0 ≤ s.2 ∧ s.2 ≤ 100000) (t : TxL M0 r (A0 4) 0 2 L) (K : ∀ M1 w, RP M0 M1 b (fstp L p f s) → wp X (d + 7) 289 2 [(32, 354), (0, p), (0, ((f + 1 : Nat) : Int)), w] [] M1 Q) : wp X (d + 7) 289 2 [(32, 354), (0, p), (0, (f : Int)), w] [] M Q := by
  have hcM := hc.fz h.f (by decide)
  have p6 : s.1 1 ≤ 6 := go.an.mi.p6
  have hp6 : p < 6 := by omega
  have x0 : 0 ≤ s.1 9 := go.an.mi.x0
  have x9 : s.1 9 ≤ 30702 := go.an.mi.x9
  have e4 : s.1 4 = A0 4 := go.e 4 (by unfold nwi; omega)
  have g1 := fun Q => m_get (X := X) (d := d + 6) (M := M) (Q := Q) (p := p) (w := 1) hcM ⟨hp.1, hp6⟩ (by decide)
  rw [h.e] at g1
  have hF : hh M 355 0 = s.1 0 := by rw [h.e]
  rw [w289_2]
  by_cases hb : ji_and (ji_shr (s.1 (11 + 5 * p + 1)) (f : Int)) 1 = 1
  · have hb' : kno s.1 p (f : Int) = true := decide_eq_true hb
    unfold fstp at K
    rw [hb'] at K
    simp only [if_true] at K
    have er : ji_rem (s.1 9) 10 = s.1 9 % 10 := ji_rem_nn ⟨by omega, by omega⟩ ⟨by decide, by decide⟩ x0
    have an : AN (hh M 355) := by rw [h.e]; exact go.an
    have t1 := t.fz h.f (by decide)
    rw [← e4, ← h.e] at t1
    simp only [w289_3, w289_4, w289_7, w289_8, w289_9, w289_12, w289_13, w289_14, w289_15, w289_18, w289_19, w289_22, w289_28, w289_29, w289_32, w289_34, w289_35, w289_37, w289_38, w289_39, w289_40, w289_43, w289_44, w289_45, w289_46, w289_47, c_1_0 hcM, c_1_1 hcM, c_1_2 hcM, c_1_3 hcM, c_1_4 hcM, c_1_5 hcM, c_1_6 hcM, c_1_7 hcM, c_1_8 hcM, c_2_0 hcM, c_2_1 hcM, c_5_0 hcM, c_5_1 hcM, c_5_2 hcM, c_5_3 hcM, c_5_5 hcM, c_5_8 hcM, c_5_11 hcM, c_6_1 hcM, c_6_2 hcM, c_6_3 hcM, c_10_4 hcM, c_10_5 hcM, c_10_6 hcM, c_10_7 hcM, c_15_1 hcM, c_17_1 hcM, c_339_0 hcM, c_341_0 hcM, c_341_1 hcM, c_341_2 hcM, c_342_4 hcM, c_342_5 hcM, c_342_6 hcM, c_342_7 hcM, c_347_0 hcM, c_347_2 hcM, c_347_3 hcM, c_349_0 hcM, c_349_1 hcM, c_349_2 hcM, c_351_2 hcM, c_351_10 hcM, c_351_12 hcM, c_354_0 hcM, c_354_1 hcM, c_354_2 hcM, c_354_3 hcM, c_354_4 hcM, c_354_5 hcM, c_354_6 hcM, c_354_7 hcM, c_354_8 hcM, c_354_20 hcM, c_354_25 hcM, c_354_26 hcM, c_354_27 hcM, c_354_28 hcM, c_354_32 hcM, c_354_33 hcM, c_354_34 hcM, c_354_35 hcM, c_354_38 hcM, l_3 hcM, l_4 hcM, l_7 hcM, l_8 hcM, l_9 hcM, l_11 hcM, l_12 hcM, l_13 hcM, l_14 hcM, l_16 hcM, l_18 hcM, l_19 hcM, l_20 hcM, l_21 hcM, l_340 hcM, l_343 hcM, l_344 hcM, l_345 hcM, l_346 hcM, l_348 hcM, l_350 hcM, l_352 hcM, l_353 hcM, l_355 hcM, l_356 hcM, l_357 hcM, l_358 hcM, l_359 hcM, l_360 hcM, l_361 hcM, l_362 hcM, l_363 hcM, l_364 hcM, l_365 hcM, l_366 hcM, l_367 hcM, l_368 hcM, l_369 hcM, l_370 hcM, l_371 hcM, l_372 hcM, l_373 hcM, hF, hfF, g1, s_has, hb, ↓reduceIte, hh_wr, hl_wr, b10, b11, ite_not, ne_eq, Int.reduceEq, Int.reduceLE, Int.reduceLT, Int.reduceNe, Int.reduceNeg, Int.reduceAdd, Int.reduceSub, Int.reduceMul, not_false_eq_true, not_true_eq_false, false_and, and_false, true_and, and_true, and_self, true_or, or_true, false_or, or_false, if_true, if_false, ite_true, ite_false, mj_tl_some, mj_tl_none, mj_cs0, mj_cs1, mj_cs2, mj_cs3, mj_cs4]
    refine wc.mono (m_fadesOf' (d := d) (SE0.ofN hcM an (by rw [h.e]; exact hp) ⟨by omega, by omega⟩) t1) ?_
    rintro q M1 ⟨rfl, sf⟩
    have f1 := sf.fz
    have g37 : hh M1 354 37 = hh M 354 37 := sf.h 354 37 (by omega)
    have e51 : hh M1 355 = s.1 := (fz8_355 f1).trans h.e
    have hc1 := hcM.fz f1 (by decide)
    have f01 : fz [3, 8] M0 M1 := h.f.tr (f1.mono (fun z hz => by simp at hz; subst hz; decide))
    rw [h.e, er]
    have an1 := fun Q => m_anew (X := X) (d := d + 6) (M := M1) (Q := Q) (x := s.1 9) hc1 (by rw [e51]) ⟨x0, x9⟩
    have f02 : fz [3, 8] M0 (mj_wr M1 355 9 (nxx (s.1 9))) := f01.wr (z355m (by decide) _)
    by_cases hl : s.1 9 % 10 < fdV L (envA s.1 (mn s.1) p (f : Int))
    · rw [if_pos hl] at K
      have hc2 := hc.fz f02 (by decide)
      have g2 := fun Q => m_get (X := X) (d := d + 6) (M := mj_wr M1 355 9 (nxx (s.1 9))) (Q := Q) (p := p) (w := 1) hc2 ⟨hp.1, hp6⟩ (by decide)
      have e5w : hh (mj_wr M1 355 9 (nxx (s.1 9))) 355 (11 + 5 * p + 1) = s.1 (11 + 5 * p + 1) := by rw [row_wr, up_ne (by omega), e51]
      rw [e5w] at g2
      have pu := fun Q => m_put (X := X) (d := d + 6) (M := mj_wr M1 355 9 (nxx (s.1 9))) (Q := Q) (p := p) (w := 1) (v := clr (s.1 (11 + 5 * p + 1)) (f : Int)) hc2 ⟨hp.1, hp6⟩ (by decide)
      have ecl : ji_and (s.1 (11 + 5 * p + 1)) (ji_xor (ji_shl 1 (f : Int)) (-1)) = clr (s.1 (11 + 5 * p + 1)) (f : Int) := rfl
      simp only [w289_50, w289_53, w289_54, w289_57, w289_58, w289_59, w289_60, w289_63, w289_64, w289_70, w289_71, w289_72, w289_73, w289_74, w289_75, w289_76, w289_79, w289_80, w289_81, w289_82, w289_83, w289_84, w289_85, w289_88, w289_89, w289_90, w289_93, w289_94, w289_95, w289_98, w289_101, hl, an1, g2, ecl, pu, jp1 (p := f) (by omega), ↓reduceIte, hh_wr, hl_wr, b10, b11, ite_not, ne_eq, Int.reduceEq, Int.reduceLE, Int.reduceLT, Int.reduceNe, Int.reduceNeg, Int.reduceAdd, Int.reduceSub, Int.reduceMul, not_false_eq_true, not_true_eq_false, false_and, and_false, true_and, and_true, and_self, true_or, or_true, false_or, or_false, if_true, if_false, ite_true, ite_false, mj_tl_some, mj_tl_none, mj_cs0, mj_cs1, mj_cs2, mj_cs3, mj_cs4]
      refine K _ _ ⟨(f02.wr (z355m (by decide) _)).wr (by decide), ?_, ?_, fun j => ?_⟩
      · show hh (mj_wr (mj_wr (mj_wr M1 355 9 (nxx (s.1 9))) 355 (11 + 5 * p + 1) (clr (s.1 (11 + 5 * p + 1)) (f : Int))) 354 37 _) 355 = up (up s.1 9 (nxx (s.1 9))) (11 + 5 * p + 1) (clr (s.1 (11 + 5 * p + 1)) (f : Int))
        have : ∀ N : mj_M, ∀ u, hh (mj_wr N 354 37 u) 355 = hh N 355 := fun N u => funext fun j => by rw [hh_wr, if_neg (by omega)]
        rw [this, row_wr, row_wr, e51]
      · rcases h.g with g | g
        · by_cases hb2 : b < 0 ∨ 100000 < b
          · exact Or.inr hb2
          · left
            have q1 : hh M1 354 37 = b + s.2 := g37.trans g
            show hh (mj_wr (mj_wr (mj_wr M1 355 9 (nxx (s.1 9))) 355 (11 + 5 * p + 1) (clr (s.1 (11 + 5 * p + 1)) (f : Int))) 354 37 _) 354 37 = b + (s.2 + 1)
            rw [hh_wr, if_pos ⟨rfl, rfl⟩, q1, aj ⟨by omega, by omega⟩]
            omega
        · exact Or.inr g
      · rw [hh_wr, if_neg (by omega), hh_wr, if_neg (by omega), hh_wr, if_neg (by omega), sf.h 373 j (by omega)]; exact h.k j
    · rw [if_neg hl] at K
      simp only [w289_50, w289_57, w289_58, w289_59, w289_60, w289_63, w289_64, w289_67, w289_98, w289_101, hl, an1, jp1 (p := f) (by omega), ↓reduceIte, hh_wr, hl_wr, b10, b11, ite_not, ne_eq, Int.reduceEq, Int.reduceLE, Int.reduceLT, Int.reduceNe, Int.reduceNeg, Int.reduceAdd, Int.reduceSub, Int.reduceMul, not_false_eq_true, not_true_eq_false, false_and, and_false, true_and, and_true, and_self, true_or, or_true, false_or, or_false, if_true, if_false, ite_true, ite_false, mj_tl_some, mj_tl_none, mj_cs0, mj_cs1, mj_cs2, mj_cs3, mj_cs4]
      refine K _ _ ⟨f02, by rw [row_wr, e51], ?_, fun j => by rw [hh_wr, if_neg (by omega), sf.h 373 j (by omega)]; exact h.k j⟩
      rw [hh_wr, if_neg (by omega), g37]
      exact h.g
  · have hb' : kno s.1 p (f : Int) = false := decide_eq_false hb
    unfold fstp at K
    rw [hb'] at K
    simp only [Bool.false_eq_true, if_false] at K
    simp only [w289_3, w289_4, w289_7, w289_8, w289_9, w289_12, w289_13, w289_14, w289_15, w289_18, w289_19, w289_22, w289_25, w289_98, w289_101, c_1_0 hcM, c_1_1 hcM, c_1_2 hcM, c_1_3 hcM, c_1_4 hcM, c_1_5 hcM, c_1_6 hcM, c_1_7 hcM, c_1_8 hcM, c_2_0 hcM, c_2_1 hcM, c_5_0 hcM, c_5_1 hcM, c_5_2 hcM, c_5_3 hcM, c_5_5 hcM, c_5_8 hcM, c_5_11 hcM, c_6_1 hcM, c_6_2 hcM, c_6_3 hcM, c_10_4 hcM, c_10_5 hcM, c_10_6 hcM, c_10_7 hcM, c_15_1 hcM, c_17_1 hcM, c_339_0 hcM, c_341_0 hcM, c_341_1 hcM, c_341_2 hcM, c_342_4 hcM, c_342_5 hcM, c_342_6 hcM, c_342_7 hcM, c_347_0 hcM, c_347_2 hcM, c_347_3 hcM, c_349_0 hcM, c_349_1 hcM, c_349_2 hcM, c_351_2 hcM, c_351_10 hcM, c_351_12 hcM, c_354_0 hcM, c_354_1 hcM, c_354_2 hcM, c_354_3 hcM, c_354_4 hcM, c_354_5 hcM, c_354_6 hcM, c_354_7 hcM, c_354_8 hcM, c_354_20 hcM, c_354_25 hcM, c_354_26 hcM, c_354_27 hcM, c_354_28 hcM, c_354_32 hcM, c_354_33 hcM, c_354_34 hcM, c_354_35 hcM, c_354_38 hcM, l_3 hcM, l_4 hcM, l_7 hcM, l_8 hcM, l_9 hcM, l_11 hcM, l_12 hcM, l_13 hcM, l_14 hcM, l_16 hcM, l_18 hcM, l_19 hcM, l_20 hcM, l_21 hcM, l_340 hcM, l_343 hcM, l_344 hcM, l_345 hcM, l_346 hcM, l_348 hcM, l_350 hcM, l_352 hcM, l_353 hcM, l_355 hcM, l_356 hcM, l_357 hcM, l_358 hcM, l_359 hcM, l_360 hcM, l_361 hcM, l_362 hcM, l_363 hcM, l_364 hcM, l_365 hcM, l_366 hcM, l_367 hcM, l_368 hcM, l_369 hcM, l_370 hcM, l_371 hcM, l_372 hcM, l_373 hcM, hF, hfF, g1, s_has, hb, jp1 (p := f) (by omega), ↓reduceIte, hh_wr, hl_wr, b10, b11, ite_not, ne_eq, Int.reduceEq, Int.reduceLE, Int.reduceLT, Int.reduceNe, Int.reduceNeg, Int.reduceAdd, Int.reduceSub, Int.reduceMul, not_false_eq_true, not_true_eq_false, false_and, and_false, true_and, and_true, and_self, true_or, or_true, false_or, or_false, if_true, if_false, ite_true, ite_false, mj_tl_some, mj_tl_none, mj_cs0, mj_cs1, mj_cs2, mj_cs3, mj_cs4]
    exact K M _ h
theorem m_agePerson {p : Nat} {r b : Int} {A0 : Int → Int} {s : (Int → Int) × Int} {M0 : mj_M} (hc : CS M0) (h : RP M0 M b s) (go : Go A0 s.1) (hp : (p : Int) < A0 1) (hs : 0 ≤ s.2 ∧ s.2 ≤ 90000) (t : TxL M0 r (A0 4) 0 2 L) : wc X (d + 7) 289 [(32, 354), (0, (p : Int))] M (fun q M1 => q = none ∧ RP M0 M1 b (pstp L p s)) := by
  obtain ⟨F, hF⟩ := nat_of go.an.F0
  have f8 := go.an.F8
  have hF0 : A0 0 = (F : Int) := by rw [← go.f]; exact hF
  have p6 : s.1 1 ≤ 6 := go.an.mi.p6
  rw [go.P] at p6
  have hpp : 0 ≤ (p : Int) ∧ (p : Int) < A0 1 := ⟨by omega, hp⟩
  show wp X (d + 7) 289 0 [(32, 354), (0, (p : Int)), (9, 0), (9, 0)] [] M _
  simp only [w289_0, w289_1]
  refine loop1 (S := fun f (q : mj_M × mj_V) => wp X (d + 7) 289 2 [(32, 354), (0, (p : Int)), (0, (f : Int)), q.2] [] q.1 (fun q M1 => q = none ∧ RP M0 M1 b (pstp L p s))) (I := fun f q => RP M0 q.1 b (fsts L (p : Int) s f)) (P := F) ?_ ?_ (M, (9, 0)) h
  · rintro f ⟨M1, w⟩ hf rp ih
    simp only at rp
    obtain ⟨k1, k2, k3⟩ := Go.fs (L := L) (p := (p : Int)) (s := s) hpp go hs.1 f (by omega)
    exact m_fstep hc rp k1 (by rw [k1.P]; exact hpp) (by omega) (by rw [k1.f, hF0]; omega) ⟨by omega, by omega⟩ t (fun M2 w rp2 => ih (M2, w) rp2)
  · rintro ⟨M1, w⟩ rp
    simp only at rp
    have e8 := fsts_hi (L := L) hpp go hs.1 hF0 8 (by omega) (by omega)
    rw [← e8] at rp
    obtain ⟨k1, k2, k3⟩ := Go.fs (L := L) (p := (p : Int)) (s := s) hpp go hs.1 8 (by omega)
    unfold pstp
    generalize fsts L (p : Int) s 8 = u at *
    have hc1 := hc.fz rp.f (by decide)
    have hF1 : hh M1 355 0 = (F : Int) := by rw [rp.e, k1.f]; exact hF0
    have hpp2 : 0 ≤ (p : Int) ∧ (p : Int) < u.1 1 := by rw [k1.P]; exact hpp
    have ar : 0 ≤ u.1 (11 + 5 * (p : Int) + 0) ∧ u.1 (11 + 5 * (p : Int) + 0) ≤ 99 := k1.an.mi.a _ hpp2.1 hpp2.2
    have br : 0 ≤ u.1 (11 + 5 * (p : Int) + 2) ∧ u.1 (11 + 5 * (p : Int) + 2) ≤ 99 := k1.an.mi.b _ hpp2.1 hpp2.2
    have g0 := fun Q => m_get (X := X) (d := d + 6) (M := M1) (Q := Q) (p := (p : Int)) (w := 0) hc1 ⟨by omega, by omega⟩ (by decide)
    rw [rp.e] at g0
    have c0 : cutV (u.1 (11 + 5 * (p : Int) + 0) + 1) 0 99 = m99 (u.1 (11 + 5 * (p : Int) + 0) + 1) := by unfold cutV m99; rw [if_neg (by omega)]
    have c2 : cutV (u.1 (11 + 5 * (p : Int) + 2) + 10) 0 99 = m99 (u.1 (11 + 5 * (p : Int) + 2) + 10) := by unfold cutV m99; rw [if_neg (by omega)]
    have cu0 := fun (N : mj_M) Q => m_cut (X := X) (d := d + 6) (M := N) (Q := Q) (v := u.1 (11 + 5 * (p : Int) + 0) + 1) (lo := 0) (hi := 99) ⟨by omega, by omega⟩ (by decide) (by decide)
    have cu2 := fun (N : mj_M) Q => m_cut (X := X) (d := d + 6) (M := N) (Q := Q) (v := u.1 (11 + 5 * (p : Int) + 2) + 10) (lo := 0) (hi := 99) ⟨by omega, by omega⟩ (by decide) (by decide)
    rw [c0] at cu0
    rw [c2] at cu2
    have pu0 := fun Q => m_put (X := X) (d := d + 6) (M := M1) (Q := Q) (p := (p : Int)) (w := 0) (v := m99 (u.1 (11 + 5 * (p : Int) + 0) + 1)) hc1 ⟨by omega, by omega⟩ (by decide)
    have hc2 := cs355 (i := 11 + 5 * (p : Int) + 0) (v := m99 (u.1 (11 + 5 * (p : Int) + 0) + 1)) hc1
    have g2 := fun Q => m_get (X := X) (d := d + 6) (M := mj_wr M1 355 (11 + 5 * (p : Int) + 0) (m99 (u.1 (11 + 5 * (p : Int) + 0) + 1))) (Q := Q) (p := (p : Int)) (w := 2) hc2 ⟨by omega, by omega⟩ (by decide)
    have e2 : hh (mj_wr M1 355 (11 + 5 * (p : Int) + 0) (m99 (u.1 (11 + 5 * (p : Int) + 0) + 1))) 355 (11 + 5 * (p : Int) + 2) = u.1 (11 + 5 * (p : Int) + 2) := by rw [row_wr, up_ne (by omega), rp.e]
    rw [e2] at g2
    have pu2 := fun Q => m_put (X := X) (d := d + 6) (M := mj_wr M1 355 (11 + 5 * (p : Int) + 0) (m99 (u.1 (11 + 5 * (p : Int) + 0) + 1))) (Q := Q) (p := (p : Int)) (w := 2) (v := m99 (u.1 (11 + 5 * (p : Int) + 2) + 10)) hc2 ⟨by omega, by omega⟩ (by decide)
    simp only [w289_0, w289_1, w289_2, w289_3, w289_4, w289_7, w289_8, w289_9, w289_12, w289_13, w289_14, w289_15, w289_18, w289_19, w289_22, w289_25, w289_28, w289_29, w289_32, w289_34, w289_35, w289_37, w289_38, w289_39, w289_40, w289_43, w289_44, w289_45, w289_46, w289_47, w289_50, w289_53, w289_54, w289_57, w289_58, w289_59, w289_60, w289_63, w289_64, w289_67, w289_70, w289_71, w289_72, w289_73, w289_74, w289_75, w289_76, w289_79, w289_80, w289_81, w289_82, w289_83, w289_84, w289_85, w289_88, w289_89, w289_90, w289_93, w289_94, w289_95, w289_98, w289_101, w289_104, w289_105, w289_106, w289_107, w289_108, w289_109, w289_110, w289_113, w289_114, w289_115, w289_116, w289_117, w289_119, w289_122, w289_125, w289_126, w289_127, w289_128, w289_129, w289_130, w289_131, w289_134, w289_136, w289_137, w289_138, w289_139, w289_141, w289_144, w289_147, c_1_0 hc1, c_1_1 hc1, c_1_2 hc1, c_1_3 hc1, c_1_4 hc1, c_1_5 hc1, c_1_6 hc1, c_1_7 hc1, c_1_8 hc1, c_2_0 hc1, c_2_1 hc1, c_5_0 hc1, c_5_1 hc1, c_5_2 hc1, c_5_3 hc1, c_5_5 hc1, c_5_8 hc1, c_5_11 hc1, c_6_1 hc1, c_6_2 hc1, c_6_3 hc1, c_10_4 hc1, c_10_5 hc1, c_10_6 hc1, c_10_7 hc1, c_15_1 hc1, c_17_1 hc1, c_339_0 hc1, c_341_0 hc1, c_341_1 hc1, c_341_2 hc1, c_342_4 hc1, c_342_5 hc1, c_342_6 hc1, c_342_7 hc1, c_347_0 hc1, c_347_2 hc1, c_347_3 hc1, c_349_0 hc1, c_349_1 hc1, c_349_2 hc1, c_351_2 hc1, c_351_10 hc1, c_351_12 hc1, c_354_0 hc1, c_354_1 hc1, c_354_2 hc1, c_354_3 hc1, c_354_4 hc1, c_354_5 hc1, c_354_6 hc1, c_354_7 hc1, c_354_8 hc1, c_354_20 hc1, c_354_25 hc1, c_354_26 hc1, c_354_27 hc1, c_354_28 hc1, c_354_32 hc1, c_354_33 hc1, c_354_34 hc1, c_354_35 hc1, c_354_38 hc1, l_3 hc1, l_4 hc1, l_7 hc1, l_8 hc1, l_9 hc1, l_11 hc1, l_12 hc1, l_13 hc1, l_14 hc1, l_16 hc1, l_18 hc1, l_19 hc1, l_20 hc1, l_21 hc1, l_340 hc1, l_343 hc1, l_344 hc1, l_345 hc1, l_346 hc1, l_348 hc1, l_350 hc1, l_352 hc1, l_353 hc1, l_355 hc1, l_356 hc1, l_357 hc1, l_358 hc1, l_359 hc1, l_360 hc1, l_361 hc1, l_362 hc1, l_363 hc1, l_364 hc1, l_365 hc1, l_366 hc1, l_367 hc1, l_368 hc1, l_369 hc1, l_370 hc1, l_371 hc1, l_372 hc1, l_373 hc1, hF1, Int.lt_irrefl, g0, pu0, g2, pu2, cu0, cu2, aj (x := u.1 (11 + 5 * (p : Int) + 0)) (y := 1) ⟨by omega, by omega⟩, aj (x := u.1 (11 + 5 * (p : Int) + 2)) (y := 10) ⟨by omega, by omega⟩, ji_2l_eq (x := u.1 (11 + 5 * (p : Int) + 0) + 1) ⟨by omega, by omega⟩, ji_2l_eq (x := u.1 (11 + 5 * (p : Int) + 2) + 10) ⟨by omega, by omega⟩, ↓reduceIte, hh_wr, hl_wr, b10, b11, ite_not, ne_eq, Int.reduceEq, Int.reduceLE, Int.reduceLT, Int.reduceNe, Int.reduceNeg, Int.reduceAdd, Int.reduceSub, Int.reduceMul, not_false_eq_true, not_true_eq_false, false_and, and_false, true_and, and_true, and_self, true_or, or_true, false_or, or_false, if_true, if_false, ite_true, ite_false, mj_tl_some, mj_tl_none, mj_cs0, mj_cs1, mj_cs2, mj_cs3, mj_cs4]
    refine ⟨(rp.f.wr (z355m (by decide) _)).wr (z355m (by decide) _), ?_, ?_, fun j => by rw [hh_wr, if_neg (by omega), hh_wr, if_neg (by omega)]; exact rp.k j⟩
    · rw [row_wr, row_wr, rp.e]; rfl
    · rw [hh_wr, if_neg (by omega), hh_wr, if_neg (by omega)]
      exact rp.g
theorem m_pass' {r : Int} {L : Option (Env → Int)} (hc : CS M) (an : AN (hh M 355)) (hy : hh M 355 8 < 9999) (t : TxL M r (hh M 355 4) 0 2 L) : wc X (d + 8) 288 [(32, 354)] M (fun q M1 => q = none ∧ fz [3, 8] M M1 ∧ hh M1 355 = (psA L (hh M 355)).1 ∧ ((0 ≤ hh M 354 37 ∧ hh M 354 37 ≤ 100000) → hh M1 354 37 = hh M 354 37 + (psA L (hh M 355)).2) ∧ ∀ j, hh M1 373 j = hh M 373 j) := by
  generalize hA : hh M 355 = A at *
  obtain ⟨P, hP⟩ := nat_of an.mi.p0
  have hP' : A 1 = (P : Int) := hP
  have p6 : A 1 ≤ 6 := an.mi.p6
  have eP : (A 1).toNat = P := by omega
  show wp X (d + 8) 288 0 [(32, 354), (9, 0)] [] M _
  simp only [w288_0, w288_1]
  refine loop1 (S := fun p M1 => wp X (d + 8) 288 2 [(32, 354), (0, (p : Int))] [] M1 (fun q M1 => q = none ∧ fz [3, 8] M M1 ∧ hh M1 355 = (psA L A).1 ∧ ((0 ≤ hh M 354 37 ∧ hh M 354 37 ≤ 100000) → hh M1 354 37 = hh M 354 37 + (psA L A).2) ∧ ∀ j, hh M1 373 j = hh M 373 j)) (I := fun p M1 => RP M M1 (hh M 354 37) (psts L A p)) (P := P) ?_ ?_ M ⟨fz.rfl', hA, Or.inl (by show _ = _ + (0 : Int); omega), fun _ => rfl⟩
  · intro p M1 hp rp ih
    obtain ⟨go, g1, g2⟩ := Go.ps (L := L) an p (by omega)
    have hc1 := hc.fz rp.f (by decide)
    have hP1 : hh M1 355 1 = (P : Int) := by rw [rp.e, go.P]; exact hP'
    rw [w288_2]
    simp only [w288_3, w288_4, w288_7, w288_8, w288_9, w288_12, w288_13, w288_14, c_1_0 hc1, c_1_1 hc1, c_1_2 hc1, c_1_3 hc1, c_1_4 hc1, c_1_5 hc1, c_1_6 hc1, c_1_7 hc1, c_1_8 hc1, c_2_0 hc1, c_2_1 hc1, c_5_0 hc1, c_5_1 hc1, c_5_2 hc1, c_5_3 hc1, c_5_5 hc1, c_5_8 hc1, c_5_11 hc1, c_6_1 hc1, c_6_2 hc1, c_6_3 hc1, c_10_4 hc1, c_10_5 hc1, c_10_6 hc1, c_10_7 hc1, c_15_1 hc1, c_17_1 hc1, c_339_0 hc1, c_341_0 hc1, c_341_1 hc1, c_341_2 hc1, c_342_4 hc1, c_342_5 hc1, c_342_6 hc1, c_342_7 hc1, c_347_0 hc1, c_347_2 hc1, c_347_3 hc1, c_349_0 hc1, c_349_1 hc1, c_349_2 hc1, c_351_2 hc1, c_351_10 hc1, c_351_12 hc1, c_354_0 hc1, c_354_1 hc1, c_354_2 hc1, c_354_3 hc1, c_354_4 hc1, c_354_5 hc1, c_354_6 hc1, c_354_7 hc1, c_354_8 hc1, c_354_20 hc1, c_354_25 hc1, c_354_26 hc1, c_354_27 hc1, c_354_28 hc1, c_354_32 hc1, c_354_33 hc1, c_354_34 hc1, c_354_35 hc1, c_354_38 hc1, l_3 hc1, l_4 hc1, l_7 hc1, l_8 hc1, l_9 hc1, l_11 hc1, l_12 hc1, l_13 hc1, l_14 hc1, l_16 hc1, l_18 hc1, l_19 hc1, l_20 hc1, l_21 hc1, l_340 hc1, l_343 hc1, l_344 hc1, l_345 hc1, l_346 hc1, l_348 hc1, l_350 hc1, l_352 hc1, l_353 hc1, l_355 hc1, l_356 hc1, l_357 hc1, l_358 hc1, l_359 hc1, l_360 hc1, l_361 hc1, l_362 hc1, l_363 hc1, l_364 hc1, l_365 hc1, l_366 hc1, l_367 hc1, l_368 hc1, l_369 hc1, l_370 hc1, l_371 hc1, l_372 hc1, l_373 hc1, hP1, show (p : Int) < (P : Int) by omega, ↓reduceIte, hh_wr, hl_wr, b10, b11, ite_not, ne_eq, Int.reduceEq, Int.reduceLE, Int.reduceLT, Int.reduceNe, Int.reduceNeg, Int.reduceAdd, Int.reduceSub, Int.reduceMul, not_false_eq_true, not_true_eq_false, false_and, and_false, true_and, and_true, and_self, true_or, or_true, false_or, or_false, if_true, if_false, ite_true, ite_false, mj_tl_some, mj_tl_none, mj_cs0, mj_cs1, mj_cs2, mj_cs3, mj_cs4]
    refine wc.mono (m_agePerson (d := d) (p := p) hc rp go (by omega) ⟨g1, by omega⟩ t) ?_
    rintro q M2 ⟨rfl, rp2⟩
    simp only [w288_17, w288_20, jp1 (p := p) (by omega), ↓reduceIte, hh_wr, hl_wr, b10, b11, ite_not, ne_eq, Int.reduceEq, Int.reduceLE, Int.reduceLT, Int.reduceNe, Int.reduceNeg, Int.reduceAdd, Int.reduceSub, Int.reduceMul, not_false_eq_true, not_true_eq_false, false_and, and_false, true_and, and_true, and_self, true_or, or_true, false_or, or_false, if_true, if_false, ite_true, ite_false, mj_tl_some, mj_tl_none, mj_cs0, mj_cs1, mj_cs2, mj_cs3, mj_cs4]
    exact ih M2 rp2
  · intro M1 rp
    obtain ⟨go, g1, g2⟩ := Go.ps (L := L) an P (by omega)
    have hc1 := hc.fz rp.f (by decide)
    have hP1 : hh M1 355 1 = (P : Int) := by rw [rp.e, go.P]; exact hP'
    have hy1 : hh M1 355 8 = A 8 := by rw [rp.e]; exact go.y
    have y0 : 0 ≤ A 8 := an.mi.y0
    have ep : psA L A = (up (psts L A P).1 8 (A 8 + 1), (psts L A P).2) := by unfold psA; rw [eP, go.y]
    simp only [w288_0, w288_1, w288_2, w288_3, w288_4, w288_7, w288_8, w288_9, w288_12, w288_13, w288_14, w288_17, w288_20, w288_23, w288_24, w288_27, w288_29, w288_30, w288_31, w288_32, w288_33, w288_34, c_1_0 hc1, c_1_1 hc1, c_1_2 hc1, c_1_3 hc1, c_1_4 hc1, c_1_5 hc1, c_1_6 hc1, c_1_7 hc1, c_1_8 hc1, c_2_0 hc1, c_2_1 hc1, c_5_0 hc1, c_5_1 hc1, c_5_2 hc1, c_5_3 hc1, c_5_5 hc1, c_5_8 hc1, c_5_11 hc1, c_6_1 hc1, c_6_2 hc1, c_6_3 hc1, c_10_4 hc1, c_10_5 hc1, c_10_6 hc1, c_10_7 hc1, c_15_1 hc1, c_17_1 hc1, c_339_0 hc1, c_341_0 hc1, c_341_1 hc1, c_341_2 hc1, c_342_4 hc1, c_342_5 hc1, c_342_6 hc1, c_342_7 hc1, c_347_0 hc1, c_347_2 hc1, c_347_3 hc1, c_349_0 hc1, c_349_1 hc1, c_349_2 hc1, c_351_2 hc1, c_351_10 hc1, c_351_12 hc1, c_354_0 hc1, c_354_1 hc1, c_354_2 hc1, c_354_3 hc1, c_354_4 hc1, c_354_5 hc1, c_354_6 hc1, c_354_7 hc1, c_354_8 hc1, c_354_20 hc1, c_354_25 hc1, c_354_26 hc1, c_354_27 hc1, c_354_28 hc1, c_354_32 hc1, c_354_33 hc1, c_354_34 hc1, c_354_35 hc1, c_354_38 hc1, l_3 hc1, l_4 hc1, l_7 hc1, l_8 hc1, l_9 hc1, l_11 hc1, l_12 hc1, l_13 hc1, l_14 hc1, l_16 hc1, l_18 hc1, l_19 hc1, l_20 hc1, l_21 hc1, l_340 hc1, l_343 hc1, l_344 hc1, l_345 hc1, l_346 hc1, l_348 hc1, l_350 hc1, l_352 hc1, l_353 hc1, l_355 hc1, l_356 hc1, l_357 hc1, l_358 hc1, l_359 hc1, l_360 hc1, l_361 hc1, l_362 hc1, l_363 hc1, l_364 hc1, l_365 hc1, l_366 hc1, l_367 hc1, l_368 hc1, l_369 hc1, l_370 hc1, l_371 hc1, l_372 hc1, l_373 hc1, hP1, hy1, Int.lt_irrefl, aj (x := A 8) (y := 1) ⟨by omega, by omega⟩, ↓reduceIte, hh_wr, hl_wr, b10, b11, ite_not, ne_eq, Int.reduceEq, Int.reduceLE, Int.reduceLT, Int.reduceNe, Int.reduceNeg, Int.reduceAdd, Int.reduceSub, Int.reduceMul, not_false_eq_true, not_true_eq_false, false_and, and_false, true_and, and_true, and_self, true_or, or_true, false_or, or_false, if_true, if_false, ite_true, ite_false, mj_tl_some, mj_tl_none, mj_cs0, mj_cs1, mj_cs2, mj_cs3, mj_cs4]
    rw [ep]
    refine ⟨rp.f.wr (by decide), by rw [row_wr, rp.e], fun hb => ?_, rp.k⟩
    rcases rp.g with g | g
    · exact g
    · omega
theorem m_pass {r : Int} {L : Option (Env → Int)} (hc : CS M) (an : AN (hh M 355)) (hy : hh M 355 8 < 9999) (t : TxL M r (hh M 355 4) 0 2 L) : wc X (d + 8) 288 [(32, 354)] M (fun q M1 => q = none ∧ fz [3, 8] M M1 ∧ hh M1 355 = (psA L (hh M 355)).1 ∧ ((0 ≤ hh M 354 37 ∧ hh M 354 37 ≤ 100000) → hh M1 354 37 = hh M 354 37 + (psA L (hh M 355)).2)) := by
  refine wc.mono (m_pass' (d := d) hc an hy t) ?_
  rintro q M1 ⟨a, b, c, e, _⟩
  exact ⟨a, b, c, e⟩
end Pass2
