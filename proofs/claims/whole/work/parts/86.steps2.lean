/-! STEPS: class and reference -/
/-- what a doing of the class may change -/
def Cf (M M1 : mj_M) : Prop := (fz [1, 8] M M1) ∧ (∀ j, hh M1 20 j = hh M 20 j)
theorem Cf.f {M M1 : mj_M} (h : Cf M M1) : fz [1, 8] M M1 := h.1
theorem Cf.t {M M1 : mj_M} (h : Cf M M1) : ∀ j, hh M1 20 j = hh M 20 j := h.2
theorem Cf.rfl' {M : mj_M} : Cf M M := ⟨fz.rfl', fun _ => rfl⟩
theorem Cf.tr {M M1 M2 : mj_M} (a : Cf M M1) (b : Cf M1 M2) : Cf M M2 := ⟨a.f.tr b.f, fun j => (b.t j).trans (a.t j)⟩
theorem Cf.fc {M M1 : mj_M} (a : Fc 10 M M1) : Cf M M1 := ⟨a.fz10, fun j => a.h 20 j (by omega) (by omega)⟩
theorem Cf.s8 {M M1 : mj_M} (a : fz [8] M M1) : Cf M M1 := ⟨a.mono (fun z hz => by simp at hz; subst hz; decide), fun j => a.h 20 j (by rw [show zone 20 j = 1 from rfl]; decide)⟩
theorem CW.ru {M M1 : mj_M} {A A1 : Int → Int} (h : CW M A) (h1 : CW M1 A1) (c : Cf M M1) (e3 : A1 3 = A 3) (e4 : A1 4 = A 4) : rul M1 = rul M := by
  rw [h.erul, h1.erul, e3, e4, c.t]
theorem CW.pc {M : mj_M} {A : Int → Int} (h : CW M A) : PC M 10 A := ⟨h.cs, h.wr.now, h.ai.an, h.wr.fk, h.wr.fl⟩
theorem ring_z {i j : Int} (hi : 0 ≤ i ∧ i < 30) {x : Int} (hx : 22 + 5 * i ≤ x ∧ x ≤ 22 + 5 * i + 4) (h4 : ¬ (x = 22 + 5 * i ∧ 4 ≤ j)) : zone x j = 1 := by
  rw [zone_5 (by omega) (by omega)]
  unfold wz
  rw [if_neg (by omega), if_neg (by omega), if_neg (by omega), if_neg (by omega), if_neg (by omega), if_neg (by omega), if_pos (by omega), if_neg (by omega)]
section Steps2
variable {X : mj_X} {d : Nat} {M : mj_M} {A : Int → Int} {Q : Option mj_V → mj_M → Prop}
theorem c_addStep (h : CW M A) : wc X (d + 2) 89 [(30, 5)] M (fun q M1 => q = none ∧ CW M1 (kst A) ∧ Cf M M1) := by
  have hw := h.wr
  have hai := h.ai
  have hs := ksS_r hai.n5
  have el0 := hw.e0
  have el3 := hw.e3
  generalize hel : hh M 5 10 = el at el0 el3
  obtain ⟨el', hel', he0, he3⟩ : ∃ el', el' = (el + ksD A) % 30 ∧ 0 ≤ el' ∧ el' < 30 := ⟨_, rfl, by omega, by omega⟩
  show wp X (d + 2) 89 0 [(30, 5)] [] M _
  have pre : wp X (d + 2) 89 0 [(30, 5)] [] M = wp X (d + 2) 89 0 [(30, 5)] [] M := rfl
  have main : ∀ M0 : mj_M, (∀ x j, (x ≠ 5 ∨ (j ≠ 9 ∧ j ≠ 10)) → hh M0 x j = hh M x j) → hh M0 5 10 = el' → hh M0 5 9 = ksS A → fz [1] M M0 → wp X (d + 2) 89 28 [(30, 5)] [] M0 (fun q M1 => q = none ∧ CW M1 (kst A) ∧ Cf M M1) := by
    intro M0 K0 g1 g2 f0
    have hc0 := h.cs.fz f0 (by decide)
    have idx : ji_add el' (ksS A) = el' + ksS A := aj ⟨by omega, by omega⟩
    have idr : ji_rem (el' + ksS A) 30 = (el' + ksS A) % 30 := ji_rem_nn ⟨by omega, by omega⟩ ⟨by decide, by decide⟩ (by omega)
    obtain ⟨r, hr, r0, r30⟩ : ∃ r, r = (el' + ksS A) % 30 ∧ 0 ≤ r ∧ r < 30 := ⟨_, rfl, by omega, by omega⟩
    rw [← hr] at idr
    obtain ⟨ms, ms2⟩ := hc0.ms22 (i := r) ⟨r0, r30⟩
    simp only [w89_28, w89_29, w89_32, w89_33, w89_36, w89_37, w89_40, w89_41, w89_43, w89_44_6, w89_45, w89_46, w89_49, c_1_0 hc0, c_1_1 hc0, c_1_2 hc0, c_1_3 hc0, c_1_4 hc0, c_1_5 hc0, c_1_6 hc0, c_1_7 hc0, c_1_8 hc0, c_2_0 hc0, c_2_1 hc0, c_5_0 hc0, c_5_1 hc0, c_5_2 hc0, c_5_3 hc0, c_5_5 hc0, c_5_8 hc0, c_5_11 hc0, c_6_1 hc0, c_6_2 hc0, c_6_3 hc0, c_10_4 hc0, c_10_5 hc0, c_10_6 hc0, c_10_7 hc0, c_15_1 hc0, c_17_1 hc0, c_339_0 hc0, c_341_0 hc0, c_341_1 hc0, c_341_2 hc0, c_342_4 hc0, c_342_5 hc0, c_342_6 hc0, c_342_7 hc0, c_347_0 hc0, c_347_2 hc0, c_347_3 hc0, c_349_0 hc0, c_349_1 hc0, c_349_2 hc0, c_351_2 hc0, c_351_10 hc0, c_351_12 hc0, c_354_0 hc0, c_354_1 hc0, c_354_2 hc0, c_354_3 hc0, c_354_4 hc0, c_354_5 hc0, c_354_6 hc0, c_354_7 hc0, c_354_8 hc0, c_354_20 hc0, c_354_25 hc0, c_354_26 hc0, c_354_27 hc0, c_354_28 hc0, c_354_32 hc0, c_354_33 hc0, c_354_34 hc0, c_354_35 hc0, c_354_38 hc0, l_3 hc0, l_4 hc0, l_7 hc0, l_8 hc0, l_9 hc0, l_11 hc0, l_12 hc0, l_13 hc0, l_14 hc0, l_16 hc0, l_18 hc0, l_19 hc0, l_20 hc0, l_21 hc0, l_340 hc0, l_343 hc0, l_344 hc0, l_345 hc0, l_346 hc0, l_348 hc0, l_350 hc0, l_352 hc0, l_353 hc0, l_355 hc0, l_356 hc0, l_357 hc0, l_358 hc0, l_359 hc0, l_360 hc0, l_361 hc0, l_362 hc0, l_363 hc0, l_364 hc0, l_365 hc0, l_366 hc0, l_367 hc0, l_368 hc0, l_369 hc0, l_370 hc0, l_371 hc0, l_372 hc0, l_373 hc0, g1, g2, idx, idr, ms2, r0, r30, show ¬ 22 + 5 * r = 0 by omega, ↓reduceIte, hh_wr, hl_wr, b10, b11, ite_not, ne_eq, Int.reduceEq, Int.reduceLE, Int.reduceLT, Int.reduceNe, Int.reduceNeg, Int.reduceAdd, Int.reduceSub, Int.reduceMul, not_false_eq_true, not_true_eq_false, false_and, and_false, true_and, and_true, and_self, true_or, or_true, false_or, or_false, if_true, if_false, ite_true, ite_false, mj_tl_some, mj_tl_none, mj_cs0, mj_cs1, mj_cs2, mj_cs3, mj_cs4]
    have mr0 : MR M0 10 (mn A) := hw.now.keep (fun x j a b => Or.inl (K0 x j (by omega)))
    refine wc.mono (c_take (d := d) hc0.ms10 ms (by omega) mr0 hai.now) ?_
    rintro q M1 ⟨rfl, fm, mr⟩
    have e59 : hh M1 5 9 = ksS A := by rw [fm.h 5 9 (by omega)]; exact g2
    simp only [w89_52, w89_53, w89_54, w89_57, w89_58, w89_59, w89_62, e59, aj (x := ksS A) (y := 1) ⟨by omega, by omega⟩, ↓reduceIte, hh_wr, hl_wr, b10, b11, ite_not, ne_eq, Int.reduceEq, Int.reduceLE, Int.reduceLT, Int.reduceNe, Int.reduceNeg, Int.reduceAdd, Int.reduceSub, Int.reduceMul, not_false_eq_true, not_true_eq_false, false_and, and_false, true_and, and_true, and_self, true_or, or_true, false_or, or_false, if_true, if_false, ite_true, ite_false, mj_tl_some, mj_tl_none, mj_cs0, mj_cs1, mj_cs2, mj_cs3, mj_cs4]
    generalize hM2 : mj_wr M1 5 9 (ksS A + 1) = M2
    have R2 : ∀ x j, hh M2 x j = if x = 5 ∧ j = 9 then ksS A + 1 else hh M1 x j := by subst hM2; exact fun x j => rfl
    have f2 : fz [1] M M2 := by
      subst hM2
      refine fz.wr ⟨fun x j hx => ?_, fun x => (fm.l x).trans (f0.l x), fm.n.trans f0.n, fm.s.trans f0.s⟩ (by decide)
      rw [fm.h x j ?_, f0.h x j hx]
      by_cases g : x < 22 + 5 * r ∨ 22 + 5 * r + 4 < x ∨ (x = 22 + 5 * r ∧ 4 ≤ j)
      · exact g
      · exact absurd (by rw [ring_z (i := r) ⟨r0, r30⟩ ⟨by omega, by omega⟩ (by omega)]; exact List.mem_cons_self ..) hx
    clear hM2
    have K : ∀ x j, (x ≠ 5 ∨ (j ≠ 9 ∧ j ≠ 10)) ∧ (x < 22 + 5 * r ∨ 22 + 5 * r + 4 < x ∨ (x = 22 + 5 * r ∧ 4 ≤ j)) → hh M2 x j = hh M x j := fun x j hx => by rw [R2, if_neg (by omega), fm.h x j hx.2, K0 x j hx.1]
    have q : ∀ j, j ≠ 5 ∧ (j < 101 ∨ 1661 ≤ j) → kst A j = A j := fun j hj => kst_o hai.n5 hj.1 hj.2
    have k5 := kst_5 A
    have v9 : hh M2 5 9 = ksS A + 1 := by rw [R2, if_pos ⟨rfl, rfl⟩]
    have v10 : hh M2 5 10 = el' := by rw [R2, if_neg (by omega), fm.h 5 10 (by omega)]; exact g1
    refine ⟨⟨h.cs.fz f2 (by decide), ?_, kst_ai hai⟩, f2.mono (fun z hz => by simp at hz; subst hz; decide), fun j => K 20 j (by omega)⟩
    exact ⟨((K 6 0 (by omega)).trans (hw.nf.trans (q 0 (by omega)).symm)), (fun i a b => (K 7 i (by omega)).trans ((hw.fk i a b).trans (q (41 + 2 * i) (by omega)).symm)), (fun i a b => (K 8 i (by omega)).trans ((hw.fl i a b).trans (q (42 + 2 * i) (by omega)).symm)), ((hw.now.keep (fun x j a b => Or.inl (K x j (by omega)))).eq (mn_eq hai.now (fun j hj => q j (by omega)))), ((K 5 4 (by omega)).trans (hw.ns.trans (q 2 (by omega)).symm)), (fun i a b => by have := hai.s4; rw [q 2 (by omega)] at b; exact (K 19 i (by omega)).trans ((hw.st i a b).trans (q (57 + i) (by omega)).symm)), ((K 5 6 (by omega)).trans (hw.nt.trans (q 3 (by omega)).symm)), ((K 5 7 (by omega)).trans (hw.ru.trans (q 4 (by omega)).symm)), (by rw [k5]; exact v9), (by rw [v10]; exact he0), (by rw [v10]; exact he3), (fun i a b => by
      rw [k5] at b
      rw [v10]
      by_cases ei : i = ksS A
      · rw [ei, show 5 + 17 + 5 * ((el' + ksS A) % 30) = 22 + 5 * r by omega]
        exact (mr.keep (fun x j a b => Or.inl (by rw [R2, if_neg (by omega)]))).eq (kst_new hai)
      · have hd : 0 ≤ ksD A ∧ ksD A ≤ 1 := by unfold ksD; split <;> omega
        have hm := hw.sp (i + ksD A) (by omega) (by omega)
        rw [hel] at hm
        have ex : (el + (i + ksD A)) % 30 = (el' + i) % 30 := by omega
        rw [ex] at hm
        exact (hm.keep (fun x j a b => Or.inl (K x j (by omega)))).eq (kst_old hai ⟨a, by omega⟩)), ((K 15 0 (by omega)).trans (hw.nd.trans (q 6 (by omega)).symm)), (fun i a b k c e => by have := hai.d8; rw [q 6 (by omega)] at b; exact (K 16 _ (by omega)).trans ((hw.d i a b k c e).trans (q _ (by omega)).symm)), ((K 17 0 (by omega)).trans (hw.ne.trans (q 7 (by omega)).symm)), (fun i a b k c e => by have := hai.e8; rw [q 7 (by omega)] at b; exact (K 18 _ (by omega)).trans ((hw.e i a b k c e).trans (q _ (by omega)).symm))⟩
  have np := h.gnp
  by_cases h30 : A 5 = 30
  · have eD : ksD A = 1 := by unfold ksD; rw [if_pos h30]
    have eS : ksS A = 29 := by unfold ksS; rw [if_pos h30]
    rw [eD] at hel'
    have e1 : ji_add el 1 = el + 1 := aj ⟨by omega, by omega⟩
    have e2 : ji_rem (el + 1) 30 = el' := by rw [ji_rem_nn ⟨by omega, by omega⟩ ⟨by decide, by decide⟩ (by omega), hel']
    simp only [w89_0, w89_1, w89_4, w89_6, w89_9, w89_10, w89_11, w89_14, w89_15, w89_16, w89_18, w89_19, w89_22, w89_23, w89_25, np, h30, hel, e1, e2, ↓reduceIte, hh_wr, hl_wr, b10, b11, ite_not, ne_eq, Int.reduceEq, Int.reduceLE, Int.reduceLT, Int.reduceNe, Int.reduceNeg, Int.reduceAdd, Int.reduceSub, Int.reduceMul, not_false_eq_true, not_true_eq_false, false_and, and_false, true_and, and_true, and_self, true_or, or_true, false_or, or_false, if_true, if_false, ite_true, ite_false, mj_tl_some, mj_tl_none, mj_cs0, mj_cs1, mj_cs2, mj_cs3, mj_cs4]
    refine main _ (fun x j hx => by rw [hh_wr, if_neg (by omega), hh_wr, if_neg (by omega)]) ?_ ?_ ((fz.rfl'.wr (by decide)).wr (by decide))
    · rw [hh_wr, if_neg (by omega), hh_wr, if_pos ⟨rfl, rfl⟩]
    · rw [hh_wr, if_pos ⟨rfl, rfl⟩, eS]
  · have n30 : A 5 < 30 := by have := hai.n3; omega
    have eD : ksD A = 0 := by unfold ksD; rw [if_neg h30]
    have eS : ksS A = A 5 := by unfold ksS; rw [if_neg h30]
    rw [eD] at hel'
    simp only [w89_0, w89_1, w89_4, w89_6, np, n30, ↓reduceIte, hh_wr, hl_wr, b10, b11, ite_not, ne_eq, Int.reduceEq, Int.reduceLE, Int.reduceLT, Int.reduceNe, Int.reduceNeg, Int.reduceAdd, Int.reduceSub, Int.reduceMul, not_false_eq_true, not_true_eq_false, false_and, and_false, true_and, and_true, and_self, true_or, or_true, false_or, or_false, if_true, if_false, ite_true, ite_false, mj_tl_some, mj_tl_none, mj_cs0, mj_cs1, mj_cs2, mj_cs3, mj_cs4]
    exact main M (fun x j _ => rfl) (by rw [hel]; omega) (by rw [eS]; exact np) fz.rfl'
/-- the reference lays a step -/
theorem sh_s {A : Int → Int} {k : Nat} : up (sh A (k : Int)) (101 + (k : Int)) (sh A (k : Int) (153 + (k : Int))) = sh A ((k + 1 : Nat) : Int) := by
  funext j
  unfold up sh
  by_cases e : j = 101 + (k : Int)
  · rw [if_pos e, if_neg (by omega), if_pos (by omega), e]
    congr 1
    omega
  · rw [if_neg e]
    by_cases g : 101 ≤ j ∧ j < 101 + (k : Int)
    · rw [if_pos g, if_pos (by omega)]
    · rw [if_neg g, if_neg (by omega)]
theorem cpn_s {B : Int → Int} {x n : Int} (h0 : 0 ≤ n) : up (cpn B x n) (x + n) (src B n) = cpn B x (n + 1) := by
  funext j
  unfold up cpn
  by_cases e : j = x + n
  · rw [if_pos e, if_pos (by omega), e, show x + n - x = n by omega]
  · rw [if_neg e]
    by_cases g : x ≤ j ∧ j < x + n
    · rw [if_pos g, if_pos (by omega)]
    · rw [if_neg g, if_neg (by omega)]
theorem cpn_0 {B : Int → Int} {x : Int} : cpn B x 0 = B := by
  funext j
  unfold cpn
  rw [if_neg (by omega)]
theorem cpn_b {B : Int → Int} {x n j : Int} (hx : 101 ≤ x) (hxn : x + n ≤ 1661) (h : j < 101 ∨ 1661 ≤ j) : cpn B x n j = B j := by
  unfold cpn
  rw [if_neg (by omega)]
theorem m52 {o : Int} (h : 0 ≤ o ∧ o ≤ 1000) : ji_mul 52 o = 52 * o := by rw [ji_mul_eq (nn ⟨by omega, by omega⟩)]
theorem m_keepStep (hc : CS M) (h5 : 0 ≤ hh M 355 5 ∧ hh M 355 5 ≤ 30) : wc X (d + 1) 277 [(32, 354)] M (fun q M1 => q = none ∧ fz [3] M M1 ∧ hh M1 355 = kst (hh M 355)) := by
  generalize hA : hh M 355 = A at *
  have hsr := ksS_r h5
  show wp X (d + 1) 277 0 [(32, 354), (9, 0), (9, 0), (9, 0)] [] M _
  have ff : ∀ {M1 : mj_M} {i v : Int}, fz [3] M M1 → fz [3] M (mj_wr M1 355 i v) := fun f => f.wr (z355m (by decide) _)
  have main : ∀ (M0 : mj_M) (w1 : mj_V), fz [3] M M0 → hh M0 355 = ksB A → wp X (d + 1) 277 55 [(32, 354), w1, (9, 0), (9, 0)] [] M0 (fun q M1 => q = none ∧ fz [3] M M1 ∧ hh M1 355 = kst A) := by
    intro M0 w1 f0 r0
    have hc0 := hc.fz f0 (by decide)
    have e5 : hh M0 355 5 = ksS A := by rw [r0]; exact ksB_5 A
    obtain ⟨x, hx⟩ : ∃ x, x = 101 + 52 * ksS A := ⟨_, rfl⟩
    have ex : ji_add 101 (52 * ksS A) = x := by rw [aj ⟨by omega, by omega⟩]; omega
    have s0 : src (ksB A) 0 = hh M0 355 1 := by rw [r0]; rfl
    have loopC : ∀ M1, fz [3] M M1 → hh M1 355 = cpn (ksB A) x 22 → ∀ w3, wp X (d + 1) 277 159 [(32, 354), (0, x), (0, 6), w3] [] M1 (fun q M1 => q = none ∧ fz [3] M M1 ∧ hh M1 355 = kst A) := by
      intro M1 f1 r1 w3
      simp only [w277_159, w277_160]
      refine loop1 (S := fun k M2 => wp X (d + 1) 277 161 [(32, 354), (0, x), (0, (k : Int)), w3] [] M2 (fun q M1 => q = none ∧ fz [3] M M1 ∧ hh M1 355 = kst A)) (I := fun k M2 => fz [3] M M2 ∧ hh M2 355 = cpn (ksB A) x (22 + (k : Int))) (P := 30) ?_ ?_ M1 ⟨f1, r1⟩
      · rintro k M2 hk ⟨f2, r2⟩ ih
        have hc2 := hc.fz f2 (by decide)
        have eb : hh M2 355 (1661 + (k : Int)) = src (ksB A) (22 + (k : Int)) := by
          rw [r2, cpn_b (by omega) (by omega) (by omega)]
          unfold src
          rw [if_neg (by omega), if_neg (by omega), if_neg (by omega)]
          congr 1
          omega
        rw [w277_161]
        simp only [w277_162, w277_164, w277_167, w277_168, w277_171, w277_172, w277_174, w277_175, w277_176, w277_177, w277_178, w277_181, w277_184, w277_185, w277_186, w277_187, w277_188, w277_191, c_1_0 hc2, c_1_1 hc2, c_1_2 hc2, c_1_3 hc2, c_1_4 hc2, c_1_5 hc2, c_1_6 hc2, c_1_7 hc2, c_1_8 hc2, c_2_0 hc2, c_2_1 hc2, c_5_0 hc2, c_5_1 hc2, c_5_2 hc2, c_5_3 hc2, c_5_5 hc2, c_5_8 hc2, c_5_11 hc2, c_6_1 hc2, c_6_2 hc2, c_6_3 hc2, c_10_4 hc2, c_10_5 hc2, c_10_6 hc2, c_10_7 hc2, c_15_1 hc2, c_17_1 hc2, c_339_0 hc2, c_341_0 hc2, c_341_1 hc2, c_341_2 hc2, c_342_4 hc2, c_342_5 hc2, c_342_6 hc2, c_342_7 hc2, c_347_0 hc2, c_347_2 hc2, c_347_3 hc2, c_349_0 hc2, c_349_1 hc2, c_349_2 hc2, c_351_2 hc2, c_351_10 hc2, c_351_12 hc2, c_354_0 hc2, c_354_1 hc2, c_354_2 hc2, c_354_3 hc2, c_354_4 hc2, c_354_5 hc2, c_354_6 hc2, c_354_7 hc2, c_354_8 hc2, c_354_20 hc2, c_354_25 hc2, c_354_26 hc2, c_354_27 hc2, c_354_28 hc2, c_354_32 hc2, c_354_33 hc2, c_354_34 hc2, c_354_35 hc2, c_354_38 hc2, l_3 hc2, l_4 hc2, l_7 hc2, l_8 hc2, l_9 hc2, l_11 hc2, l_12 hc2, l_13 hc2, l_14 hc2, l_16 hc2, l_18 hc2, l_19 hc2, l_20 hc2, l_21 hc2, l_340 hc2, l_343 hc2, l_344 hc2, l_345 hc2, l_346 hc2, l_348 hc2, l_350 hc2, l_352 hc2, l_353 hc2, l_355 hc2, l_356 hc2, l_357 hc2, l_358 hc2, l_359 hc2, l_360 hc2, l_361 hc2, l_362 hc2, l_363 hc2, l_364 hc2, l_365 hc2, l_366 hc2, l_367 hc2, l_368 hc2, l_369 hc2, l_370 hc2, l_371 hc2, l_372 hc2, l_373 hc2, aj (x := x) (y := 22) ⟨by omega, by omega⟩, aj (x := x + 22) (y := (k : Int)) ⟨by omega, by omega⟩, aj (x := 1661) (y := (k : Int)) ⟨by omega, by omega⟩, eb, show (k : Int) < 30 by omega, show (0 : Int) ≤ 1661 + (k : Int) by omega, show 1661 + (k : Int) < 1691 by omega, show (0 : Int) ≤ x + 22 + (k : Int) by omega, show x + 22 + (k : Int) < 1691 by omega, jp1 (p := k) (by omega), ↓reduceIte, hh_wr, hl_wr, b10, b11, ite_not, ne_eq, Int.reduceEq, Int.reduceLE, Int.reduceLT, Int.reduceNe, Int.reduceNeg, Int.reduceAdd, Int.reduceSub, Int.reduceMul, not_false_eq_true, not_true_eq_false, false_and, and_false, true_and, and_true, and_self, true_or, or_true, false_or, or_false, if_true, if_false, ite_true, ite_false, mj_tl_some, mj_tl_none, mj_cs0, mj_cs1, mj_cs2, mj_cs3, mj_cs4]
        refine ih _ ⟨ff f2, ?_⟩
        rw [row_wr, r2, show x + 22 + (k : Int) = x + (22 + (k : Int)) by omega, cpn_s (by omega), show 22 + (k : Int) + 1 = 22 + ((k + 1 : Nat) : Int) by omega]
      · rintro M2 ⟨f2, r2⟩
        have hc2 := hc.fz f2 (by decide)
        have e52 : hh M2 355 5 = ksS A := by rw [r2, cpn_b (by omega) (by omega) (by omega)]; exact ksB_5 A
        simp only [w277_0, w277_1, w277_4, w277_5, w277_6, w277_8, w277_11, w277_12, w277_13, w277_14, w277_17, w277_20, w277_21, w277_24, w277_26, w277_27, w277_28, w277_29, w277_32, w277_35, w277_36, w277_37, w277_38, w277_39, w277_42, w277_45, w277_46, w277_49, w277_50, w277_51, w277_52, w277_53, w277_54, w277_55, w277_57, w277_59, w277_60, w277_63, w277_64, w277_65, w277_66, w277_67, w277_68, w277_69, w277_72, w277_73, w277_74, w277_77, w277_78, w277_79, w277_80, w277_81, w277_82, w277_83, w277_84, w277_87, w277_88, w277_91, w277_92, w277_93, w277_94, w277_95, w277_96, w277_97, w277_100, w277_102, w277_103, w277_104, w277_105, w277_106, w277_109, w277_112, w277_113, w277_114, w277_115, w277_117, w277_120, w277_121, w277_122, w277_123, w277_124, w277_127, w277_128, w277_131, w277_132, w277_133, w277_134, w277_135, w277_136, w277_137, w277_138, w277_139, w277_140, w277_141, w277_142, w277_143, w277_146, w277_147, w277_150, w277_153, w277_156, w277_159, w277_160, w277_161, w277_162, w277_164, w277_167, w277_168, w277_171, w277_172, w277_174, w277_175, w277_176, w277_177, w277_178, w277_181, w277_184, w277_185, w277_186, w277_187, w277_188, w277_191, w277_194, w277_195, w277_198, w277_199, w277_200, w277_201, w277_202, w277_203, w277_204, show ((30 : Nat) : Int) = 30 from rfl, c_1_0 hc2, c_1_1 hc2, c_1_2 hc2, c_1_3 hc2, c_1_4 hc2, c_1_5 hc2, c_1_6 hc2, c_1_7 hc2, c_1_8 hc2, c_2_0 hc2, c_2_1 hc2, c_5_0 hc2, c_5_1 hc2, c_5_2 hc2, c_5_3 hc2, c_5_5 hc2, c_5_8 hc2, c_5_11 hc2, c_6_1 hc2, c_6_2 hc2, c_6_3 hc2, c_10_4 hc2, c_10_5 hc2, c_10_6 hc2, c_10_7 hc2, c_15_1 hc2, c_17_1 hc2, c_339_0 hc2, c_341_0 hc2, c_341_1 hc2, c_341_2 hc2, c_342_4 hc2, c_342_5 hc2, c_342_6 hc2, c_342_7 hc2, c_347_0 hc2, c_347_2 hc2, c_347_3 hc2, c_349_0 hc2, c_349_1 hc2, c_349_2 hc2, c_351_2 hc2, c_351_10 hc2, c_351_12 hc2, c_354_0 hc2, c_354_1 hc2, c_354_2 hc2, c_354_3 hc2, c_354_4 hc2, c_354_5 hc2, c_354_6 hc2, c_354_7 hc2, c_354_8 hc2, c_354_20 hc2, c_354_25 hc2, c_354_26 hc2, c_354_27 hc2, c_354_28 hc2, c_354_32 hc2, c_354_33 hc2, c_354_34 hc2, c_354_35 hc2, c_354_38 hc2, l_3 hc2, l_4 hc2, l_7 hc2, l_8 hc2, l_9 hc2, l_11 hc2, l_12 hc2, l_13 hc2, l_14 hc2, l_16 hc2, l_18 hc2, l_19 hc2, l_20 hc2, l_21 hc2, l_340 hc2, l_343 hc2, l_344 hc2, l_345 hc2, l_346 hc2, l_348 hc2, l_350 hc2, l_352 hc2, l_353 hc2, l_355 hc2, l_356 hc2, l_357 hc2, l_358 hc2, l_359 hc2, l_360 hc2, l_361 hc2, l_362 hc2, l_363 hc2, l_364 hc2, l_365 hc2, l_366 hc2, l_367 hc2, l_368 hc2, l_369 hc2, l_370 hc2, l_371 hc2, l_372 hc2, l_373 hc2, e52, aj (x := ksS A) (y := 1) ⟨by omega, by omega⟩, ↓reduceIte, hh_wr, hl_wr, b10, b11, ite_not, ne_eq, Int.reduceEq, Int.reduceLE, Int.reduceLT, Int.reduceNe, Int.reduceNeg, Int.reduceAdd, Int.reduceSub, Int.reduceMul, not_false_eq_true, not_true_eq_false, false_and, and_false, true_and, and_true, and_self, true_or, or_true, false_or, or_false, if_true, if_false, ite_true, ite_false, mj_tl_some, mj_tl_none, mj_cs0, mj_cs1, mj_cs2, mj_cs3, mj_cs4]
        refine ⟨ff f2, ?_⟩
        rw [row_wr, r2]
        unfold kst
        rw [ksB_5, ← hx]
        rfl
    have loopB : ∀ M1, fz [3] M M1 → hh M1 355 = cpn (ksB A) x 4 → wp X (d + 1) 277 112 [(32, 354), (0, x), (0, 3), (9, 0)] [] M1 (fun q M1 => q = none ∧ fz [3] M M1 ∧ hh M1 355 = kst A) := by
      intro M1 f1 r1
      simp only [w277_112, w277_113]
      refine loop1 (S := fun p (u : mj_M × mj_V) => wp X (d + 1) 277 114 [(32, 354), (0, x), (0, (p : Int)), u.2] [] u.1 (fun q M1 => q = none ∧ fz [3] M M1 ∧ hh M1 355 = kst A)) (I := fun p u => fz [3] M u.1 ∧ hh u.1 355 = cpn (ksB A) x (4 + 3 * (p : Int))) (P := 6) ?_ ?_ (M1, (9, 0)) ⟨f1, r1⟩
      · rintro p ⟨M2, w⟩ hp ⟨f2, r2⟩ ih
        simp only at f2 r2
        have inner := loop1 (S := fun k M3 => wp X (d + 1) 277 122 [(32, 354), (0, x), (0, (p : Int)), (0, (k : Int))] [] M3 (fun q M1 => q = none ∧ fz [3] M M1 ∧ hh M1 355 = kst A)) (I := fun k M3 => fz [3] M M3 ∧ hh M3 355 = cpn (ksB A) x (4 + 3 * (p : Int) + (k : Int))) (P := 3) ?_ ?_
        · rw [w277_114]
          simp only [w277_115, w277_117, w277_120, w277_121, show (p : Int) < 6 by omega, ↓reduceIte, hh_wr, hl_wr, b10, b11, ite_not, ne_eq, Int.reduceEq, Int.reduceLE, Int.reduceLT, Int.reduceNe, Int.reduceNeg, Int.reduceAdd, Int.reduceSub, Int.reduceMul, not_false_eq_true, not_true_eq_false, false_and, and_false, true_and, and_true, and_self, true_or, or_true, false_or, or_false, if_true, if_false, ite_true, ite_false, mj_tl_some, mj_tl_none, mj_cs0, mj_cs1, mj_cs2, mj_cs3, mj_cs4]
          exact inner M2 ⟨f2, by rw [ct0, Int.add_zero]; exact r2⟩
        · rintro k M3 hk ⟨f3, r3⟩ ihk
          have hc3 := hc.fz f3 (by decide)
          have g := fun Q => m_get (X := X) (d := d) (M := M3) (Q := Q) (p := (p : Int)) (w := (k : Int)) hc3 ⟨by omega, by omega⟩ ⟨by omega, by omega⟩
          have eb : hh M3 355 (11 + 5 * (p : Int) + (k : Int)) = src (ksB A) (4 + 3 * (p : Int) + (k : Int)) := by
            rw [r3, cpn_b (by omega) (by omega) (by omega)]
            unfold src
            rw [if_neg (by omega), if_neg (by omega), if_pos (by omega)]
            congr 1
            omega
          rw [eb] at g
          rw [w277_122]
          simp only [w277_123, w277_124, w277_127, w277_128, w277_131, w277_132, w277_133, w277_134, w277_135, w277_136, w277_137, w277_138, w277_139, w277_140, w277_141, w277_142, w277_143, w277_146, w277_147, w277_150, c_1_0 hc3, c_1_1 hc3, c_1_2 hc3, c_1_3 hc3, c_1_4 hc3, c_1_5 hc3, c_1_6 hc3, c_1_7 hc3, c_1_8 hc3, c_2_0 hc3, c_2_1 hc3, c_5_0 hc3, c_5_1 hc3, c_5_2 hc3, c_5_3 hc3, c_5_5 hc3, c_5_8 hc3, c_5_11 hc3, c_6_1 hc3, c_6_2 hc3, c_6_3 hc3, c_10_4 hc3, c_10_5 hc3, c_10_6 hc3, c_10_7 hc3, c_15_1 hc3, c_17_1 hc3, c_339_0 hc3, c_341_0 hc3, c_341_1 hc3, c_341_2 hc3, c_342_4 hc3, c_342_5 hc3, c_342_6 hc3, c_342_7 hc3, c_347_0 hc3, c_347_2 hc3, c_347_3 hc3, c_349_0 hc3, c_349_1 hc3, c_349_2 hc3, c_351_2 hc3, c_351_10 hc3, c_351_12 hc3, c_354_0 hc3, c_354_1 hc3, c_354_2 hc3, c_354_3 hc3, c_354_4 hc3, c_354_5 hc3, c_354_6 hc3, c_354_7 hc3, c_354_8 hc3, c_354_20 hc3, c_354_25 hc3, c_354_26 hc3, c_354_27 hc3, c_354_28 hc3, c_354_32 hc3, c_354_33 hc3, c_354_34 hc3, c_354_35 hc3, c_354_38 hc3, l_3 hc3, l_4 hc3, l_7 hc3, l_8 hc3, l_9 hc3, l_11 hc3, l_12 hc3, l_13 hc3, l_14 hc3, l_16 hc3, l_18 hc3, l_19 hc3, l_20 hc3, l_21 hc3, l_340 hc3, l_343 hc3, l_344 hc3, l_345 hc3, l_346 hc3, l_348 hc3, l_350 hc3, l_352 hc3, l_353 hc3, l_355 hc3, l_356 hc3, l_357 hc3, l_358 hc3, l_359 hc3, l_360 hc3, l_361 hc3, l_362 hc3, l_363 hc3, l_364 hc3, l_365 hc3, l_366 hc3, l_367 hc3, l_368 hc3, l_369 hc3, l_370 hc3, l_371 hc3, l_372 hc3, l_373 hc3, g, aj (x := x) (y := 4) ⟨by omega, by omega⟩, m3l (o := (p : Int)) ⟨by omega, by omega⟩, aj (x := x + 4) (y := 3 * (p : Int)) ⟨by omega, by omega⟩, aj (x := x + 4 + 3 * (p : Int)) (y := (k : Int)) ⟨by omega, by omega⟩, show (k : Int) < 3 by omega, show (0 : Int) ≤ x + 4 + 3 * (p : Int) + (k : Int) by omega, show x + 4 + 3 * (p : Int) + (k : Int) < 1691 by omega, jp1 (p := k) (by omega), ↓reduceIte, hh_wr, hl_wr, b10, b11, ite_not, ne_eq, Int.reduceEq, Int.reduceLE, Int.reduceLT, Int.reduceNe, Int.reduceNeg, Int.reduceAdd, Int.reduceSub, Int.reduceMul, not_false_eq_true, not_true_eq_false, false_and, and_false, true_and, and_true, and_self, true_or, or_true, false_or, or_false, if_true, if_false, ite_true, ite_false, mj_tl_some, mj_tl_none, mj_cs0, mj_cs1, mj_cs2, mj_cs3, mj_cs4]
          refine ihk _ ⟨ff f3, ?_⟩
          rw [row_wr, r3, show x + 4 + 3 * (p : Int) + (k : Int) = x + (4 + 3 * (p : Int) + (k : Int)) by omega, cpn_s (by omega), show 4 + 3 * (p : Int) + (k : Int) + 1 = 4 + 3 * (p : Int) + ((k + 1 : Nat) : Int) by omega]
        · rintro M3 ⟨f3, r3⟩
          simp only [w277_122, w277_123, w277_124, w277_153, w277_156, show ((3 : Nat) : Int) = 3 from rfl, jp1 (p := p) (by omega), ↓reduceIte, hh_wr, hl_wr, b10, b11, ite_not, ne_eq, Int.reduceEq, Int.reduceLE, Int.reduceLT, Int.reduceNe, Int.reduceNeg, Int.reduceAdd, Int.reduceSub, Int.reduceMul, not_false_eq_true, not_true_eq_false, false_and, and_false, true_and, and_true, and_self, true_or, or_true, false_or, or_false, if_true, if_false, ite_true, ite_false, mj_tl_some, mj_tl_none, mj_cs0, mj_cs1, mj_cs2, mj_cs3, mj_cs4]
          exact ih (M3, _) ⟨f3, by
            show hh M3 355 = cpn (ksB A) x (4 + 3 * ((p + 1 : Nat) : Int))
            rw [r3]
            congr 1⟩
      · rintro ⟨M2, w⟩ ⟨f2, r2⟩
        simp only at f2 r2
        simp only [w277_114, w277_115, w277_117, show ((6 : Nat) : Int) = 6 from rfl, ↓reduceIte, hh_wr, hl_wr, b10, b11, ite_not, ne_eq, Int.reduceEq, Int.reduceLE, Int.reduceLT, Int.reduceNe, Int.reduceNeg, Int.reduceAdd, Int.reduceSub, Int.reduceMul, not_false_eq_true, not_true_eq_false, false_and, and_false, true_and, and_true, and_self, true_or, or_true, false_or, or_false, if_true, if_false, ite_true, ite_false, mj_tl_some, mj_tl_none, mj_cs0, mj_cs1, mj_cs2, mj_cs3, mj_cs4]
        exact loopC M2 f2 r2 w
    simp only [w277_55, w277_57, w277_59, w277_60, w277_63, w277_64, w277_65, w277_66, w277_67, w277_68, w277_69, w277_72, w277_73, w277_74, w277_77, w277_78, w277_79, w277_80, w277_81, c_1_0 hc0, c_1_1 hc0, c_1_2 hc0, c_1_3 hc0, c_1_4 hc0, c_1_5 hc0, c_1_6 hc0, c_1_7 hc0, c_1_8 hc0, c_2_0 hc0, c_2_1 hc0, c_5_0 hc0, c_5_1 hc0, c_5_2 hc0, c_5_3 hc0, c_5_5 hc0, c_5_8 hc0, c_5_11 hc0, c_6_1 hc0, c_6_2 hc0, c_6_3 hc0, c_10_4 hc0, c_10_5 hc0, c_10_6 hc0, c_10_7 hc0, c_15_1 hc0, c_17_1 hc0, c_339_0 hc0, c_341_0 hc0, c_341_1 hc0, c_341_2 hc0, c_342_4 hc0, c_342_5 hc0, c_342_6 hc0, c_342_7 hc0, c_347_0 hc0, c_347_2 hc0, c_347_3 hc0, c_349_0 hc0, c_349_1 hc0, c_349_2 hc0, c_351_2 hc0, c_351_10 hc0, c_351_12 hc0, c_354_0 hc0, c_354_1 hc0, c_354_2 hc0, c_354_3 hc0, c_354_4 hc0, c_354_5 hc0, c_354_6 hc0, c_354_7 hc0, c_354_8 hc0, c_354_20 hc0, c_354_25 hc0, c_354_26 hc0, c_354_27 hc0, c_354_28 hc0, c_354_32 hc0, c_354_33 hc0, c_354_34 hc0, c_354_35 hc0, c_354_38 hc0, l_3 hc0, l_4 hc0, l_7 hc0, l_8 hc0, l_9 hc0, l_11 hc0, l_12 hc0, l_13 hc0, l_14 hc0, l_16 hc0, l_18 hc0, l_19 hc0, l_20 hc0, l_21 hc0, l_340 hc0, l_343 hc0, l_344 hc0, l_345 hc0, l_346 hc0, l_348 hc0, l_350 hc0, l_352 hc0, l_353 hc0, l_355 hc0, l_356 hc0, l_357 hc0, l_358 hc0, l_359 hc0, l_360 hc0, l_361 hc0, l_362 hc0, l_363 hc0, l_364 hc0, l_365 hc0, l_366 hc0, l_367 hc0, l_368 hc0, l_369 hc0, l_370 hc0, l_371 hc0, l_372 hc0, l_373 hc0, e5, m52 (o := ksS A) ⟨by omega, by omega⟩, ex, show (0 : Int) ≤ x by omega, show x < 1691 by omega, ↓reduceIte, hh_wr, hl_wr, b10, b11, ite_not, ne_eq, Int.reduceEq, Int.reduceLE, Int.reduceLT, Int.reduceNe, Int.reduceNeg, Int.reduceAdd, Int.reduceSub, Int.reduceMul, not_false_eq_true, not_true_eq_false, false_and, and_false, true_and, and_true, and_self, true_or, or_true, false_or, or_false, if_true, if_false, ite_true, ite_false, mj_tl_some, mj_tl_none, mj_cs0, mj_cs1, mj_cs2, mj_cs3, mj_cs4]
    refine loop1 (S := fun k M2 => wp X (d + 1) 277 82 [(32, 354), (0, x), (0, (k : Int)), (9, 0)] [] M2 (fun q M1 => q = none ∧ fz [3] M M1 ∧ hh M1 355 = kst A)) (I := fun k M2 => fz [3] M M2 ∧ hh M2 355 = cpn (ksB A) x (1 + (k : Int))) (P := 3) ?_ ?_ _ ⟨ff f0, ?_⟩
    · rintro k M2 hk ⟨f2, r2⟩ ih
      have hc2 := hc.fz f2 (by decide)
      have eb : hh M2 355 (8 + (k : Int)) = src (ksB A) (1 + (k : Int)) := by
        rw [r2, cpn_b (by omega) (by omega) (by omega)]
        unfold src
        rw [if_neg (by omega), if_pos (by omega)]
        congr 1
        omega
      rw [w277_82]
      simp only [w277_83, w277_84, w277_87, w277_88, w277_91, w277_92, w277_93, w277_94, w277_95, w277_96, w277_97, w277_100, w277_102, w277_103, w277_104, w277_105, w277_106, w277_109, c_1_0 hc2, c_1_1 hc2, c_1_2 hc2, c_1_3 hc2, c_1_4 hc2, c_1_5 hc2, c_1_6 hc2, c_1_7 hc2, c_1_8 hc2, c_2_0 hc2, c_2_1 hc2, c_5_0 hc2, c_5_1 hc2, c_5_2 hc2, c_5_3 hc2, c_5_5 hc2, c_5_8 hc2, c_5_11 hc2, c_6_1 hc2, c_6_2 hc2, c_6_3 hc2, c_10_4 hc2, c_10_5 hc2, c_10_6 hc2, c_10_7 hc2, c_15_1 hc2, c_17_1 hc2, c_339_0 hc2, c_341_0 hc2, c_341_1 hc2, c_341_2 hc2, c_342_4 hc2, c_342_5 hc2, c_342_6 hc2, c_342_7 hc2, c_347_0 hc2, c_347_2 hc2, c_347_3 hc2, c_349_0 hc2, c_349_1 hc2, c_349_2 hc2, c_351_2 hc2, c_351_10 hc2, c_351_12 hc2, c_354_0 hc2, c_354_1 hc2, c_354_2 hc2, c_354_3 hc2, c_354_4 hc2, c_354_5 hc2, c_354_6 hc2, c_354_7 hc2, c_354_8 hc2, c_354_20 hc2, c_354_25 hc2, c_354_26 hc2, c_354_27 hc2, c_354_28 hc2, c_354_32 hc2, c_354_33 hc2, c_354_34 hc2, c_354_35 hc2, c_354_38 hc2, l_3 hc2, l_4 hc2, l_7 hc2, l_8 hc2, l_9 hc2, l_11 hc2, l_12 hc2, l_13 hc2, l_14 hc2, l_16 hc2, l_18 hc2, l_19 hc2, l_20 hc2, l_21 hc2, l_340 hc2, l_343 hc2, l_344 hc2, l_345 hc2, l_346 hc2, l_348 hc2, l_350 hc2, l_352 hc2, l_353 hc2, l_355 hc2, l_356 hc2, l_357 hc2, l_358 hc2, l_359 hc2, l_360 hc2, l_361 hc2, l_362 hc2, l_363 hc2, l_364 hc2, l_365 hc2, l_366 hc2, l_367 hc2, l_368 hc2, l_369 hc2, l_370 hc2, l_371 hc2, l_372 hc2, l_373 hc2, aj (x := x) (y := 1) ⟨by omega, by omega⟩, aj (x := x + 1) (y := (k : Int)) ⟨by omega, by omega⟩, aj (x := 8) (y := (k : Int)) ⟨by omega, by omega⟩, eb, show (k : Int) < 3 by omega, show (0 : Int) ≤ 8 + (k : Int) by omega, show 8 + (k : Int) < 1691 by omega, show (0 : Int) ≤ x + 1 + (k : Int) by omega, show x + 1 + (k : Int) < 1691 by omega, jp1 (p := k) (by omega), ↓reduceIte, hh_wr, hl_wr, b10, b11, ite_not, ne_eq, Int.reduceEq, Int.reduceLE, Int.reduceLT, Int.reduceNe, Int.reduceNeg, Int.reduceAdd, Int.reduceSub, Int.reduceMul, not_false_eq_true, not_true_eq_false, false_and, and_false, true_and, and_true, and_self, true_or, or_true, false_or, or_false, if_true, if_false, ite_true, ite_false, mj_tl_some, mj_tl_none, mj_cs0, mj_cs1, mj_cs2, mj_cs3, mj_cs4]
      refine ih _ ⟨ff f2, ?_⟩
      rw [row_wr, r2, show x + 1 + (k : Int) = x + (1 + (k : Int)) by omega, cpn_s (by omega), show 1 + (k : Int) + 1 = 1 + ((k + 1 : Nat) : Int) by omega]
    · rintro M2 ⟨f2, r2⟩
      simp only [w277_82, w277_83, w277_84, show ((3 : Nat) : Int) = 3 from rfl, ↓reduceIte, hh_wr, hl_wr, b10, b11, ite_not, ne_eq, Int.reduceEq, Int.reduceLE, Int.reduceLT, Int.reduceNe, Int.reduceNeg, Int.reduceAdd, Int.reduceSub, Int.reduceMul, not_false_eq_true, not_true_eq_false, false_and, and_false, true_and, and_true, and_self, true_or, or_true, false_or, or_false, if_true, if_false, ite_true, ite_false, mj_tl_some, mj_tl_none, mj_cs0, mj_cs1, mj_cs2, mj_cs3, mj_cs4]
      exact loopB M2 f2 r2
    · rw [row_wr, ← s0, r0]
      have := cpn_s (B := ksB A) (x := x) (n := 0) (by decide)
      rw [cpn_0, Int.add_zero] at this
      rw [this]
      rfl
  by_cases h30 : A 5 = 30
  · have e5 : hh M 355 5 = 30 := by rw [hA]; exact h30
    simp only [w277_0, w277_1, w277_4, w277_5, w277_6, w277_8, w277_11, w277_12, c_1_0 hc, c_1_1 hc, c_1_2 hc, c_1_3 hc, c_1_4 hc, c_1_5 hc, c_1_6 hc, c_1_7 hc, c_1_8 hc, c_2_0 hc, c_2_1 hc, c_5_0 hc, c_5_1 hc, c_5_2 hc, c_5_3 hc, c_5_5 hc, c_5_8 hc, c_5_11 hc, c_6_1 hc, c_6_2 hc, c_6_3 hc, c_10_4 hc, c_10_5 hc, c_10_6 hc, c_10_7 hc, c_15_1 hc, c_17_1 hc, c_339_0 hc, c_341_0 hc, c_341_1 hc, c_341_2 hc, c_342_4 hc, c_342_5 hc, c_342_6 hc, c_342_7 hc, c_347_0 hc, c_347_2 hc, c_347_3 hc, c_349_0 hc, c_349_1 hc, c_349_2 hc, c_351_2 hc, c_351_10 hc, c_351_12 hc, c_354_0 hc, c_354_1 hc, c_354_2 hc, c_354_3 hc, c_354_4 hc, c_354_5 hc, c_354_6 hc, c_354_7 hc, c_354_8 hc, c_354_20 hc, c_354_25 hc, c_354_26 hc, c_354_27 hc, c_354_28 hc, c_354_32 hc, c_354_33 hc, c_354_34 hc, c_354_35 hc, c_354_38 hc, l_3 hc, l_4 hc, l_7 hc, l_8 hc, l_9 hc, l_11 hc, l_12 hc, l_13 hc, l_14 hc, l_16 hc, l_18 hc, l_19 hc, l_20 hc, l_21 hc, l_340 hc, l_343 hc, l_344 hc, l_345 hc, l_346 hc, l_348 hc, l_350 hc, l_352 hc, l_353 hc, l_355 hc, l_356 hc, l_357 hc, l_358 hc, l_359 hc, l_360 hc, l_361 hc, l_362 hc, l_363 hc, l_364 hc, l_365 hc, l_366 hc, l_367 hc, l_368 hc, l_369 hc, l_370 hc, l_371 hc, l_372 hc, l_373 hc, e5, ↓reduceIte, hh_wr, hl_wr, b10, b11, ite_not, ne_eq, Int.reduceEq, Int.reduceLE, Int.reduceLT, Int.reduceNe, Int.reduceNeg, Int.reduceAdd, Int.reduceSub, Int.reduceMul, not_false_eq_true, not_true_eq_false, false_and, and_false, true_and, and_true, and_self, true_or, or_true, false_or, or_false, if_true, if_false, ite_true, ite_false, mj_tl_some, mj_tl_none, mj_cs0, mj_cs1, mj_cs2, mj_cs3, mj_cs4]
    refine loop1 (S := fun k M2 => wp X (d + 1) 277 13 [(32, 354), (0, (k : Int)), (9, 0), (9, 0)] [] M2 (fun q M1 => q = none ∧ fz [3] M M1 ∧ hh M1 355 = kst A)) (I := fun k M2 => fz [3] M M2 ∧ hh M2 355 = sh A (k : Int)) (P := 1508) ?_ ?_ M ⟨fz.rfl', by rw [hA]; funext j; unfold sh; rw [if_neg (by omega)]⟩
    · rintro k M2 hk ⟨f2, r2⟩ ih
      have hc2 := hc.fz f2 (by decide)
      have eb : hh M2 355 (153 + (k : Int)) = sh A (k : Int) (153 + (k : Int)) := by rw [r2]
      rw [w277_13]
      simp only [w277_14, w277_17, w277_20, w277_21, w277_24, w277_26, w277_27, w277_28, w277_29, w277_32, w277_35, w277_36, w277_37, w277_38, w277_39, w277_42, c_1_0 hc2, c_1_1 hc2, c_1_2 hc2, c_1_3 hc2, c_1_4 hc2, c_1_5 hc2, c_1_6 hc2, c_1_7 hc2, c_1_8 hc2, c_2_0 hc2, c_2_1 hc2, c_5_0 hc2, c_5_1 hc2, c_5_2 hc2, c_5_3 hc2, c_5_5 hc2, c_5_8 hc2, c_5_11 hc2, c_6_1 hc2, c_6_2 hc2, c_6_3 hc2, c_10_4 hc2, c_10_5 hc2, c_10_6 hc2, c_10_7 hc2, c_15_1 hc2, c_17_1 hc2, c_339_0 hc2, c_341_0 hc2, c_341_1 hc2, c_341_2 hc2, c_342_4 hc2, c_342_5 hc2, c_342_6 hc2, c_342_7 hc2, c_347_0 hc2, c_347_2 hc2, c_347_3 hc2, c_349_0 hc2, c_349_1 hc2, c_349_2 hc2, c_351_2 hc2, c_351_10 hc2, c_351_12 hc2, c_354_0 hc2, c_354_1 hc2, c_354_2 hc2, c_354_3 hc2, c_354_4 hc2, c_354_5 hc2, c_354_6 hc2, c_354_7 hc2, c_354_8 hc2, c_354_20 hc2, c_354_25 hc2, c_354_26 hc2, c_354_27 hc2, c_354_28 hc2, c_354_32 hc2, c_354_33 hc2, c_354_34 hc2, c_354_35 hc2, c_354_38 hc2, l_3 hc2, l_4 hc2, l_7 hc2, l_8 hc2, l_9 hc2, l_11 hc2, l_12 hc2, l_13 hc2, l_14 hc2, l_16 hc2, l_18 hc2, l_19 hc2, l_20 hc2, l_21 hc2, l_340 hc2, l_343 hc2, l_344 hc2, l_345 hc2, l_346 hc2, l_348 hc2, l_350 hc2, l_352 hc2, l_353 hc2, l_355 hc2, l_356 hc2, l_357 hc2, l_358 hc2, l_359 hc2, l_360 hc2, l_361 hc2, l_362 hc2, l_363 hc2, l_364 hc2, l_365 hc2, l_366 hc2, l_367 hc2, l_368 hc2, l_369 hc2, l_370 hc2, l_371 hc2, l_372 hc2, l_373 hc2, aj (x := 101) (y := (k : Int)) ⟨by omega, by omega⟩, aj (x := 153) (y := (k : Int)) ⟨by omega, by omega⟩, eb, show (k : Int) < 1508 by omega, show (0 : Int) ≤ 101 + (k : Int) by omega, show 101 + (k : Int) < 1691 by omega, show (0 : Int) ≤ 153 + (k : Int) by omega, show 153 + (k : Int) < 1691 by omega, jp1 (p := k) (by omega), ↓reduceIte, hh_wr, hl_wr, b10, b11, ite_not, ne_eq, Int.reduceEq, Int.reduceLE, Int.reduceLT, Int.reduceNe, Int.reduceNeg, Int.reduceAdd, Int.reduceSub, Int.reduceMul, not_false_eq_true, not_true_eq_false, false_and, and_false, true_and, and_true, and_self, true_or, or_true, false_or, or_false, if_true, if_false, ite_true, ite_false, mj_tl_some, mj_tl_none, mj_cs0, mj_cs1, mj_cs2, mj_cs3, mj_cs4]
      refine ih _ ⟨ff f2, ?_⟩
      rw [row_wr, r2, sh_s]
    · rintro M2 ⟨f2, r2⟩
      have hc2 := hc.fz f2 (by decide)
      have e52 : hh M2 355 5 = 30 := by rw [r2]; unfold sh; rw [if_neg (by omega)]; exact h30
      simp only [w277_13, w277_14, w277_17, w277_45, w277_46, w277_49, w277_50, w277_51, w277_52, w277_53, w277_54, show ((1508 : Nat) : Int) = 1508 from rfl, c_1_0 hc2, c_1_1 hc2, c_1_2 hc2, c_1_3 hc2, c_1_4 hc2, c_1_5 hc2, c_1_6 hc2, c_1_7 hc2, c_1_8 hc2, c_2_0 hc2, c_2_1 hc2, c_5_0 hc2, c_5_1 hc2, c_5_2 hc2, c_5_3 hc2, c_5_5 hc2, c_5_8 hc2, c_5_11 hc2, c_6_1 hc2, c_6_2 hc2, c_6_3 hc2, c_10_4 hc2, c_10_5 hc2, c_10_6 hc2, c_10_7 hc2, c_15_1 hc2, c_17_1 hc2, c_339_0 hc2, c_341_0 hc2, c_341_1 hc2, c_341_2 hc2, c_342_4 hc2, c_342_5 hc2, c_342_6 hc2, c_342_7 hc2, c_347_0 hc2, c_347_2 hc2, c_347_3 hc2, c_349_0 hc2, c_349_1 hc2, c_349_2 hc2, c_351_2 hc2, c_351_10 hc2, c_351_12 hc2, c_354_0 hc2, c_354_1 hc2, c_354_2 hc2, c_354_3 hc2, c_354_4 hc2, c_354_5 hc2, c_354_6 hc2, c_354_7 hc2, c_354_8 hc2, c_354_20 hc2, c_354_25 hc2, c_354_26 hc2, c_354_27 hc2, c_354_28 hc2, c_354_32 hc2, c_354_33 hc2, c_354_34 hc2, c_354_35 hc2, c_354_38 hc2, l_3 hc2, l_4 hc2, l_7 hc2, l_8 hc2, l_9 hc2, l_11 hc2, l_12 hc2, l_13 hc2, l_14 hc2, l_16 hc2, l_18 hc2, l_19 hc2, l_20 hc2, l_21 hc2, l_340 hc2, l_343 hc2, l_344 hc2, l_345 hc2, l_346 hc2, l_348 hc2, l_350 hc2, l_352 hc2, l_353 hc2, l_355 hc2, l_356 hc2, l_357 hc2, l_358 hc2, l_359 hc2, l_360 hc2, l_361 hc2, l_362 hc2, l_363 hc2, l_364 hc2, l_365 hc2, l_366 hc2, l_367 hc2, l_368 hc2, l_369 hc2, l_370 hc2, l_371 hc2, l_372 hc2, l_373 hc2, e52, show ji_sub 30 1 = 29 by decide, ↓reduceIte, hh_wr, hl_wr, b10, b11, ite_not, ne_eq, Int.reduceEq, Int.reduceLE, Int.reduceLT, Int.reduceNe, Int.reduceNeg, Int.reduceAdd, Int.reduceSub, Int.reduceMul, not_false_eq_true, not_true_eq_false, false_and, and_false, true_and, and_true, and_self, true_or, or_true, false_or, or_false, if_true, if_false, ite_true, ite_false, mj_tl_some, mj_tl_none, mj_cs0, mj_cs1, mj_cs2, mj_cs3, mj_cs4]
      refine main _ _ (ff f2) ?_
      rw [row_wr, r2]
      unfold ksB
      rw [if_pos h30]
      rfl
  · have e5 : ¬ hh M 355 5 = 30 := by rw [hA]; exact h30
    simp only [w277_0, w277_1, w277_4, w277_5, w277_6, w277_8, c_1_0 hc, c_1_1 hc, c_1_2 hc, c_1_3 hc, c_1_4 hc, c_1_5 hc, c_1_6 hc, c_1_7 hc, c_1_8 hc, c_2_0 hc, c_2_1 hc, c_5_0 hc, c_5_1 hc, c_5_2 hc, c_5_3 hc, c_5_5 hc, c_5_8 hc, c_5_11 hc, c_6_1 hc, c_6_2 hc, c_6_3 hc, c_10_4 hc, c_10_5 hc, c_10_6 hc, c_10_7 hc, c_15_1 hc, c_17_1 hc, c_339_0 hc, c_341_0 hc, c_341_1 hc, c_341_2 hc, c_342_4 hc, c_342_5 hc, c_342_6 hc, c_342_7 hc, c_347_0 hc, c_347_2 hc, c_347_3 hc, c_349_0 hc, c_349_1 hc, c_349_2 hc, c_351_2 hc, c_351_10 hc, c_351_12 hc, c_354_0 hc, c_354_1 hc, c_354_2 hc, c_354_3 hc, c_354_4 hc, c_354_5 hc, c_354_6 hc, c_354_7 hc, c_354_8 hc, c_354_20 hc, c_354_25 hc, c_354_26 hc, c_354_27 hc, c_354_28 hc, c_354_32 hc, c_354_33 hc, c_354_34 hc, c_354_35 hc, c_354_38 hc, l_3 hc, l_4 hc, l_7 hc, l_8 hc, l_9 hc, l_11 hc, l_12 hc, l_13 hc, l_14 hc, l_16 hc, l_18 hc, l_19 hc, l_20 hc, l_21 hc, l_340 hc, l_343 hc, l_344 hc, l_345 hc, l_346 hc, l_348 hc, l_350 hc, l_352 hc, l_353 hc, l_355 hc, l_356 hc, l_357 hc, l_358 hc, l_359 hc, l_360 hc, l_361 hc, l_362 hc, l_363 hc, l_364 hc, l_365 hc, l_366 hc, l_367 hc, l_368 hc, l_369 hc, l_370 hc, l_371 hc, l_372 hc, l_373 hc, e5, ↓reduceIte, hh_wr, hl_wr, b10, b11, ite_not, ne_eq, Int.reduceEq, Int.reduceLE, Int.reduceLT, Int.reduceNe, Int.reduceNeg, Int.reduceAdd, Int.reduceSub, Int.reduceMul, not_false_eq_true, not_true_eq_false, false_and, and_false, true_and, and_true, and_self, true_or, or_true, false_or, or_false, if_true, if_false, ite_true, ite_false, mj_tl_some, mj_tl_none, mj_cs0, mj_cs1, mj_cs2, mj_cs3, mj_cs4]
    refine main M _ fz.rfl' ?_
    rw [hA]
    unfold ksB
    rw [if_neg h30]
end Steps2
