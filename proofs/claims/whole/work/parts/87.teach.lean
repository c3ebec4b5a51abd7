/-! DOINGS: taught, forgotten -/
theorem stp.of {A A1 : Int → Int} (hs : stp A) (h : AI A) (e : nwE A A1) : stp A1 := by
  have n3 := h.n3
  unfold stp at hs ⊢
  have e5 : A1 5 = A 5 := e 5 (by unfold nwi; omega)
  have e1 : A1 1 = A 1 := e 1 (by unfold nwi; omega)
  rw [e5, e1]
  refine ⟨hs.1, ?_⟩
  have : (ms A1 (A 5 - 1)).P = (ms A (A 5 - 1)).P := e (101 + 52 * (A 5 - 1)) (by unfold nwi; omega)
  rw [this]; exact hs.2
theorem AI.nw {A A1 : Int → Int} (h : AI A) (hs : stp A) (e : nwE A A1) (mi : MI (A 0) (mn A1)) : AI A1 := by
  have q : ∀ j, (j < 8 ∨ (41 ≤ j ∧ j ≤ 1660) ∨ (11 ≤ j ∧ j ≤ 40 ∧ 3 ≤ (j - 11) % 5)) → A1 j = A j := fun j hj => e j (by unfold nwi; omega)
  have n3 := h.n3
  have e5 : A1 5 = A 5 := q 5 (by omega)
  have mp : (mn A1).P = A 1 := q 1 (by omega)
  have xp : ∀ i, (mnx A1 i).P = (mnx A i).P ∨ ¬ (0 ≤ i ∧ i < A 5) := by
    intro i
    by_cases hi : 0 ≤ i ∧ i < A 5
    · left
      unfold mnx
      rw [e5]
      split
      · exact q (101 + 52 * (i + 1)) (by omega)
      · exact mp
    · exact Or.inr hi
  exact ⟨(by rw [q 0 (by omega)]; exact h.f0), (by rw [q 0 (by omega)]; exact h.f8), (fun i a b => by rw [q (41 + 2 * i) (by omega)]; exact h.fk i a b), (fun i a b => by rw [q (42 + 2 * i) (by omega)]; exact h.fl i a b), (fun i a b => by have := h.f8; rw [q 0 (by omega)] at b; rw [q (42 + 2 * i) (by omega)]; exact h.fl1 i a b), (by rw [q 0 (by omega)]; exact mi), (fun p a b => by have h6 : _ ≤ (6 : Int) := h.now.p6; rw [q 1 (by omega)] at b; have hp5 : p < 6 := Int.lt_of_lt_of_le b h6; rw [q 0 (by omega), q (14 + 5 * p) (by omega), q (15 + 5 * p) (by omega)]; exact h.tl p a b), (by rw [q 2 (by omega)]; exact h.s0), (by rw [q 2 (by omega)]; exact h.s4), (fun i a b => by have := h.s4; rw [q 2 (by omega)] at b; rw [q (57 + i) (by omega)]; exact h.st i a b), (by rw [q 3 (by omega)]; exact h.t0), (by rw [q 3 (by omega)]; exact h.t4), (by rw [q 4 (by omega)]; exact h.r0), (by rw [q 4 (by omega), q 3 (by omega)]; exact h.r4), (by rw [q 5 (by omega)]; exact h.n0), (by rw [q 5 (by omega)]; exact h.n3), (fun i a b => by have := h.n3; rw [q 5 (by omega)] at b; rw [q 0 (by omega)]; exact (h.sp i a b).eq (ms_eq (h.sp i a b) ⟨a, by omega⟩ (fun j j1 j2 => q j (by omega)))), (fun i a b => by
    rw [e5] at b
    rw [(xp i).resolve_right (fun g => g ⟨a, b⟩), (ms_eq (h.sp i a b) ⟨a, by omega⟩ (fun j j1 j2 => q j (by omega))).P]
    exact h.sm i a b), (fun i a b p c g => by
    rw [e5] at b
    rw [(ms_eq (h.sp i a b) ⟨a, by omega⟩ (fun j j1 j2 => q j (by omega))).P] at c
    rw [(xp i).resolve_right (fun g => g ⟨a, b⟩)] at g
    have u0 := (h.sp i a b).p0
    have u6 := (mnx_P h (i := i) ⟨a, b⟩).p6
    have hp0 : 0 ≤ p := Int.le_trans u0 c
    have hp6 : p < 6 := Int.lt_of_lt_of_le g u6
    have ht := h.ti i a b p c g
    by_cases el : i + 1 < A 5
    · have m1 : mnx A1 i = ms A1 (i + 1) := by unfold mnx; rw [e5, if_pos el]
      have m2 : mnx A i = ms A (i + 1) := by unfold mnx; rw [if_pos el]
      rw [m2] at ht g
      rw [m1]
      exact ht.eq (ms_eq (h.sp (i + 1) (by omega) el) ⟨by omega, by omega⟩ (fun j j1 j2 => q j (by omega))) ⟨hp0, g⟩ (q _ (by omega)) (q _ (by omega))
    · exfalso
      have ei : i = A 5 - 1 := by omega
      have m2 : mnx A i = mn A := by unfold mnx; rw [if_neg el]
      rw [m2] at g
      rw [ei, hs.2] at c
      have : (mn A).P = A 1 := rfl
      omega), (by rw [q 6 (by omega)]; exact h.d0), (by rw [q 6 (by omega)]; exact h.d8), (fun i a b => by have := h.d8; rw [q 6 (by omega)] at b; rw [q (61 + 3 * i) (by omega), q (62 + 3 * i) (by omega), q (63 + 3 * i) (by omega)]; exact h.d i a b), (by rw [q 7 (by omega)]; exact h.e0), (by rw [q 7 (by omega)]; exact h.e8), (fun i a b => by have := h.e8; rw [q 7 (by omega)] at b; rw [q (85 + 2 * i) (by omega), q (86 + 2 * i) (by omega), q 1 (by omega)]; exact h.e i a b)⟩
theorem CW.nw {M M1 : mj_M} {A A1 : Int → Int} (h : CW M A) (hs : stp A) (f : Fc 10 M M1) (e : nwE A A1) (mr : MR M1 10 (mn A1)) (mi : MI (A 0) (mn A1)) : CW M1 A1 := by
  have hw := h.wr
  have hai := h.ai
  have q : ∀ j, (j < 8 ∨ (41 ≤ j ∧ j ≤ 1660) ∨ (11 ≤ j ∧ j ≤ 40 ∧ 3 ≤ (j - 11) % 5)) → A1 j = A j := fun j hj => e j (by unfold nwi; omega)
  have K : ∀ x j, (x < 10 ∨ 14 < x) ∧ x ≠ 340 → hh M1 x j = hh M x j := fun x j hx => f.h x j (by omega) hx.2
  exact ⟨h.cs.fz f.fz10 (by decide), ⟨((K 6 0 (by omega)).trans (hw.nf.trans (q 0 (by omega)).symm)), (fun i a b => (K 7 i (by omega)).trans ((hw.fk i a b).trans (q (41 + 2 * i) (by omega)).symm)), (fun i a b => (K 8 i (by omega)).trans ((hw.fl i a b).trans (q (42 + 2 * i) (by omega)).symm)), (mr), ((K 5 4 (by omega)).trans (hw.ns.trans (q 2 (by omega)).symm)), (fun i a b => by have := hai.s4; rw [q 2 (by omega)] at b; exact (K 19 i (by omega)).trans ((hw.st i a b).trans (q (57 + i) (by omega)).symm)), ((K 5 6 (by omega)).trans (hw.nt.trans (q 3 (by omega)).symm)), ((K 5 7 (by omega)).trans (hw.ru.trans (q 4 (by omega)).symm)), ((K 5 9 (by omega)).trans (hw.np.trans (q 5 (by omega)).symm)), (by rw [K 5 10 (by omega)]; exact hw.e0), (by rw [K 5 10 (by omega)]; exact hw.e3), (fun i a b => by have := hai.n3; rw [q 5 (by omega)] at b; rw [K 5 10 (by omega)]; exact ((hw.sp i a b).keep (fun x j a b => Or.inl (K x j (by omega)))).eq (ms_eq (hai.sp i a b) ⟨a, by omega⟩ (fun j j1 j2 => q j (by omega)))), ((K 15 0 (by omega)).trans (hw.nd.trans (q 6 (by omega)).symm)), (fun i a b k c e => by have := hai.d8; rw [q 6 (by omega)] at b; exact (K 16 _ (by omega)).trans ((hw.d i a b k c e).trans (q _ (by omega)).symm)), ((K 17 0 (by omega)).trans (hw.ne.trans (q 7 (by omega)).symm)), (fun i a b k c e => by have := hai.e8; rw [q 7 (by omega)] at b; exact (K 18 _ (by omega)).trans ((hw.e i a b k c e).trans (q _ (by omega)).symm))⟩, hai.nw hs e mi⟩
/-- behind a doing of both -/
theorem RR.fin {M M1 M2 : mj_M} {A1 : Int → Int} (h : RR M) (c : Cf M M1) (cw : CW M1 A1) (f : fz [3, 8, 9] M1 M2) (e : hh M2 355 = A1) (e3 : A1 3 = hh M 355 3) (co : Cok M2) : Pst RR M M2 := by
  have f12 : fz [1, 3, 8, 9] M M2 := (c.f.mono (fun z hz => by simp at hz ⊢; omega)).tr (f.mono (fun z hz => by simp at hz ⊢; omega))
  have e20 : ∀ j, hh M2 20 j = hh M1 20 j := fun j => f.h 20 j (by rw [show zone 20 j = 1 from rfl]; decide)
  have hw : WR M2 5 A1 := cw.wr.keep (fun x j a b hn => f.h x j (by
    rw [zone_5 a (by omega)]
    rcases wz_or (y := x - 5) (j := j) (by omega) with g | g <;> rw [g] <;> decide))
  refine Pst.of (h.up f12 (by rw [e]; exact hw) (by rw [e]; exact cw.ai) (by rw [e]; exact e3) (fun j => (e20 j).trans (c.t j)) co) f12
/-- taught -/
def teA (B : Int → Int) (f p q : Int) : Int → Int := up (up B (11 + 5 * q + 1) (ji_or (B (11 + 5 * q + 1)) (ji_shl 1 f))) (11 + 5 * p + 2) (B (11 + 5 * p + 2) - B (42 + 2 * f))
set_option maxRecDepth 100000 in
theorem or_all : ∀ F : Nat, F ≤ 8 → ∀ v : Nat, v < 2 ^ F → ∀ f : Nat, f < F → 0 ≤ ji_or (v : Int) (ji_shl 1 (f : Int)) ∧ ji_or (v : Int) (ji_shl 1 (f : Int)) < ((2 ^ F : Nat) : Int) := by
  intro F hF v hv f hf
  have h1 := pow30 (show f < 30 by omega)
  have hF2 := Nat.pow_le_pow_right (n := 2) (by decide) hF
  rw [ji_shl1 f (by omega), show ((2 : Int) ^ f) = ((2 ^ f : Nat) : Int) by simp, ji_or_nat (by omega) (by omega)]
  have := Nat.or_lt_two_pow (x := v) (y := 2 ^ f) (n := F) hv (Nat.pow_lt_pow_right (by decide) hf)
  omega
theorem or_r {v f F : Int} (hv : 0 ≤ v ∧ v < pw F) (hF : 0 ≤ F ∧ F ≤ 8) (hf : 0 ≤ f ∧ f < F) : 0 ≤ ji_or v (ji_shl 1 f) ∧ ji_or v (ji_shl 1 f) < pw F := by
  obtain ⟨a, rfl⟩ := nat_of hv.1
  obtain ⟨b, rfl⟩ := nat_of hf.1
  obtain ⟨G, rfl⟩ := nat_of hF.1
  have e : pw (G : Int) = ((2 ^ G : Nat) : Int) := by unfold pw; simp
  rw [e] at hv ⊢
  exact or_all G (by omega) a (by omega) b (by omega)
section Teach2
variable {X : mj_X} {d : Nat} {M : mj_M} {A : Int → Int} {Q : Option mj_V → mj_M → Prop}
theorem kst_k {j : Int} (h : AI A) (hj : j ≠ 5 ∧ (j < 101 ∨ 1661 ≤ j)) : kst A j = A j := kst_o h.n5 hj.1 hj.2
/-- teachNow of the class -/
theorem c_teachNow {B : Int → Int} {f p q : Int} {b : Int} (h : CW M B) (hs : stp B) (hf : 0 ≤ f ∧ f < B 0) (hp : 0 ≤ p ∧ p < B 1) (hq : 0 ≤ q ∧ q < B 1) (hb : B (42 + 2 * f) ≤ B (11 + 5 * p + 2)) : wp X (d + 6) 75 73 [(22, 341), (0, f), (0, p), (0, q), (0, b), (24, 10)] [] M (fun r M1 => r = some (0, 1) ∧ CW M1 (teA B f p q) ∧ Cf M M1 ∧ stp (teA B f p q)) := by
  have p6 := h.P6
  have f8 := h.ai.f8
  have f0 := h.ai.f0
  have hf8 : f < 8 := by omega
  have hp6 : p < 6 := by omega
  have hq6 : q < 6 := by omega
  have gk := h.gk hq
  have gb := h.gb hp
  have gl := h.gfl (i := f) ⟨hf.1, hf8⟩
  have br : 0 ≤ B (11 + 5 * p + 2) ∧ B (11 + 5 * p + 2) ≤ 99 := h.ai.now.b p hp.1 hp.2
  have lr := h.ai.fl f hf.1 hf8
  have kk : 0 ≤ B (11 + 5 * q + 1) ∧ B (11 + 5 * q + 1) < pw (B 0) := h.ai.now.k q hq.1 hq.2
  have ko := or_r kk ⟨f0, f8⟩ hf
  simp only [w75_73, w75_75, w75_78, w75_79, w75_80, w75_81, w75_82, w75_83, w75_84, w75_85, w75_86, w75_88, w75_91, w75_92, w75_93, w75_94, w75_95, w75_98, w75_101, w75_104, w75_105, w75_106, w75_107, w75_108, w75_0, w75_1, w75_4, w75_7, w75_9, w75_10, w75_13, w75_16, w75_17, w75_20, w75_23, w75_25, w75_26, w75_29, w75_32, w75_34, w75_35, w75_38, w75_41, w75_42, w75_43, w75_44, w75_47, w75_50, w75_51, w75_52, w75_53, w75_56, w75_59, w75_60_i, w75_60_0, w75_60_1, w75_61, w75_63, w75_66, w75_67, w75_70, w75_73, w75_75, w75_78, w75_79, w75_80, w75_81, w75_82, w75_83, w75_84, w75_85, w75_86, w75_88, w75_91, w75_92, w75_93, w75_94, w75_95, w75_98, w75_101, w75_104, w75_105, w75_106, w75_107, w75_108, w75_109_i, w75_109_0, w75_109_1, c_1_0 h.cs, c_1_1 h.cs, c_1_2 h.cs, c_1_3 h.cs, c_1_4 h.cs, c_1_5 h.cs, c_1_6 h.cs, c_1_7 h.cs, c_1_8 h.cs, c_2_0 h.cs, c_2_1 h.cs, c_5_0 h.cs, c_5_1 h.cs, c_5_2 h.cs, c_5_3 h.cs, c_5_5 h.cs, c_5_8 h.cs, c_5_11 h.cs, c_6_1 h.cs, c_6_2 h.cs, c_6_3 h.cs, c_10_4 h.cs, c_10_5 h.cs, c_10_6 h.cs, c_10_7 h.cs, c_15_1 h.cs, c_17_1 h.cs, c_339_0 h.cs, c_341_0 h.cs, c_341_1 h.cs, c_341_2 h.cs, c_342_4 h.cs, c_342_5 h.cs, c_342_6 h.cs, c_342_7 h.cs, c_347_0 h.cs, c_347_2 h.cs, c_347_3 h.cs, c_349_0 h.cs, c_349_1 h.cs, c_349_2 h.cs, c_351_2 h.cs, c_351_10 h.cs, c_351_12 h.cs, c_354_0 h.cs, c_354_1 h.cs, c_354_2 h.cs, c_354_3 h.cs, c_354_4 h.cs, c_354_5 h.cs, c_354_6 h.cs, c_354_7 h.cs, c_354_8 h.cs, c_354_20 h.cs, c_354_25 h.cs, c_354_26 h.cs, c_354_27 h.cs, c_354_28 h.cs, c_354_32 h.cs, c_354_33 h.cs, c_354_34 h.cs, c_354_35 h.cs, c_354_38 h.cs, l_3 h.cs, l_4 h.cs, l_7 h.cs, l_8 h.cs, l_9 h.cs, l_11 h.cs, l_12 h.cs, l_13 h.cs, l_14 h.cs, l_16 h.cs, l_18 h.cs, l_19 h.cs, l_20 h.cs, l_21 h.cs, l_340 h.cs, l_343 h.cs, l_344 h.cs, l_345 h.cs, l_346 h.cs, l_348 h.cs, l_350 h.cs, l_352 h.cs, l_353 h.cs, l_355 h.cs, l_356 h.cs, l_357 h.cs, l_358 h.cs, l_359 h.cs, l_360 h.cs, l_361 h.cs, l_362 h.cs, l_363 h.cs, l_364 h.cs, l_365 h.cs, l_366 h.cs, l_367 h.cs, l_368 h.cs, l_369 h.cs, l_370 h.cs, l_371 h.cs, l_372 h.cs, l_373 h.cs, h.gnf, h.gP, h.gy, h.gx, h.gt, h.gns, h.gnt, h.gru, h.gnp, h.gnd, h.gne, gk, gb, gl, hp.1, hq.1, hf.1, hp6, hq6, hf8, sj (x := B (11 + 5 * p + 2)) (y := B (42 + 2 * f)) ⟨by omega, by omega⟩, ↓reduceIte, hh_wr, hl_wr, b10, b11, ite_not, ne_eq, Int.reduceEq, Int.reduceLE, Int.reduceLT, Int.reduceNe, Int.reduceNeg, Int.reduceAdd, Int.reduceSub, Int.reduceMul, not_false_eq_true, not_true_eq_false, false_and, and_false, true_and, and_true, and_self, true_or, or_true, false_or, or_false, if_true, if_false, ite_true, ite_false, mj_tl_some, mj_tl_none, mj_cs0, mj_cs1, mj_cs2, mj_cs3, mj_cs4]
  have mr1 := MR_p (p := q) (k := 1) (v := ji_or (B (11 + 5 * q + 1)) (ji_shl 1 f)) h.wr.now h.ai.now ⟨hq.1, hq6⟩ (by decide)
  have mi1 := MI_p (p := q) (k := 1) (v := ji_or (B (11 + 5 * q + 1)) (ji_shl 1 f)) h.ai.now ⟨hq.1, hq6⟩ (by decide) (fun g => absurd g (by decide)) (fun _ => ko) (fun g => absurd g (by decide))
  have mr2 := MR_p (p := p) (k := 2) (v := B (11 + 5 * p + 2) - B (42 + 2 * f)) mr1 mi1 ⟨hp.1, hp6⟩ (by decide)
  have mi2 := MI_p (p := p) (k := 2) (v := B (11 + 5 * p + 2) - B (42 + 2 * f)) mi1 ⟨hp.1, hp6⟩ (by decide) (fun g => absurd g (by decide)) (fun g => absurd g (by decide)) (fun _ => ⟨by omega, by omega⟩)
  have fc : Fc 10 M (mj_wr (mj_wr M 12 q (ji_or (B (11 + 5 * q + 1)) (ji_shl 1 f))) 13 p (B (11 + 5 * p + 2) - B (42 + 2 * f))) := (Fc.rfl'.wr (by omega)).wr (by omega)
  have e : nwE B (teA B f p q) := (nwE.rfl'.up (nwi_k ⟨hq.1, hq6⟩ (by decide))).up (nwi_k ⟨hp.1, hp6⟩ (by decide))
  exact ⟨h.nw hs fc e mr2 mi2, Cf.fc fc, hs.of h.ai e⟩
theorem c_teaches {f p q j b : Int} {Ll : Option (Env → Int)} (h : CW M A) (hb : b = 1 ∨ (b = 0 ∧ stp A)) (t : TxL M (rul M) j 1 4 Ll) : wc X (d + 6) 75 [(22, 341), (0, f), (0, p), (0, q), (0, b)] M (fun r M1 => r = some (0, if tch A Ll f p q then 1 else 0) ∧ CW M1 (if tch A Ll f p q then teA (if b = 1 then kst A else A) f p q else A) ∧ Cf M M1 ∧ (tch A Ll f p q = true → stp (teA (if b = 1 then kst A else A) f p q))) := by
  show wp X (d + 6) 75 0 [(22, 341), (0, f), (0, p), (0, q), (0, b), (9, 0)] [] M _
  have f8 := h.ai.f8
  have no : tch A Ll f p q = false → ∀ M1, CW M1 A → Cf M M1 → wp X (d + 6) 75 59 [(22, 341), (0, f), (0, p), (0, q), (0, b), (24, 10)] [] M1 (fun r M1 => r = some (0, if tch A Ll f p q then 1 else 0) ∧ CW M1 (if tch A Ll f p q then teA (if b = 1 then kst A else A) f p q else A) ∧ Cf M M1 ∧ (tch A Ll f p q = true → stp (teA (if b = 1 then kst A else A) f p q))) := by
    intro ht M1 h1 c1
    simp only [w75_0, w75_1, w75_4, w75_7, w75_9, w75_10, w75_13, w75_16, w75_17, w75_20, w75_23, w75_25, w75_26, w75_29, w75_32, w75_34, w75_35, w75_38, w75_41, w75_42, w75_43, w75_44, w75_47, w75_50, w75_51, w75_52, w75_53, w75_56, w75_59, w75_60_i, w75_60_0, w75_60_1, w75_61, w75_63, w75_66, w75_67, w75_70, w75_73, w75_75, w75_78, w75_79, w75_80, w75_81, w75_82, w75_83, w75_84, w75_85, w75_86, w75_88, w75_91, w75_92, w75_93, w75_94, w75_95, w75_98, w75_101, w75_104, w75_105, w75_106, w75_107, w75_108, w75_109_i, w75_109_0, w75_109_1, ht, Bool.false_eq_true, ↓reduceIte, hh_wr, hl_wr, b10, b11, ite_not, ne_eq, Int.reduceEq, Int.reduceLE, Int.reduceLT, Int.reduceNe, Int.reduceNeg, Int.reduceAdd, Int.reduceSub, Int.reduceMul, not_false_eq_true, not_true_eq_false, false_and, and_false, true_and, and_true, and_self, true_or, or_true, false_or, or_false, if_true, if_false, ite_true, ite_false, mj_tl_some, mj_tl_none, mj_cs0, mj_cs1, mj_cs2, mj_cs3, mj_cs4]
    exact ⟨h1, c1, fun g => g.elim⟩
  by_cases hf : 0 ≤ f ∧ f < A 0
  · by_cases hp : 0 ≤ p ∧ p < A 1
    · by_cases hq : 0 ≤ q ∧ q < A 1
      · have et : tch A Ll f p q = (canT A f p && canL A Ll f q) := by
          unfold tch
          rw [decide_eq_true (show (0 ≤ f ∧ f < A 0) ∧ (0 ≤ p ∧ p < A 1) ∧ 0 ≤ q ∧ q < A 1 from ⟨hf, hp, hq⟩), Bool.true_and]
        have hB := fun Q => c_hasBreath (X := X) (d := d + 4) (M := M) (Q := Q) (p := p) (f := f) h hp ⟨hf.1, by omega⟩
        cases hcT : canT A f p
        · rw [hcT, Bool.false_and] at et
          simp only [hcT, Bool.false_eq_true, if_false] at hB
          simp only [w75_0, w75_1, w75_4, w75_7, w75_9, w75_10, w75_13, w75_16, w75_17, w75_20, w75_23, w75_25, w75_26, w75_29, w75_32, w75_34, w75_35, w75_38, w75_41, w75_42, w75_43, w75_44, w75_47, c_1_0 h.cs, c_1_1 h.cs, c_1_2 h.cs, c_1_3 h.cs, c_1_4 h.cs, c_1_5 h.cs, c_1_6 h.cs, c_1_7 h.cs, c_1_8 h.cs, c_2_0 h.cs, c_2_1 h.cs, c_5_0 h.cs, c_5_1 h.cs, c_5_2 h.cs, c_5_3 h.cs, c_5_5 h.cs, c_5_8 h.cs, c_5_11 h.cs, c_6_1 h.cs, c_6_2 h.cs, c_6_3 h.cs, c_10_4 h.cs, c_10_5 h.cs, c_10_6 h.cs, c_10_7 h.cs, c_15_1 h.cs, c_17_1 h.cs, c_339_0 h.cs, c_341_0 h.cs, c_341_1 h.cs, c_341_2 h.cs, c_342_4 h.cs, c_342_5 h.cs, c_342_6 h.cs, c_342_7 h.cs, c_347_0 h.cs, c_347_2 h.cs, c_347_3 h.cs, c_349_0 h.cs, c_349_1 h.cs, c_349_2 h.cs, c_351_2 h.cs, c_351_10 h.cs, c_351_12 h.cs, c_354_0 h.cs, c_354_1 h.cs, c_354_2 h.cs, c_354_3 h.cs, c_354_4 h.cs, c_354_5 h.cs, c_354_6 h.cs, c_354_7 h.cs, c_354_8 h.cs, c_354_20 h.cs, c_354_25 h.cs, c_354_26 h.cs, c_354_27 h.cs, c_354_28 h.cs, c_354_32 h.cs, c_354_33 h.cs, c_354_34 h.cs, c_354_35 h.cs, c_354_38 h.cs, l_3 h.cs, l_4 h.cs, l_7 h.cs, l_8 h.cs, l_9 h.cs, l_11 h.cs, l_12 h.cs, l_13 h.cs, l_14 h.cs, l_16 h.cs, l_18 h.cs, l_19 h.cs, l_20 h.cs, l_21 h.cs, l_340 h.cs, l_343 h.cs, l_344 h.cs, l_345 h.cs, l_346 h.cs, l_348 h.cs, l_350 h.cs, l_352 h.cs, l_353 h.cs, l_355 h.cs, l_356 h.cs, l_357 h.cs, l_358 h.cs, l_359 h.cs, l_360 h.cs, l_361 h.cs, l_362 h.cs, l_363 h.cs, l_364 h.cs, l_365 h.cs, l_366 h.cs, l_367 h.cs, l_368 h.cs, l_369 h.cs, l_370 h.cs, l_371 h.cs, l_372 h.cs, l_373 h.cs, h.gnf, h.gP, h.gy, h.gx, h.gt, h.gns, h.gnt, h.gru, h.gnp, h.gnd, h.gne, c_hasForm, c_hasPerson (c := 10) (by decide), hf, hp, hq, hB, ↓reduceIte, hh_wr, hl_wr, b10, b11, ite_not, ne_eq, Int.reduceEq, Int.reduceLE, Int.reduceLT, Int.reduceNe, Int.reduceNeg, Int.reduceAdd, Int.reduceSub, Int.reduceMul, not_false_eq_true, not_true_eq_false, false_and, and_false, true_and, and_true, and_self, true_or, or_true, false_or, or_false, if_true, if_false, ite_true, ite_false, mj_tl_some, mj_tl_none, mj_cs0, mj_cs1, mj_cs2, mj_cs3, mj_cs4]
          exact no et M h Cf.rfl'
        · rw [hcT, Bool.true_and] at et
          simp only [hcT, if_true] at hB
          simp only [w75_0, w75_1, w75_4, w75_7, w75_9, w75_10, w75_13, w75_16, w75_17, w75_20, w75_23, w75_25, w75_26, w75_29, w75_32, w75_34, w75_35, w75_38, w75_41, w75_42, w75_43, w75_44, w75_47, w75_50, w75_51, w75_52, w75_53, c_1_0 h.cs, c_1_1 h.cs, c_1_2 h.cs, c_1_3 h.cs, c_1_4 h.cs, c_1_5 h.cs, c_1_6 h.cs, c_1_7 h.cs, c_1_8 h.cs, c_2_0 h.cs, c_2_1 h.cs, c_5_0 h.cs, c_5_1 h.cs, c_5_2 h.cs, c_5_3 h.cs, c_5_5 h.cs, c_5_8 h.cs, c_5_11 h.cs, c_6_1 h.cs, c_6_2 h.cs, c_6_3 h.cs, c_10_4 h.cs, c_10_5 h.cs, c_10_6 h.cs, c_10_7 h.cs, c_15_1 h.cs, c_17_1 h.cs, c_339_0 h.cs, c_341_0 h.cs, c_341_1 h.cs, c_341_2 h.cs, c_342_4 h.cs, c_342_5 h.cs, c_342_6 h.cs, c_342_7 h.cs, c_347_0 h.cs, c_347_2 h.cs, c_347_3 h.cs, c_349_0 h.cs, c_349_1 h.cs, c_349_2 h.cs, c_351_2 h.cs, c_351_10 h.cs, c_351_12 h.cs, c_354_0 h.cs, c_354_1 h.cs, c_354_2 h.cs, c_354_3 h.cs, c_354_4 h.cs, c_354_5 h.cs, c_354_6 h.cs, c_354_7 h.cs, c_354_8 h.cs, c_354_20 h.cs, c_354_25 h.cs, c_354_26 h.cs, c_354_27 h.cs, c_354_28 h.cs, c_354_32 h.cs, c_354_33 h.cs, c_354_34 h.cs, c_354_35 h.cs, c_354_38 h.cs, l_3 h.cs, l_4 h.cs, l_7 h.cs, l_8 h.cs, l_9 h.cs, l_11 h.cs, l_12 h.cs, l_13 h.cs, l_14 h.cs, l_16 h.cs, l_18 h.cs, l_19 h.cs, l_20 h.cs, l_21 h.cs, l_340 h.cs, l_343 h.cs, l_344 h.cs, l_345 h.cs, l_346 h.cs, l_348 h.cs, l_350 h.cs, l_352 h.cs, l_353 h.cs, l_355 h.cs, l_356 h.cs, l_357 h.cs, l_358 h.cs, l_359 h.cs, l_360 h.cs, l_361 h.cs, l_362 h.cs, l_363 h.cs, l_364 h.cs, l_365 h.cs, l_366 h.cs, l_367 h.cs, l_368 h.cs, l_369 h.cs, l_370 h.cs, l_371 h.cs, l_372 h.cs, l_373 h.cs, h.gnf, h.gP, h.gy, h.gx, h.gt, h.gns, h.gnt, h.gru, h.gnp, h.gnd, h.gne, c_hasForm, c_hasPerson (c := 10) (by decide), hf, hp, hq, hB, ↓reduceIte, hh_wr, hl_wr, b10, b11, ite_not, ne_eq, Int.reduceEq, Int.reduceLE, Int.reduceLT, Int.reduceNe, Int.reduceNeg, Int.reduceAdd, Int.reduceSub, Int.reduceMul, not_false_eq_true, not_true_eq_false, false_and, and_false, true_and, and_true, and_self, true_or, or_true, false_or, or_false, if_true, if_false, ite_true, ite_false, mj_tl_some, mj_tl_none, mj_cs0, mj_cs1, mj_cs2, mj_cs3, mj_cs4]
          refine wc.mono (c_canLearn (d := d + 1) h hq ⟨hf.1, by omega⟩ t) ?_
          rintro r M1 ⟨rfl, sk⟩
          have f1 := sk.fz z340
          have h1 := h.s8 f1
          cases hcL : canL A Ll f q
          · rw [hcL] at et
            simp only [w75_56, Bool.false_eq_true, ↓reduceIte, hh_wr, hl_wr, b10, b11, ite_not, ne_eq, Int.reduceEq, Int.reduceLE, Int.reduceLT, Int.reduceNe, Int.reduceNeg, Int.reduceAdd, Int.reduceSub, Int.reduceMul, not_false_eq_true, not_true_eq_false, false_and, and_false, true_and, and_true, and_self, true_or, or_true, false_or, or_false, if_true, if_false, ite_true, ite_false, mj_tl_some, mj_tl_none, mj_cs0, mj_cs1, mj_cs2, mj_cs3, mj_cs4]
            exact no et M1 h1 (Cf.s8 f1)
          · rw [hcL] at et
            have hbr : A (42 + 2 * f) ≤ A (11 + 5 * p + 2) := by
              unfold canT at hcT
              rw [Bool.and_eq_true] at hcT
              exact of_decide_eq_true hcT.2
            rcases hb with rfl | ⟨rfl, hst⟩
            · simp only [w75_56, w75_61, w75_63, w75_66, w75_67, w75_70, c_1_0 h1.cs, c_1_1 h1.cs, c_1_2 h1.cs, c_1_3 h1.cs, c_1_4 h1.cs, c_1_5 h1.cs, c_1_6 h1.cs, c_1_7 h1.cs, c_1_8 h1.cs, c_2_0 h1.cs, c_2_1 h1.cs, c_5_0 h1.cs, c_5_1 h1.cs, c_5_2 h1.cs, c_5_3 h1.cs, c_5_5 h1.cs, c_5_8 h1.cs, c_5_11 h1.cs, c_6_1 h1.cs, c_6_2 h1.cs, c_6_3 h1.cs, c_10_4 h1.cs, c_10_5 h1.cs, c_10_6 h1.cs, c_10_7 h1.cs, c_15_1 h1.cs, c_17_1 h1.cs, c_339_0 h1.cs, c_341_0 h1.cs, c_341_1 h1.cs, c_341_2 h1.cs, c_342_4 h1.cs, c_342_5 h1.cs, c_342_6 h1.cs, c_342_7 h1.cs, c_347_0 h1.cs, c_347_2 h1.cs, c_347_3 h1.cs, c_349_0 h1.cs, c_349_1 h1.cs, c_349_2 h1.cs, c_351_2 h1.cs, c_351_10 h1.cs, c_351_12 h1.cs, c_354_0 h1.cs, c_354_1 h1.cs, c_354_2 h1.cs, c_354_3 h1.cs, c_354_4 h1.cs, c_354_5 h1.cs, c_354_6 h1.cs, c_354_7 h1.cs, c_354_8 h1.cs, c_354_20 h1.cs, c_354_25 h1.cs, c_354_26 h1.cs, c_354_27 h1.cs, c_354_28 h1.cs, c_354_32 h1.cs, c_354_33 h1.cs, c_354_34 h1.cs, c_354_35 h1.cs, c_354_38 h1.cs, l_3 h1.cs, l_4 h1.cs, l_7 h1.cs, l_8 h1.cs, l_9 h1.cs, l_11 h1.cs, l_12 h1.cs, l_13 h1.cs, l_14 h1.cs, l_16 h1.cs, l_18 h1.cs, l_19 h1.cs, l_20 h1.cs, l_21 h1.cs, l_340 h1.cs, l_343 h1.cs, l_344 h1.cs, l_345 h1.cs, l_346 h1.cs, l_348 h1.cs, l_350 h1.cs, l_352 h1.cs, l_353 h1.cs, l_355 h1.cs, l_356 h1.cs, l_357 h1.cs, l_358 h1.cs, l_359 h1.cs, l_360 h1.cs, l_361 h1.cs, l_362 h1.cs, l_363 h1.cs, l_364 h1.cs, l_365 h1.cs, l_366 h1.cs, l_367 h1.cs, l_368 h1.cs, l_369 h1.cs, l_370 h1.cs, l_371 h1.cs, l_372 h1.cs, l_373 h1.cs, h1.gnf, h1.gP, h1.gy, h1.gx, h1.gt, h1.gns, h1.gnt, h1.gru, h1.gnp, h1.gnd, h1.gne, ↓reduceIte, hh_wr, hl_wr, b10, b11, ite_not, ne_eq, Int.reduceEq, Int.reduceLE, Int.reduceLT, Int.reduceNe, Int.reduceNeg, Int.reduceAdd, Int.reduceSub, Int.reduceMul, not_false_eq_true, not_true_eq_false, false_and, and_false, true_and, and_true, and_self, true_or, or_true, false_or, or_false, if_true, if_false, ite_true, ite_false, mj_tl_some, mj_tl_none, mj_cs0, mj_cs1, mj_cs2, mj_cs3, mj_cs4]
              refine wc.mono (c_addStep (d := d + 3) h1) ?_
              rintro r M2 ⟨rfl, h2, c2⟩
              simp only [mj_tl_none]
              have k := fun j hj => kst_k (j := j) h.ai hj
              have p6 := h.P6
              refine wp.mono (c_teachNow h2 (kst_stp h1.ai) (by rw [k 0 (by omega)]; exact hf) (by rw [k 1 (by omega)]; exact hp) (by rw [k 1 (by omega)]; exact hq) (by rw [k (42 + 2 * f) (by omega), k (11 + 5 * p + 2) (by omega)]; exact hbr)) ?_
              rintro r M3 ⟨rfl, h3, c3, s3⟩
              rw [et]
              exact ⟨rfl, h3, ((Cf.s8 f1).tr c2).tr c3, fun _ => s3⟩
            · simp only [w75_56, w75_61, w75_63, ↓reduceIte, hh_wr, hl_wr, b10, b11, ite_not, ne_eq, Int.reduceEq, Int.reduceLE, Int.reduceLT, Int.reduceNe, Int.reduceNeg, Int.reduceAdd, Int.reduceSub, Int.reduceMul, not_false_eq_true, not_true_eq_false, false_and, and_false, true_and, and_true, and_self, true_or, or_true, false_or, or_false, if_true, if_false, ite_true, ite_false, mj_tl_some, mj_tl_none, mj_cs0, mj_cs1, mj_cs2, mj_cs3, mj_cs4]
              refine wp.mono (c_teachNow h1 hst hf hp hq hbr) ?_
              rintro r M3 ⟨rfl, h3, c3, s3⟩
              rw [et]
              exact ⟨rfl, h3, (Cf.s8 f1).tr c3, fun _ => s3⟩
      · have et : tch A Ll f p q = false := by
          unfold tch
          rw [decide_eq_false (fun g => hq g.2.2)]; rfl
        simp only [w75_0, w75_1, w75_4, w75_7, w75_9, w75_10, w75_13, w75_16, w75_17, w75_20, w75_23, w75_25, w75_26, w75_29, w75_32, w75_34, w75_35, w75_38, c_1_0 h.cs, c_1_1 h.cs, c_1_2 h.cs, c_1_3 h.cs, c_1_4 h.cs, c_1_5 h.cs, c_1_6 h.cs, c_1_7 h.cs, c_1_8 h.cs, c_2_0 h.cs, c_2_1 h.cs, c_5_0 h.cs, c_5_1 h.cs, c_5_2 h.cs, c_5_3 h.cs, c_5_5 h.cs, c_5_8 h.cs, c_5_11 h.cs, c_6_1 h.cs, c_6_2 h.cs, c_6_3 h.cs, c_10_4 h.cs, c_10_5 h.cs, c_10_6 h.cs, c_10_7 h.cs, c_15_1 h.cs, c_17_1 h.cs, c_339_0 h.cs, c_341_0 h.cs, c_341_1 h.cs, c_341_2 h.cs, c_342_4 h.cs, c_342_5 h.cs, c_342_6 h.cs, c_342_7 h.cs, c_347_0 h.cs, c_347_2 h.cs, c_347_3 h.cs, c_349_0 h.cs, c_349_1 h.cs, c_349_2 h.cs, c_351_2 h.cs, c_351_10 h.cs, c_351_12 h.cs, c_354_0 h.cs, c_354_1 h.cs, c_354_2 h.cs, c_354_3 h.cs, c_354_4 h.cs, c_354_5 h.cs, c_354_6 h.cs, c_354_7 h.cs, c_354_8 h.cs, c_354_20 h.cs, c_354_25 h.cs, c_354_26 h.cs, c_354_27 h.cs, c_354_28 h.cs, c_354_32 h.cs, c_354_33 h.cs, c_354_34 h.cs, c_354_35 h.cs, c_354_38 h.cs, l_3 h.cs, l_4 h.cs, l_7 h.cs, l_8 h.cs, l_9 h.cs, l_11 h.cs, l_12 h.cs, l_13 h.cs, l_14 h.cs, l_16 h.cs, l_18 h.cs, l_19 h.cs, l_20 h.cs, l_21 h.cs, l_340 h.cs, l_343 h.cs, l_344 h.cs, l_345 h.cs, l_346 h.cs, l_348 h.cs, l_350 h.cs, l_352 h.cs, l_353 h.cs, l_355 h.cs, l_356 h.cs, l_357 h.cs, l_358 h.cs, l_359 h.cs, l_360 h.cs, l_361 h.cs, l_362 h.cs, l_363 h.cs, l_364 h.cs, l_365 h.cs, l_366 h.cs, l_367 h.cs, l_368 h.cs, l_369 h.cs, l_370 h.cs, l_371 h.cs, l_372 h.cs, l_373 h.cs, h.gnf, h.gP, h.gy, h.gx, h.gt, h.gns, h.gnt, h.gru, h.gnp, h.gnd, h.gne, c_hasForm, c_hasPerson (c := 10) (by decide), hf, hp, hq, ↓reduceIte, hh_wr, hl_wr, b10, b11, ite_not, ne_eq, Int.reduceEq, Int.reduceLE, Int.reduceLT, Int.reduceNe, Int.reduceNeg, Int.reduceAdd, Int.reduceSub, Int.reduceMul, not_false_eq_true, not_true_eq_false, false_and, and_false, true_and, and_true, and_self, true_or, or_true, false_or, or_false, if_true, if_false, ite_true, ite_false, mj_tl_some, mj_tl_none, mj_cs0, mj_cs1, mj_cs2, mj_cs3, mj_cs4]
        exact no et M h Cf.rfl'
    · have et : tch A Ll f p q = false := by
        unfold tch
        rw [decide_eq_false (fun g => hp g.2.1)]; rfl
      simp only [w75_0, w75_1, w75_4, w75_7, w75_9, w75_10, w75_13, w75_16, w75_17, w75_20, w75_23, w75_25, w75_26, w75_29, c_1_0 h.cs, c_1_1 h.cs, c_1_2 h.cs, c_1_3 h.cs, c_1_4 h.cs, c_1_5 h.cs, c_1_6 h.cs, c_1_7 h.cs, c_1_8 h.cs, c_2_0 h.cs, c_2_1 h.cs, c_5_0 h.cs, c_5_1 h.cs, c_5_2 h.cs, c_5_3 h.cs, c_5_5 h.cs, c_5_8 h.cs, c_5_11 h.cs, c_6_1 h.cs, c_6_2 h.cs, c_6_3 h.cs, c_10_4 h.cs, c_10_5 h.cs, c_10_6 h.cs, c_10_7 h.cs, c_15_1 h.cs, c_17_1 h.cs, c_339_0 h.cs, c_341_0 h.cs, c_341_1 h.cs, c_341_2 h.cs, c_342_4 h.cs, c_342_5 h.cs, c_342_6 h.cs, c_342_7 h.cs, c_347_0 h.cs, c_347_2 h.cs, c_347_3 h.cs, c_349_0 h.cs, c_349_1 h.cs, c_349_2 h.cs, c_351_2 h.cs, c_351_10 h.cs, c_351_12 h.cs, c_354_0 h.cs, c_354_1 h.cs, c_354_2 h.cs, c_354_3 h.cs, c_354_4 h.cs, c_354_5 h.cs, c_354_6 h.cs, c_354_7 h.cs, c_354_8 h.cs, c_354_20 h.cs, c_354_25 h.cs, c_354_26 h.cs, c_354_27 h.cs, c_354_28 h.cs, c_354_32 h.cs, c_354_33 h.cs, c_354_34 h.cs, c_354_35 h.cs, c_354_38 h.cs, l_3 h.cs, l_4 h.cs, l_7 h.cs, l_8 h.cs, l_9 h.cs, l_11 h.cs, l_12 h.cs, l_13 h.cs, l_14 h.cs, l_16 h.cs, l_18 h.cs, l_19 h.cs, l_20 h.cs, l_21 h.cs, l_340 h.cs, l_343 h.cs, l_344 h.cs, l_345 h.cs, l_346 h.cs, l_348 h.cs, l_350 h.cs, l_352 h.cs, l_353 h.cs, l_355 h.cs, l_356 h.cs, l_357 h.cs, l_358 h.cs, l_359 h.cs, l_360 h.cs, l_361 h.cs, l_362 h.cs, l_363 h.cs, l_364 h.cs, l_365 h.cs, l_366 h.cs, l_367 h.cs, l_368 h.cs, l_369 h.cs, l_370 h.cs, l_371 h.cs, l_372 h.cs, l_373 h.cs, h.gnf, h.gP, h.gy, h.gx, h.gt, h.gns, h.gnt, h.gru, h.gnp, h.gnd, h.gne, c_hasForm, c_hasPerson (c := 10) (by decide), hf, hp, ↓reduceIte, hh_wr, hl_wr, b10, b11, ite_not, ne_eq, Int.reduceEq, Int.reduceLE, Int.reduceLT, Int.reduceNe, Int.reduceNeg, Int.reduceAdd, Int.reduceSub, Int.reduceMul, not_false_eq_true, not_true_eq_false, false_and, and_false, true_and, and_true, and_self, true_or, or_true, false_or, or_false, if_true, if_false, ite_true, ite_false, mj_tl_some, mj_tl_none, mj_cs0, mj_cs1, mj_cs2, mj_cs3, mj_cs4]
      exact no et M h Cf.rfl'
  · have et : tch A Ll f p q = false := by
      unfold tch
      rw [decide_eq_false (fun g => hf g.1)]; rfl
    simp only [w75_0, w75_1, w75_4, w75_7, w75_9, w75_10, w75_13, w75_16, w75_17, w75_20, c_1_0 h.cs, c_1_1 h.cs, c_1_2 h.cs, c_1_3 h.cs, c_1_4 h.cs, c_1_5 h.cs, c_1_6 h.cs, c_1_7 h.cs, c_1_8 h.cs, c_2_0 h.cs, c_2_1 h.cs, c_5_0 h.cs, c_5_1 h.cs, c_5_2 h.cs, c_5_3 h.cs, c_5_5 h.cs, c_5_8 h.cs, c_5_11 h.cs, c_6_1 h.cs, c_6_2 h.cs, c_6_3 h.cs, c_10_4 h.cs, c_10_5 h.cs, c_10_6 h.cs, c_10_7 h.cs, c_15_1 h.cs, c_17_1 h.cs, c_339_0 h.cs, c_341_0 h.cs, c_341_1 h.cs, c_341_2 h.cs, c_342_4 h.cs, c_342_5 h.cs, c_342_6 h.cs, c_342_7 h.cs, c_347_0 h.cs, c_347_2 h.cs, c_347_3 h.cs, c_349_0 h.cs, c_349_1 h.cs, c_349_2 h.cs, c_351_2 h.cs, c_351_10 h.cs, c_351_12 h.cs, c_354_0 h.cs, c_354_1 h.cs, c_354_2 h.cs, c_354_3 h.cs, c_354_4 h.cs, c_354_5 h.cs, c_354_6 h.cs, c_354_7 h.cs, c_354_8 h.cs, c_354_20 h.cs, c_354_25 h.cs, c_354_26 h.cs, c_354_27 h.cs, c_354_28 h.cs, c_354_32 h.cs, c_354_33 h.cs, c_354_34 h.cs, c_354_35 h.cs, c_354_38 h.cs, l_3 h.cs, l_4 h.cs, l_7 h.cs, l_8 h.cs, l_9 h.cs, l_11 h.cs, l_12 h.cs, l_13 h.cs, l_14 h.cs, l_16 h.cs, l_18 h.cs, l_19 h.cs, l_20 h.cs, l_21 h.cs, l_340 h.cs, l_343 h.cs, l_344 h.cs, l_345 h.cs, l_346 h.cs, l_348 h.cs, l_350 h.cs, l_352 h.cs, l_353 h.cs, l_355 h.cs, l_356 h.cs, l_357 h.cs, l_358 h.cs, l_359 h.cs, l_360 h.cs, l_361 h.cs, l_362 h.cs, l_363 h.cs, l_364 h.cs, l_365 h.cs, l_366 h.cs, l_367 h.cs, l_368 h.cs, l_369 h.cs, l_370 h.cs, l_371 h.cs, l_372 h.cs, l_373 h.cs, h.gnf, h.gP, h.gy, h.gx, h.gt, h.gns, h.gnt, h.gru, h.gnp, h.gnd, h.gne, c_hasForm, hf, ↓reduceIte, hh_wr, hl_wr, b10, b11, ite_not, ne_eq, Int.reduceEq, Int.reduceLE, Int.reduceLT, Int.reduceNe, Int.reduceNeg, Int.reduceAdd, Int.reduceSub, Int.reduceMul, not_false_eq_true, not_true_eq_false, false_and, and_false, true_and, and_true, and_self, true_or, or_true, false_or, or_false, if_true, if_false, ite_true, ite_false, mj_tl_some, mj_tl_none, mj_cs0, mj_cs1, mj_cs2, mj_cs3, mj_cs4]
    exact no et M h Cf.rfl'
/-- the reference -/
theorem m_teachNow {f p q : Int} (hc : CS M) (hf : 0 ≤ f ∧ f < 8) (hp : 0 ≤ p ∧ p < 6) (hq : 0 ≤ q ∧ q < 6) (br : 0 ≤ hh M 355 (11 + 5 * p + 2) ∧ hh M 355 (11 + 5 * p + 2) ≤ 99) (lr : 0 ≤ hh M 355 (42 + 2 * f) ∧ hh M 355 (42 + 2 * f) ≤ 9) : wc X (d + 1) 278 [(32, 354), (0, f), (0, p), (0, q)] M (fun r M1 => r = none ∧ fz [3] M M1 ∧ hh M1 355 = teA (hh M 355) f p q) := by
  show wp X (d + 1) 278 0 [(32, 354), (0, f), (0, p), (0, q)] [] M _
  have g1 := fun Q => m_get (X := X) (d := d) (M := M) (Q := Q) (p := q) (w := 1) hc hq (by decide)
  have p1 := fun Q => m_put (X := X) (d := d) (M := M) (Q := Q) (p := q) (w := 1) (v := ji_or (hh M 355 (11 + 5 * q + 1)) (ji_shl 1 f)) hc hq (by decide)
  have hc1 := cs355 (i := 11 + 5 * q + 1) (v := ji_or (hh M 355 (11 + 5 * q + 1)) (ji_shl 1 f)) hc
  have g2 := fun Q => m_get (X := X) (d := d) (M := mj_wr M 355 (11 + 5 * q + 1) (ji_or (hh M 355 (11 + 5 * q + 1)) (ji_shl 1 f))) (Q := Q) (p := p) (w := 2) hc1 hp (by decide)
  have g3 := fun Q => m_lengthOf (X := X) (d := d) (M := mj_wr M 355 (11 + 5 * q + 1) (ji_or (hh M 355 (11 + 5 * q + 1)) (ji_shl 1 f))) (Q := Q) (f := f) hc1 hf
  rw [row_wr, up_ne (by omega)] at g2 g3
  rw [show 41 + 2 * f + 1 = 42 + 2 * f by omega] at g3
  have p2 := fun Q => m_put (X := X) (d := d) (M := mj_wr M 355 (11 + 5 * q + 1) (ji_or (hh M 355 (11 + 5 * q + 1)) (ji_shl 1 f))) (Q := Q) (p := p) (w := 2) (v := hh M 355 (11 + 5 * p + 2) - hh M 355 (42 + 2 * f)) hc1 hp (by decide)
  simp only [w278_0, w278_1, w278_2, w278_3, w278_4, w278_5, w278_6, w278_9, w278_10, w278_11, w278_12, w278_13, w278_16, w278_17, w278_18, w278_19, w278_20, w278_21, w278_22, w278_25, w278_26, w278_27, w278_30, w278_31, w278_34, g1, p1, g2, g3, p2, sj (x := hh M 355 (11 + 5 * p + 2)) (y := hh M 355 (42 + 2 * f)) ⟨by omega, by omega⟩, ↓reduceIte, hh_wr, hl_wr, b10, b11, ite_not, ne_eq, Int.reduceEq, Int.reduceLE, Int.reduceLT, Int.reduceNe, Int.reduceNeg, Int.reduceAdd, Int.reduceSub, Int.reduceMul, not_false_eq_true, not_true_eq_false, false_and, and_false, true_and, and_true, and_self, true_or, or_true, false_or, or_false, if_true, if_false, ite_true, ite_false, mj_tl_some, mj_tl_none, mj_cs0, mj_cs1, mj_cs2, mj_cs3, mj_cs4]
  refine ⟨(fz.rfl'.wr (z355m (by decide) _)).wr (z355m (by decide) _), ?_⟩
  rw [row_wr, row_wr]
  rfl
theorem m_teach {f p q r : Int} {Ll : Option (Env → Int)} (hc : CS M) (ai : AI (hh M 355)) (t : TxL M r (hh M 355 4) 1 4 Ll) : wc X (d + 8) 259 [(32, 354), (0, f), (0, p), (0, q)] M (fun s M1 => s = some (0, if tch (hh M 355) Ll f p q then 1 else 0) ∧ fz [3, 8] M M1 ∧ hh M1 355 = if tch (hh M 355) Ll f p q then teA (kst (hh M 355)) f p q else hh M 355) := by
  show wp X (d + 8) 259 0 [(32, 354), (0, f), (0, p), (0, q)] [] M _
  simp only [w259_0, w259_1, w259_2, w259_3, w259_4, ↓reduceIte, hh_wr, hl_wr, b10, b11, ite_not, ne_eq, Int.reduceEq, Int.reduceLE, Int.reduceLT, Int.reduceNe, Int.reduceNeg, Int.reduceAdd, Int.reduceSub, Int.reduceMul, not_false_eq_true, not_true_eq_false, false_and, and_false, true_and, and_true, and_self, true_or, or_true, false_or, or_false, if_true, if_false, ite_true, ite_false, mj_tl_some, mj_tl_none, mj_cs0, mj_cs1, mj_cs2, mj_cs3, mj_cs4]
  refine wc.mono (m_canTeach (d := d) hc ai t) ?_
  rintro s M1 ⟨rfl, f1⟩
  have e5 := fz8_355 f1
  have hc1 := hc.fz f1 (by decide)
  have f1' : fz [3, 8] M M1 := f1.mono (fun z hz => by simp at hz; subst hz; decide)
  cases ht : tch (hh M 355) Ll f p q
  · simp only [w259_0, w259_1, w259_2, w259_3, w259_4, w259_7, w259_10, w259_11_i, w259_11_0, w259_11_1, w259_12, w259_13, w259_16, w259_17, w259_18, w259_19, w259_20, w259_23, w259_24_i, w259_24_0, w259_24_1, Bool.false_eq_true, ↓reduceIte, hh_wr, hl_wr, b10, b11, ite_not, ne_eq, Int.reduceEq, Int.reduceLE, Int.reduceLT, Int.reduceNe, Int.reduceNeg, Int.reduceAdd, Int.reduceSub, Int.reduceMul, not_false_eq_true, not_true_eq_false, false_and, and_false, true_and, and_true, and_self, true_or, or_true, false_or, or_false, if_true, if_false, ite_true, ite_false, mj_tl_some, mj_tl_none, mj_cs0, mj_cs1, mj_cs2, mj_cs3, mj_cs4]
    exact ⟨f1', e5⟩
  · have hd : (0 ≤ f ∧ f < hh M 355 0) ∧ (0 ≤ p ∧ p < hh M 355 1) ∧ 0 ≤ q ∧ q < hh M 355 1 := by
      unfold tch at ht
      rw [Bool.and_eq_true] at ht
      exact of_decide_eq_true ht.1
    obtain ⟨hf, hp, hq⟩ := hd
    have f8 := ai.f8
    have p6 : hh M 355 1 ≤ 6 := ai.now.p6
    simp only [w259_7, w259_12, w259_13, ↓reduceIte, hh_wr, hl_wr, b10, b11, ite_not, ne_eq, Int.reduceEq, Int.reduceLE, Int.reduceLT, Int.reduceNe, Int.reduceNeg, Int.reduceAdd, Int.reduceSub, Int.reduceMul, not_false_eq_true, not_true_eq_false, false_and, and_false, true_and, and_true, and_self, true_or, or_true, false_or, or_false, if_true, if_false, ite_true, ite_false, mj_tl_some, mj_tl_none, mj_cs0, mj_cs1, mj_cs2, mj_cs3, mj_cs4]
    refine wc.mono (m_keepStep (d := d + 6) hc1 (by rw [e5]; exact ai.n5)) ?_
    rintro s M2 ⟨rfl, f2, r2⟩
    rw [e5] at r2
    have hc2 := hc1.fz f2 (by decide)
    have k := fun j hj => kst_k (j := j) ai hj
    have br : 0 ≤ hh M 355 (11 + 5 * p + 2) ∧ hh M 355 (11 + 5 * p + 2) ≤ 99 := ai.now.b p hp.1 hp.2
    have lr := ai.fl f hf.1 (by omega)
    simp only [w259_16, w259_17, w259_18, w259_19, w259_20, ↓reduceIte, hh_wr, hl_wr, b10, b11, ite_not, ne_eq, Int.reduceEq, Int.reduceLE, Int.reduceLT, Int.reduceNe, Int.reduceNeg, Int.reduceAdd, Int.reduceSub, Int.reduceMul, not_false_eq_true, not_true_eq_false, false_and, and_false, true_and, and_true, and_self, true_or, or_true, false_or, or_false, if_true, if_false, ite_true, ite_false, mj_tl_some, mj_tl_none, mj_cs0, mj_cs1, mj_cs2, mj_cs3, mj_cs4]
    refine wc.mono (m_teachNow (d := d + 6) hc2 ⟨hf.1, by omega⟩ ⟨hp.1, by omega⟩ ⟨hq.1, by omega⟩ (by rw [r2, k _ (by omega)]; exact br) (by rw [r2, k _ (by omega)]; exact lr)) ?_
    rintro s M3 ⟨rfl, f3, r3⟩
    simp only [w259_0, w259_1, w259_2, w259_3, w259_4, w259_7, w259_10, w259_11_i, w259_11_0, w259_11_1, w259_12, w259_13, w259_16, w259_17, w259_18, w259_19, w259_20, w259_23, w259_24_i, w259_24_0, w259_24_1, ↓reduceIte, hh_wr, hl_wr, b10, b11, ite_not, ne_eq, Int.reduceEq, Int.reduceLE, Int.reduceLT, Int.reduceNe, Int.reduceNeg, Int.reduceAdd, Int.reduceSub, Int.reduceMul, not_false_eq_true, not_true_eq_false, false_and, and_false, true_and, and_true, and_self, true_or, or_true, false_or, or_false, if_true, if_false, ite_true, ite_false, mj_tl_some, mj_tl_none, mj_cs0, mj_cs1, mj_cs2, mj_cs3, mj_cs4]
    exact ⟨(f1'.tr (f2.mono (fun z hz => by simp at hz; subst hz; decide))).tr (f3.mono (fun z hz => by simp at hz; subst hz; decide)), by rw [r3, r2]⟩
theorem st8 : St8 RR (d + 60) := by
  intro X M f p q h i1 i2 i3
  obtain ⟨Lf, Ll, t0, t1⟩ := h.lw
  unfold LS2
  show wp X (d + 60) 74 0 [(31, 1), (0, f), (0, p), (0, q)] [] M _
  simp only [w74_0, w74_1, w74_4, w74_5, w74_6, w74_7, w74_8, c_1_0 h.cs, c_1_1 h.cs, c_1_2 h.cs, c_1_3 h.cs, c_1_4 h.cs, c_1_5 h.cs, c_1_6 h.cs, c_1_7 h.cs, c_1_8 h.cs, c_2_0 h.cs, c_2_1 h.cs, c_5_0 h.cs, c_5_1 h.cs, c_5_2 h.cs, c_5_3 h.cs, c_5_5 h.cs, c_5_8 h.cs, c_5_11 h.cs, c_6_1 h.cs, c_6_2 h.cs, c_6_3 h.cs, c_10_4 h.cs, c_10_5 h.cs, c_10_6 h.cs, c_10_7 h.cs, c_15_1 h.cs, c_17_1 h.cs, c_339_0 h.cs, c_341_0 h.cs, c_341_1 h.cs, c_341_2 h.cs, c_342_4 h.cs, c_342_5 h.cs, c_342_6 h.cs, c_342_7 h.cs, c_347_0 h.cs, c_347_2 h.cs, c_347_3 h.cs, c_349_0 h.cs, c_349_1 h.cs, c_349_2 h.cs, c_351_2 h.cs, c_351_10 h.cs, c_351_12 h.cs, c_354_0 h.cs, c_354_1 h.cs, c_354_2 h.cs, c_354_3 h.cs, c_354_4 h.cs, c_354_5 h.cs, c_354_6 h.cs, c_354_7 h.cs, c_354_8 h.cs, c_354_20 h.cs, c_354_25 h.cs, c_354_26 h.cs, c_354_27 h.cs, c_354_28 h.cs, c_354_32 h.cs, c_354_33 h.cs, c_354_34 h.cs, c_354_35 h.cs, c_354_38 h.cs, l_3 h.cs, l_4 h.cs, l_7 h.cs, l_8 h.cs, l_9 h.cs, l_11 h.cs, l_12 h.cs, l_13 h.cs, l_14 h.cs, l_16 h.cs, l_18 h.cs, l_19 h.cs, l_20 h.cs, l_21 h.cs, l_340 h.cs, l_343 h.cs, l_344 h.cs, l_345 h.cs, l_346 h.cs, l_348 h.cs, l_350 h.cs, l_352 h.cs, l_353 h.cs, l_355 h.cs, l_356 h.cs, l_357 h.cs, l_358 h.cs, l_359 h.cs, l_360 h.cs, l_361 h.cs, l_362 h.cs, l_363 h.cs, l_364 h.cs, l_365 h.cs, l_366 h.cs, l_367 h.cs, l_368 h.cs, l_369 h.cs, l_370 h.cs, l_371 h.cs, l_372 h.cs, l_373 h.cs, h.gnf, h.gP, h.gy, h.gx, h.gt, h.gns, h.gnt, h.gru, h.gnp, h.gnd, h.gne, ↓reduceIte, hh_wr, hl_wr, b10, b11, ite_not, ne_eq, Int.reduceEq, Int.reduceLE, Int.reduceLT, Int.reduceNe, Int.reduceNeg, Int.reduceAdd, Int.reduceSub, Int.reduceMul, not_false_eq_true, not_true_eq_false, false_and, and_false, true_and, and_true, and_self, true_or, or_true, false_or, or_false, if_true, if_false, ite_true, ite_false, mj_tl_some, mj_tl_none, mj_cs0, mj_cs1, mj_cs2, mj_cs3, mj_cs4]
  refine wc.mono (c_teaches (d := d + 53) h.cw (Or.inl rfl) t1) ?_
  rintro r M1 ⟨rfl, h1, c1, _⟩
  have e5 : hh M1 355 = hh M 355 := c1.f.row z_355 (by decide)
  have hc1 := h1.cs
  have t1' := t1.fz c1.f (by decide)
  rw [← e5] at t1'
  have sb : (if tch (hh M 355) Ll f p q then (1 : Int) else 0) = 0 ∨ (if tch (hh M 355) Ll f p q then (1 : Int) else 0) = 1 := by split <;> simp
  have rt : ∀ v : Int, v = 0 ∨ v = 1 → ∀ Q, (wp X (d + 60) 74 11 [(31, 1), (0, f), (0, p), (0, q)] [(0, v)] M1 Q ↔ Q (some (0, v)) M1) := by
    rintro v (rfl | rfl) Q
    · simp only [w74_0, w74_1, w74_4, w74_5, w74_6, w74_7, w74_8, w74_11_i, w74_11_0, w74_11_1]
    · simp only [w74_0, w74_1, w74_4, w74_5, w74_6, w74_7, w74_8, w74_11_i, w74_11_0, w74_11_1]
  simp only [mj_tl_some]
  rw [rt _ sb]
  refine wc.mono (m_teach (d := d + 52) hc1 (by rw [e5]; exact h.ai) t1') ?_
  rintro r M2 ⟨rfl, f2, r2⟩
  rw [e5] at r2 ⊢
  refine ⟨_, rfl, rfl, h.fin c1 h1 (f2.mono (fun z hz => by simp at hz ⊢; omega)) ?_ ?_ ?_⟩
  · rw [r2]; simp only [if_true]
  · have p6 := h.P6
    cases ht : tch (hh M 355) Ll f p q
    · rfl
    · simp only [if_true]
      have hd : (0 ≤ f ∧ f < hh M 355 0) ∧ (0 ≤ p ∧ p < hh M 355 1) ∧ 0 ≤ q ∧ q < hh M 355 1 := by
        unfold tch at ht
        rw [Bool.and_eq_true] at ht
        exact of_decide_eq_true ht.1
      unfold teA
      rw [up_ne (by omega), up_ne (by omega), kst_k h.ai (by omega)]
  · exact (h.co.fz c1.f (by decide)).fz f2 (by decide)
end Teach2
