/-! A YEAR -/
/-- just the class's moment c (and the laws' stack) is changed -/
def Fc (c : Int) (M M1 : mj_M) : Prop := (∀ x j, (x < c ∨ c + 4 < x ∨ (x = c ∧ 4 ≤ j)) → x ≠ 340 → hh M1 x j = hh M x j) ∧ (∀ x, hl M1 x = hl M x) ∧ (M1.1 = M.1) ∧ (M1.2.1 = M.2.1)
theorem Fc.h {c : Int} {M M1 : mj_M} (h : Fc c M M1) : ∀ x j, (x < c ∨ c + 4 < x ∨ (x = c ∧ 4 ≤ j)) → x ≠ 340 → hh M1 x j = hh M x j := h.1
theorem Fc.l {c : Int} {M M1 : mj_M} (h : Fc c M M1) : ∀ x, hl M1 x = hl M x := h.2.1
theorem Fc.n {c : Int} {M M1 : mj_M} (h : Fc c M M1) : M1.1 = M.1 := h.2.2.1
theorem Fc.s {c : Int} {M M1 : mj_M} (h : Fc c M M1) : M1.2.1 = M.2.1 := h.2.2.2
theorem Fc.rfl' {c : Int} {M : mj_M} : Fc c M M := ⟨fun _ _ _ _ => rfl, fun _ => rfl, rfl, rfl⟩
theorem Fc.tr {c : Int} {M M1 M2 : mj_M} (a : Fc c M M1) (b : Fc c M1 M2) : Fc c M M2 := ⟨fun x j h g => (b.h x j h g).trans (a.h x j h g), fun x => (b.l x).trans (a.l x), b.n.trans a.n, b.s.trans a.s⟩
theorem Fc.wr {c x i v : Int} {M M1 : mj_M} (a : Fc c M M1) (h : (x = c ∧ i < 4) ∨ (c < x ∧ x ≤ c + 4)) : Fc c M (mj_wr M1 x i v) := ⟨fun y j h1 h2 => by rw [hh_wr, if_neg (by omega)]; exact a.h y j h1 h2, a.l, a.n, a.s⟩
theorem Fc.sk {c : Int} {M M1 : mj_M} (s : Sk 340 M M1) : Fc c M M1 := ⟨fun x j _ h => s.h x j h, s.l, s.n, s.s⟩
theorem Fc.fz10 {M M1 : mj_M} (a : Fc 10 M M1) : fz [1, 8] M M1 := ⟨fun x j hx => by
  refine a.h x j ?_ ?_
  · by_cases h : x < 10 ∨ 10 + 4 < x ∨ (x = 10 ∧ 4 ≤ j)
    · exact h
    · exfalso
      apply hx
      rcases (show (x = 10 ∧ j < 4) ∨ x = 11 ∨ x = 12 ∨ x = 13 ∨ x = 14 by omega) with ⟨rfl, g⟩ | rfl | rfl | rfl | rfl
      · show (if 4 ≤ j then 0 else 1) ∈ [1, 8]
        rw [if_neg (by omega)]; decide
      · exact List.mem_cons_self ..
      · exact List.mem_cons_self ..
      · exact List.mem_cons_self ..
      · exact List.mem_cons_self ..
  · rintro rfl
    exact hx (by rw [show zone 340 j = 8 from rfl]; decide), a.l, a.n, a.s⟩
theorem Fc.fz342 {M M1 : mj_M} (a : Fc 342 M M1) : fz [8] M M1 := ⟨fun x j hx => by
  refine a.h x j ?_ ?_
  · by_cases h : x < 342 ∨ 342 + 4 < x ∨ (x = 342 ∧ 4 ≤ j)
    · exact h
    · exfalso
      apply hx
      rcases (show (x = 342 ∧ j < 4) ∨ x = 343 ∨ x = 344 ∨ x = 345 ∨ x = 346 by omega) with ⟨rfl, g⟩ | rfl | rfl | rfl | rfl
      · show (if 4 ≤ j then 0 else 8) ∈ [8]
        rw [if_neg (by omega)]; decide
      · exact List.mem_cons_self ..
      · exact List.mem_cons_self ..
      · exact List.mem_cons_self ..
      · exact List.mem_cons_self ..
  · rintro rfl
    exact hx (by rw [show zone 340 j = 8 from rfl]; decide), a.l, a.n, a.s⟩
theorem Fc.fz18 {c : Int} {M M1 : mj_M} (hc : c = 10 ∨ c = 342) (a : Fc c M M1) : fz [1, 8] M M1 := by
  rcases hc with rfl | rfl
  · exact a.fz10
  · exact a.fz342.mono (fun z hz => by simp at hz; subst hz; decide)
/-- the class's moment c is now of A -/
def PC (M : mj_M) (c : Int) (A : Int → Int) : Prop := (CS M) ∧ (MR M c (mn A)) ∧ (AN A) ∧ (∀ i, 0 ≤ i → i < 8 → hh M 7 i = A (41 + 2 * i)) ∧ (∀ i, 0 ≤ i → i < 8 → hh M 8 i = A (42 + 2 * i))
theorem PC.cs {M : mj_M} {c : Int} {A : Int → Int} (h : PC M c A) : CS M := h.1
theorem PC.mr {M : mj_M} {c : Int} {A : Int → Int} (h : PC M c A) : MR M c (mn A) := h.2.1
theorem PC.an {M : mj_M} {c : Int} {A : Int → Int} (h : PC M c A) : AN A := h.2.2.1
theorem PC.fk {M : mj_M} {c : Int} {A : Int → Int} (h : PC M c A) : ∀ i, 0 ≤ i → i < 8 → hh M 7 i = A (41 + 2 * i) := h.2.2.2.1
theorem PC.fl {M : mj_M} {c : Int} {A : Int → Int} (h : PC M c A) : ∀ i, 0 ≤ i → i < 8 → hh M 8 i = A (42 + 2 * i) := h.2.2.2.2
theorem CS.msc {M : mj_M} {c : Int} (h : CS M) (hc : c = 10 ∨ c = 342) : MS M c := by
  rcases hc with rfl | rfl
  · exact h.ms10
  · exact h.ms342
theorem PC.le {M : mj_M} {c : Int} {A : Int → Int} {p f : Int} (h : PC M c A) (hc : c = 10 ∨ c = 342) (hp : 0 ≤ p ∧ p < A 1) (hf : 0 ≤ f ∧ f < 8) : LE M c A (mn A) p f := ⟨h.cs, h.cs.msc hc, h.mr, h.an.mi, h.an.F8, hp, hf, h.fk f hf.1 hf.2, h.fl f hf.1 hf.2, h.an.fk f hf.1 hf.2, h.an.fl f hf.1 hf.2⟩
theorem PC.to {M M1 : mj_M} {c : Int} {A A1 : Int → Int} (h : PC M c A) (hc : c = 10 ∨ c = 342) (f : Fc c M M1) (mr : MR M1 c (mn A1)) (e : nwE A A1) (an : AN A1) : PC M1 c A1 := by
  have q : ∀ j, (41 ≤ j ∧ j ≤ 56) → A1 j = A j := fun j hj => e j (by unfold nwi; omega)
  refine ⟨h.cs.fz (f.fz18 hc) (by decide), mr, an, fun i a b => ?_, fun i a b => ?_⟩
  · rw [f.h 7 i (by omega) (by omega), q _ (by omega)]; exact h.fk i a b
  · rw [f.h 8 i (by omega) (by omega), q _ (by omega)]; exact h.fl i a b
section Pass
variable {X : mj_X} {d : Nat} {M : mj_M} {A : Int → Int} {Q : Option mj_V → mj_M → Prop} {L : Option (Env → Int)}
theorem c_draw {c x : Int} (hc : 1 ≤ c) (hx : hh M c 1 = x) (hr : 0 ≤ x ∧ x ≤ 30702) : wc X d 106 [(24, c)] M Q ↔ Q (some (0, x)) (mj_wr M c 1 (nxx x)) := by
  show wp X d 106 0 [(24, c), (9, 0)] [] M Q ↔ _
  have e1 : ji_mul x 521 = x * 521 := ji_mul_eq ⟨by omega, by omega⟩
  have e2 : ji_add (x * 521) 401 = x * 521 + 401 := ji_add_eq ⟨by omega, by omega⟩
  have e3 : ji_rem (x * 521 + 401) 30703 = nxx x := ji_rem_nn ⟨by omega, by omega⟩ ⟨by decide, by decide⟩ (by omega)
  simp only [w106_0, w106_1, w106_4, w106_5, w106_6, w106_7, w106_10, w106_13, w106_14, w106_17, w106_18, w106_21, w106_22, w106_25, w106_26, hx, e1, e2, e3, show ¬ c = 0 by omega, ↓reduceIte, hh_wr, hl_wr, b10, b11, ite_not, ne_eq, Int.reduceEq, Int.reduceLE, Int.reduceLT, Int.reduceNe, Int.reduceNeg, Int.reduceAdd, Int.reduceSub, Int.reduceMul, not_false_eq_true, not_true_eq_false, false_and, and_false, true_and, and_true, and_self, true_or, or_true, false_or, or_false, if_true, if_false, ite_true, ite_false, mj_tl_some, mj_tl_none, mj_cs0, mj_cs1, mj_cs2, mj_cs3, mj_cs4]
theorem c_fstep {c p j r g : Int} {f : Nat} {A0 : Int → Int} {s : (Int → Int) × Int} (hcc : c = 10 ∨ c = 342) (h : PC M c s.1) (go : Go A0 s.1) (hp : 0 ≤ p ∧ p < s.1 1) (hf : f < 8) (hs : 0 ≤ s.2 ∧ s.2 ≤ 1000) (t : TxL M r j 0 2 L) (K : ∀ M1, PC M1 c (fstp L p f s).1 → Fc c M M1 → wp X (d + 4) 105 32 [(22, 341), (24, c), (28, r), (0, (fstp L p f s).2), (0, p), (0, ((f + 1 : Nat) : Int))] [] M1 Q) : wp X (d + 4) 105 32 [(22, 341), (24, c), (28, r), (0, s.2), (0, p), (0, (f : Int))] [] M Q := by
  have p6 : s.1 1 ≤ 6 := h.an.mi.p6
  have hp6 : p < 6 := by omega
  have ms := h.cs.msc hcc
  have c1 : 1 ≤ c := ms.1
  have hk := h.mr.hk p hp.1 hp.2
  have hk' : hh M (c + 2) p = s.1 (11 + 5 * p + 1) := hk
  have x0 : 0 ≤ s.1 9 := h.an.mi.x0
  have x9 : s.1 9 ≤ 30702 := h.an.mi.x9
  have hx : hh M c 1 = s.1 9 := h.mr.hx
  have k1 := fun Q => c_knowsForm (X := X) (d := d + 3) (M := M) (Q := Q) (p := p) (f := (f : Int)) ms ⟨hp.1, hp6⟩
  rw [hk'] at k1
  rw [w105_32]
  unfold fstp at K
  by_cases hb : ji_and (ji_shr (s.1 (11 + 5 * p + 1)) (f : Int)) 1 = 1
  · have hb' : kno s.1 p (f : Int) = true := decide_eq_true hb
    rw [hb'] at K
    simp only [if_true] at K
    have dr := fun Q => c_draw (X := X) (d := d + 3) (M := M) (Q := Q) (c := c) c1 hx ⟨x0, x9⟩
    have er : ji_rem (s.1 9) 10 = s.1 9 % 10 := ji_rem_nn ⟨by omega, by omega⟩ ⟨by decide, by decide⟩ x0
    have fc1 : Fc c M (mj_wr M c 1 (nxx (s.1 9))) := Fc.rfl'.wr (Or.inl ⟨rfl, by decide⟩)
    have go1 := go.x (v := nxx (s.1 9)) (nxx_r _)
    have pc1 : PC (mj_wr M c 1 (nxx (s.1 9))) c (up s.1 9 (nxx (s.1 9))) := h.to hcc fc1 (MR_x h.mr h.an.mi) (nwE.rfl'.up (Or.inl (by omega))) go1.an
    have hc1 := pc1.cs
    have hp1 : 0 ≤ p ∧ p < up s.1 9 (nxx (s.1 9)) 1 := ⟨hp.1, by rw [up_ne (by omega)]; exact hp.2⟩
    have ee : envA (up s.1 9 (nxx (s.1 9))) (mn (up s.1 9 (nxx (s.1 9)))) p (f : Int) = envA s.1 (mn s.1) p (f : Int) := envA_congr (up_ne (by omega)) (up_ne (by omega)) (show up s.1 9 (nxx (s.1 9)) 1 = s.1 1 from up_ne (by omega)) (show up s.1 9 (nxx (s.1 9)) 8 = s.1 8 from up_ne (by omega)) (fun q k a _ b _ => show up s.1 9 (nxx (s.1 9)) (11 + 5 * q + k) = s.1 (11 + 5 * q + k) from up_ne (by omega)) hp
    simp only [w105_34, w105_36, w105_39, w105_40, w105_42, w105_44, w105_47, w105_50, w105_51, w105_54, w105_56, w105_57, w105_58, w105_61, w105_62, w105_63, w105_66, w105_69, w105_70, w105_72, w105_74, k1, hb, dr, er, show (f : Int) < 8 by omega, show ¬ c = 0 by omega, c_341_0 hc1, c_341_1 hc1, c_5_0 hc1, ↓reduceIte, hh_wr, hl_wr, b10, b11, ite_not, ne_eq, Int.reduceEq, Int.reduceLE, Int.reduceLT, Int.reduceNe, Int.reduceNeg, Int.reduceAdd, Int.reduceSub, Int.reduceMul, not_false_eq_true, not_true_eq_false, false_and, and_false, true_and, and_true, and_self, true_or, or_true, false_or, or_false, if_true, if_false, ite_true, ite_false, mj_tl_some, mj_tl_none, mj_cs0, mj_cs1, mj_cs2, mj_cs3, mj_cs4]
    refine wc.mono (c_fadesBy (d := d) (pc1.le hcc hp1 ⟨by omega, by omega⟩) hcc (t.fz (fc1.fz18 hcc) (by decide))) ?_
    rintro q M2 ⟨rfl, sk⟩
    rw [ee]
    have fc2 : Fc c M M2 := fc1.tr (Fc.sk sk)
    have pc2 : PC M2 c (up s.1 9 (nxx (s.1 9))) := h.to hcc fc2 ((MR_x h.mr h.an.mi).keep (fun x j a b => Or.inl (sk.h x j (by omega)))) (nwE.rfl'.up (Or.inl (by omega))) go1.an
    by_cases hl : s.1 9 % 10 < fdV L (envA s.1 (mn s.1) p (f : Int))
    · rw [if_pos hl] at K
      have ms2 := pc2.cs.msc hcc
      obtain ⟨u0, ⟨u4, u5, u6, u7⟩, v1, v2, v3, v4⟩ := ms2
      have hk2 : hh M2 (c + 2) p = s.1 (11 + 5 * p + 1) := by
        have := pc2.mr.hk p hp1.1 hp1.2
        rw [this]
        show up s.1 9 (nxx (s.1 9)) (11 + 5 * p + 1) = _
        rw [up_ne (by omega)]
      have ecl : ji_and (s.1 (11 + 5 * p + 1)) (ji_xor (ji_shl 1 (f : Int)) (-1)) = clr (s.1 (11 + 5 * p + 1)) (f : Int) := rfl
      have kk : 0 ≤ s.1 (11 + 5 * p + 1) ∧ s.1 (11 + 5 * p + 1) < pw (s.1 0) := h.an.mi.k p hp.1 hp.2
      have kc := clr_r kk h.an.F8 (f := (f : Int)) ⟨by omega, by omega⟩
      simp only [w105_77, w105_80, w105_81, w105_84, w105_86, w105_87, w105_88, w105_89, w105_91, w105_92, w105_93, w105_94, w105_95, w105_96, w105_99, w105_102, hl, u5, v2, hk2, ecl, hp.1, hp6, show ¬ c = 0 by omega, show ¬ c + 2 = 0 by omega, aj (x := s.2) (y := 1) ⟨by omega, by omega⟩, jp1 (p := f) (by omega), ↓reduceIte, hh_wr, hl_wr, b10, b11, ite_not, ne_eq, Int.reduceEq, Int.reduceLE, Int.reduceLT, Int.reduceNe, Int.reduceNeg, Int.reduceAdd, Int.reduceSub, Int.reduceMul, not_false_eq_true, not_true_eq_false, false_and, and_false, true_and, and_true, and_self, true_or, or_true, false_or, or_false, if_true, if_false, ite_true, ite_false, mj_tl_some, mj_tl_none, mj_cs0, mj_cs1, mj_cs2, mj_cs3, mj_cs4]
      have go2 := go1.p (p := p) (k := 1) (v := clr (s.1 (11 + 5 * p + 1)) (f : Int)) ⟨hp.1, hp6⟩ (by decide) (fun h => absurd h (by decide)) (fun _ => by rw [up_ne (by omega)]; exact kc) (fun h => absurd h (by decide))
      have mr3 := MR_p (p := p) (k := 1) (v := clr (s.1 (11 + 5 * p + 1)) (f : Int)) pc2.mr pc2.an.mi ⟨hp.1, hp6⟩ (by decide)
      rw [show c + 1 + 1 = c + 2 by omega] at mr3
      have fc3 : Fc c M (mj_wr M2 (c + 2) p (clr (s.1 (11 + 5 * p + 1)) (f : Int))) := fc2.wr (Or.inr ⟨by omega, by omega⟩)
      exact K _ (h.to hcc fc3 mr3 ((nwE.rfl'.up (Or.inl (by omega))).up (nwi_k ⟨hp.1, hp6⟩ (by decide))) go2.an) fc3
    · rw [if_neg hl] at K
      simp only [w105_77, w105_99, w105_102, hl, jp1 (p := f) (by omega), ↓reduceIte, hh_wr, hl_wr, b10, b11, ite_not, ne_eq, Int.reduceEq, Int.reduceLE, Int.reduceLT, Int.reduceNe, Int.reduceNeg, Int.reduceAdd, Int.reduceSub, Int.reduceMul, not_false_eq_true, not_true_eq_false, false_and, and_false, true_and, and_true, and_self, true_or, or_true, false_or, or_false, if_true, if_false, ite_true, ite_false, mj_tl_some, mj_tl_none, mj_cs0, mj_cs1, mj_cs2, mj_cs3, mj_cs4]
      exact K M2 pc2 fc2
  · have hb' : kno s.1 p (f : Int) = false := decide_eq_false hb
    rw [hb'] at K
    simp only [Bool.false_eq_true, if_false] at K
    simp only [w105_34, w105_36, w105_39, w105_40, w105_42, w105_44, w105_47, w105_99, w105_102, k1, hb, show (f : Int) < 8 by omega, show ¬ c = 0 by omega, jp1 (p := f) (by omega), ↓reduceIte, hh_wr, hl_wr, b10, b11, ite_not, ne_eq, Int.reduceEq, Int.reduceLE, Int.reduceLT, Int.reduceNe, Int.reduceNeg, Int.reduceAdd, Int.reduceSub, Int.reduceMul, not_false_eq_true, not_true_eq_false, false_and, and_false, true_and, and_true, and_self, true_or, or_true, false_or, or_false, if_true, if_false, ite_true, ite_false, mj_tl_some, mj_tl_none, mj_cs0, mj_cs1, mj_cs2, mj_cs3, mj_cs4]
    exact K M h Fc.rfl'
theorem c_passYear {c j : Int} (hcc : c = 10 ∨ c = 342) (h : PC M c A) (h4 : hh M 5 6 ≤ 4) (hy : A 8 < 9999) (t : TxL M (rul M) j 0 2 L) : wc X (d + 4) 105 [(22, 341), (24, c)] M (fun q M1 => q = some (0, (psA L A).2) ∧ PC M1 c (psA L A).1 ∧ Fc c M M1) := by
  obtain ⟨P, hP⟩ := nat_of h.an.mi.p0
  have hP' : A 1 = (P : Int) := hP
  have p6 : A 1 ≤ 6 := h.an.mi.p6
  have eP : (A 1).toNat = P := by omega
  have c1 : 1 ≤ c := (h.cs.msc hcc).1
  have ho := fun Q => c_textOf (X := X) (d := d + 2) (M := M) (Q := Q) (j := hh M 5 7) h.cs h4
  have er : (if 0 ≤ hh M 5 7 ∧ hh M 5 7 < hh M 5 6 then hh M 20 (hh M 5 7) else 0) = rul M := rfl
  rw [er] at ho
  show wp X (d + 4) 105 0 [(22, 341), (24, c), (9, 0), (9, 0), (9, 0), (9, 0)] [] M _
  simp only [w105_0, w105_1, w105_4, w105_5, w105_8, w105_11, w105_14, w105_15, w105_16, w105_17, w105_18, c_1_0 h.cs, c_1_1 h.cs, c_1_2 h.cs, c_1_3 h.cs, c_1_4 h.cs, c_1_5 h.cs, c_1_6 h.cs, c_1_7 h.cs, c_1_8 h.cs, c_2_0 h.cs, c_2_1 h.cs, c_5_0 h.cs, c_5_1 h.cs, c_5_2 h.cs, c_5_3 h.cs, c_5_5 h.cs, c_5_8 h.cs, c_5_11 h.cs, c_6_1 h.cs, c_6_2 h.cs, c_6_3 h.cs, c_10_4 h.cs, c_10_5 h.cs, c_10_6 h.cs, c_10_7 h.cs, c_15_1 h.cs, c_17_1 h.cs, c_339_0 h.cs, c_341_0 h.cs, c_341_1 h.cs, c_341_2 h.cs, c_342_4 h.cs, c_342_5 h.cs, c_342_6 h.cs, c_342_7 h.cs, c_347_0 h.cs, c_347_2 h.cs, c_347_3 h.cs, c_349_0 h.cs, c_349_1 h.cs, c_349_2 h.cs, c_351_2 h.cs, c_351_10 h.cs, c_351_12 h.cs, c_354_0 h.cs, c_354_1 h.cs, c_354_2 h.cs, c_354_3 h.cs, c_354_4 h.cs, c_354_5 h.cs, c_354_6 h.cs, c_354_7 h.cs, c_354_8 h.cs, c_354_20 h.cs, c_354_25 h.cs, c_354_26 h.cs, c_354_27 h.cs, c_354_28 h.cs, c_354_32 h.cs, c_354_33 h.cs, c_354_34 h.cs, c_354_35 h.cs, c_354_38 h.cs, l_3 h.cs, l_4 h.cs, l_7 h.cs, l_8 h.cs, l_9 h.cs, l_11 h.cs, l_12 h.cs, l_13 h.cs, l_14 h.cs, l_16 h.cs, l_18 h.cs, l_19 h.cs, l_20 h.cs, l_21 h.cs, l_340 h.cs, l_343 h.cs, l_344 h.cs, l_345 h.cs, l_346 h.cs, l_348 h.cs, l_350 h.cs, l_352 h.cs, l_353 h.cs, l_355 h.cs, l_356 h.cs, l_357 h.cs, l_358 h.cs, l_359 h.cs, l_360 h.cs, l_361 h.cs, l_362 h.cs, l_363 h.cs, l_364 h.cs, l_365 h.cs, l_366 h.cs, l_367 h.cs, l_368 h.cs, l_369 h.cs, l_370 h.cs, l_371 h.cs, l_372 h.cs, l_373 h.cs, ho, ↓reduceIte, hh_wr, hl_wr, b10, b11, ite_not, ne_eq, Int.reduceEq, Int.reduceLE, Int.reduceLT, Int.reduceNe, Int.reduceNeg, Int.reduceAdd, Int.reduceSub, Int.reduceMul, not_false_eq_true, not_true_eq_false, false_and, and_false, true_and, and_true, and_self, true_or, or_true, false_or, or_false, if_true, if_false, ite_true, ite_false, mj_tl_some, mj_tl_none, mj_cs0, mj_cs1, mj_cs2, mj_cs3, mj_cs4]
  refine loop1 (S := fun p (s : mj_M × mj_V) => wp X (d + 4) 105 20 [(22, 341), (24, c), (28, rul M), (0, (psts L A p).2), (0, (p : Int)), s.2] [] s.1 (fun q M1 => q = some (0, (psA L A).2) ∧ PC M1 c (psA L A).1 ∧ Fc c M M1)) (I := fun p s => PC s.1 c (psts L A p).1 ∧ Fc c M s.1) (P := P) ?_ ?_ (M, (9, 0)) ⟨h, Fc.rfl'⟩
  · rintro p ⟨M1, w⟩ hp ⟨pc, fc⟩ ih
    simp only at pc fc
    obtain ⟨go, g1, g2⟩ := Go.ps (L := L) h.an p (by omega)
    have hpp : 0 ≤ (p : Int) ∧ (p : Int) < A 1 := ⟨by omega, by omega⟩
    have hPc : hh M1 c 2 = (P : Int) := by
      have e : hh M1 c 2 = (psts L A p).1 1 := pc.mr.hp
      rw [e, go.P]; exact hP'
    have inner := loop1 (S := fun f M2 => wp X (d + 4) 105 32 [(22, 341), (24, c), (28, rul M), (0, (fsts L (p : Int) (psts L A p) f).2), (0, (p : Int)), (0, (f : Int))] [] M2 (fun q M1 => q = some (0, (psA L A).2) ∧ PC M1 c (psA L A).1 ∧ Fc c M M1)) (I := fun f M2 => PC M2 c (fsts L (p : Int) (psts L A p) f).1 ∧ Fc c M M2) (P := 8) ?_ ?_
    · rw [w105_20]
      simp only [w105_22, w105_23, w105_26, w105_29, w105_30, hPc, show (p : Int) < (P : Int) by omega, show ¬ c = 0 by omega, ↓reduceIte, hh_wr, hl_wr, b10, b11, ite_not, ne_eq, Int.reduceEq, Int.reduceLE, Int.reduceLT, Int.reduceNe, Int.reduceNeg, Int.reduceAdd, Int.reduceSub, Int.reduceMul, not_false_eq_true, not_true_eq_false, false_and, and_false, true_and, and_true, and_self, true_or, or_true, false_or, or_false, if_true, if_false, ite_true, ite_false, mj_tl_some, mj_tl_none, mj_cs0, mj_cs1, mj_cs2, mj_cs3, mj_cs4]
      exact inner M1 ⟨pc, fc⟩
    · rintro f M2 hf ⟨pc2, fc2⟩ ihf
      obtain ⟨k1, k2, k3⟩ := Go.fs (L := L) (p := (p : Int)) (s := psts L A p) hpp go g1 f (by omega)
      exact c_fstep (g := 0) hcc pc2 k1 (by rw [k1.P]; exact hpp) hf ⟨by omega, by omega⟩ (t.fz (fc2.fz18 hcc) (by decide)) (fun M3 pc3 fc3 => ihf M3 ⟨pc3, fc2.tr fc3⟩)
    · rintro M2 ⟨pc2, fc2⟩
      obtain ⟨k1, k2, k3⟩ := Go.fs (L := L) (p := (p : Int)) (s := psts L A p) hpp go g1 8 (by omega)
      have es : psts L A (p + 1) = (pend (p : Int) (fsts L (p : Int) (psts L A p) 8).1, (fsts L (p : Int) (psts L A p) 8).2) := rfl
      generalize fsts L (p : Int) (psts L A p) 8 = s at *
      have go3 := k1.pe hpp
      have hpp2 : 0 ≤ (p : Int) ∧ (p : Int) < s.1 1 := by rw [k1.P]; exact hpp
      have ha : hh M2 (c + 1) (p : Int) = s.1 (11 + 5 * (p : Int) + 0) := pc2.mr.ha _ hpp2.1 hpp2.2
      have hb : hh M2 (c + 3) (p : Int) = s.1 (11 + 5 * (p : Int) + 2) := pc2.mr.hb _ hpp2.1 hpp2.2
      have ar : 0 ≤ s.1 (11 + 5 * (p : Int) + 0) ∧ s.1 (11 + 5 * (p : Int) + 0) ≤ 99 := pc2.an.mi.a _ hpp2.1 hpp2.2
      have br : 0 ≤ s.1 (11 + 5 * (p : Int) + 2) ∧ s.1 (11 + 5 * (p : Int) + 2) ≤ 99 := pc2.an.mi.b _ hpp2.1 hpp2.2
      obtain ⟨u0, ⟨u4, u5, u6, u7⟩, v1, v2, v3, v4⟩ := pc2.cs.msc hcc
      have e1 : (if s.1 (11 + 5 * (p : Int) + 0) + 1 ≤ 99 then s.1 (11 + 5 * (p : Int) + 0) + 1 else 99) = m99 (s.1 (11 + 5 * (p : Int) + 0) + 1) := by unfold m99; split <;> split <;> omega
      have e2 : (if s.1 (11 + 5 * (p : Int) + 2) + 10 ≤ 99 then s.1 (11 + 5 * (p : Int) + 2) + 10 else 99) = m99 (s.1 (11 + 5 * (p : Int) + 2) + 10) := by unfold m99; split <;> split <;> omega
      simp only [w105_32, w105_34, w105_36, w105_105, w105_106, w105_109, w105_111, w105_112, w105_115, w105_117, w105_118, w105_119, w105_120, w105_122, w105_125, w105_126, w105_127, w105_130, w105_132, w105_133, w105_136, w105_138, w105_139, w105_141, w105_142, w105_144, w105_147, w105_148, w105_151, show ((8 : Nat) : Int) = 8 from rfl, u4, u6, v1, v3, ha, hb, c_min, aj (x := s.1 (11 + 5 * (p : Int) + 0)) (y := 1) ⟨by omega, by omega⟩, aj (x := s.1 (11 + 5 * (p : Int) + 2)) (y := 10) ⟨by omega, by omega⟩, e1, e2, show (0 : Int) ≤ (p : Int) by omega, show (p : Int) < 6 by omega, show ¬ c = 0 by omega, show ¬ c + 1 = 0 by omega, show ¬ c + 3 = 0 by omega, show ¬ c + 3 = c + 1 by omega, show ¬ c = c + 1 by omega, jp1 (p := p) (by omega), ↓reduceIte, hh_wr, hl_wr, b10, b11, ite_not, ne_eq, Int.reduceEq, Int.reduceLE, Int.reduceLT, Int.reduceNe, Int.reduceNeg, Int.reduceAdd, Int.reduceSub, Int.reduceMul, not_false_eq_true, not_true_eq_false, false_and, and_false, true_and, and_true, and_self, true_or, or_true, false_or, or_false, if_true, if_false, ite_true, ite_false, mj_tl_some, mj_tl_none, mj_cs0, mj_cs1, mj_cs2, mj_cs3, mj_cs4]
      have hS := ih (mj_wr (mj_wr M2 (c + 1) (p : Int) (m99 (s.1 (11 + 5 * (p : Int) + 0) + 1))) (c + 3) (p : Int) (m99 (s.1 (11 + 5 * (p : Int) + 2) + 10)), (0, 8))
      rw [es] at hS
      simp only at hS
      refine hS ⟨?_, ?_⟩
      · have mr1 := MR_p (p := (p : Int)) (k := 0) (v := m99 (s.1 (11 + 5 * (p : Int) + 0) + 1)) pc2.mr pc2.an.mi ⟨by omega, by omega⟩ (by decide)
        have mi1 := MI_p (p := (p : Int)) (k := 0) (v := m99 (s.1 (11 + 5 * (p : Int) + 0) + 1)) pc2.an.mi ⟨by omega, by omega⟩ (by decide) (fun _ => m99_r (by omega)) (fun h => absurd h (by decide)) (fun h => absurd h (by decide))
        have mr2 := MR_p (p := (p : Int)) (k := 2) (v := m99 (s.1 (11 + 5 * (p : Int) + 2) + 10)) mr1 mi1 ⟨by omega, by omega⟩ (by decide)
        rw [show c + 1 + 0 = c + 1 by omega, show c + 1 + 2 = c + 3 by omega] at mr2
        exact pc2.to hcc ((Fc.rfl'.wr (Or.inr ⟨by omega, by omega⟩)).wr (Or.inr ⟨by omega, by omega⟩)) mr2 ((nwE.rfl'.up (nwi_k ⟨by omega, by omega⟩ (by decide))).up (nwi_k ⟨by omega, by omega⟩ (by decide))) go3.an
      · exact (fc2.wr (Or.inr ⟨by omega, by omega⟩)).wr (Or.inr ⟨by omega, by omega⟩)
  · rintro ⟨M1, w⟩ ⟨pc, fc⟩
    simp only at pc fc
    obtain ⟨go, g1, g2⟩ := Go.ps (L := L) h.an P (by omega)
    have hPc : hh M1 c 2 = (P : Int) := by
      have e : hh M1 c 2 = (psts L A P).1 1 := pc.mr.hp
      rw [e, go.P]; exact hP'
    have hyc : hh M1 c 0 = A 8 := by
      have e : hh M1 c 0 = (psts L A P).1 8 := pc.mr.hy
      rw [e, go.y]
    have y0 : 0 ≤ A 8 := h.an.mi.y0
    have ep : psA L A = (up (psts L A P).1 8 (A 8 + 1), (psts L A P).2) := by unfold psA; rw [eP, go.y]
    simp only [w105_0, w105_1, w105_4, w105_5, w105_8, w105_11, w105_14, w105_15, w105_16, w105_17, w105_18, w105_20, w105_22, w105_23, w105_26, w105_29, w105_30, w105_32, w105_34, w105_36, w105_39, w105_40, w105_42, w105_44, w105_47, w105_50, w105_51, w105_54, w105_56, w105_57, w105_58, w105_61, w105_62, w105_63, w105_66, w105_69, w105_70, w105_72, w105_74, w105_77, w105_80, w105_81, w105_84, w105_86, w105_87, w105_88, w105_89, w105_91, w105_92, w105_93, w105_94, w105_95, w105_96, w105_99, w105_102, w105_105, w105_106, w105_109, w105_111, w105_112, w105_115, w105_117, w105_118, w105_119, w105_120, w105_122, w105_125, w105_126, w105_127, w105_130, w105_132, w105_133, w105_136, w105_138, w105_139, w105_141, w105_142, w105_144, w105_147, w105_148, w105_151, w105_154, w105_155, w105_156, w105_159, w105_160, w105_161, w105_164, w105_165, hPc, hyc, Int.lt_irrefl, show ¬ c = 0 by omega, aj (x := A 8) (y := 1) ⟨by omega, by omega⟩, ↓reduceIte, hh_wr, hl_wr, b10, b11, ite_not, ne_eq, Int.reduceEq, Int.reduceLE, Int.reduceLT, Int.reduceNe, Int.reduceNeg, Int.reduceAdd, Int.reduceSub, Int.reduceMul, not_false_eq_true, not_true_eq_false, false_and, and_false, true_and, and_true, and_self, true_or, or_true, false_or, or_false, if_true, if_false, ite_true, ite_false, mj_tl_some, mj_tl_none, mj_cs0, mj_cs1, mj_cs2, mj_cs3, mj_cs4]
    rw [ep]
    refine ⟨rfl, ?_, fc.wr (Or.inl ⟨rfl, by decide⟩)⟩
    have mi2 := MI_y (v := A 8 + 1) pc.an.mi ⟨by omega, by omega⟩
    exact pc.to hcc (Fc.rfl'.wr (Or.inl ⟨rfl, by decide⟩)) (MR_y pc.mr pc.an.mi) (nwE.rfl'.up (Or.inl (by omega))) (pc.an.of (nwE.rfl'.up (Or.inl (by omega))) mi2)
end Pass
