/-! THE MAKER OF THE CLASS -/
/-- cells 2 .. c stay -/
def Stz (c : Int) (M M1 : mj_M) : Prop := ∀ x, 1 < x → x ≤ c → (∀ j, hh M1 x j = hh M x j) ∧ hl M1 x = hl M x
theorem Stz.tr {a b : Int} {M M1 M2 : mj_M} (h1 : Stz a M M1) (h2 : Stz b M1 M2) (h : a ≤ b) : Stz a M M2 := fun x x1 x2 => ⟨fun j => ((h2 x x1 (by omega)).1 j).trans ((h1 x x1 x2).1 j), (h2 x x1 (by omega)).2.trans (h1 x x1 x2).2⟩
theorem Stz.nw {c : Int} {M : mj_M} {t : Nat} {n : Int} {f : Int → Int} (h : c ≤ nx M) : Stz c M (mj_nw M t n f) := fun x x1 x2 => ⟨fun j => by rw [hh_nx, if_neg (by omega)], by rw [hl_nx, if_neg (by omega)]⟩
theorem Stz.w1 {c j v : Int} {M : mj_M} : Stz c M (mj_wr M 1 j v) := fun x x1 x2 => ⟨fun i => by rw [hh_wr, if_neg (by omega)], rfl⟩
theorem Stz.old {c a : Int} {M M1 : mj_M} (h : old a M M1) (hc : c < a) : Stz c M M1 := fun x x1 x2 => h x (by omega)
theorem MomentNew.same {c : Int} {M M1 : mj_M} (h : MomentNew c M) (s : ∀ x, c ≤ x → x ≤ c + 4 → (∀ j, hh M1 x j = hh M x j) ∧ hl M1 x = hl M x) : MomentNew c M1 := by
  have e0 : hh M1 c = hh M c := funext (s c (by omega) (by omega)).1
  have e1 : hh M1 (c + 1) = hh M (c + 1) := funext (s _ (by omega) (by omega)).1
  have e2 : hh M1 (c + 2) = hh M (c + 2) := funext (s _ (by omega) (by omega)).1
  have e3 : hh M1 (c + 3) = hh M (c + 3) := funext (s _ (by omega) (by omega)).1
  have e4 : hh M1 (c + 4) = hh M (c + 4) := funext (s _ (by omega) (by omega)).1
  unfold MomentNew at h ⊢
  rw [e0, e1, e2, e3, e4, (s (c + 1) (by omega) (by omega)).2, (s (c + 2) (by omega) (by omega)).2, (s (c + 3) (by omega) (by omega)).2, (s (c + 4) (by omega) (by omega)).2]
  exact h
theorem RowsNew.same {c : Int} {M M1 : mj_M} (h : RowsNew c M) (s : ∀ x, c ≤ x → x ≤ c + 1 → (∀ j, hh M1 x j = hh M x j) ∧ hl M1 x = hl M x) : RowsNew c M1 := by
  have e0 : hh M1 c = hh M c := funext (s c (by omega) (by omega)).1
  have e1 : hh M1 (c + 1) = hh M (c + 1) := funext (s _ (by omega) (by omega)).1
  unfold RowsNew at h ⊢
  rw [e0, e1, (s (c + 1) (by omega) (by omega)).2]
  exact h
theorem TongueNew.same {c : Int} {M M1 : mj_M} (h : TongueNew c M) (s : ∀ x, c ≤ x → x ≤ c + 3 → (∀ j, hh M1 x j = hh M x j) ∧ hl M1 x = hl M x) : TongueNew c M1 := by
  have e0 : hh M1 c = hh M c := funext (s c (by omega) (by omega)).1
  have e1 : hh M1 (c + 1) = hh M (c + 1) := funext (s _ (by omega) (by omega)).1
  have e2 : hh M1 (c + 2) = hh M (c + 2) := funext (s _ (by omega) (by omega)).1
  have e3 : hh M1 (c + 3) = hh M (c + 3) := funext (s _ (by omega) (by omega)).1
  unfold TongueNew at h ⊢
  rw [e0, e1, e2, e3, (s (c + 1) (by omega) (by omega)).2, (s (c + 2) (by omega) (by omega)).2, (s (c + 3) (by omega) (by omega)).2]
  exact h
theorem WorldNew.same {c : Int} {M M1 : mj_M} (h : WorldNew c M) (s : ∀ x, c ≤ x → x ≤ c + 166 → (∀ j, hh M1 x j = hh M x j) ∧ hl M1 x = hl M x) : WorldNew c M1 := by
  obtain ⟨h1, h2, h3, h4, h5, h6, h7⟩ := h
  have e0 : hh M1 c = hh M c := funext (s c (by omega) (by omega)).1
  have e14 : hh M1 (c + 14) = hh M (c + 14) := funext (s _ (by omega) (by omega)).1
  have e15 : hh M1 (c + 15) = hh M (c + 15) := funext (s _ (by omega) (by omega)).1
  refine ⟨?_, h2.same (fun x a b => s x (by omega) (by omega)), h3.same (fun x a b => s x (by omega) (by omega)), h4.same (fun x a b => s x (by omega) (by omega)), h5.same (fun x a b => s x (by omega) (by omega)), ?_, fun i a b => ⟨?_, (h7 i a b).2.same (fun x a b => s x (by omega) (by omega))⟩⟩
  · unfold WFields at h1 ⊢
    rw [e0]
    exact h1
  · unfold WRowsNew at h6 ⊢
    rw [e14, e15, (s (c + 14) (by omega) (by omega)).2, (s (c + 15) (by omega) (by omega)).2, (s (c + 16) (by omega) (by omega)).2]
    exact h6
  · rw [(s (c + 16) (by omega) (by omega)).1]; exact (h7 i a b).1
/-- the new object and its parts -/
def PN (M : mj_M) : Prop := ((hh M 1 0 = 2 ∧ hh M 1 1 = 5 ∧ hh M 1 2 = 172 ∧ hh M 1 3 = 339 ∧ hh M 1 4 = 341) ∧ (hh M 1 5 = 347 ∧ hh M 1 6 = 349 ∧ hh M 1 7 = 350 ∧ hh M 1 8 = 351) ∧ (hh M 1 9 = 0 ∧ hh M 1 10 = 0 ∧ hh M 1 11 = 0 ∧ hh M 1 12 = -1)) ∧ ((hh M 2 0 = 3 ∧ hh M 2 1 = 4 ∧ hl M 3 = 600 ∧ hl M 4 = 600) ∧ (∀ i : Nat, i < 600 → hh M 3 (i : Int) = dT (i : Int)) ∧ (∀ i : Nat, i < 600 → hh M 4 (i : Int) = pT (i : Int))) ∧ (WorldNew 5 M) ∧ (WorldNew 172 M) ∧ (hh M 339 0 = 340 ∧ hl M 340 = 64) ∧ ((hh M 341 0 = 5 ∧ hh M 341 1 = 339 ∧ hh M 341 2 = 342) ∧ MomentNew 342 M) ∧ (hh M 347 0 = 348 ∧ hh M 347 2 = 2 ∧ hh M 347 3 = 15 ∧ hl M 348 = 120) ∧ (hh M 349 0 = 5 ∧ hh M 349 1 = 341 ∧ hh M 349 2 = 339) ∧ (hl M 350 = 300) ∧ (hl M 352 = 96 ∧ hl M 353 = 300 ∧ hh M 351 2 = 350 ∧ hh M 351 10 = 352 ∧ hh M 351 12 = 353)
theorem PN.f {M : mj_M} (h : PN M) : (hh M 1 0 = 2 ∧ hh M 1 1 = 5 ∧ hh M 1 2 = 172 ∧ hh M 1 3 = 339 ∧ hh M 1 4 = 341) ∧ (hh M 1 5 = 347 ∧ hh M 1 6 = 349 ∧ hh M 1 7 = 350 ∧ hh M 1 8 = 351) ∧ (hh M 1 9 = 0 ∧ hh M 1 10 = 0 ∧ hh M 1 11 = 0 ∧ hh M 1 12 = -1) := h.1
theorem PN.o {M : mj_M} (h : PN M) : (hh M 2 0 = 3 ∧ hh M 2 1 = 4 ∧ hl M 3 = 600 ∧ hl M 4 = 600) ∧ (∀ i : Nat, i < 600 → hh M 3 (i : Int) = dT (i : Int)) ∧ (∀ i : Nat, i < 600 → hh M 4 (i : Int) = pT (i : Int)) := h.2.1
theorem PN.w {M : mj_M} (h : PN M) : WorldNew 5 M := h.2.2.1
theorem PN.i {M : mj_M} (h : PN M) : WorldNew 172 M := h.2.2.2.1
theorem PN.l {M : mj_M} (h : PN M) : hh M 339 0 = 340 ∧ hl M 340 = 64 := h.2.2.2.2.1
theorem PN.h {M : mj_M} (h : PN M) : (hh M 341 0 = 5 ∧ hh M 341 1 = 339 ∧ hh M 341 2 = 342) ∧ MomentNew 342 M := h.2.2.2.2.2.1
theorem PN.g {M : mj_M} (h : PN M) : hh M 347 0 = 348 ∧ hh M 347 2 = 2 ∧ hh M 347 3 = 15 ∧ hl M 348 = 120 := h.2.2.2.2.2.2.1
theorem PN.c {M : mj_M} (h : PN M) : hh M 349 0 = 5 ∧ hh M 349 1 = 341 ∧ hh M 349 2 = 339 := h.2.2.2.2.2.2.2.1
theorem PN.t {M : mj_M} (h : PN M) : hl M 350 = 300 := h.2.2.2.2.2.2.2.2.1
theorem PN.r {M : mj_M} (h : PN M) : hl M 352 = 96 ∧ hl M 353 = 300 ∧ hh M 351 2 = 350 ∧ hh M 351 10 = 352 ∧ hh M 351 12 = 353 := h.2.2.2.2.2.2.2.2.2
section MakeP
variable {X : mj_X} {d : Nat}
theorem i_P : wc X (d + 2) 0 [(31, 1)] (mj_nw mj_M0 31 13 (fun _ => 0)) (fun r M => r = none ∧ nx M = 353 ∧ M.2.1 ≤ 14000 ∧ PN M) := by
  show wp X (d + 2) 0 0 [(31, 1)] [] (mj_nw mj_M0 31 13 (fun _ => 0)) _
  have F0 : ∀ j, hh (mj_nw mj_M0 31 13 (fun _ => 0)) 1 j = 0 := fun j => rfl
  have n0 : nx (mj_nw mj_M0 31 13 (fun _ => 0)) = 1 := rfl
  have s0 : (mj_nw mj_M0 31 13 (fun _ => 0)).2.1 = 13 := rfl
  generalize mj_nw mj_M0 31 13 (fun _ => 0) = A0 at *
  simp only [w0_0, w0_1, w0_4, w0_5, w0_8, w0_9, nx_def, n0, ↓reduceIte, hh_wr, hl_wr, b10, b11, ite_not, ne_eq, Int.reduceEq, Int.reduceLE, Int.reduceLT, Int.reduceNe, Int.reduceNeg, Int.reduceAdd, Int.reduceSub, Int.reduceMul, not_false_eq_true, not_true_eq_false, false_and, and_false, true_and, and_true, and_self, true_or, or_true, false_or, or_false, if_true, if_false, ite_true, ite_false, mj_tl_some, mj_tl_none, mj_cs0, mj_cs1, mj_cs2, mj_cs3, mj_cs4]
  refine wc.mono (i_Orders (d := d) (c := 2) (by rw [nx_nw, n0]; rfl) (by decide)) ?_
  rintro r A1 ⟨rfl, n1, s1, o1, q1, td, tp⟩
  rw [s_nw] at s1
  have G1 : ∀ j, hh A1 1 j = 0 := fun j => by rw [(o1 1 (by decide)).1, hh_nx, n0, if_neg (by decide)]; exact F0 j
  simp only [w0_12, w0_15, w0_16, w0_19, w0_20, nx_def, nx_wr, n1, ↓reduceIte, hh_wr, hl_wr, b10, b11, ite_not, ne_eq, Int.reduceEq, Int.reduceLE, Int.reduceLT, Int.reduceNe, Int.reduceNeg, Int.reduceAdd, Int.reduceSub, Int.reduceMul, not_false_eq_true, not_true_eq_false, false_and, and_false, true_and, and_true, and_self, true_or, or_true, false_or, or_false, if_true, if_false, ite_true, ite_false, mj_tl_some, mj_tl_none, mj_cs0, mj_cs1, mj_cs2, mj_cs3, mj_cs4]
  have p1 : Stz 4 A1 (mj_nw (mj_wr A1 1 0 2) 30 12 (fun _ => 0)) := Stz.w1.tr (Stz.nw (by rw [nx_wr, n1]; decide)) (Int.le_refl _)
  have hz : ∀ j, hh (mj_nw (mj_wr A1 1 0 2) 30 12 (fun _ => 0)) 5 j = 0 := fun j => by rw [hh_nx, nx_wr, n1, if_pos (by decide)]
  refine wc.mono (i_World (d := d) (c := 5) (by rw [nx_nw, nx_wr, n1]; rfl) (by decide) hz) ?_
  rintro r A2 ⟨rfl, n2, s2, o2, W5⟩
  rw [s_nw, s_wr] at s2
  have G2 : ∀ j, hh A2 1 j = if j = 0 then 2 else 0 := fun j => by rw [(o2 1 (by decide)).1, hh_nx, nx_wr, n1, if_neg (by decide), hh_wr]; by_cases e : j = 0 <;> simp [e, G1]
  have p2 : Stz 4 A1 A2 := p1.tr (Stz.old o2 (by decide)) (Int.le_refl _)
  simp only [w0_23, w0_26, w0_27, w0_30, w0_31, nx_def, nx_wr, n2, ↓reduceIte, hh_wr, hl_wr, b10, b11, ite_not, ne_eq, Int.reduceEq, Int.reduceLE, Int.reduceLT, Int.reduceNe, Int.reduceNeg, Int.reduceAdd, Int.reduceSub, Int.reduceMul, not_false_eq_true, not_true_eq_false, false_and, and_false, true_and, and_true, and_self, true_or, or_true, false_or, or_false, if_true, if_false, ite_true, ite_false, mj_tl_some, mj_tl_none, mj_cs0, mj_cs1, mj_cs2, mj_cs3, mj_cs4]
  have p3 : Stz 171 A2 (mj_nw (mj_wr A2 1 1 5) 30 12 (fun _ => 0)) := Stz.w1.tr (Stz.nw (by rw [nx_wr, n2]; decide)) (Int.le_refl _)
  have hz2 : ∀ j, hh (mj_nw (mj_wr A2 1 1 5) 30 12 (fun _ => 0)) 172 j = 0 := fun j => by rw [hh_nx, nx_wr, n2, if_pos (by decide)]
  refine wc.mono (i_World (d := d) (c := 172) (by rw [nx_nw, nx_wr, n2]; rfl) (by decide) hz2) ?_
  rintro r A3 ⟨rfl, n3, s3, o3, W172⟩
  rw [s_nw, s_wr] at s3
  have G3 : ∀ j, hh A3 1 j = if j = 1 then 5 else if j = 0 then 2 else 0 := fun j => by rw [(o3 1 (by decide)).1, hh_nx, nx_wr, n2, if_neg (by decide), hh_wr]; by_cases e : j = 1 <;> simp [e, G2]
  have p4 : Stz 171 A2 A3 := p3.tr (Stz.old o3 (by decide)) (Int.le_refl _)
  simp only [w0_34, w0_37, w0_38, w0_41, w0_42, nx_def, nx_wr, n3, ↓reduceIte, hh_wr, hl_wr, b10, b11, ite_not, ne_eq, Int.reduceEq, Int.reduceLE, Int.reduceLT, Int.reduceNe, Int.reduceNeg, Int.reduceAdd, Int.reduceSub, Int.reduceMul, not_false_eq_true, not_true_eq_false, false_and, and_false, true_and, and_true, and_self, true_or, or_true, false_or, or_false, if_true, if_false, ite_true, ite_false, mj_tl_some, mj_tl_none, mj_cs0, mj_cs1, mj_cs2, mj_cs3, mj_cs4]
  have p5 : Stz 338 A3 (mj_nw (mj_wr A3 1 2 172) 23 1 (fun _ => 0)) := Stz.w1.tr (Stz.nw (by rw [nx_wr, n3]; decide)) (Int.le_refl _)
  refine wc.mono (i_Laws (c := 339) (by rw [nx_nw, nx_wr, n3]; rfl) (by decide)) ?_
  rintro r A4 ⟨rfl, n4, s4, o4, L4⟩
  rw [s_nw, s_wr] at s4
  have G4 : ∀ j, hh A4 1 j = if j = 2 then 172 else if j = 1 then 5 else if j = 0 then 2 else 0 := fun j => by rw [(o4 1 (by decide)).1, hh_nx, nx_wr, n3, if_neg (by decide), hh_wr]; by_cases e : j = 2 <;> simp [e, G3]
  have p6 : Stz 338 A3 A4 := p5.tr (Stz.old o4 (by decide)) (Int.le_refl _)
  have g41 : hh (mj_nw (mj_wr A4 1 3 339) 22 3 (fun _ => 0)) 1 1 = 5 := by rw [hh_nx, nx_wr, n4, if_neg (by decide), hh_wr, if_neg (by decide), G4]; rfl
  have g43 : hh (mj_nw (mj_wr A4 1 3 339) 22 3 (fun _ => 0)) 1 3 = 339 := by rw [hh_nx, nx_wr, n4, if_neg (by decide), hh_wr, if_pos ⟨rfl, rfl⟩]
  simp only [w0_45, w0_48, w0_49, w0_52, w0_53, w0_54, w0_57, w0_58, w0_61, nx_def, nx_wr, n4, g41, g43, ↓reduceIte, hh_wr, hl_wr, b10, b11, ite_not, ne_eq, Int.reduceEq, Int.reduceLE, Int.reduceLT, Int.reduceNe, Int.reduceNeg, Int.reduceAdd, Int.reduceSub, Int.reduceMul, not_false_eq_true, not_true_eq_false, false_and, and_false, true_and, and_true, and_self, true_or, or_true, false_or, or_false, if_true, if_false, ite_true, ite_false, mj_tl_some, mj_tl_none, mj_cs0, mj_cs1, mj_cs2, mj_cs3, mj_cs4]
  have p7 : Stz 340 A4 (mj_nw (mj_wr A4 1 3 339) 22 3 (fun _ => 0)) := Stz.w1.tr (Stz.nw (by rw [nx_wr, n4]; decide)) (Int.le_refl _)
  refine wc.mono (i_Hand (d := d) (c := 341) (by rw [nx_nw, nx_wr, n4]; rfl) (by decide)) ?_
  rintro r A5 ⟨rfl, n5, s5, o5, H5, MN5⟩
  rw [s_nw, s_wr] at s5
  have G5 : ∀ j, hh A5 1 j = if j = 3 then 339 else if j = 2 then 172 else if j = 1 then 5 else if j = 0 then 2 else 0 := fun j => by rw [(o5 1 (by decide)).1, hh_nx, nx_wr, n4, if_neg (by decide), hh_wr]; by_cases e : j = 3 <;> simp [e, G4]
  have p8 : Stz 340 A4 A5 := p7.tr (Stz.old o5 (by decide)) (Int.le_refl _)
  have w52 : hh A5 5 2 = 15 := by
    rw [(p8 5 (by decide) (by decide)).1, (p6 5 (by decide) (by decide)).1, (p4 5 (by decide) (by decide)).1]
    exact W5.1.2.2.1
  have g50 : hh (mj_nw (mj_wr A5 1 4 341) 21 4 (fun _ => 0)) 1 0 = 2 := by rw [hh_nx, nx_wr, n5, if_neg (by decide), hh_wr, if_neg (by decide), G5]; rfl
  have g51 : hh (mj_nw (mj_wr A5 1 4 341) 21 4 (fun _ => 0)) 1 1 = 5 := by rw [hh_nx, nx_wr, n5, if_neg (by decide), hh_wr, if_neg (by decide), G5]; rfl
  have g552 : hh (mj_nw (mj_wr A5 1 4 341) 21 4 (fun _ => 0)) 5 2 = 15 := by rw [hh_nx, nx_wr, n5, if_neg (by decide), hh_wr, if_neg (by decide)]; exact w52
  simp only [w0_64, w0_67, w0_68, w0_71, w0_72, w0_73, w0_76, w0_77, w0_80, w0_83, nx_def, nx_wr, n5, g50, g51, g552, ↓reduceIte, hh_wr, hl_wr, b10, b11, ite_not, ne_eq, Int.reduceEq, Int.reduceLE, Int.reduceLT, Int.reduceNe, Int.reduceNeg, Int.reduceAdd, Int.reduceSub, Int.reduceMul, not_false_eq_true, not_true_eq_false, false_and, and_false, true_and, and_true, and_self, true_or, or_true, false_or, or_false, if_true, if_false, ite_true, ite_false, mj_tl_some, mj_tl_none, mj_cs0, mj_cs1, mj_cs2, mj_cs3, mj_cs4]
  have p9 : Stz 346 A5 (mj_nw (mj_wr A5 1 4 341) 21 4 (fun _ => 0)) := Stz.w1.tr (Stz.nw (by rw [nx_wr, n5]; decide)) (Int.le_refl _)
  refine wc.mono (i_Guess (c := 347) (by rw [nx_nw, nx_wr, n5]; rfl) (by decide)) ?_
  rintro r A6 ⟨rfl, n6, s6, o6, Q6⟩
  rw [s_nw, s_wr] at s6
  have G6 : ∀ j, hh A6 1 j = if j = 4 then 341 else if j = 3 then 339 else if j = 2 then 172 else if j = 1 then 5 else if j = 0 then 2 else 0 := fun j => by rw [(o6 1 (by decide)).1, hh_nx, nx_wr, n5, if_neg (by decide), hh_wr]; by_cases e : j = 4 <;> simp [e, G5]
  have p10 : Stz 346 A5 A6 := p9.tr (Stz.old o6 (by decide)) (Int.le_refl _)
  have g61 : hh (mj_nw (mj_wr A6 1 5 347) 20 3 (fun _ => 0)) 1 1 = 5 := by rw [hh_nx, nx_wr, n6, if_neg (by decide), hh_wr, if_neg (by decide), G6]; rfl
  have g64 : hh (mj_nw (mj_wr A6 1 5 347) 20 3 (fun _ => 0)) 1 4 = 341 := by rw [hh_nx, nx_wr, n6, if_neg (by decide), hh_wr, if_neg (by decide), G6]; rfl
  have g63 : hh (mj_nw (mj_wr A6 1 5 347) 20 3 (fun _ => 0)) 1 3 = 339 := by rw [hh_nx, nx_wr, n6, if_neg (by decide), hh_wr, if_neg (by decide), G6]; rfl
  simp only [w0_86, w0_89, w0_90, w0_93, w0_94, w0_95, w0_98, w0_99, w0_102, w0_103, w0_106, nx_def, nx_wr, n6, g61, g64, g63, ↓reduceIte, hh_wr, hl_wr, b10, b11, ite_not, ne_eq, Int.reduceEq, Int.reduceLE, Int.reduceLT, Int.reduceNe, Int.reduceNeg, Int.reduceAdd, Int.reduceSub, Int.reduceMul, not_false_eq_true, not_true_eq_false, false_and, and_false, true_and, and_true, and_self, true_or, or_true, false_or, or_false, if_true, if_false, ite_true, ite_false, mj_tl_some, mj_tl_none, mj_cs0, mj_cs1, mj_cs2, mj_cs3, mj_cs4]
  have p11 : Stz 348 A6 (mj_nw (mj_wr A6 1 5 347) 20 3 (fun _ => 0)) := Stz.w1.tr (Stz.nw (by rw [nx_wr, n6]; decide)) (Int.le_refl _)
  refine wc.mono (i_Counsel (c := 349) (by rw [nx_nw, nx_wr, n6]; rfl) (by decide)) ?_
  rintro r A7 ⟨rfl, n7, s7, o7, Q7⟩
  rw [s_nw, s_wr] at s7
  have G7 : ∀ j, hh A7 1 j = if j = 5 then 347 else if j = 4 then 341 else if j = 3 then 339 else if j = 2 then 172 else if j = 1 then 5 else if j = 0 then 2 else 0 := fun j => by rw [(o7 1 (by decide)).1, hh_nx, nx_wr, n6, if_neg (by decide), hh_wr]; by_cases e : j = 5 <;> simp [e, G6]
  have p12 : Stz 348 A6 A7 := p11.tr (Stz.old o7 (by decide)) (Int.le_refl _)
  generalize hB : mj_wr (mj_nw (mj_wr A7 1 6 349) 3 300 (fun _ => 0)) 1 7 350 = B
  have nB : nx B = 350 := by subst hB; rw [nx_wr, nx_nw, nx_wr, n7]; rfl
  have sB : B.2.1 = A7.2.1 + 300 := by subst hB; rfl
  have GB : ∀ j, hh B 1 j = if j = 7 then 350 else if j = 6 then 349 else hh A7 1 j := fun j => by subst hB; rw [hh_wr, hh_nx, nx_wr, n7, if_neg (show ¬ (1 : Int) = 349 + 1 by decide), hh_wr]; by_cases e : j = 7 <;> by_cases e2 : j = 6 <;> simp [e, e2]
  have pB : Stz 349 A7 B := by subst hB; exact (Stz.w1.tr (Stz.nw (by rw [nx_wr, n7]; decide)) (Int.le_refl _)).tr Stz.w1 (Int.le_refl _)
  have lB : hl B 350 = 300 := by subst hB; rw [hl_wr, hl_nx, nx_wr, n7, if_pos (by decide)]
  have g77 : hh (mj_nw B 26 17 (fun _ => 0)) 1 7 = 350 := by rw [hh_nx, nB, if_neg (by decide), GB]; rfl
  simp only [w0_109, w0_112, w0_113, w0_116, w0_118, nx_def, nx_nw, nx_wr, n7, show (349 : Int) + 1 = 350 by decide, hB, ↓reduceIte, hh_wr, hl_wr, b10, b11, ite_not, ne_eq, Int.reduceEq, Int.reduceLE, Int.reduceLT, Int.reduceNe, Int.reduceNeg, Int.reduceAdd, Int.reduceSub, Int.reduceMul, not_false_eq_true, not_true_eq_false, false_and, and_false, true_and, and_true, and_self, true_or, or_true, false_or, or_false, if_true, if_false, ite_true, ite_false, mj_tl_some, mj_tl_none, mj_cs0, mj_cs1, mj_cs2, mj_cs3, mj_cs4]
  simp only [w0_121, w0_122, w0_125, w0_126, w0_127, w0_130, nx_def, nB, g77, ↓reduceIte, hh_wr, hl_wr, b10, b11, ite_not, ne_eq, Int.reduceEq, Int.reduceLE, Int.reduceLT, Int.reduceNe, Int.reduceNeg, Int.reduceAdd, Int.reduceSub, Int.reduceMul, not_false_eq_true, not_true_eq_false, false_and, and_false, true_and, and_true, and_self, true_or, or_true, false_or, or_false, if_true, if_false, ite_true, ite_false, mj_tl_some, mj_tl_none, mj_cs0, mj_cs1, mj_cs2, mj_cs3, mj_cs4]
  refine wc.mono (i_Reader (c := 351) (by rw [nx_nw, nB]; rfl) (by decide)) ?_
  rintro r A8 ⟨rfl, n8, s8, o8, Q8⟩
  rw [s_nw] at s8
  have G8 : ∀ j, hh A8 1 j = hh B 1 j := fun j => by rw [(o8 1 (by decide)).1, hh_nx, nB, if_neg (by decide)]
  have p13 : Stz 350 B A8 := (Stz.nw (by rw [nB]; decide)).tr (Stz.old o8 (by decide)) (Int.le_refl _)
  simp only [w0_133, w0_136, w0_137, w0_138, w0_141, w0_142, w0_143, w0_146, w0_147, w0_148, w0_151, w0_152, w0_153, w0_156, w0_143 (w := 0) (Or.inl rfl), ↓reduceIte, hh_wr, hl_wr, b10, b11, ite_not, ne_eq, Int.reduceEq, Int.reduceLE, Int.reduceLT, Int.reduceNe, Int.reduceNeg, Int.reduceAdd, Int.reduceSub, Int.reduceMul, not_false_eq_true, not_true_eq_false, false_and, and_false, true_and, and_true, and_self, true_or, or_true, false_or, or_false, if_true, if_false, ite_true, ite_false, mj_tl_some, mj_tl_none, mj_cs0, mj_cs1, mj_cs2, mj_cs3, mj_cs4]
  generalize hC : mj_wr (mj_wr (mj_wr (mj_wr (mj_wr A8 1 8 351) 1 9 0) 1 10 0) 1 11 0) 1 12 (-1) = C
  have pC : Stz 353 A8 C := by subst hC; exact (((Stz.w1.tr Stz.w1 (Int.le_refl _)).tr Stz.w1 (Int.le_refl _)).tr Stz.w1 (Int.le_refl _)).tr Stz.w1 (Int.le_refl _)
  have GC : ∀ j, hh C 1 j = if j = 12 then -1 else if j = 11 then 0 else if j = 10 then 0 else if j = 9 then 0 else if j = 8 then 351 else if j = 7 then 350 else if j = 6 then 349 else if j = 5 then 347 else if j = 4 then 341 else if j = 3 then 339 else if j = 2 then 172 else if j = 1 then 5 else if j = 0 then 2 else 0 := fun j => by
    subst hC
    rw [hh_wr, hh_wr, hh_wr, hh_wr, hh_wr, G8, GB, G7]
    simp only [true_and]
  have nC : nx C = 353 := by subst hC; exact n8
  have sC : C.2.1 = A8.2.1 := by subst hC; rfl
  clear hC hB
  have c8 := pC
  have c7 := p13.tr c8 (by decide)
  have c6 := (p12.tr pB (by decide)).tr c7 (by decide)
  have c5 := p10.tr c6 (by decide)
  have c4 := p8.tr c5 (by decide)
  have c3 := p6.tr c4 (by decide)
  have c2 := p4.tr c3 (by decide)
  have c1 := p2.tr c2 (by decide)
  have cB := pB.tr c7 (by decide)
  refine ⟨nC, by omega, ⟨by rw [GC, GC, GC, GC, GC]; decide, by rw [GC, GC, GC, GC]; decide, by rw [GC, GC, GC, GC]; decide⟩, ⟨?_, fun i hi => ?_, fun i hi => ?_⟩, W5.same (fun x a b => c2 x (by omega) (by omega)), W172.same (fun x a b => c3 x (by omega) (by omega)), ?_, ⟨?_, MN5.same (fun x a b => c5 x (by omega) (by omega))⟩, ?_, ?_, ?_, ?_⟩
  · rw [(c1 2 (by decide) (by decide)).1, (c1 2 (by decide) (by decide)).1, (c1 3 (by decide) (by decide)).2, (c1 4 (by decide) (by decide)).2]; exact q1
  · rw [(c1 3 (by decide) (by decide)).1]; exact td i hi
  · rw [(c1 4 (by decide) (by decide)).1]; exact tp i hi
  · rw [(c4 339 (by decide) (by decide)).1, (c4 340 (by decide) (by decide)).2]; exact L4
  · rw [(c5 341 (by decide) (by decide)).1, (c5 341 (by decide) (by decide)).1, (c5 341 (by decide) (by decide)).1]; exact H5
  · rw [(c6 347 (by decide) (by decide)).1, (c6 347 (by decide) (by decide)).1, (c6 347 (by decide) (by decide)).1, (c6 348 (by decide) (by decide)).2]; exact Q6
  · rw [(cB 349 (by decide) (by decide)).1, (cB 349 (by decide) (by decide)).1, (cB 349 (by decide) (by decide)).1]; exact Q7
  · rw [(c7 350 (by decide) (by decide)).2]; exact lB
  · rw [(c8 352 (by decide) (by decide)).2, (c8 353 (by decide) (by decide)).2, (c8 351 (by decide) (by decide)).1, (c8 351 (by decide) (by decide)).1, (c8 351 (by decide) (by decide)).1]; exact Q8
end MakeP
