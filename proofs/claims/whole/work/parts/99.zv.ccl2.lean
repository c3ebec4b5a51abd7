/-! TEXT: the class's laws and clauses -/
def LCr (M : mj_M) (fo : Int) : Option LD → Prop
  | none => hh M 351 fo = -1
  | some (_, _, cf, cl, _, _) => hh M 351 fo = cf ∧ hh M 351 (fo + 1) = cf + cl.length ∧ stands (hh M 353) cf cl
def CC (M : mj_M) (n : Int) (S : Int → Int → Int) : Prop := ∀ k, 0 ≤ k → k < n → (0 ≤ S k 0 ∧ S k 0 ≤ 8) ∧ hh M 352 (4 * k) = srt (S k 0) ∧ (2 ≤ S k 0 → (hh M 352 (4 * k + 1) = S k 1 ∧ hh M 352 (4 * k + 2) = S k 2 ∧ hh M 352 (4 * k + 3) = S k 3) ∧ (0 ≤ S k 1 ∧ S k 1 ≤ 255) ∧ (S k 0 = 8 → 1 ≤ S k 1 ∧ S k 1 ≤ 60) ∧ (0 ≤ S k 2 ∧ S k 2 ≤ 255) ∧ (0 ≤ S k 3 ∧ S k 3 ≤ 255))
def CT (M : mj_M) (T : Int → Int) (L a n c : Int) (S : Int → Int → Int) (Lf Ll : Option LD) : Prop := (CP M T L a c) ∧ (hh M 351 1 = -1) ∧ (hh M 351 9 = n) ∧ (0 ≤ n ∧ n ≤ 24) ∧ (CC M n S) ∧ (LCr M 13 Lf) ∧ (LCr M 15 Ll)
theorem CT.p {M : mj_M} {T : Int → Int} {L a n c : Int} {S : Int → Int → Int} {Lf Ll : Option LD} (h : CT M T L a n c S Lf Ll) : CP M T L a c := h.1
theorem CT.pl {M : mj_M} {T : Int → Int} {L a n c : Int} {S : Int → Int → Int} {Lf Ll : Option LD} (h : CT M T L a n c S Lf Ll) : hh M 351 1 = -1 := h.2.1
theorem CT.n {M : mj_M} {T : Int → Int} {L a n c : Int} {S : Int → Int → Int} {Lf Ll : Option LD} (h : CT M T L a n c S Lf Ll) : hh M 351 9 = n := h.2.2.1
theorem CT.n0 {M : mj_M} {T : Int → Int} {L a n c : Int} {S : Int → Int → Int} {Lf Ll : Option LD} (h : CT M T L a n c S Lf Ll) : 0 ≤ n ∧ n ≤ 24 := h.2.2.2.1
theorem CT.cc {M : mj_M} {T : Int → Int} {L a n c : Int} {S : Int → Int → Int} {Lf Ll : Option LD} (h : CT M T L a n c S Lf Ll) : CC M n S := h.2.2.2.2.1
theorem CT.lf {M : mj_M} {T : Int → Int} {L a n c : Int} {S : Int → Int → Int} {Lf Ll : Option LD} (h : CT M T L a n c S Lf Ll) : LCr M 13 Lf := h.2.2.2.2.2.1
theorem CT.ll {M : mj_M} {T : Int → Int} {L a n c : Int} {S : Int → Int → Int} {Lf Ll : Option LD} (h : CT M T L a n c S Lf Ll) : LCr M 15 Ll := h.2.2.2.2.2.2
theorem updS_n {S : Int → Int → Int} {n s v1 v2 v3 : Int} : updS S n s v1 v2 v3 n 0 = s ∧ updS S n s v1 v2 v3 n 1 = v1 ∧ updS S n s v1 v2 v3 n 2 = v2 ∧ updS S n s v1 v2 v3 n 3 = v3 := by
  unfold updS
  simp
theorem updS_o {S : Int → Int → Int} {n s v1 v2 v3 k i : Int} (h : k ≠ n) : updS S n s v1 v2 v3 k i = S k i := by
  unfold updS
  rw [if_neg h]
theorem CC.keep {M M1 : mj_M} {n : Int} {S : Int → Int → Int} (h : CC M n S) (g : ∀ j, j < 4 * n → hh M1 352 j = hh M 352 j) : CC M1 n S := fun k a b => by
  obtain ⟨h1, h2, h3⟩ := h k a b
  refine ⟨h1, (g _ (by omega)).trans h2, fun q => ?_⟩
  obtain ⟨⟨x1, x2, x3⟩, y⟩ := h3 q
  exact ⟨⟨(g _ (by omega)).trans x1, (g _ (by omega)).trans x2, (g _ (by omega)).trans x3⟩, y⟩
theorem CC.add {M : mj_M} {n s v1 v2 v3 : Int} {S : Int → Int → Int} (h : CC M n S) (hs : 0 ≤ s ∧ s ≤ 8) (e : hh M 352 (4 * n) = srt s) (d : 2 ≤ s → (hh M 352 (4 * n + 1) = v1 ∧ hh M 352 (4 * n + 2) = v2 ∧ hh M 352 (4 * n + 3) = v3) ∧ (0 ≤ v1 ∧ v1 ≤ 255) ∧ (s = 8 → 1 ≤ v1 ∧ v1 ≤ 60) ∧ (0 ≤ v2 ∧ v2 ≤ 255) ∧ (0 ≤ v3 ∧ v3 ≤ 255)) : CC M (n + 1) (updS S n s v1 v2 v3) := fun k a b => by
  by_cases c : k = n
  · subst c
    obtain ⟨e0, e1, e2, e3⟩ := updS_n (S := S) (n := k) (s := s) (v1 := v1) (v2 := v2) (v3 := v3)
    rw [e0, e1, e2, e3]
    exact ⟨hs, e, d⟩
  · rw [updS_o c, updS_o c, updS_o c, updS_o c]
    exact h k a (by omega)
theorem LPr.add {n w c w' c' s s0 v1 v2 v3 : Int} {S : Int → Int → Int} (hs : s ≠ s0) (hw : w ≤ w') (hc : c ≤ c') (n0 : 0 ≤ n) : ∀ {l : Option LD}, LPr n w c S s0 l → LPr (n + 1) w' c' (updS S n s v1 v2 v3) s0 l
  | none, h => fun k a b => by
    by_cases e : k = n
    · subst e; rw [updS_n.1]; exact hs
    · rw [updS_o e]; exact h k a (by omega)
  | some (k, wf, cf, cl, rl, f), h => by
    obtain ⟨h1, h2, h3, h4, h5, h6, h7, h8⟩ := h
    refine ⟨⟨h1.1, by omega⟩, by rw [updS_o (by omega)]; exact h2, fun i a b => by rw [updS_o (by omega)]; exact h3 i a b, h4, by omega, h6, by omega, h8⟩
theorem LPr.new {n w c s : Int} {S : Int → Int → Int} {cl : List Int} {rl : List (Int × Int)} {f : Env → Int} (h : LPr n w c S s none) (n0 : 0 ≤ n) (w0 : 0 ≤ w) (c0 : 0 ≤ c) (x : EX c cl rl false 43 f) : LPr (n + 1) (w + rl.length) (c + cl.length) (updS S n s 0 0 0) s (some (n, w, c, cl, rl, f)) :=
  ⟨⟨n0, by omega⟩, updS_n.1, fun i a b => by rw [updS_o (by omega)]; exact h i a b, w0, Int.le_refl _, c0, Int.le_refl _, x⟩
theorem LCr.keep {M M1 : mj_M} {fo c n w s : Int} {S : Int → Int → Int} : ∀ {l : Option LD}, LCr M fo l → LPr n w c S s l → hh M1 351 fo = hh M 351 fo → hh M1 351 (fo + 1) = hh M 351 (fo + 1) → (∀ j, j < c → hh M1 353 j = hh M 353 j) → LCr M1 fo l
  | none, h, _, e1, _, _ => e1.trans h
  | some (k, wf, cf, cl, rl, f), h, p, e1, e2, g => by
    obtain ⟨h1, h2, h3⟩ := h
    obtain ⟨_, _, _, _, _, p6, p7, _⟩ := p
    exact ⟨e1.trans h1, e2.trans h2, h3.keep (fun j a b => g j (by omega))⟩
theorem dok_r {T : Int → Int} {L w a a' v1 v2 v3 : Int} (h : dok T L w a a' v1 v2 v3) : (0 ≤ v1 ∧ v1 ≤ 255) ∧ (w = 12 → 1 ≤ v1 ∧ v1 ≤ 60) ∧ (0 ≤ v2 ∧ v2 ≤ 255) ∧ (0 ≤ v3 ∧ v3 ≤ 255) := by
  rcases h with ⟨e, ⟨⟨_, n1, n2⟩, _, _, n3, n4⟩, _, rfl, rfl, rfl⟩ | ⟨e, ⟨⟨_, n1, n2⟩, _, _, n3, n4⟩, _, rfl, rfl, rfl⟩ | ⟨e, ⟨_, n1, n2⟩, _, rfl, rfl, rfl⟩ | ⟨e, ⟨⟨_, n1, n2⟩, _, _, n3, n4⟩, ⟨_, _, n5, n6⟩, _, rfl, rfl, rfl⟩ | ⟨e, ⟨⟨_, n1, n2⟩, _, _, n3, n4⟩, _, rfl, rfl, rfl⟩ | ⟨e, ⟨⟨_, n1, n2⟩, _, _, n3, n4⟩, _, rfl, rfl, rfl⟩ | ⟨e, ⟨_, n1, n2⟩, _, rfl, rfl, rfl⟩
  all_goals refine ⟨⟨by omega, by omega⟩, fun q => ⟨by omega, by omega⟩, ⟨by omega, by omega⟩, by omega, by omega⟩
section CCl2
variable {X : mj_X} {D e : Nat} {M : mj_M} {T : Int → Int} {L t0 a c n w k q s : Int} {S : Int → Int → Int} {Lf Ll : Option LD}
/-- a law is read, and its stop -/
def LR2 (X : mj_X) (e : Nat) (T : Int → Int) (L t0 a c n s : Int) (M M1 : mj_M) : Prop :=
  (∃ a' cl rl f, CP M1 T L (tE T L a') (c + (cl.length : Int)) ∧ stands (hh M1 353) c cl ∧ EX c cl rl false 43 f ∧ Gd X e T L t0 s 5 0 a a' rl ∧ na (tK T L a') ∧ Cq M M1 ∧ hh M1 352 (4 * n) = s ∧ (∀ j, j < 4 * n → hh M1 352 j = hh M 352 j) ∧ hh M1 351 9 = n + 1 ∧ (∀ j, j < c → hh M1 353 j = hh M 353 j) ∧ hh M1 351 1 = hh M 351 1 ∧ hh M1 351 (13 + 2 * s) = c ∧ hh M1 351 (14 + 2 * s) = c + cl.length ∧ (∀ j, j = 15 - 2 * s ∨ j = 16 - 2 * s → hh M1 351 j = hh M 351 j) ∧ tK T L a' = 36) ∨
  (∃ a' rl, Gd X e T L t0 s 5 0 a a' rl ∧ na (tK T L a') ∧ tK T L a' ≠ 36 ∧ Cq M M1 ∧ Fl M1 T L 1 (tS T L a')) ∨
  (∃ k q, Bd X e T L t0 s 5 0 a k q ∧ Cq M M1 ∧ Fl M1 T L k q)
/-- the end of a law that has a fault -/
theorem c_lawF {M0 M2 : mj_M} (fl : Fl M2 T L k q) (r2 : Cr M0 M2) (n0 : 0 ≤ hh M0 351 9) : wp X (D + 1) 52 33 [(26, 351), (0, s), (0, c)] [] M2 (fun r M1 => r = none ∧ Cq M0 M1 ∧ Fl M1 T L k q) := by
  have tail : ∀ M3, Cr M2 M3 → Fl M3 T L k q → wp X (D + 1) 52 69 [(26, 351), (0, s), (0, c)] [] M3 (fun r M1 => r = none ∧ Cq M0 M1 ∧ Fl M1 T L k q) := by
    intro M3 r3 f3
    simp only [w52_69, w52_70, w52_71, w52_72, w52_73, w52_74, ↓reduceIte, hh_wr, hl_wr, b10, b11, ite_not, ne_eq, Int.reduceEq, Int.reduceLE, Int.reduceLT, Int.reduceNe, Int.reduceNeg, Int.reduceAdd, Int.reduceSub, Int.reduceMul, not_false_eq_true, not_true_eq_false, false_and, and_false, true_and, and_true, and_self, true_or, or_true, false_or, or_false, if_true, if_false, ite_true, ite_false, mj_tl_some, mj_tl_none, mj_cs0, mj_cs1, mj_cs2, mj_cs3, mj_cs4]
    refine wc.mono (c_keepF f3 (by rw [r3.r 9 (by omega), r2.r 9 (by omega)]; exact n0)) ?_
    rintro r M4 ⟨rfl, r4, f4⟩
    simp only [w52_77, ↓reduceIte, hh_wr, hl_wr, b10, b11, ite_not, ne_eq, Int.reduceEq, Int.reduceLE, Int.reduceLT, Int.reduceNe, Int.reduceNeg, Int.reduceAdd, Int.reduceSub, Int.reduceMul, not_false_eq_true, not_true_eq_false, false_and, and_false, true_and, and_true, and_self, true_or, or_true, false_or, or_false, if_true, if_false, ite_true, ite_false, mj_tl_some, mj_tl_none, mj_cs0, mj_cs1, mj_cs2, mj_cs3, mj_cs4]
    exact ⟨(r2.tr r3).q.tr r4, f4⟩
  have flw : ∀ i1 i2 v1 v2, (13 ≤ i1 ∧ i1 ≤ 16) → (13 ≤ i2 ∧ i2 ≤ 16) → Cr M2 (mj_wr (mj_wr M2 351 i1 v1) 351 i2 v2) ∧ Fl (mj_wr (mj_wr M2 351 i1 v1) 351 i2 v2) T L k q := by
    intro i1 i2 v1 v2 h1 h2
    have r3 : Cr M2 (mj_wr (mj_wr M2 351 i1 v1) 351 i2 v2) := (Cr.rfl'.w1 (by omega)).w1 (by omega)
    have g : ∀ j, j ≠ i1 → j ≠ i2 → hh (mj_wr (mj_wr M2 351 i1 v1) 351 i2 v2) 351 j = hh M2 351 j := fun j a b => by rw [hh_wr, if_neg (fun q => b q.2), hh_wr, if_neg (fun q => a q.2)]
    exact ⟨r3, fl.cr r3 (g _ (by omega) (by omega)) (g _ (by omega) (by omega)) ((g _ (by omega) (by omega)).trans fl.t) (by rw [g _ (by omega) (by omega)]; exact ⟨fl.c0, fl.c3⟩)⟩
  by_cases i0 : hh M2 351 8 = 0
  · simp only [w52_33, w52_34, w52_37, w52_56, w52_57, w52_58, w52_61, w52_62, w52_63, w52_66, i0, ↓reduceIte, hh_wr, hl_wr, b10, b11, ite_not, ne_eq, Int.reduceEq, Int.reduceLE, Int.reduceLT, Int.reduceNe, Int.reduceNeg, Int.reduceAdd, Int.reduceSub, Int.reduceMul, not_false_eq_true, not_true_eq_false, false_and, and_false, true_and, and_true, and_self, true_or, or_true, false_or, or_false, if_true, if_false, ite_true, ite_false, mj_tl_some, mj_tl_none, mj_cs0, mj_cs1, mj_cs2, mj_cs3, mj_cs4]
    obtain ⟨q1, q2⟩ := flw 15 16 c (hh M2 351 11) (by decide) (by decide)
    exact tail _ q1 q2
  · simp only [w52_33, w52_34, w52_37, w52_40, w52_41, w52_42, w52_45, w52_46, w52_47, w52_50, w52_53, i0, ↓reduceIte, hh_wr, hl_wr, b10, b11, ite_not, ne_eq, Int.reduceEq, Int.reduceLE, Int.reduceLT, Int.reduceNe, Int.reduceNeg, Int.reduceAdd, Int.reduceSub, Int.reduceMul, not_false_eq_true, not_true_eq_false, false_and, and_false, true_and, and_true, and_self, true_or, or_true, false_or, or_false, if_true, if_false, ite_true, ite_false, mj_tl_some, mj_tl_none, mj_cs0, mj_cs1, mj_cs2, mj_cs3, mj_cs4]
    obtain ⟨q1, q2⟩ := flw 13 14 c (hh M2 351 11) (by decide) (by decide)
    exact tail _ q1 q2
theorem c_law (hD : 74 ≤ D) (h : CP M T L a c) (hk : tK T L a ≠ 40) (hn : hh M 351 9 = n) (n0 : 0 ≤ n ∧ n < 24) (hs : s = 0 ∨ s = 1) : wc X (D + 1) 52 [(26, 351), (0, s)] M (fun r M1 => r = none ∧ LR2 X e T L t0 (tE T L a) c n s M M1) := by
  show wp X (D + 1) 52 0 [(26, 351), (0, s), (9, 0)] [] M _
  have r1 : Cr M (mj_wr M 351 8 (1 - s)) := Cr.rfl'.w1 (by decide)
  have p1 : CP (mj_wr M 351 8 (1 - s)) T L a c := ⟨h.cx.cr r1, h.a0, h.aL, by simp only [hh_wr, h.f0, ↓reduceIte, hh_wr, hl_wr, b10, b11, ite_not, ne_eq, Int.reduceEq, Int.reduceLE, Int.reduceLT, Int.reduceNe, Int.reduceNeg, Int.reduceAdd, Int.reduceSub, Int.reduceMul, not_false_eq_true, not_true_eq_false, false_and, and_false, true_and, and_true, and_self, true_or, or_true, false_or, or_false, if_true, if_false, ite_true, ite_false, mj_tl_some, mj_tl_none, mj_cs0, mj_cs1, mj_cs2, mj_cs3, mj_cs4], by simp only [hh_wr, h.e4, ↓reduceIte, hh_wr, hl_wr, b10, b11, ite_not, ne_eq, Int.reduceEq, Int.reduceLE, Int.reduceLT, Int.reduceNe, Int.reduceNeg, Int.reduceAdd, Int.reduceSub, Int.reduceMul, not_false_eq_true, not_true_eq_false, false_and, and_false, true_and, and_true, and_self, true_or, or_true, false_or, or_false, if_true, if_false, ite_true, ite_false, mj_tl_some, mj_tl_none, mj_cs0, mj_cs1, mj_cs2, mj_cs3, mj_cs4], by simp only [hh_wr, h.e5, ↓reduceIte, hh_wr, hl_wr, b10, b11, ite_not, ne_eq, Int.reduceEq, Int.reduceLE, Int.reduceLT, Int.reduceNe, Int.reduceNeg, Int.reduceAdd, Int.reduceSub, Int.reduceMul, not_false_eq_true, not_true_eq_false, false_and, and_false, true_and, and_true, and_self, true_or, or_true, false_or, or_false, if_true, if_false, ite_true, ite_false, mj_tl_some, mj_tl_none, mj_cs0, mj_cs1, mj_cs2, mj_cs3, mj_cs4], by simp only [hh_wr, h.e6, ↓reduceIte, hh_wr, hl_wr, b10, b11, ite_not, ne_eq, Int.reduceEq, Int.reduceLE, Int.reduceLT, Int.reduceNe, Int.reduceNeg, Int.reduceAdd, Int.reduceSub, Int.reduceMul, not_false_eq_true, not_true_eq_false, false_and, and_false, true_and, and_true, and_self, true_or, or_true, false_or, or_false, if_true, if_false, ite_true, ite_false, mj_tl_some, mj_tl_none, mj_cs0, mj_cs1, mj_cs2, mj_cs3, mj_cs4], fun q => by simp only [hh_wr, h.e7 q, ↓reduceIte, hh_wr, hl_wr, b10, b11, ite_not, ne_eq, Int.reduceEq, Int.reduceLE, Int.reduceLT, Int.reduceNe, Int.reduceNeg, Int.reduceAdd, Int.reduceSub, Int.reduceMul, not_false_eq_true, not_true_eq_false, false_and, and_false, true_and, and_true, and_self, true_or, or_true, false_or, or_false, if_true, if_false, ite_true, ite_false, mj_tl_some, mj_tl_none, mj_cs0, mj_cs1, mj_cs2, mj_cs3, mj_cs4], by simp only [hh_wr, h.c, ↓reduceIte, hh_wr, hl_wr, b10, b11, ite_not, ne_eq, Int.reduceEq, Int.reduceLE, Int.reduceLT, Int.reduceNe, Int.reduceNeg, Int.reduceAdd, Int.reduceSub, Int.reduceMul, not_false_eq_true, not_true_eq_false, false_and, and_false, true_and, and_true, and_self, true_or, or_true, false_or, or_false, if_true, if_false, ite_true, ite_false, mj_tl_some, mj_tl_none, mj_cs0, mj_cs1, mj_cs2, mj_cs3, mj_cs4], h.c0, h.ca⟩
  have go : wp X (D + 1) 52 18 [(26, 351), (0, s), (0, c)] [] (mj_wr M 351 8 (1 - s)) (fun r M1 => r = none ∧ LR2 X e T L t0 (tE T L a) c n s M M1) := by
    simp only [w52_18, w52_19, ↓reduceIte, hh_wr, hl_wr, b10, b11, ite_not, ne_eq, Int.reduceEq, Int.reduceLE, Int.reduceLT, Int.reduceNe, Int.reduceNeg, Int.reduceAdd, Int.reduceSub, Int.reduceMul, not_false_eq_true, not_true_eq_false, false_and, and_false, true_and, and_true, and_self, true_or, or_true, false_or, or_false, if_true, if_false, ite_true, ite_false, mj_tl_some, mj_tl_none, mj_cs0, mj_cs1, mj_cs2, mj_cs3, mj_cs4]
    refine wc.mono (c_nxP (by omega) p1 hk) ?_
    rintro r Mn ⟨rfl, kn, pn⟩
    have sm := (c_all (X := X) (e := e) (T := T) (L := L) (t0 := t0) hs 8 (Nat.le_refl _)).2.1 Mn (tE T L a) c D (by omega) pn (by rw [kn.h _ _ (by decide)]; simp only [hh_wr, ↓reduceIte, hh_wr, hl_wr, b10, b11, ite_not, ne_eq, Int.reduceEq, Int.reduceLE, Int.reduceLT, Int.reduceNe, Int.reduceNeg, Int.reduceAdd, Int.reduceSub, Int.reduceMul, not_false_eq_true, not_true_eq_false, false_and, and_false, true_and, and_true, and_self, true_or, or_true, false_or, or_false, if_true, if_false, ite_true, ite_false, mj_tl_some, mj_tl_none, mj_cs0, mj_cs1, mj_cs2, mj_cs3, mj_cs4])
    rw [show (8 : Int) - ((8 : Nat) : Int) = 0 by decide] at sm
    have m1 : ∀ j, j = 1 ∨ j = 9 ∨ (13 ≤ j ∧ j ≤ 16) → hh Mn 351 j = hh M 351 j := fun j hj => by rw [kn.h _ _ (by omega), hh_wr, if_neg (by omega)]
    have m2 : ∀ x j, x ≠ 351 → hh Mn x j = hh M x j := fun x j hx => by rw [kn.h _ _ (by omega), hh_wr, if_neg (by omega)]
    have i8 : hh Mn 351 8 = 1 - s := by rw [kn.h _ _ (by decide)]; simp only [hh_wr, ↓reduceIte, hh_wr, hl_wr, b10, b11, ite_not, ne_eq, Int.reduceEq, Int.reduceLE, Int.reduceLT, Int.reduceNe, Int.reduceNeg, Int.reduceAdd, Int.reduceSub, Int.reduceMul, not_false_eq_true, not_true_eq_false, false_and, and_false, true_and, and_true, and_self, true_or, or_true, false_or, or_false, if_true, if_false, ite_true, ite_false, mj_tl_some, mj_tl_none, mj_cs0, mj_cs1, mj_cs2, mj_cs3, mj_cs4]
    simp only [w52_22, w52_23, w52_24, ↓reduceIte, hh_wr, hl_wr, b10, b11, ite_not, ne_eq, Int.reduceEq, Int.reduceLE, Int.reduceLT, Int.reduceNe, Int.reduceNeg, Int.reduceAdd, Int.reduceSub, Int.reduceMul, not_false_eq_true, not_true_eq_false, false_and, and_false, true_and, and_true, and_self, true_or, or_true, false_or, or_false, if_true, if_false, ite_true, ite_false, mj_tl_some, mj_tl_none, mj_cs0, mj_cs1, mj_cs2, mj_cs3, mj_cs4]
    refine wc.mono sm ?_
    rintro r M1 ⟨rfl, ⟨c2, a2, cl, rl, f, pq, l2, s1, x2, g2, fo2⟩ | ⟨r2, k, q, fl, bd⟩⟩
    · simp only [w52_27, w52_28, w52_30, ↓reduceIte, hh_wr, hl_wr, b10, b11, ite_not, ne_eq, Int.reduceEq, Int.reduceLE, Int.reduceLT, Int.reduceNe, Int.reduceNeg, Int.reduceAdd, Int.reduceSub, Int.reduceMul, not_false_eq_true, not_true_eq_false, false_and, and_false, true_and, and_true, and_self, true_or, or_true, false_or, or_false, if_true, if_false, ite_true, ite_false, mj_tl_some, mj_tl_none, mj_cs0, mj_cs1, mj_cs2, mj_cs3, mj_cs4]
      refine wc.mono (c_expect (by omega) pq (by decide)) ?_
      rintro r M2 ⟨rfl, ⟨e36, k2, p2⟩ | ⟨e36, r2, f2⟩⟩
      · rw [mj_tl_none]
        have in2 : hh M2 351 8 = 1 - s := by rw [k2.h _ _ (by decide), c2.f 8 (by omega)]; exact i8
        have n2 : hh M2 351 9 = n := by rw [k2.h _ _ (by decide), c2.f 9 (by omega), m1 9 (by omega)]; exact hn
        have s2 : stands (hh M2 353) c cl := s1.keep (fun j _ _ => k2.h _ _ (by omega))
        have tail : ∀ M3, Cr M2 M3 → CP M3 T L (tE T L a2) (c + (cl.length : Int)) → (∀ j, hh M3 353 j = hh M2 353 j) → (∀ j, hh M3 352 j = hh M2 352 j) → hh M3 351 9 = n → hh M3 351 1 = hh M2 351 1 → hh M3 351 (13 + 2 * s) = c → hh M3 351 (14 + 2 * s) = c + cl.length → (∀ j, j = 15 - 2 * s ∨ j = 16 - 2 * s → hh M3 351 j = hh M2 351 j) → wp X (D + 1) 52 69 [(26, 351), (0, s), (0, c)] [] M3 (fun r M1 => r = none ∧ LR2 X e T L t0 (tE T L a) c n s M M1) := by
          intro M3 r3 p3 e1 e2 e3 e4 e5 e6 e7
          simp only [w52_69, w52_70, w52_71, w52_72, w52_73, w52_74, ↓reduceIte, hh_wr, hl_wr, b10, b11, ite_not, ne_eq, Int.reduceEq, Int.reduceLE, Int.reduceLT, Int.reduceNe, Int.reduceNeg, Int.reduceAdd, Int.reduceSub, Int.reduceMul, not_false_eq_true, not_true_eq_false, false_and, and_false, true_and, and_true, and_self, true_or, or_true, false_or, or_false, if_true, if_false, ite_true, ite_false, mj_tl_some, mj_tl_none, mj_cs0, mj_cs1, mj_cs2, mj_cs3, mj_cs4]
          refine wc.mono (c_keep p3 e3 n0) ?_
          rintro r M4 ⟨rfl, p4, d4⟩
          simp only [w52_77, ↓reduceIte, hh_wr, hl_wr, b10, b11, ite_not, ne_eq, Int.reduceEq, Int.reduceLE, Int.reduceLT, Int.reduceNe, Int.reduceNeg, Int.reduceAdd, Int.reduceSub, Int.reduceMul, not_false_eq_true, not_true_eq_false, false_and, and_false, true_and, and_true, and_self, true_or, or_true, false_or, or_false, if_true, if_false, ite_true, ite_false, mj_tl_some, mj_tl_none, mj_cs0, mj_cs1, mj_cs2, mj_cs3, mj_cs4]
          refine Or.inl ⟨a2, cl, rl, f, p4, s2.keep (fun j _ _ => (d4.d j).trans (e1 j)), x2, g2, fol_na fo2, ((((r1.tr kn.cr).tr c2.r).tr k2.cr).tr r3).q.tr d4.r, d4.c0, fun j hj => ?_, d4.n, fun j hj => ?_, ?_, ?_, ?_, fun j hj => ?_, e36⟩
          · rw [d4.k j hj, e2, k2.h _ _ (by omega), c2.k, m2 _ _ (by decide)]
          · rw [d4.d, e1, k2.h _ _ (by omega), c2.c j hj, m2 _ _ (by decide)]
          · rw [d4.f 1 (by omega), e4, k2.h _ _ (by decide), c2.f 1 (by omega), m1 1 (by omega)]
          · rw [d4.f _ (by omega)]; exact e5
          · rw [d4.f _ (by omega)]; exact e6
          · rw [d4.f j (by omega), e7 j hj, k2.h _ _ (by omega), c2.f j (by omega), m1 j (by omega)]
        have cpw : ∀ i1 i2 v1 v2, (13 ≤ i1 ∧ i1 ≤ 16) → (13 ≤ i2 ∧ i2 ≤ 16) → CP (mj_wr (mj_wr M2 351 i1 v1) 351 i2 v2) T L (tE T L a2) (c + (cl.length : Int)) ∧ Cr M2 (mj_wr (mj_wr M2 351 i1 v1) 351 i2 v2) := by
          intro i1 i2 v1 v2 h1 h2
          have r3 : Cr M2 (mj_wr (mj_wr M2 351 i1 v1) 351 i2 v2) := (Cr.rfl'.w1 (by omega)).w1 (by omega)
          have g : ∀ j, j ≠ i1 → j ≠ i2 → hh (mj_wr (mj_wr M2 351 i1 v1) 351 i2 v2) 351 j = hh M2 351 j := fun j a b => by rw [hh_wr, if_neg (fun q => b q.2), hh_wr, if_neg (fun q => a q.2)]
          exact ⟨⟨p2.cx.cr r3, p2.a0, p2.aL, (g _ (by omega) (by omega)).trans p2.f0, (g _ (by omega) (by omega)).trans p2.e4, (g _ (by omega) (by omega)).trans p2.e5, (g _ (by omega) (by omega)).trans p2.e6, fun q => (g _ (by omega) (by omega)).trans (p2.e7 q), (g _ (by omega) (by omega)).trans p2.c, p2.c0, p2.ca⟩, r3⟩
        rcases hs with rfl | rfl
        · simp only [w52_33, w52_34, w52_37, w52_40, w52_41, w52_42, w52_45, w52_46, w52_47, w52_50, w52_53, in2, p2.c, ↓reduceIte, hh_wr, hl_wr, b10, b11, ite_not, ne_eq, Int.reduceEq, Int.reduceLE, Int.reduceLT, Int.reduceNe, Int.reduceNeg, Int.reduceAdd, Int.reduceSub, Int.reduceMul, not_false_eq_true, not_true_eq_false, false_and, and_false, true_and, and_true, and_self, true_or, or_true, false_or, or_false, if_true, if_false, ite_true, ite_false, mj_tl_some, mj_tl_none, mj_cs0, mj_cs1, mj_cs2, mj_cs3, mj_cs4]
          obtain ⟨q1, q2⟩ := cpw 13 14 c (c + (cl.length : Int)) (by decide) (by decide)
          exact tail _ q2 q1 (fun j => by simp only [hh_wr, ↓reduceIte, hh_wr, hl_wr, b10, b11, ite_not, ne_eq, Int.reduceEq, Int.reduceLE, Int.reduceLT, Int.reduceNe, Int.reduceNeg, Int.reduceAdd, Int.reduceSub, Int.reduceMul, not_false_eq_true, not_true_eq_false, false_and, and_false, true_and, and_true, and_self, true_or, or_true, false_or, or_false, if_true, if_false, ite_true, ite_false, mj_tl_some, mj_tl_none, mj_cs0, mj_cs1, mj_cs2, mj_cs3, mj_cs4]) (fun j => by simp only [hh_wr, ↓reduceIte, hh_wr, hl_wr, b10, b11, ite_not, ne_eq, Int.reduceEq, Int.reduceLE, Int.reduceLT, Int.reduceNe, Int.reduceNeg, Int.reduceAdd, Int.reduceSub, Int.reduceMul, not_false_eq_true, not_true_eq_false, false_and, and_false, true_and, and_true, and_self, true_or, or_true, false_or, or_false, if_true, if_false, ite_true, ite_false, mj_tl_some, mj_tl_none, mj_cs0, mj_cs1, mj_cs2, mj_cs3, mj_cs4]) (by simp only [hh_wr, n2, ↓reduceIte, hh_wr, hl_wr, b10, b11, ite_not, ne_eq, Int.reduceEq, Int.reduceLE, Int.reduceLT, Int.reduceNe, Int.reduceNeg, Int.reduceAdd, Int.reduceSub, Int.reduceMul, not_false_eq_true, not_true_eq_false, false_and, and_false, true_and, and_true, and_self, true_or, or_true, false_or, or_false, if_true, if_false, ite_true, ite_false, mj_tl_some, mj_tl_none, mj_cs0, mj_cs1, mj_cs2, mj_cs3, mj_cs4]) (by simp only [hh_wr, ↓reduceIte, hh_wr, hl_wr, b10, b11, ite_not, ne_eq, Int.reduceEq, Int.reduceLE, Int.reduceLT, Int.reduceNe, Int.reduceNeg, Int.reduceAdd, Int.reduceSub, Int.reduceMul, not_false_eq_true, not_true_eq_false, false_and, and_false, true_and, and_true, and_self, true_or, or_true, false_or, or_false, if_true, if_false, ite_true, ite_false, mj_tl_some, mj_tl_none, mj_cs0, mj_cs1, mj_cs2, mj_cs3, mj_cs4]) (by simp only [hh_wr, ↓reduceIte, hh_wr, hl_wr, b10, b11, ite_not, ne_eq, Int.reduceEq, Int.reduceLE, Int.reduceLT, Int.reduceNe, Int.reduceNeg, Int.reduceAdd, Int.reduceSub, Int.reduceMul, not_false_eq_true, not_true_eq_false, false_and, and_false, true_and, and_true, and_self, true_or, or_true, false_or, or_false, if_true, if_false, ite_true, ite_false, mj_tl_some, mj_tl_none, mj_cs0, mj_cs1, mj_cs2, mj_cs3, mj_cs4]) (by simp only [hh_wr, ↓reduceIte, hh_wr, hl_wr, b10, b11, ite_not, ne_eq, Int.reduceEq, Int.reduceLE, Int.reduceLT, Int.reduceNe, Int.reduceNeg, Int.reduceAdd, Int.reduceSub, Int.reduceMul, not_false_eq_true, not_true_eq_false, false_and, and_false, true_and, and_true, and_self, true_or, or_true, false_or, or_false, if_true, if_false, ite_true, ite_false, mj_tl_some, mj_tl_none, mj_cs0, mj_cs1, mj_cs2, mj_cs3, mj_cs4]) (fun j hj => by simp only [hh_wr, show ¬ j = 13 by omega, show ¬ j = 14 by omega, ↓reduceIte, hh_wr, hl_wr, b10, b11, ite_not, ne_eq, Int.reduceEq, Int.reduceLE, Int.reduceLT, Int.reduceNe, Int.reduceNeg, Int.reduceAdd, Int.reduceSub, Int.reduceMul, not_false_eq_true, not_true_eq_false, false_and, and_false, true_and, and_true, and_self, true_or, or_true, false_or, or_false, if_true, if_false, ite_true, ite_false, mj_tl_some, mj_tl_none, mj_cs0, mj_cs1, mj_cs2, mj_cs3, mj_cs4])
        · simp only [w52_33, w52_34, w52_37, w52_56, w52_57, w52_58, w52_61, w52_62, w52_63, w52_66, in2, p2.c, ↓reduceIte, hh_wr, hl_wr, b10, b11, ite_not, ne_eq, Int.reduceEq, Int.reduceLE, Int.reduceLT, Int.reduceNe, Int.reduceNeg, Int.reduceAdd, Int.reduceSub, Int.reduceMul, not_false_eq_true, not_true_eq_false, false_and, and_false, true_and, and_true, and_self, true_or, or_true, false_or, or_false, if_true, if_false, ite_true, ite_false, mj_tl_some, mj_tl_none, mj_cs0, mj_cs1, mj_cs2, mj_cs3, mj_cs4]
          obtain ⟨q1, q2⟩ := cpw 15 16 c (c + (cl.length : Int)) (by decide) (by decide)
          exact tail _ q2 q1 (fun j => by simp only [hh_wr, ↓reduceIte, hh_wr, hl_wr, b10, b11, ite_not, ne_eq, Int.reduceEq, Int.reduceLE, Int.reduceLT, Int.reduceNe, Int.reduceNeg, Int.reduceAdd, Int.reduceSub, Int.reduceMul, not_false_eq_true, not_true_eq_false, false_and, and_false, true_and, and_true, and_self, true_or, or_true, false_or, or_false, if_true, if_false, ite_true, ite_false, mj_tl_some, mj_tl_none, mj_cs0, mj_cs1, mj_cs2, mj_cs3, mj_cs4]) (fun j => by simp only [hh_wr, ↓reduceIte, hh_wr, hl_wr, b10, b11, ite_not, ne_eq, Int.reduceEq, Int.reduceLE, Int.reduceLT, Int.reduceNe, Int.reduceNeg, Int.reduceAdd, Int.reduceSub, Int.reduceMul, not_false_eq_true, not_true_eq_false, false_and, and_false, true_and, and_true, and_self, true_or, or_true, false_or, or_false, if_true, if_false, ite_true, ite_false, mj_tl_some, mj_tl_none, mj_cs0, mj_cs1, mj_cs2, mj_cs3, mj_cs4]) (by simp only [hh_wr, n2, ↓reduceIte, hh_wr, hl_wr, b10, b11, ite_not, ne_eq, Int.reduceEq, Int.reduceLE, Int.reduceLT, Int.reduceNe, Int.reduceNeg, Int.reduceAdd, Int.reduceSub, Int.reduceMul, not_false_eq_true, not_true_eq_false, false_and, and_false, true_and, and_true, and_self, true_or, or_true, false_or, or_false, if_true, if_false, ite_true, ite_false, mj_tl_some, mj_tl_none, mj_cs0, mj_cs1, mj_cs2, mj_cs3, mj_cs4]) (by simp only [hh_wr, ↓reduceIte, hh_wr, hl_wr, b10, b11, ite_not, ne_eq, Int.reduceEq, Int.reduceLE, Int.reduceLT, Int.reduceNe, Int.reduceNeg, Int.reduceAdd, Int.reduceSub, Int.reduceMul, not_false_eq_true, not_true_eq_false, false_and, and_false, true_and, and_true, and_self, true_or, or_true, false_or, or_false, if_true, if_false, ite_true, ite_false, mj_tl_some, mj_tl_none, mj_cs0, mj_cs1, mj_cs2, mj_cs3, mj_cs4]) (by simp only [hh_wr, ↓reduceIte, hh_wr, hl_wr, b10, b11, ite_not, ne_eq, Int.reduceEq, Int.reduceLE, Int.reduceLT, Int.reduceNe, Int.reduceNeg, Int.reduceAdd, Int.reduceSub, Int.reduceMul, not_false_eq_true, not_true_eq_false, false_and, and_false, true_and, and_true, and_self, true_or, or_true, false_or, or_false, if_true, if_false, ite_true, ite_false, mj_tl_some, mj_tl_none, mj_cs0, mj_cs1, mj_cs2, mj_cs3, mj_cs4]) (by simp only [hh_wr, ↓reduceIte, hh_wr, hl_wr, b10, b11, ite_not, ne_eq, Int.reduceEq, Int.reduceLE, Int.reduceLT, Int.reduceNe, Int.reduceNeg, Int.reduceAdd, Int.reduceSub, Int.reduceMul, not_false_eq_true, not_true_eq_false, false_and, and_false, true_and, and_true, and_self, true_or, or_true, false_or, or_false, if_true, if_false, ite_true, ite_false, mj_tl_some, mj_tl_none, mj_cs0, mj_cs1, mj_cs2, mj_cs3, mj_cs4]) (fun j hj => by simp only [hh_wr, show ¬ j = 15 by omega, show ¬ j = 16 by omega, ↓reduceIte, hh_wr, hl_wr, b10, b11, ite_not, ne_eq, Int.reduceEq, Int.reduceLE, Int.reduceLT, Int.reduceNe, Int.reduceNeg, Int.reduceAdd, Int.reduceSub, Int.reduceMul, not_false_eq_true, not_true_eq_false, false_and, and_false, true_and, and_true, and_self, true_or, or_true, false_or, or_false, if_true, if_false, ite_true, ite_false, mj_tl_some, mj_tl_none, mj_cs0, mj_cs1, mj_cs2, mj_cs3, mj_cs4])
      · rw [mj_tl_none]
        refine wp.mono (c_lawF f2 (((r1.tr kn.cr).tr c2.r).tr r2) (by omega)) ?_
        rintro r M9 ⟨rfl, q9, f9⟩
        exact ⟨rfl, Or.inr (Or.inl ⟨a2, rl, g2, fol_na fo2, e36, q9, f9⟩)⟩
    · simp only [w52_27, w52_28, w52_30, ↓reduceIte, hh_wr, hl_wr, b10, b11, ite_not, ne_eq, Int.reduceEq, Int.reduceLE, Int.reduceLT, Int.reduceNe, Int.reduceNeg, Int.reduceAdd, Int.reduceSub, Int.reduceMul, not_false_eq_true, not_true_eq_false, false_and, and_false, true_and, and_true, and_self, true_or, or_true, false_or, or_false, if_true, if_false, ite_true, ite_false, mj_tl_some, mj_tl_none, mj_cs0, mj_cs1, mj_cs2, mj_cs3, mj_cs4]
      refine wc.mono (c_expectF (by omega) fl (by decide)) ?_
      rintro r M2 ⟨rfl, r3, f3⟩
      rw [mj_tl_none]
      refine wp.mono (c_lawF f3 (((r1.tr kn.cr).tr r2).tr r3) (by omega)) ?_
      rintro r M9 ⟨rfl, q9, f9⟩
      exact ⟨rfl, Or.inr (Or.inr ⟨k, q, bd, q9, f9⟩)⟩
  rcases hs with rfl | rfl
  · simp only [w52_0, w52_1, w52_4, w52_5, w52_6, w52_7, w52_10, w52_11, w52_14, w52_15, h.c, ↓reduceIte, hh_wr, hl_wr, b10, b11, ite_not, ne_eq, Int.reduceEq, Int.reduceLE, Int.reduceLT, Int.reduceNe, Int.reduceNeg, Int.reduceAdd, Int.reduceSub, Int.reduceMul, not_false_eq_true, not_true_eq_false, false_and, and_false, true_and, and_true, and_self, true_or, or_true, false_or, or_false, if_true, if_false, ite_true, ite_false, mj_tl_some, mj_tl_none, mj_cs0, mj_cs1, mj_cs2, mj_cs3, mj_cs4]
    exact go
  · simp only [w52_0, w52_1, w52_4, w52_5, w52_6, w52_7, w52_10, w52_11, w52_14, w52_15, h.c, ↓reduceIte, hh_wr, hl_wr, b10, b11, ite_not, ne_eq, Int.reduceEq, Int.reduceLE, Int.reduceLT, Int.reduceNe, Int.reduceNeg, Int.reduceAdd, Int.reduceSub, Int.reduceMul, not_false_eq_true, not_true_eq_false, false_and, and_false, true_and, and_true, and_self, true_or, or_true, false_or, or_false, if_true, if_false, ite_true, ite_false, mj_tl_some, mj_tl_none, mj_cs0, mj_cs1, mj_cs2, mj_cs3, mj_cs4]
    exact go
end CCl2
