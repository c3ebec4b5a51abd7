/-! TEXT: whole texts as the reference takes them -/
/-- a law: its clause, where it begins in the reference's code and in the class's, both codes, what it says -/
abbrev LD : Type := Int × Int × Int × List Int × List (Int × Int) × (Env → Int)
def LRr (M : mj_M) (t0 : Int) : Option LD → Prop
  | none => True
  | some (k, wf, _, _, rl, _) => hh M 357 (t0 + 1 + 4 * k + 1) = wf ∧ hh M 357 (t0 + 1 + 4 * k + 2) = wf + rl.length ∧ stands2 (hh M 357) (t0 + 97 + 2 * wf) rl
def LPr (n w c : Int) (S : Int → Int → Int) (s : Int) : Option LD → Prop
  | none => ∀ k, 0 ≤ k → k < n → S k 0 ≠ s
  | some (k, wf, cf, cl, rl, f) => (0 ≤ k ∧ k < n) ∧ S k 0 = s ∧ (∀ i, 0 ≤ i → i < k → S i 0 ≠ s) ∧ 0 ≤ wf ∧ wf + rl.length ≤ w ∧ 0 ≤ cf ∧ cf + cl.length ≤ c ∧ EX cf cl rl false 43 f
def RD (M : mj_M) (t0 n : Int) (S : Int → Int → Int) : Prop := ∀ k, 0 ≤ k → k < n → hh M 357 (t0 + 1 + 4 * k) = S k 0 ∧ (2 ≤ S k 0 → drow M (S k 0) (t0 + 1 + 4 * k) (S k 1) (S k 2) (S k 3))
def ob : Option LD → Int
  | none => 0
  | some _ => 1
def onv (Lf Ll : Option LD) : Int := ob Lf + 2 * ob Ll
def updS (S : Int → Int → Int) (n s v1 v2 v3 : Int) : Int → Int → Int := fun k i => if k = n then (if i = 0 then s else if i = 1 then v1 else if i = 2 then v2 else v3) else S k i
def GT (X : mj_X) (e : Nat) (T : Int → Int) (L t0 a n w : Int) (S : Int → Int → Int) (Lf Ll : Option LD) : Prop := ∀ (M : mj_M) (Q : Option mj_V → mj_M → Prop), RC M T L t0 0 0 0 0 → (∀ M1, RC M1 T L t0 a n w (onv Lf Ll) → RD M1 t0 n S → LRr M1 t0 Lf → LRr M1 t0 Ll → Fi t0 M M1 → LpT X e M1 Q) → LpT X e M Q
def BT (X : mj_X) (e : Nat) (T : Int → Int) (L t0 k q : Int) : Prop := ∀ (M : mj_M) (Q : Option mj_V → mj_M → Prop), RC M T L t0 0 0 0 0 → (∀ M1, hh M1 354 13 = q → Fi t0 M M1 → Q (some (0, k)) M1) → LpT X e M Q
theorem tE_ge {T : Int → Int} {L a : Int} (h : a ≤ L) : a ≤ tE T L a ∧ tE T L a ≤ L := by
  have h1 := tS_r (T := T) h
  have h2 := tE_r (T := T) h
  omega
theorem dok_ge {T : Int → Int} {L w a a' v1 v2 v3 : Int} (hL : a ≤ L) (h : dok T L w a a' v1 v2 v3) : a ≤ a' ∧ a' ≤ L := by
  have g1 := tE_ge (T := T) hL
  have g2 := tE_ge (T := T) g1.2
  have g3 := tE_ge (T := T) g2.2
  have g4 := tE_ge (T := T) g3.2
  have g5 := tE_ge (T := T) g4.2
  rcases h with ⟨_, _, e, _⟩ | ⟨_, _, e, _⟩ | ⟨_, _, e, _⟩ | ⟨_, _, _, e, _⟩ | ⟨_, _, e, _⟩ | ⟨_, _, e, _⟩ | ⟨_, _, e, _⟩ <;> omega
theorem LRr.keep {M M1 : mj_M} {t0 n w c s : Int} {S : Int → Int → Int} : ∀ {l : Option LD}, LRr M t0 l → LPr n w c S s l → (∀ j, (t0 + 1 ≤ j ∧ j < t0 + 1 + 4 * n) ∨ (t0 + 97 ≤ j ∧ j < t0 + 97 + 2 * w) → hh M1 357 j = hh M 357 j) → LRr M1 t0 l
  | none, _, _, _ => trivial
  | some (k, wf, cf, cl, rl, f), h, p, g => by
    obtain ⟨h1, h2, h3⟩ := h
    obtain ⟨p1, _, _, p4, p5, _⟩ := p
    refine ⟨(g _ (by omega)).trans h1, (g _ (by omega)).trans h2, fun i hi => ?_⟩
    rw [g _ (by omega), g _ (by omega)]
    exact h3 i hi
theorem RD.keep {M M1 : mj_M} {t0 n : Int} {S : Int → Int → Int} (h : RD M t0 n S) (g : ∀ j, t0 + 1 ≤ j ∧ j < t0 + 1 + 4 * n → hh M1 357 j = hh M 357 j) : RD M1 t0 n S := fun k a b => by
  obtain ⟨h1, h2⟩ := h k a b
  refine ⟨(g _ (by omega)).trans h1, fun q => ?_⟩
  obtain ⟨d1, d2, d3⟩ := h2 q
  exact ⟨(g _ (by omega)).trans d1, fun x y => (g _ (by omega)).trans (d2 x y), fun x => (g _ (by omega)).trans (d3 x)⟩
/-- a row more -/
theorem RD.add {M : mj_M} {t0 n s v1 v2 v3 : Int} {S : Int → Int → Int} (h : RD M t0 n S) (e : hh M 357 (t0 + 1 + 4 * n) = s) (d : 2 ≤ s → drow M s (t0 + 1 + 4 * n) v1 v2 v3) : RD M t0 (n + 1) (updS S n s v1 v2 v3) := fun k a b => by
  by_cases c : k = n
  · subst c
    have e0 : updS S k s v1 v2 v3 k 0 = s := by simp [updS]
    have e1 : updS S k s v1 v2 v3 k 1 = v1 := by simp [updS]
    have e2 : updS S k s v1 v2 v3 k 2 = v2 := by simp [updS]
    have e3 : updS S k s v1 v2 v3 k 3 = v3 := by simp [updS]
    rw [e0, e1, e2, e3]
    exact ⟨e, d⟩
  · have ei : ∀ i, updS S n s v1 v2 v3 k i = S k i := fun i => by unfold updS; rw [if_neg c]
    rw [ei, ei, ei, ei]
    exact h k a (by omega)
theorem sox_40 {K s : Int} (h : sox K = s) (s0 : 0 ≤ s) : K ≠ 40 := fun q => by
  rw [q] at h
  have : sox 40 = -1 := rfl
  omega
theorem ob_r : ∀ l : Option LD, ob l = 0 ∨ ob l = 1
  | none => Or.inl rfl
  | some _ => Or.inr rfl
theorem onv_r (Lf Ll : Option LD) : 0 ≤ onv Lf Ll ∧ onv Lf Ll ≤ 3 := by
  have h1 := ob_r Lf
  have h2 := ob_r Ll
  unfold onv
  omega
section GTs
variable {X : mj_X} {e : Nat} {T : Int → Int} {L t0 a a1 n w c k q s v1 v2 v3 : Int} {S : Int → Int → Int} {Lf Ll : Option LD} {cl : List Int} {rl : List (Int × Int)} {f : Env → Int}
theorem gt_0 : GT X e T L t0 0 0 0 S none none := fun M Q h hq => hq M h (fun k a b => by omega) trivial trivial Fi.rfl'
theorem bt_none (g : GT X e T L t0 a n w S Lf Ll) (hk : tK T L a ≠ 40) (hs : sox (tK T L a) = -1) : BT X e T L t0 1 (tS T L a) := by
  intro M Q h hq
  refine g M Q h (fun M1 rc rd lf ll fi => lt_go rc.rl hk (wc.mono (cl_none (d := e) rc.rl hs) ?_))
  rintro r M2 ⟨rfl, rfl⟩
  exact Or.inr ⟨1, rfl, by decide, hq _ rc.rl.e13 fi⟩
theorem bt_dup0 (g : GT X e T L t0 a n w S Lf Ll) (hs : tK T L a = 0) (hL : Lf ≠ none) : BT X e T L t0 4 (tS T L a) := by
  intro M Q h hq
  refine g M Q h (fun M1 rc rd lf ll fi => lt_go rc.rl (by omega) (wc.mono (cl_dup (d := e) (s := 0) rc (by rw [hs]; rfl) (by decide) ?_) ?_))
  · cases Lf with
    | none => exact absurd rfl hL
    | some x =>
      show ji_and (ji_shr (1 + 2 * ob Ll) 0) 1 = 1
      rcases ob_r Ll with h | h <;> rw [h] <;> decide +kernel
  · rintro r M2 ⟨rfl, rfl⟩
    exact Or.inr ⟨4, rfl, by decide, hq _ rc.rl.e13 fi⟩
theorem bt_dup1 (g : GT X e T L t0 a n w S Lf Ll) (hs : tK T L a = 1) (hL : Ll ≠ none) : BT X e T L t0 4 (tS T L a) := by
  intro M Q h hq
  refine g M Q h (fun M1 rc rd lf ll fi => lt_go rc.rl (by omega) (wc.mono (cl_dup (d := e) (s := 1) rc (by rw [hs]; rfl) (by decide) ?_) ?_))
  · cases Ll with
    | none => exact absurd rfl hL
    | some x =>
      show ji_and (ji_shr (ob Lf + 2 * 1) 1) 1 = 1
      rcases ob_r Lf with h | h <;> rw [h] <;> decide +kernel
  · rintro r M2 ⟨rfl, rfl⟩
    exact Or.inr ⟨4, rfl, by decide, hq _ rc.rl.e13 fi⟩
theorem on_free0 : ji_and (ji_shr (onv none Ll) 0) 1 ≠ 1 := by
  show ji_and (ji_shr (0 + 2 * ob Ll) 0) 1 ≠ 1
  rcases ob_r Ll with h | h <;> rw [h] <;> decide +kernel
theorem on_free1 : ji_and (ji_shr (onv Lf none) 1) 1 ≠ 1 := by
  show ji_and (ji_shr (ob Lf + 2 * 0) 1) 1 ≠ 1
  rcases ob_r Lf with h | h <;> rw [h] <;> decide +kernel
theorem bt_full (g : GT X e T L t0 a 24 w S Lf Ll) (hs : sox (tK T L a) = s) (s0 : 0 ≤ s) (f0 : s = 0 → Lf = none) (f1 : s = 1 → Ll = none) : BT X e T L t0 6 (tS T L a) := by
  intro M Q h hq
  refine g M Q h (fun M1 rc rd lf ll fi => lt_go rc.rl (sox_40 hs s0) (wc.mono (cl_full (d := e) rc hs s0 (fun s1 => ?_)) ?_))
  · rcases (show s = 0 ∨ s = 1 by omega) with rfl | rfl
    · rw [f0 rfl]; exact on_free0
    · rw [f1 rfl]; exact on_free1
  · rintro r M2 ⟨rfl, rfl⟩
    exact Or.inr ⟨6, rfl, by decide, hq _ rc.rl.e13 fi⟩
theorem gt_deed (g : GT X e T L t0 a n w S Lf Ll) (pf : LPr n w c S 0 Lf) (pl : LPr n w c S 1 Ll) (hs : sox (tK T L a) = s) (s2 : 2 ≤ s ∧ s ≤ 8) (n24 : n < 24) (hd : dok T L (srt s) (tE T L a) a1 v1 v2 v3) (hk : tK T L a1 = 36) : GT X e T L t0 (tE T L a1) (n + 1) w (updS S n s v1 v2 v3) Lf Ll := by
  intro M Q h hq
  refine g M Q h (fun M1 rc rd lf ll fi => lt_go rc.rl (sox_40 hs (by omega)) (cl_pre (d := e) rc hs (by omega) (fun q => by omega) (if_neg (by omega)).symm n24 (sox_40 hs (by omega)) (fun M2 rl2 f17 f18 f19 f24 ex r2 t2 => ?_)))
  have tt := rc.tt
  have n0 := rc.n0
  have g1 := tE_ge (T := T) rc.rl.aL
  have g2 := dok_ge g1.2 hd
  have g3 := tE_ge (T := T) g2.2
  refine wc.mono (m_body_ok (d := e + 3) rl2 s2 ⟨by omega, by omega⟩ hd) ?_
  rintro r M3 ⟨rfl, rl3, dr, w3⟩
  refine cl_tail rl3 (w3.f.1.trans f17) (by rw [w3.t _ (by omega), t2 _ (by omega)]; exact rc.n) ⟨by omega, n24⟩ tt (fun _ M4 rl4 k4 => Or.inl ⟨rfl, ?_⟩) (fun q => absurd hk q)
  have keep : ∀ j, ¬ (j = t0 ∨ (t0 + 1 + 4 * n ≤ j ∧ j < t0 + 5 + 4 * n)) → hh M4 357 j = hh M1 357 j := fun j hj => by
    rw [k4.h _ _ (by omega), hh_wr, if_neg (by omega), w3.t _ (by omega), t2 _ (by omega)]
  have row : ∀ j, t0 + 1 + 4 * n ≤ j → hh M4 357 j = hh M3 357 j := fun j hj => by
    rw [k4.h _ _ (by omega), hh_wr, if_neg (by omega)]
  have w0 := rc.w0
  refine hq M4 ⟨rl4, ?_, ?_, ?_, ?_, ⟨by omega, by omega⟩, ⟨by omega, by omega⟩, tt, onv_r _ _⟩ ((rd.keep (fun j hj => keep j (by omega))).add ?_ (fun _ => ?_)) (lf.keep pf (fun j hj => keep j (by omega))) (ll.keep pl (fun j hj => keep j (by omega))) ?_
  · rw [k4.h _ _ (by decide)]; simp only [hh_wr, ↓reduceIte, hh_wr, hl_wr, b10, b11, ite_not, ne_eq, Int.reduceEq, Int.reduceLE, Int.reduceLT, Int.reduceNe, Int.reduceNeg, Int.reduceAdd, Int.reduceSub, Int.reduceMul, not_false_eq_true, not_true_eq_false, false_and, and_false, true_and, and_true, and_self, true_or, or_true, false_or, or_false, if_true, if_false, ite_true, ite_false, mj_tl_some, mj_tl_none, mj_cs0, mj_cs1, mj_cs2, mj_cs3, mj_cs4]; exact w3.f.1.trans f17
  · rw [k4.h _ _ (by decide)]; simp only [hh_wr, ↓reduceIte, hh_wr, hl_wr, b10, b11, ite_not, ne_eq, Int.reduceEq, Int.reduceLE, Int.reduceLT, Int.reduceNe, Int.reduceNeg, Int.reduceAdd, Int.reduceSub, Int.reduceMul, not_false_eq_true, not_true_eq_false, false_and, and_false, true_and, and_true, and_self, true_or, or_true, false_or, or_false, if_true, if_false, ite_true, ite_false, mj_tl_some, mj_tl_none, mj_cs0, mj_cs1, mj_cs2, mj_cs3, mj_cs4]; exact w3.f.2.1.trans f18
  · rw [k4.h _ _ (by decide)]; simp only [hh_wr, ↓reduceIte, hh_wr, hl_wr, b10, b11, ite_not, ne_eq, Int.reduceEq, Int.reduceLE, Int.reduceLT, Int.reduceNe, Int.reduceNeg, Int.reduceAdd, Int.reduceSub, Int.reduceMul, not_false_eq_true, not_true_eq_false, false_and, and_false, true_and, and_true, and_self, true_or, or_true, false_or, or_false, if_true, if_false, ite_true, ite_false, mj_tl_some, mj_tl_none, mj_cs0, mj_cs1, mj_cs2, mj_cs3, mj_cs4]; exact w3.f.2.2.2.trans f24
  · rw [k4.h _ _ (by omega)]; simp only [hh_wr, ↓reduceIte, hh_wr, hl_wr, b10, b11, ite_not, ne_eq, Int.reduceEq, Int.reduceLE, Int.reduceLT, Int.reduceNe, Int.reduceNeg, Int.reduceAdd, Int.reduceSub, Int.reduceMul, not_false_eq_true, not_true_eq_false, false_and, and_false, true_and, and_true, and_self, true_or, or_true, false_or, or_false, if_true, if_false, ite_true, ite_false, mj_tl_some, mj_tl_none, mj_cs0, mj_cs1, mj_cs2, mj_cs3, mj_cs4]
  · rw [row _ (by omega), w3.t _ (by omega)]; exact ex
  · obtain ⟨x1, x2, x3⟩ := dr
    exact ⟨(row _ (by omega)).trans x1, fun u v => (row _ (by omega)).trans (x2 u v), fun u => (row _ (by omega)).trans (x3 u)⟩
  · refine fi.tr ⟨((r2.tr w3.r).w2 (Or.inr rfl)).tr k4.rr, fun j hj => keep j (by omega)⟩
theorem bt_deed (g : GT X e T L t0 a n w S Lf Ll) (hs : sox (tK T L a) = s) (s2 : 2 ≤ s ∧ s ≤ 8) (n24 : n < 24) (hd : dbd T L (srt s) (tE T L a) k q) : BT X e T L t0 k q := by
  intro M Q h hq
  refine g M Q h (fun M1 rc rd lf ll fi => lt_go rc.rl (sox_40 hs (by omega)) (cl_pre (d := e) rc hs (by omega) (fun q => by omega) (if_neg (by omega)).symm n24 (sox_40 hs (by omega)) (fun M2 rl2 f17 f18 f19 f24 ex r2 t2 => ?_)))
  have tt := rc.tt
  have n0 := rc.n0
  refine wc.mono (m_body_bad (d := e + 3) rl2 s2 ⟨by omega, by omega⟩ hd) ?_
  rintro r M3 ⟨rfl, k0, e3, w3⟩
  refine cl_fault k0 (Or.inr ⟨k, rfl, k0, hq _ e3 (fi.tr ⟨r2.tr w3.r, fun j hj => ?_⟩)⟩)
  rw [w3.t _ (by omega), t2 _ (by omega)]
theorem bt_stop (g : GT X e T L t0 a n w S Lf Ll) (hs : sox (tK T L a) = s) (s2 : 2 ≤ s ∧ s ≤ 8) (n24 : n < 24) (hd : dok T L (srt s) (tE T L a) a1 v1 v2 v3) (hk : tK T L a1 ≠ 36) : BT X e T L t0 1 (tS T L a1) := by
  intro M Q h hq
  refine g M Q h (fun M1 rc rd lf ll fi => lt_go rc.rl (sox_40 hs (by omega)) (cl_pre (d := e) rc hs (by omega) (fun q => by omega) (if_neg (by omega)).symm n24 (sox_40 hs (by omega)) (fun M2 rl2 f17 f18 f19 f24 ex r2 t2 => ?_)))
  have tt := rc.tt
  have n0 := rc.n0
  refine wc.mono (m_body_ok (d := e + 3) rl2 s2 ⟨by omega, by omega⟩ hd) ?_
  rintro r M3 ⟨rfl, rl3, dr, w3⟩
  refine cl_tail rl3 (w3.f.1.trans f17) (by rw [w3.t _ (by omega), t2 _ (by omega)]; exact rc.n) ⟨by omega, n24⟩ tt (fun q => absurd q hk) (fun _ => Or.inr ⟨1, rfl, by decide, hq _ (by simp only [hh_wr, rl3.e13, ↓reduceIte, hh_wr, hl_wr, b10, b11, ite_not, ne_eq, Int.reduceEq, Int.reduceLE, Int.reduceLT, Int.reduceNe, Int.reduceNeg, Int.reduceAdd, Int.reduceSub, Int.reduceMul, not_false_eq_true, not_true_eq_false, false_and, and_false, true_and, and_true, and_self, true_or, or_true, false_or, or_false, if_true, if_false, ite_true, ite_false, mj_tl_some, mj_tl_none, mj_cs0, mj_cs1, mj_cs2, mj_cs3, mj_cs4]) (fi.tr ⟨(r2.tr w3.r).w2 (Or.inr rfl), fun j hj => ?_⟩)⟩)
  rw [hh_wr, if_neg (by omega), w3.t _ (by omega), t2 _ (by omega)]
theorem on_add0 : onv (some (n, w, c, cl, rl, f)) Ll = if (0 : Int) ≤ 1 then ji_or (onv none Ll) (ji_shl 1 0) else onv none Ll := by
  show 1 + 2 * ob Ll = if (0 : Int) ≤ 1 then ji_or (0 + 2 * ob Ll) (ji_shl 1 0) else 0 + 2 * ob Ll
  rcases ob_r Ll with h | h <;> rw [h] <;> decide +kernel
theorem gt_law0 (g : GT X e T L t0 a n w S none Ll) (pl : LPr n w c S 1 Ll) (hs : tK T L a = 0) (n24 : n < 24) (gl : Gd X e T L t0 0 5 0 (tE T L a) a1 rl) (hn : na (tK T L a1)) (hk : tK T L a1 = 36) : GT X e T L t0 (tE T L a1) (n + 1) (w + rl.length) (updS S n 0 0 0 0) (some (n, w, c, cl, rl, f)) Ll := by
  intro M Q h hq
  refine g M Q h (fun M1 rc rd lf ll fi => lt_go rc.rl (by omega) (cl_pre (d := e) (s := 0) rc (by rw [hs]; rfl) (by decide) (fun _ => on_free0) (on_add0 (n := n) (w := w) (c := c) (cl := cl) (rl := rl) (f := f)) n24 (by omega) (fun M2 rl2 f17 f18 f19 f24 ex r2 t2 => ?_)))
  have tt := rc.tt
  have n0 := rc.n0
  have w0 := rc.w0
  have g1 := tE_ge (T := T) rc.rl.aL
  refine wc.mono (m_law_ok (d := e) rl2 f17 f18 f19 ⟨by omega, by omega⟩ tt ⟨by omega, by omega⟩ (by decide) gl hn) ?_
  rintro r M3 ⟨rfl, rl3, e18, wa, ⟨e17, e24⟩, x1, x2, st, r3, t3⟩
  have g2 := tE_ge (T := T) rl3.aL
  have l9 := rl3.x.tz.l9
  have a1L := rl3.aL
  refine cl_tail rl3 e17 (by rw [t3 _ (by omega), t2 _ (by omega)]; exact rc.n) ⟨by omega, n24⟩ tt (fun _ M4 rl4 k4 => Or.inl ⟨rfl, ?_⟩) (fun q => absurd hk q)
  have row : ∀ j, t0 + 1 ≤ j → hh M4 357 j = hh M3 357 j := fun j hj => by
    rw [k4.h _ _ (by omega), hh_wr, if_neg (by omega)]
  have keep : ∀ j, ¬ (j = t0 ∨ (t0 + 1 + 4 * n ≤ j ∧ j < t0 + 5 + 4 * n) ∨ (t0 + 97 + 2 * w ≤ j ∧ j < t0 + 97 + 2 * (w + (rl.length : Int)))) → hh M4 357 j = hh M1 357 j := fun j hj => by
    rw [k4.h _ _ (by omega), hh_wr, if_neg (by omega), t3 _ (by omega), t2 _ (by omega)]
  refine hq M4 ⟨rl4, ?_, ?_, ?_, ?_, ⟨by omega, by omega⟩, ⟨by omega, by omega⟩, tt, onv_r _ _⟩ ((rd.keep (fun j hj => keep j (by omega))).add ?_ (fun q => absurd q (by decide))) ⟨?_, ?_, ?_⟩ (ll.keep pl (fun j hj => keep j (by omega))) ?_
  · rw [k4.h _ _ (by decide)]; simp only [hh_wr, ↓reduceIte, hh_wr, hl_wr, b10, b11, ite_not, ne_eq, Int.reduceEq, Int.reduceLE, Int.reduceLT, Int.reduceNe, Int.reduceNeg, Int.reduceAdd, Int.reduceSub, Int.reduceMul, not_false_eq_true, not_true_eq_false, false_and, and_false, true_and, and_true, and_self, true_or, or_true, false_or, or_false, if_true, if_false, ite_true, ite_false, mj_tl_some, mj_tl_none, mj_cs0, mj_cs1, mj_cs2, mj_cs3, mj_cs4]; exact e17
  · rw [k4.h _ _ (by decide)]; simp only [hh_wr, ↓reduceIte, hh_wr, hl_wr, b10, b11, ite_not, ne_eq, Int.reduceEq, Int.reduceLE, Int.reduceLT, Int.reduceNe, Int.reduceNeg, Int.reduceAdd, Int.reduceSub, Int.reduceMul, not_false_eq_true, not_true_eq_false, false_and, and_false, true_and, and_true, and_self, true_or, or_true, false_or, or_false, if_true, if_false, ite_true, ite_false, mj_tl_some, mj_tl_none, mj_cs0, mj_cs1, mj_cs2, mj_cs3, mj_cs4]; exact e18
  · rw [k4.h _ _ (by decide)]; simp only [hh_wr, ↓reduceIte, hh_wr, hl_wr, b10, b11, ite_not, ne_eq, Int.reduceEq, Int.reduceLE, Int.reduceLT, Int.reduceNe, Int.reduceNeg, Int.reduceAdd, Int.reduceSub, Int.reduceMul, not_false_eq_true, not_true_eq_false, false_and, and_false, true_and, and_true, and_self, true_or, or_true, false_or, or_false, if_true, if_false, ite_true, ite_false, mj_tl_some, mj_tl_none, mj_cs0, mj_cs1, mj_cs2, mj_cs3, mj_cs4]; exact e24.trans f24
  · rw [k4.h _ _ (by omega)]; simp only [hh_wr, ↓reduceIte, hh_wr, hl_wr, b10, b11, ite_not, ne_eq, Int.reduceEq, Int.reduceLE, Int.reduceLT, Int.reduceNe, Int.reduceNeg, Int.reduceAdd, Int.reduceSub, Int.reduceMul, not_false_eq_true, not_true_eq_false, false_and, and_false, true_and, and_true, and_self, true_or, or_true, false_or, or_false, if_true, if_false, ite_true, ite_false, mj_tl_some, mj_tl_none, mj_cs0, mj_cs1, mj_cs2, mj_cs3, mj_cs4]
  · rw [row _ (by omega), t3 _ (by omega)]; exact ex
  · rw [row _ (by omega)]; exact x1
  · rw [row _ (by omega)]; exact x2
  · intro i hi
    rw [row _ (by omega), row _ (by omega)]
    exact st i hi
  · exact fi.tr ⟨((r2.tr r3).w2 (Or.inr rfl)).tr k4.rr, fun j hj => keep j (by omega)⟩
theorem bt_law0 (g : GT X e T L t0 a n w S none Ll) (hs : tK T L a = 0) (n24 : n < 24) (gl : Bd X e T L t0 0 5 0 (tE T L a) k q) (k0 : k ≠ 0) : BT X e T L t0 k q := by
  intro M Q h hq
  refine g M Q h (fun M1 rc rd lf ll fi => lt_go rc.rl (by omega) (cl_pre (d := e) (s := 0) rc (by rw [hs]; rfl) (by decide) (fun _ => on_free0) rfl n24 (by omega) (fun M2 rl2 f17 f18 f19 f24 ex r2 t2 => ?_)))
  have tt := rc.tt
  have n0 := rc.n0
  have w0 := rc.w0
  have g1 := tE_ge (T := T) rc.rl.aL
  refine wc.mono (m_law_bad (d := e) rl2 f17 f18 f19 ⟨by omega, by omega⟩ tt ⟨by omega, by omega⟩ (by decide) gl) ?_
  rintro r M3 ⟨rfl, e3, f3⟩
  exact cl_fault k0 (Or.inr ⟨k, rfl, k0, hq _ e3 (fi.tr ⟨r2.tr f3.r, fun j hj => by rw [f3.t _ hj, t2 _ (by omega)]⟩)⟩)
theorem bt_lstop0 (g : GT X e T L t0 a n w S none Ll) (hs : tK T L a = 0) (n24 : n < 24) (gl : Gd X e T L t0 0 5 0 (tE T L a) a1 rl) (hn : na (tK T L a1)) (hk : tK T L a1 ≠ 36) : BT X e T L t0 1 (tS T L a1) := by
  intro M Q h hq
  refine g M Q h (fun M1 rc rd lf ll fi => lt_go rc.rl (by omega) (cl_pre (d := e) (s := 0) rc (by rw [hs]; rfl) (by decide) (fun _ => on_free0) rfl n24 (by omega) (fun M2 rl2 f17 f18 f19 f24 ex r2 t2 => ?_)))
  have tt := rc.tt
  have n0 := rc.n0
  have w0 := rc.w0
  have g1 := tE_ge (T := T) rc.rl.aL
  refine wc.mono (m_law_ok (d := e) rl2 f17 f18 f19 ⟨by omega, by omega⟩ tt ⟨by omega, by omega⟩ (by decide) gl hn) ?_
  rintro r M3 ⟨rfl, rl3, e18, wa, ⟨e17, e24⟩, x1, x2, st, r3, t3⟩
  have l9 := rl3.x.tz.l9
  have a1L := rl3.aL
  refine cl_tail rl3 e17 (by rw [t3 _ (by omega), t2 _ (by omega)]; exact rc.n) ⟨by omega, n24⟩ tt (fun q => absurd q hk) (fun _ => Or.inr ⟨1, rfl, by decide, hq _ (by simp only [hh_wr, rl3.e13, ↓reduceIte, hh_wr, hl_wr, b10, b11, ite_not, ne_eq, Int.reduceEq, Int.reduceLE, Int.reduceLT, Int.reduceNe, Int.reduceNeg, Int.reduceAdd, Int.reduceSub, Int.reduceMul, not_false_eq_true, not_true_eq_false, false_and, and_false, true_and, and_true, and_self, true_or, or_true, false_or, or_false, if_true, if_false, ite_true, ite_false, mj_tl_some, mj_tl_none, mj_cs0, mj_cs1, mj_cs2, mj_cs3, mj_cs4]) (fi.tr ⟨(r2.tr r3).w2 (Or.inr rfl), fun j hj => ?_⟩)⟩)
  rw [hh_wr, if_neg (by omega), t3 _ (by omega), t2 _ (by omega)]
theorem on_add1 : onv Lf (some (n, w, c, cl, rl, f)) = if (1 : Int) ≤ 1 then ji_or (onv Lf none) (ji_shl 1 1) else onv Lf none := by
  show ob Lf + 2 * 1 = if (1 : Int) ≤ 1 then ji_or (ob Lf + 2 * 0) (ji_shl 1 1) else ob Lf + 2 * 0
  rcases ob_r Lf with h | h <;> rw [h] <;> decide +kernel
theorem gt_law1 (g : GT X e T L t0 a n w S Lf none) (pf : LPr n w c S 0 Lf) (hs : tK T L a = 1) (n24 : n < 24) (gl : Gd X e T L t0 1 5 0 (tE T L a) a1 rl) (hn : na (tK T L a1)) (hk : tK T L a1 = 36) : GT X e T L t0 (tE T L a1) (n + 1) (w + rl.length) (updS S n 1 0 0 0) Lf (some (n, w, c, cl, rl, f)) := by
  intro M Q h hq
  refine g M Q h (fun M1 rc rd lf ll fi => lt_go rc.rl (by omega) (cl_pre (d := e) (s := 1) rc (by rw [hs]; rfl) (by decide) (fun _ => on_free1) (on_add1 (n := n) (w := w) (c := c) (cl := cl) (rl := rl) (f := f)) n24 (by omega) (fun M2 rl2 f17 f18 f19 f24 ex r2 t2 => ?_)))
  have tt := rc.tt
  have n0 := rc.n0
  have w0 := rc.w0
  have g1 := tE_ge (T := T) rc.rl.aL
  refine wc.mono (m_law_ok (d := e) rl2 f17 f18 f19 ⟨by omega, by omega⟩ tt ⟨by omega, by omega⟩ (by decide) gl hn) ?_
  rintro r M3 ⟨rfl, rl3, e18, wa, ⟨e17, e24⟩, x1, x2, st, r3, t3⟩
  have g2 := tE_ge (T := T) rl3.aL
  have l9 := rl3.x.tz.l9
  have a1L := rl3.aL
  refine cl_tail rl3 e17 (by rw [t3 _ (by omega), t2 _ (by omega)]; exact rc.n) ⟨by omega, n24⟩ tt (fun _ M4 rl4 k4 => Or.inl ⟨rfl, ?_⟩) (fun q => absurd hk q)
  have row : ∀ j, t0 + 1 ≤ j → hh M4 357 j = hh M3 357 j := fun j hj => by
    rw [k4.h _ _ (by omega), hh_wr, if_neg (by omega)]
  have keep : ∀ j, ¬ (j = t0 ∨ (t0 + 1 + 4 * n ≤ j ∧ j < t0 + 5 + 4 * n) ∨ (t0 + 97 + 2 * w ≤ j ∧ j < t0 + 97 + 2 * (w + (rl.length : Int)))) → hh M4 357 j = hh M1 357 j := fun j hj => by
    rw [k4.h _ _ (by omega), hh_wr, if_neg (by omega), t3 _ (by omega), t2 _ (by omega)]
  refine hq M4 ⟨rl4, ?_, ?_, ?_, ?_, ⟨by omega, by omega⟩, ⟨by omega, by omega⟩, tt, onv_r _ _⟩ ((rd.keep (fun j hj => keep j (by omega))).add ?_ (fun q => absurd q (by decide))) (lf.keep pf (fun j hj => keep j (by omega))) ⟨?_, ?_, ?_⟩ ?_
  · rw [k4.h _ _ (by decide)]; simp only [hh_wr, ↓reduceIte, hh_wr, hl_wr, b10, b11, ite_not, ne_eq, Int.reduceEq, Int.reduceLE, Int.reduceLT, Int.reduceNe, Int.reduceNeg, Int.reduceAdd, Int.reduceSub, Int.reduceMul, not_false_eq_true, not_true_eq_false, false_and, and_false, true_and, and_true, and_self, true_or, or_true, false_or, or_false, if_true, if_false, ite_true, ite_false, mj_tl_some, mj_tl_none, mj_cs0, mj_cs1, mj_cs2, mj_cs3, mj_cs4]; exact e17
  · rw [k4.h _ _ (by decide)]; simp only [hh_wr, ↓reduceIte, hh_wr, hl_wr, b10, b11, ite_not, ne_eq, Int.reduceEq, Int.reduceLE, Int.reduceLT, Int.reduceNe, Int.reduceNeg, Int.reduceAdd, Int.reduceSub, Int.reduceMul, not_false_eq_true, not_true_eq_false, false_and, and_false, true_and, and_true, and_self, true_or, or_true, false_or, or_false, if_true, if_false, ite_true, ite_false, mj_tl_some, mj_tl_none, mj_cs0, mj_cs1, mj_cs2, mj_cs3, mj_cs4]; exact e18
  · rw [k4.h _ _ (by decide)]; simp only [hh_wr, ↓reduceIte, hh_wr, hl_wr, b10, b11, ite_not, ne_eq, Int.reduceEq, Int.reduceLE, Int.reduceLT, Int.reduceNe, Int.reduceNeg, Int.reduceAdd, Int.reduceSub, Int.reduceMul, not_false_eq_true, not_true_eq_false, false_and, and_false, true_and, and_true, and_self, true_or, or_true, false_or, or_false, if_true, if_false, ite_true, ite_false, mj_tl_some, mj_tl_none, mj_cs0, mj_cs1, mj_cs2, mj_cs3, mj_cs4]; exact e24.trans f24
  · rw [k4.h _ _ (by omega)]; simp only [hh_wr, ↓reduceIte, hh_wr, hl_wr, b10, b11, ite_not, ne_eq, Int.reduceEq, Int.reduceLE, Int.reduceLT, Int.reduceNe, Int.reduceNeg, Int.reduceAdd, Int.reduceSub, Int.reduceMul, not_false_eq_true, not_true_eq_false, false_and, and_false, true_and, and_true, and_self, true_or, or_true, false_or, or_false, if_true, if_false, ite_true, ite_false, mj_tl_some, mj_tl_none, mj_cs0, mj_cs1, mj_cs2, mj_cs3, mj_cs4]
  · rw [row _ (by omega), t3 _ (by omega)]; exact ex
  · rw [row _ (by omega)]; exact x1
  · rw [row _ (by omega)]; exact x2
  · intro i hi
    rw [row _ (by omega), row _ (by omega)]
    exact st i hi
  · exact fi.tr ⟨((r2.tr r3).w2 (Or.inr rfl)).tr k4.rr, fun j hj => keep j (by omega)⟩
theorem bt_law1 (g : GT X e T L t0 a n w S Lf none) (hs : tK T L a = 1) (n24 : n < 24) (gl : Bd X e T L t0 1 5 0 (tE T L a) k q) (k0 : k ≠ 0) : BT X e T L t0 k q := by
  intro M Q h hq
  refine g M Q h (fun M1 rc rd lf ll fi => lt_go rc.rl (by omega) (cl_pre (d := e) (s := 1) rc (by rw [hs]; rfl) (by decide) (fun _ => on_free1) rfl n24 (by omega) (fun M2 rl2 f17 f18 f19 f24 ex r2 t2 => ?_)))
  have tt := rc.tt
  have n0 := rc.n0
  have w0 := rc.w0
  have g1 := tE_ge (T := T) rc.rl.aL
  refine wc.mono (m_law_bad (d := e) rl2 f17 f18 f19 ⟨by omega, by omega⟩ tt ⟨by omega, by omega⟩ (by decide) gl) ?_
  rintro r M3 ⟨rfl, e3, f3⟩
  exact cl_fault k0 (Or.inr ⟨k, rfl, k0, hq _ e3 (fi.tr ⟨r2.tr f3.r, fun j hj => by rw [f3.t _ hj, t2 _ (by omega)]⟩)⟩)
theorem bt_lstop1 (g : GT X e T L t0 a n w S Lf none) (hs : tK T L a = 1) (n24 : n < 24) (gl : Gd X e T L t0 1 5 0 (tE T L a) a1 rl) (hn : na (tK T L a1)) (hk : tK T L a1 ≠ 36) : BT X e T L t0 1 (tS T L a1) := by
  intro M Q h hq
  refine g M Q h (fun M1 rc rd lf ll fi => lt_go rc.rl (by omega) (cl_pre (d := e) (s := 1) rc (by rw [hs]; rfl) (by decide) (fun _ => on_free1) rfl n24 (by omega) (fun M2 rl2 f17 f18 f19 f24 ex r2 t2 => ?_)))
  have tt := rc.tt
  have n0 := rc.n0
  have w0 := rc.w0
  have g1 := tE_ge (T := T) rc.rl.aL
  refine wc.mono (m_law_ok (d := e) rl2 f17 f18 f19 ⟨by omega, by omega⟩ tt ⟨by omega, by omega⟩ (by decide) gl hn) ?_
  rintro r M3 ⟨rfl, rl3, e18, wa, ⟨e17, e24⟩, x1, x2, st, r3, t3⟩
  have l9 := rl3.x.tz.l9
  have a1L := rl3.aL
  refine cl_tail rl3 e17 (by rw [t3 _ (by omega), t2 _ (by omega)]; exact rc.n) ⟨by omega, n24⟩ tt (fun q => absurd q hk) (fun _ => Or.inr ⟨1, rfl, by decide, hq _ (by simp only [hh_wr, rl3.e13, ↓reduceIte, hh_wr, hl_wr, b10, b11, ite_not, ne_eq, Int.reduceEq, Int.reduceLE, Int.reduceLT, Int.reduceNe, Int.reduceNeg, Int.reduceAdd, Int.reduceSub, Int.reduceMul, not_false_eq_true, not_true_eq_false, false_and, and_false, true_and, and_true, and_self, true_or, or_true, false_or, or_false, if_true, if_false, ite_true, ite_false, mj_tl_some, mj_tl_none, mj_cs0, mj_cs1, mj_cs2, mj_cs3, mj_cs4]) (fi.tr ⟨(r2.tr r3).w2 (Or.inr rfl), fun j hj => ?_⟩)⟩)
  rw [hh_wr, if_neg (by omega), t3 _ (by omega), t2 _ (by omega)]
end GTs
