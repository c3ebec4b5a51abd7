/-! IMAGE AND BACK: a world taken -/
/-- only what the world at w has may have changed -/
def Wf (w : Int) (M M1 : mj_M) : Prop := (∀ x j, (x < w ∨ w + 166 < x ∨ wz (x - w) j ≠ 1) → hh M1 x j = hh M x j) ∧ (∀ x, hl M1 x = hl M x) ∧ (M1.1 = M.1) ∧ (M1.2.1 = M.2.1)
theorem Wf.h {w : Int} {M M1 : mj_M} (h : Wf w M M1) : ∀ x j, (x < w ∨ w + 166 < x ∨ wz (x - w) j ≠ 1) → hh M1 x j = hh M x j := h.1
theorem Wf.l {w : Int} {M M1 : mj_M} (h : Wf w M M1) : ∀ x, hl M1 x = hl M x := h.2.1
theorem Wf.n {w : Int} {M M1 : mj_M} (h : Wf w M M1) : M1.1 = M.1 := h.2.2.1
theorem Wf.s {w : Int} {M M1 : mj_M} (h : Wf w M M1) : M1.2.1 = M.2.1 := h.2.2.2
theorem Wf.rfl' {w : Int} {M : mj_M} : Wf w M M := ⟨fun _ _ _ => rfl, fun _ => rfl, rfl, rfl⟩
theorem Wf.st {w : Int} {M M1 M2 : mj_M} (h : Wf w M M1) (k : ∀ x j, hh M2 x j = hh M1 x j ∨ (w ≤ x ∧ x ≤ w + 166 ∧ wz (x - w) j = 1)) (l : ∀ x, hl M2 x = hl M1 x) (n : M2.1 = M1.1) (s : M2.2.1 = M1.2.1) : Wf w M M2 :=
  ⟨fun x j hx => by
    rcases k x j with g | g
    · rw [g]; exact h.h x j hx
    · rcases hx with q | q | q
      · omega
      · omega
      · exact absurd g.2.2 q, fun x => (l x).trans (h.l x), n.trans h.n, s.trans h.s⟩
theorem Wf.fz5 {M M1 : mj_M} (h : Wf 5 M M1) : fz [1] M M1 := ⟨fun x j hx => h.h x j (by
  by_cases g : x < 5
  · exact Or.inl g
  · by_cases g2 : 5 + 166 < x
    · exact Or.inr (Or.inl g2)
    · refine Or.inr (Or.inr (fun e => hx ?_))
      rw [zone_5 (by omega) (by omega), e]
      exact List.mem_cons_self ..), h.l, h.n, h.s⟩
theorem Wf.fz172 {M M1 : mj_M} (h : Wf 172 M M1) : fz [2] M M1 := ⟨fun x j hx => h.h x j (by
  by_cases g : x < 172
  · exact Or.inl g
  · by_cases g2 : 172 + 166 < x
    · exact Or.inr (Or.inl g2)
    · refine Or.inr (Or.inr (fun e => hx ?_))
      rw [zone_172 (by omega) (by omega), e]
      exact List.mem_cons_self ..), h.l, h.n, h.s⟩
theorem ring_wz {i j y : Int} (hi : 0 ≤ i ∧ i < 30) (hx : 17 + 5 * i ≤ y ∧ y ≤ 17 + 5 * i + 4) (h4 : ¬ (y = 17 + 5 * i ∧ 4 ≤ j)) : wz y j = 1 := by
  unfold wz
  rw [if_neg (by omega), if_neg (by omega), if_neg (by omega), if_neg (by omega), if_neg (by omega), if_neg (by omega), if_pos (by omega), if_neg (by omega)]
theorem now_wz {j y : Int} (hx : 5 ≤ y ∧ y ≤ 9) (h4 : ¬ (y = 5 ∧ 4 ≤ j)) : wz y j = 1 := by
  rcases (show y = 5 ∨ y = 6 ∨ y = 7 ∨ y = 8 ∨ y = 9 by omega) with rfl | rfl | rfl | rfl | rfl
  · unfold wz
    rw [if_neg (by omega), if_neg (by omega), if_neg (by omega), if_pos rfl, if_neg (by omega)]
  all_goals rfl
section Image2
variable {X : mj_X} {d : Nat} {M : mj_M} {A : Int → Int} {Q : Option mj_V → mj_M → Prop}
theorem vw_ws {v w : Int} (vw : (v = 5 ∧ w = 172) ∨ (v = 172 ∧ w = 5)) (hc : CS M) {M1 : mj_M} (f : Wf w M M1) : WS M1 v ∧ WS M1 w := by
  rcases vw with ⟨rfl, rfl⟩ | ⟨rfl, rfl⟩
  · have := hc.fz f.fz172 (by decide); exact ⟨this.ws5, this.ws172⟩
  · have := hc.fz f.fz5 (by decide); exact ⟨this.ws172, this.ws5⟩
theorem c_wring {v w el : Int} {M7 : mj_M} (vw : (v = 5 ∧ w = 172) ∨ (v = 172 ∧ w = 5)) (hc : CS M) (ai : AI A) (he : 0 ≤ el ∧ el < 30) (src : ∀ i, 0 ≤ i → i < A 5 → MR M (v + 17 + 5 * ((el + i) % 30)) (ms A i)) (h9 : hh M7 w 9 = A 5) (h10 : hh M7 w 10 = el) (Q : Option mj_V → mj_M → Prop) (hQ : ∀ M8 : mj_M, Wf w M M8 → (∀ x j, (x < w + 17 ∨ w + 166 < x) → hh M8 x j = hh M7 x j) → (∀ i, 0 ≤ i → i < A 5 → MR M8 (w + 17 + 5 * ((el + i) % 30)) (ms A i)) → Q none M8) : ∀ (m : Nat) (k : Int) (M8 : mj_M) (u : mj_V), k + m = A 5 → 0 ≤ k → Wf w M M8 → (∀ x j, (x < w + 17 ∨ w + 166 < x) → hh M8 x j = hh M7 x j) → (∀ i, 0 ≤ i → i < k → MR M8 (w + 17 + 5 * ((el + i) % 30)) (ms A i)) → wp X (d + 2) 184 128 [(30, w), (30, v), (0, k), u] [] M8 Q := by
  have hd : v + 167 = w ∨ w + 167 = v := by omega
  have hv : 5 ≤ v := by omega
  have hw : 5 ≤ w := by omega
  have n3 := ai.n3
  intro m
  induction m with
  | zero =>
    intro k M8 u e k0 f K mr
    have g9 : hh M8 w 9 = A 5 := (K w 9 (by omega)).trans h9
    rw [w184_128]
    simp only [w184_129, w184_130, w184_133, w184_167, g9, show A 5 ≤ k by omega, show ¬ k < A 5 by omega, show ¬ w = 0 by omega, ↓reduceIte, hh_wr, hl_wr, b10, b11, ite_not, ne_eq, Int.reduceEq, Int.reduceLE, Int.reduceLT, Int.reduceNe, Int.reduceNeg, Int.reduceAdd, Int.reduceSub, Int.reduceMul, not_false_eq_true, not_true_eq_false, false_and, and_false, true_and, and_true, and_self, true_or, or_true, false_or, or_false, if_true, if_false, ite_true, ite_false, mj_tl_some, mj_tl_none, mj_cs0, mj_cs1, mj_cs2, mj_cs3, mj_cs4]
    exact hQ M8 f K (fun i a b => mr i a (by omega))
  | succ m ih =>
    intro k M8 u e k0 f K mr
    have g9 : hh M8 w 9 = A 5 := (K w 9 (by omega)).trans h9
    have g10 : hh M8 w 10 = el := (K w 10 (by omega)).trans h10
    have idx : ji_add el k = el + k := aj ⟨by omega, by omega⟩
    obtain ⟨r, hr, r0, r30⟩ : ∃ r, r = (el + k) % 30 ∧ 0 ≤ r ∧ r < 30 := ⟨_, rfl, by omega, by omega⟩
    have idr : ji_rem (el + k) 30 = r := by rw [hr]; exact ji_rem_nn ⟨by omega, by omega⟩ ⟨by decide, by decide⟩ (by omega)
    obtain ⟨wv, ww⟩ := vw_ws vw hc f
    obtain ⟨mv, mv2⟩ := wv.rg r r0 r30
    obtain ⟨mw, mw2⟩ := ww.rg r r0 r30
    have sm := src k k0 (by omega)
    rw [← hr] at sm
    have sm8 : MR M8 (v + 17 + 5 * r) (ms A k) := sm.keep (fun x j a b => Or.inl (f.h x j (by omega)))
    rw [w184_128]
    simp only [w184_129, w184_130, w184_133, w184_136, w184_137, w184_140, w184_141, w184_142, w184_144, w184_145, w184_146, w184_147, w184_150, w184_151_6, w184_152, w184_153, w184_156, w184_157_6, w184_158, g9, g10, idx, idr, wv.f11, ww.f11, wv.l16, ww.l16, mv2, mw2, r0, r30, show ¬ A 5 ≤ k by omega, show k < A 5 by omega, show ¬ w = 0 by omega, show ¬ v = 0 by omega, show ¬ w + 16 = 0 by omega, show ¬ v + 16 = 0 by omega, show ¬ v + 17 + 5 * r = 0 by omega, show ¬ w + 17 + 5 * r = 0 by omega, ↓reduceIte, hh_wr, hl_wr, b10, b11, ite_not, ne_eq, Int.reduceEq, Int.reduceLE, Int.reduceLT, Int.reduceNe, Int.reduceNeg, Int.reduceAdd, Int.reduceSub, Int.reduceMul, not_false_eq_true, not_true_eq_false, false_and, and_false, true_and, and_true, and_self, true_or, or_true, false_or, or_false, if_true, if_false, ite_true, ite_false, mj_tl_some, mj_tl_none, mj_cs0, mj_cs1, mj_cs2, mj_cs3, mj_cs4]
    refine wc.mono (c_take (d := d) (c1 := v + 17 + 5 * r) (c2 := w + 17 + 5 * r) mv mw (by omega) sm8 (ai.sp k k0 (by omega))) ?_
    rintro q M9 ⟨rfl, fm, mr9⟩
    simp only [w184_161, w184_164, aj (x := k) (y := 1) ⟨by omega, by omega⟩, ↓reduceIte, hh_wr, hl_wr, b10, b11, ite_not, ne_eq, Int.reduceEq, Int.reduceLE, Int.reduceLT, Int.reduceNe, Int.reduceNeg, Int.reduceAdd, Int.reduceSub, Int.reduceMul, not_false_eq_true, not_true_eq_false, false_and, and_false, true_and, and_true, and_self, true_or, or_true, false_or, or_false, if_true, if_false, ite_true, ite_false, mj_tl_some, mj_tl_none, mj_cs0, mj_cs1, mj_cs2, mj_cs3, mj_cs4]
    refine ih (k + 1) M9 _ (by omega) (by omega) (f.st (fun x j => ?_) fm.l fm.n fm.s) (fun x j hx => by rw [fm.h x j (by omega)]; exact K x j hx) (fun i a b => ?_)
    · by_cases g : x < w + 17 + 5 * r ∨ w + 17 + 5 * r + 4 < x ∨ (x = w + 17 + 5 * r ∧ 4 ≤ j)
      · exact Or.inl (fm.h x j g)
      · exact Or.inr ⟨by omega, by omega, ring_wz (i := r) ⟨r0, r30⟩ (by omega) (by omega)⟩
    · by_cases e1 : i = k
      · rw [e1, ← hr]; exact mr9
      · have m0 := mr i a (by omega)
        obtain ⟨t, ht, t0, t30⟩ : ∃ t, t = (el + i) % 30 ∧ 0 ≤ t ∧ t < 30 := ⟨_, rfl, by omega, by omega⟩
        have ne : t ≠ r := by omega
        rw [← ht] at m0 ⊢
        exact m0.keep (fun x j a b => Or.inl (fm.h x j (by omega)))
theorem c_wtext {v w : Int} {M5 : mj_M} (vw : (v = 5 ∧ w = 172) ∨ (v = 172 ∧ w = 5)) (hc : CS M) (t4 : 0 ≤ A 3 ∧ A 3 ≤ 4) (tx : ∀ i, 0 ≤ i → i < A 3 → hh M (v + 15) i ≠ 0) (h6 : hh M5 w 6 = A 3) (Q : Option mj_V → mj_M → Prop) (hQ : ∀ (M6 : mj_M), Wf w M M6 → (∀ x j, hh M6 x j = if x = w + 15 ∧ 0 ≤ j ∧ j < A 3 then hh M (v + 15) j else hh M5 x j) → wp X (d + 2) 184 110 [(30, w), (30, v), (0, A 3), (9, 0)] [] M6 Q) : ∀ (m : Nat) (k : Int) (M6 : mj_M), k + m = A 3 → 0 ≤ k → Wf w M M6 → (∀ x j, hh M6 x j = if x = w + 15 ∧ 0 ≤ j ∧ j < k then hh M (v + 15) j else hh M5 x j) → wp X (d + 2) 184 84 [(30, w), (30, v), (0, k), (9, 0)] [] M6 Q := by
  have hd : v + 167 = w ∨ w + 167 = v := by omega
  have hv : 5 ≤ v := by omega
  have hw : 5 ≤ w := by omega
  intro m
  induction m with
  | zero =>
    intro k M6 e k0 f R
    have ek : k = A 3 := by omega
    subst ek
    have g6 : hh M6 w 6 = A 3 := by rw [R, if_neg (by omega)]; exact h6
    rw [w184_84]
    simp only [w184_85, w184_86, w184_89, g6, Int.le_refl, Int.lt_irrefl, show ¬ w = 0 by omega, ↓reduceIte, hh_wr, hl_wr, b10, b11, ite_not, ne_eq, Int.reduceEq, Int.reduceLE, Int.reduceLT, Int.reduceNe, Int.reduceNeg, Int.reduceAdd, Int.reduceSub, Int.reduceMul, not_false_eq_true, not_true_eq_false, false_and, and_false, true_and, and_true, and_self, true_or, or_true, false_or, or_false, if_true, if_false, ite_true, ite_false, mj_tl_some, mj_tl_none, mj_cs0, mj_cs1, mj_cs2, mj_cs3, mj_cs4]
    exact hQ M6 f R
  | succ m ih =>
    intro k M6 e k0 f R
    have g6 : hh M6 w 6 = A 3 := by rw [R, if_neg (by omega)]; exact h6
    obtain ⟨wv, ww⟩ := vw_ws vw hc f
    have gs : hh M6 (v + 15) k = hh M (v + 15) k := f.h _ _ (by omega)
    rw [w184_84]
    simp only [w184_85, w184_86, w184_89, w184_92, w184_93, w184_96, w184_97, w184_98, w184_101, w184_102_7, w184_103_7, w184_104, w184_107, g6, gs, wv.f8, ww.f8, wv.l15, ww.l15, tx k k0 (by omega), k0, show k < 4 by omega, aj (x := k) (y := 1) ⟨by omega, by omega⟩, show ¬ A 3 ≤ k by omega, show k < A 3 by omega, show ¬ w = 0 by omega, show ¬ v = 0 by omega, show ¬ w + 15 = 0 by omega, show ¬ v + 15 = 0 by omega, ↓reduceIte, hh_wr, hl_wr, b10, b11, ite_not, ne_eq, Int.reduceEq, Int.reduceLE, Int.reduceLT, Int.reduceNe, Int.reduceNeg, Int.reduceAdd, Int.reduceSub, Int.reduceMul, not_false_eq_true, not_true_eq_false, false_and, and_false, true_and, and_true, and_self, true_or, or_true, false_or, or_false, if_true, if_false, ite_true, ite_false, mj_tl_some, mj_tl_none, mj_cs0, mj_cs1, mj_cs2, mj_cs3, mj_cs4]
    refine ih (k + 1) _ (by omega) (by omega) (f.st (fun x j => ?_) (fun _ => rfl) rfl rfl) (fun x j => ?_)
    · rw [hh_wr]
      by_cases g : x = w + 15 ∧ j = k
      · exact Or.inr ⟨by omega, by omega, by rw [show x - w = 15 by omega]; rfl⟩
      · exact Or.inl (if_neg g)
    · rw [hh_wr]
      by_cases g : x = w + 15 ∧ j = k
      · rw [if_pos g, if_pos (by omega), g.2]
      · rw [if_neg g, R]
        by_cases g2 : x = w + 15 ∧ 0 ≤ j ∧ j < k
        · rw [if_pos g2, if_pos (by omega)]
        · rw [if_neg g2, if_neg (by omega)]
end Image2
