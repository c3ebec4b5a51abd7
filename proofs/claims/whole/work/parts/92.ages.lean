/-! AGES -/
def ppl (B : Int → Int) (x c : Int) : Int := if B 1 ≤ 0 then -1 else x / c % B 1
def pfo (B : Int → Int) (x : Int) : Int := if B 0 ≤ 0 then -1 else x % B 0
def pso (B : Int → Int) (x : Int) : Int := if B 2 ≤ 0 then -1 else x % B 2
def faT (Ll : Option (Env → Int)) (B : Int → Int) (f p q : Int) : Int → Int := if tch B Ll f p q then teA B f p q else B
def faF (B : Int → Int) (p f : Int) : Int → Int := if fgB B p f then fgA B p f else B
def faS (B : Int → Int) (p s : Int) : Int → Int := if tlV B p s = -1 then B else tlA B p s (tlV B p s)
def faY (Lf : Option (Env → Int)) (B : Int → Int) : Int → Int := if B 8 < 9999 then (psA Lf B).1 else B
def faA (Lf Ll : Option (Env → Int)) (B : Int → Int) (x : Int) : Int → Int := if x % 6 = 0 ∨ x % 6 = 1 then faT Ll B (pfo B x) (ppl B x 6) (ppl B x 5) else if x % 6 = 2 then faF B (ppl B x 6) (pfo B x) else if x % 6 = 3 then faS B (ppl B x 6) (pso B x) else faY Lf B
section AgesP
variable {B : Int → Int} {Lf Ll : Option (Env → Int)} {x : Int}
theorem tch_d {f p q : Int} (h : tch B Ll f p q = true) : (0 ≤ f ∧ f < B 0) ∧ (0 ≤ p ∧ p < B 1) ∧ (0 ≤ q ∧ q < B 1) := by
  unfold tch at h
  rw [Bool.and_eq_true] at h
  exact of_decide_eq_true h.1
theorem tch_n {f p q : Int} (h : ¬ ((0 ≤ f ∧ f < B 0) ∧ (0 ≤ p ∧ p < B 1) ∧ (0 ≤ q ∧ q < B 1))) : tch B Ll f p q = false := by
  cases e : tch B Ll f p q
  · rfl
  · exact absurd (tch_d e) h
theorem fgB_n {f p : Int} (h : ¬ ((0 ≤ p ∧ p < B 1) ∧ (0 ≤ f ∧ f < B 0))) : fgB B p f = false := by
  cases e : fgB B p f
  · rfl
  · exact absurd (fgB_d e) h
theorem faT_e (h : AI B) (f p q : Int) : nwE B (faT Ll B f p q) := by
  have p6 : B 1 ≤ 6 := h.now.p6
  unfold faT
  cases e : tch B Ll f p q
  · exact nwE.rfl'
  · obtain ⟨hf, hp, hq⟩ := tch_d e
    exact (nwE.rfl'.up (nwi_k ⟨hq.1, by omega⟩ (by decide))).up (nwi_k ⟨hp.1, by omega⟩ (by decide))
theorem faF_e (h : AI B) (p f : Int) : nwE B (faF B p f) := by
  have p6 : B 1 ≤ 6 := h.now.p6
  unfold faF
  cases e : fgB B p f
  · exact nwE.rfl'
  · obtain ⟨hp, hf⟩ := fgB_d e
    exact nwE.rfl'.up (nwi_k ⟨hp.1, by omega⟩ (by decide))
theorem tlA_e (h : AI B) {p s n : Int} (hp : 0 ≤ p ∧ p < 6) : nwE B (tlA B p s n) := by
  have t0 : 0 ≤ B 10 := h.now.t0
  have t3 : B 10 ≤ 30 := h.now.t3
  unfold tlA
  have e : nwE B (up B (11 + 5 * p + 2) (B (11 + 5 * p + 2) - n)) := nwE.rfl'.up (nwi_k hp (by decide))
  exact e.tr (wrA_nwE (by rw [up_ne (by omega)]; exact ⟨t0, t3⟩))
theorem faS_e (h : AI B) (p s : Int) : nwE B (faS B p s) := by
  have p6 : B 1 ≤ 6 := h.now.p6
  unfold faS
  by_cases e : tlV B p s = -1
  · rw [if_pos e]; exact nwE.rfl'
  · rw [if_neg e]
    obtain ⟨hp, hs, hL, hle⟩ := tlV_y e
    exact tlA_e h ⟨hp.1, by omega⟩
theorem faY_e (h : AI B) : nwE B (faY Lf B) := by
  unfold faY
  split
  · exact ps_e h.an
  · exact nwE.rfl'
theorem fa_e (h : AI B) : nwE B (faA Lf Ll B x) := by
  unfold faA
  split
  · exact faT_e h _ _ _
  · split
    · exact faF_e h _ _
    · split
      · exact faS_e h _ _
      · exact faY_e h
def agS (Lf Ll : Option (Env → Int)) (_ : Nat) (B : Int → Int) : Int → Int := faA Lf Ll (up B 9 (nxx (B 9))) (B 9)
def ag (Lf Ll : Option (Env → Int)) (A : Int → Int) (v : Int) : Nat → Int → Int := it (agS Lf Ll) (up (kst A) 9 v)
theorem ax_ai (h : AI B) (hs : stp B) {v : Int} (hv : 0 ≤ v ∧ v ≤ 30702) : AI (up B 9 v) ∧ stp (up B 9 v) ∧ nwE B (up B 9 v) := by
  have e : nwE B (up B 9 v) := nwE.rfl'.up (Or.inl (by omega))
  exact ⟨h.nw hs e (MI_x h.now hv), hs.of h e, e⟩
end AgesP
section Ages
variable {X : mj_X} {d : Nat} {M : mj_M} {A B : Int → Int} {Lf Ll : Option (Env → Int)}
theorem CW.ax (h : CW M B) (hs : stp B) {v : Int} (hv : 0 ≤ v ∧ v ≤ 30702) : CW (mj_wr M 10 1 v) (up B 9 v) ∧ Cf M (mj_wr M 10 1 v) := by
  have fc : Fc 10 M (mj_wr M 10 1 v) := Fc.rfl'.wr (Or.inl ⟨rfl, by decide⟩)
  exact ⟨h.nw hs fc (nwE.rfl'.up (Or.inl (by omega))) (MR_x h.wr.now h.ai.now) (MI_x h.ai.now hv), Cf.fc fc⟩
theorem c_fol60 {x : Int} (h : CW M B) (hs : stp B) (t1 : TxL M (rul M) (B 4) 0 2 Lf) (t2 : TxL M (rul M) (B 4) 1 4 Ll) (hx : 0 ≤ x ∧ x ≤ 30702) : wp X (d + 7) 112 60 [(22, 341), (0, x), (0, B 1), (0, B 0), (0, B 2), (0, ppl B x 6), (0, pfo B x)] [] M (fun r M1 => r = none ∧ CW M1 (faA Lf Ll B x) ∧ Cf M M1 ∧ stp (faA Lf Ll B x)) := by
  have p0 : 0 ≤ B 1 := h.ai.now.p0
  have p6 := h.P6
  have s4 := h.ai.s4
  have e6 : ji_rem x 6 = x % 6 := ji_rem_nn ⟨by omega, by omega⟩ ⟨by decide, by decide⟩ hx.1
  have e5 : ji_div x 5 = x / 5 := ji_div_nn ⟨by omega, by omega⟩ ⟨by decide, by decide⟩ hx.1
  have y9 : B 8 ≤ 9999 := h.ai.now.y9
  have R : ∀ A1, CW M A1 → nwE B A1 → stp A1 := fun A1 _ e => hs.of h.ai e
  by_cases c0 : x % 6 = 0 ∨ x % 6 = 1
  · have ef : faA Lf Ll B x = faT Ll B (pfo B x) (ppl B x 6) (ppl B x 5) := if_pos c0
    rw [ef]
    have main : wp X (d + 7) 112 114 [(22, 341), (0, x), (0, B 1), (0, B 0), (0, B 2), (0, ppl B x 6), (0, pfo B x)] [(0, ppl B x 5), (0, ppl B x 6), (0, pfo B x), (22, 341)] M (fun r M1 => r = none ∧ CW M1 (faT Ll B (pfo B x) (ppl B x 6) (ppl B x 5)) ∧ Cf M M1 ∧ stp (faT Ll B (pfo B x) (ppl B x 6) (ppl B x 5))) := by
      simp only [w112_114, w112_115, ↓reduceIte, hh_wr, hl_wr, b10, b11, ite_not, ne_eq, Int.reduceEq, Int.reduceLE, Int.reduceLT, Int.reduceNe, Int.reduceNeg, Int.reduceAdd, Int.reduceSub, Int.reduceMul, not_false_eq_true, not_true_eq_false, false_and, and_false, true_and, and_true, and_self, true_or, or_true, false_or, or_false, if_true, if_false, ite_true, ite_false, mj_tl_some, mj_tl_none, mj_cs0, mj_cs1, mj_cs2, mj_cs3, mj_cs4]
      refine wc.mono (c_teaches (d := d) (b := 0) h (Or.inr ⟨rfl, hs⟩) t2) ?_
      rintro r M1 ⟨rfl, h1, c1, _⟩
      simp only [w112_0, w112_1, w112_4, w112_7, w112_10, w112_11, w112_12, w112_15, w112_18, w112_21, w112_22, w112_23, w112_26, w112_29, w112_31, w112_32, w112_35, w112_36, w112_38, w112_39, w112_40, w112_41, w112_44, w112_45, w112_47, w112_48, w112_51, w112_52, w112_53, w112_54, w112_57, w112_58, w112_60, w112_61, w112_63, w112_64, w112_96, w112_97, w112_99, w112_101, w112_102, w112_105, w112_106, w112_107, w112_108, w112_109, w112_110, w112_113, w112_114, w112_115, w112_118, w112_119, w112_122, w112_123, w112_125, w112_127, w112_128, w112_131, w112_132, w112_135, w112_136, w112_138, w112_140, w112_143, w112_144, w112_146, w112_147, w112_150, w112_151, w112_152, w112_155, w112_156, w112_159, w112_160, w112_163, w112_166, w112_169, w112_172, w112_175, w112_176, w112_177, w112_180, w112_183, w112_186, w112_187, ↓reduceIte, hh_wr, hl_wr, b10, b11, ite_not, ne_eq, Int.reduceEq, Int.reduceLE, Int.reduceLT, Int.reduceNe, Int.reduceNeg, Int.reduceAdd, Int.reduceSub, Int.reduceMul, not_false_eq_true, not_true_eq_false, false_and, and_false, true_and, and_true, and_self, true_or, or_true, false_or, or_false, if_true, if_false, ite_true, ite_false, mj_tl_some, mj_tl_none, mj_cs0, mj_cs1, mj_cs2, mj_cs3, mj_cs4]
      refine ⟨?_, c1, hs.of h.ai (faT_e h.ai _ _ _)⟩
      exact h1
    by_cases hp : B 1 ≤ 0
    · have eq5 : ppl B x 5 = -1 := if_pos hp
      rw [eq5] at main ⊢
      rcases c0 with c0 | c0
      · simp only [w112_60, w112_61, w112_63, w112_64, w112_96, w112_97, w112_99, w112_101, w112_102, w112_113, e6, c0, hp, ↓reduceIte, hh_wr, hl_wr, b10, b11, ite_not, ne_eq, Int.reduceEq, Int.reduceLE, Int.reduceLT, Int.reduceNe, Int.reduceNeg, Int.reduceAdd, Int.reduceSub, Int.reduceMul, not_false_eq_true, not_true_eq_false, false_and, and_false, true_and, and_true, and_self, true_or, or_true, false_or, or_false, if_true, if_false, ite_true, ite_false, mj_tl_some, mj_tl_none, mj_cs0, mj_cs1, mj_cs2, mj_cs3, mj_cs4]
        exact main
      · simp only [w112_60, w112_61, w112_63, w112_64, w112_96, w112_97, w112_99, w112_101, w112_102, w112_113, e6, c0, hp, ↓reduceIte, hh_wr, hl_wr, b10, b11, ite_not, ne_eq, Int.reduceEq, Int.reduceLE, Int.reduceLT, Int.reduceNe, Int.reduceNeg, Int.reduceAdd, Int.reduceSub, Int.reduceMul, not_false_eq_true, not_true_eq_false, false_and, and_false, true_and, and_true, and_self, true_or, or_true, false_or, or_false, if_true, if_false, ite_true, ite_false, mj_tl_some, mj_tl_none, mj_cs0, mj_cs1, mj_cs2, mj_cs3, mj_cs4]
        exact main
    · have eq5 : ppl B x 5 = x / 5 % B 1 := if_neg hp
      rw [eq5] at main ⊢
      have er : ji_rem (x / 5) (B 1) = x / 5 % B 1 := ji_rem_nn ⟨by omega, by omega⟩ ⟨by omega, by omega⟩ (by omega)
      rcases c0 with c0 | c0
      · simp only [w112_60, w112_61, w112_63, w112_64, w112_96, w112_97, w112_99, w112_101, w112_102, w112_105, w112_106, w112_107, w112_108, w112_109, w112_110, e6, e5, er, c0, hp, show ¬ B 1 = 0 by omega, ↓reduceIte, hh_wr, hl_wr, b10, b11, ite_not, ne_eq, Int.reduceEq, Int.reduceLE, Int.reduceLT, Int.reduceNe, Int.reduceNeg, Int.reduceAdd, Int.reduceSub, Int.reduceMul, not_false_eq_true, not_true_eq_false, false_and, and_false, true_and, and_true, and_self, true_or, or_true, false_or, or_false, if_true, if_false, ite_true, ite_false, mj_tl_some, mj_tl_none, mj_cs0, mj_cs1, mj_cs2, mj_cs3, mj_cs4]
        exact main
      · simp only [w112_60, w112_61, w112_63, w112_64, w112_96, w112_97, w112_99, w112_101, w112_102, w112_105, w112_106, w112_107, w112_108, w112_109, w112_110, e6, e5, er, c0, hp, show ¬ B 1 = 0 by omega, ↓reduceIte, hh_wr, hl_wr, b10, b11, ite_not, ne_eq, Int.reduceEq, Int.reduceLE, Int.reduceLT, Int.reduceNe, Int.reduceNeg, Int.reduceAdd, Int.reduceSub, Int.reduceMul, not_false_eq_true, not_true_eq_false, false_and, and_false, true_and, and_true, and_self, true_or, or_true, false_or, or_false, if_true, if_false, ite_true, ite_false, mj_tl_some, mj_tl_none, mj_cs0, mj_cs1, mj_cs2, mj_cs3, mj_cs4]
        exact main
  · by_cases c2 : x % 6 = 2
    · have ef : faA Lf Ll B x = faF B (ppl B x 6) (pfo B x) := by unfold faA; rw [if_neg c0, if_pos c2]
      rw [ef]
      simp only [w112_60, w112_61, w112_63, w112_64, w112_122, w112_123, w112_125, w112_127, w112_128, e6, c2, ↓reduceIte, hh_wr, hl_wr, b10, b11, ite_not, ne_eq, Int.reduceEq, Int.reduceLE, Int.reduceLT, Int.reduceNe, Int.reduceNeg, Int.reduceAdd, Int.reduceSub, Int.reduceMul, not_false_eq_true, not_true_eq_false, false_and, and_false, true_and, and_true, and_self, true_or, or_true, false_or, or_false, if_true, if_false, ite_true, ite_false, mj_tl_some, mj_tl_none, mj_cs0, mj_cs1, mj_cs2, mj_cs3, mj_cs4]
      refine wc.mono (c_forgets (d := d + 2) (b := 0) h (Or.inr ⟨rfl, hs⟩)) ?_
      rintro r M1 ⟨rfl, h1, c1, _⟩
      simp only [w112_0, w112_1, w112_4, w112_7, w112_10, w112_11, w112_12, w112_15, w112_18, w112_21, w112_22, w112_23, w112_26, w112_29, w112_31, w112_32, w112_35, w112_36, w112_38, w112_39, w112_40, w112_41, w112_44, w112_45, w112_47, w112_48, w112_51, w112_52, w112_53, w112_54, w112_57, w112_58, w112_60, w112_61, w112_63, w112_64, w112_96, w112_97, w112_99, w112_101, w112_102, w112_105, w112_106, w112_107, w112_108, w112_109, w112_110, w112_113, w112_114, w112_115, w112_118, w112_119, w112_122, w112_123, w112_125, w112_127, w112_128, w112_131, w112_132, w112_135, w112_136, w112_138, w112_140, w112_143, w112_144, w112_146, w112_147, w112_150, w112_151, w112_152, w112_155, w112_156, w112_159, w112_160, w112_163, w112_166, w112_169, w112_172, w112_175, w112_176, w112_177, w112_180, w112_183, w112_186, w112_187, ↓reduceIte, hh_wr, hl_wr, b10, b11, ite_not, ne_eq, Int.reduceEq, Int.reduceLE, Int.reduceLT, Int.reduceNe, Int.reduceNeg, Int.reduceAdd, Int.reduceSub, Int.reduceMul, not_false_eq_true, not_true_eq_false, false_and, and_false, true_and, and_true, and_self, true_or, or_true, false_or, or_false, if_true, if_false, ite_true, ite_false, mj_tl_some, mj_tl_none, mj_cs0, mj_cs1, mj_cs2, mj_cs3, mj_cs4]
      refine ⟨?_, c1, hs.of h.ai (faF_e h.ai _ _)⟩
      exact h1
    · by_cases c3 : x % 6 = 3
      · have ef : faA Lf Ll B x = faS B (ppl B x 6) (pso B x) := by unfold faA; rw [if_neg c0, if_neg c2, if_pos c3]
        rw [ef]
        have main : wp X (d + 7) 112 151 [(22, 341), (0, x), (0, B 1), (0, B 0), (0, B 2), (0, ppl B x 6), (0, pfo B x)] [(0, pso B x), (0, ppl B x 6), (22, 341)] M (fun r M1 => r = none ∧ CW M1 (faS B (ppl B x 6) (pso B x)) ∧ Cf M M1 ∧ stp (faS B (ppl B x 6) (pso B x))) := by
          simp only [w112_151, w112_152, ↓reduceIte, hh_wr, hl_wr, b10, b11, ite_not, ne_eq, Int.reduceEq, Int.reduceLE, Int.reduceLT, Int.reduceNe, Int.reduceNeg, Int.reduceAdd, Int.reduceSub, Int.reduceMul, not_false_eq_true, not_true_eq_false, false_and, and_false, true_and, and_true, and_self, true_or, or_true, false_or, or_false, if_true, if_false, ite_true, ite_false, mj_tl_some, mj_tl_none, mj_cs0, mj_cs1, mj_cs2, mj_cs3, mj_cs4]
          refine wc.mono (c_tells (d := d + 1) (b := 0) h (Or.inr ⟨rfl, hs⟩)) ?_
          rintro r M1 ⟨rfl, h1, c1, _⟩
          simp only [w112_0, w112_1, w112_4, w112_7, w112_10, w112_11, w112_12, w112_15, w112_18, w112_21, w112_22, w112_23, w112_26, w112_29, w112_31, w112_32, w112_35, w112_36, w112_38, w112_39, w112_40, w112_41, w112_44, w112_45, w112_47, w112_48, w112_51, w112_52, w112_53, w112_54, w112_57, w112_58, w112_60, w112_61, w112_63, w112_64, w112_96, w112_97, w112_99, w112_101, w112_102, w112_105, w112_106, w112_107, w112_108, w112_109, w112_110, w112_113, w112_114, w112_115, w112_118, w112_119, w112_122, w112_123, w112_125, w112_127, w112_128, w112_131, w112_132, w112_135, w112_136, w112_138, w112_140, w112_143, w112_144, w112_146, w112_147, w112_150, w112_151, w112_152, w112_155, w112_156, w112_159, w112_160, w112_163, w112_166, w112_169, w112_172, w112_175, w112_176, w112_177, w112_180, w112_183, w112_186, w112_187, ↓reduceIte, hh_wr, hl_wr, b10, b11, ite_not, ne_eq, Int.reduceEq, Int.reduceLE, Int.reduceLT, Int.reduceNe, Int.reduceNeg, Int.reduceAdd, Int.reduceSub, Int.reduceMul, not_false_eq_true, not_true_eq_false, false_and, and_false, true_and, and_true, and_self, true_or, or_true, false_or, or_false, if_true, if_false, ite_true, ite_false, mj_tl_some, mj_tl_none, mj_cs0, mj_cs1, mj_cs2, mj_cs3, mj_cs4]
          refine ⟨?_, c1, hs.of h.ai (faS_e h.ai _ _)⟩
          exact h1
        by_cases hss : B 2 ≤ 0
        · have eq5 : pso B x = -1 := if_pos hss
          rw [eq5] at main ⊢
          simp only [w112_60, w112_61, w112_63, w112_64, w112_135, w112_136, w112_138, w112_140, w112_150, e6, c3, hss, ↓reduceIte, hh_wr, hl_wr, b10, b11, ite_not, ne_eq, Int.reduceEq, Int.reduceLE, Int.reduceLT, Int.reduceNe, Int.reduceNeg, Int.reduceAdd, Int.reduceSub, Int.reduceMul, not_false_eq_true, not_true_eq_false, false_and, and_false, true_and, and_true, and_self, true_or, or_true, false_or, or_false, if_true, if_false, ite_true, ite_false, mj_tl_some, mj_tl_none, mj_cs0, mj_cs1, mj_cs2, mj_cs3, mj_cs4]
          exact main
        · have eq5 : pso B x = x % B 2 := if_neg hss
          rw [eq5] at main ⊢
          have er : ji_rem x (B 2) = x % B 2 := ji_rem_nn ⟨by omega, by omega⟩ ⟨by omega, by omega⟩ (by omega)
          simp only [w112_60, w112_61, w112_63, w112_64, w112_135, w112_136, w112_138, w112_140, w112_143, w112_144, w112_146, w112_147, e6, er, c3, hss, show ¬ B 2 = 0 by omega, ↓reduceIte, hh_wr, hl_wr, b10, b11, ite_not, ne_eq, Int.reduceEq, Int.reduceLE, Int.reduceLT, Int.reduceNe, Int.reduceNeg, Int.reduceAdd, Int.reduceSub, Int.reduceMul, not_false_eq_true, not_true_eq_false, false_and, and_false, true_and, and_true, and_self, true_or, or_true, false_or, or_false, if_true, if_false, ite_true, ite_false, mj_tl_some, mj_tl_none, mj_cs0, mj_cs1, mj_cs2, mj_cs3, mj_cs4]
          exact main
      · have ef : faA Lf Ll B x = faY Lf B := by unfold faA; rw [if_neg c0, if_neg c2, if_neg c3]
        rw [ef]
        have n0 : ¬ x % 6 = 0 := fun g => c0 (Or.inl g)
        have n1 : ¬ x % 6 = 1 := fun g => c0 (Or.inr g)
        by_cases hy : B 8 < 9999
        · have ey : faY Lf B = (psA Lf B).1 := if_pos hy
          rw [ey]
          simp only [w112_60, w112_61, w112_63, w112_64, w112_159, w112_160, w112_163, w112_166, w112_169, w112_172, w112_175, w112_176, w112_177, w112_180, w112_183, c_1_0 h.cs, c_1_1 h.cs, c_1_2 h.cs, c_1_3 h.cs, c_1_4 h.cs, c_1_5 h.cs, c_1_6 h.cs, c_1_7 h.cs, c_1_8 h.cs, c_2_0 h.cs, c_2_1 h.cs, c_5_0 h.cs, c_5_1 h.cs, c_5_2 h.cs, c_5_3 h.cs, c_5_5 h.cs, c_5_8 h.cs, c_5_11 h.cs, c_6_1 h.cs, c_6_2 h.cs, c_6_3 h.cs, c_10_4 h.cs, c_10_5 h.cs, c_10_6 h.cs, c_10_7 h.cs, c_15_1 h.cs, c_17_1 h.cs, c_339_0 h.cs, c_341_0 h.cs, c_341_1 h.cs, c_341_2 h.cs, c_342_4 h.cs, c_342_5 h.cs, c_342_6 h.cs, c_342_7 h.cs, c_347_0 h.cs, c_347_2 h.cs, c_347_3 h.cs, c_349_0 h.cs, c_349_1 h.cs, c_349_2 h.cs, c_351_2 h.cs, c_351_10 h.cs, c_351_12 h.cs, c_354_0 h.cs, c_354_1 h.cs, c_354_2 h.cs, c_354_3 h.cs, c_354_4 h.cs, c_354_5 h.cs, c_354_6 h.cs, c_354_7 h.cs, c_354_8 h.cs, c_354_20 h.cs, c_354_25 h.cs, c_354_26 h.cs, c_354_27 h.cs, c_354_28 h.cs, c_354_32 h.cs, c_354_33 h.cs, c_354_34 h.cs, c_354_35 h.cs, c_354_38 h.cs, l_3 h.cs, l_4 h.cs, l_7 h.cs, l_8 h.cs, l_9 h.cs, l_11 h.cs, l_12 h.cs, l_13 h.cs, l_14 h.cs, l_16 h.cs, l_18 h.cs, l_19 h.cs, l_20 h.cs, l_21 h.cs, l_340 h.cs, l_343 h.cs, l_344 h.cs, l_345 h.cs, l_346 h.cs, l_348 h.cs, l_350 h.cs, l_352 h.cs, l_353 h.cs, l_355 h.cs, l_356 h.cs, l_357 h.cs, l_358 h.cs, l_359 h.cs, l_360 h.cs, l_361 h.cs, l_362 h.cs, l_363 h.cs, l_364 h.cs, l_365 h.cs, l_366 h.cs, l_367 h.cs, l_368 h.cs, l_369 h.cs, l_370 h.cs, l_371 h.cs, l_372 h.cs, l_373 h.cs, h.gnf, h.gP, h.gy, h.gx, h.gt, h.gns, h.gnt, h.gru, h.gnp, h.gnd, h.gne, e6, n0, n1, c2, c3, show ¬ (9999 : Int) ≤ B 8 by omega, hy, ↓reduceIte, hh_wr, hl_wr, b10, b11, ite_not, ne_eq, Int.reduceEq, Int.reduceLE, Int.reduceLT, Int.reduceNe, Int.reduceNeg, Int.reduceAdd, Int.reduceSub, Int.reduceMul, not_false_eq_true, not_true_eq_false, false_and, and_false, true_and, and_true, and_self, true_or, or_true, false_or, or_false, if_true, if_false, ite_true, ite_false, mj_tl_some, mj_tl_none, mj_cs0, mj_cs1, mj_cs2, mj_cs3, mj_cs4]
          refine wc.mono (c_pass1 (d := d + 2) h hs hy t1) ?_
          rintro r M1 ⟨rfl, h1, c1⟩
          simp only [w112_0, w112_1, w112_4, w112_7, w112_10, w112_11, w112_12, w112_15, w112_18, w112_21, w112_22, w112_23, w112_26, w112_29, w112_31, w112_32, w112_35, w112_36, w112_38, w112_39, w112_40, w112_41, w112_44, w112_45, w112_47, w112_48, w112_51, w112_52, w112_53, w112_54, w112_57, w112_58, w112_60, w112_61, w112_63, w112_64, w112_96, w112_97, w112_99, w112_101, w112_102, w112_105, w112_106, w112_107, w112_108, w112_109, w112_110, w112_113, w112_114, w112_115, w112_118, w112_119, w112_122, w112_123, w112_125, w112_127, w112_128, w112_131, w112_132, w112_135, w112_136, w112_138, w112_140, w112_143, w112_144, w112_146, w112_147, w112_150, w112_151, w112_152, w112_155, w112_156, w112_159, w112_160, w112_163, w112_166, w112_169, w112_172, w112_175, w112_176, w112_177, w112_180, w112_183, w112_186, w112_187, ↓reduceIte, hh_wr, hl_wr, b10, b11, ite_not, ne_eq, Int.reduceEq, Int.reduceLE, Int.reduceLT, Int.reduceNe, Int.reduceNeg, Int.reduceAdd, Int.reduceSub, Int.reduceMul, not_false_eq_true, not_true_eq_false, false_and, and_false, true_and, and_true, and_self, true_or, or_true, false_or, or_false, if_true, if_false, ite_true, ite_false, mj_tl_some, mj_tl_none, mj_cs0, mj_cs1, mj_cs2, mj_cs3, mj_cs4]
          exact ⟨h1, c1, hs.of h.ai (ps_e h.ai.an)⟩
        · have ey : faY Lf B = B := if_neg hy
          rw [ey]
          simp only [w112_0, w112_1, w112_4, w112_7, w112_10, w112_11, w112_12, w112_15, w112_18, w112_21, w112_22, w112_23, w112_26, w112_29, w112_31, w112_32, w112_35, w112_36, w112_38, w112_39, w112_40, w112_41, w112_44, w112_45, w112_47, w112_48, w112_51, w112_52, w112_53, w112_54, w112_57, w112_58, w112_60, w112_61, w112_63, w112_64, w112_96, w112_97, w112_99, w112_101, w112_102, w112_105, w112_106, w112_107, w112_108, w112_109, w112_110, w112_113, w112_114, w112_115, w112_118, w112_119, w112_122, w112_123, w112_125, w112_127, w112_128, w112_131, w112_132, w112_135, w112_136, w112_138, w112_140, w112_143, w112_144, w112_146, w112_147, w112_150, w112_151, w112_152, w112_155, w112_156, w112_159, w112_160, w112_163, w112_166, w112_169, w112_172, w112_175, w112_176, w112_177, w112_180, w112_183, w112_186, w112_187, c_1_0 h.cs, c_1_1 h.cs, c_1_2 h.cs, c_1_3 h.cs, c_1_4 h.cs, c_1_5 h.cs, c_1_6 h.cs, c_1_7 h.cs, c_1_8 h.cs, c_2_0 h.cs, c_2_1 h.cs, c_5_0 h.cs, c_5_1 h.cs, c_5_2 h.cs, c_5_3 h.cs, c_5_5 h.cs, c_5_8 h.cs, c_5_11 h.cs, c_6_1 h.cs, c_6_2 h.cs, c_6_3 h.cs, c_10_4 h.cs, c_10_5 h.cs, c_10_6 h.cs, c_10_7 h.cs, c_15_1 h.cs, c_17_1 h.cs, c_339_0 h.cs, c_341_0 h.cs, c_341_1 h.cs, c_341_2 h.cs, c_342_4 h.cs, c_342_5 h.cs, c_342_6 h.cs, c_342_7 h.cs, c_347_0 h.cs, c_347_2 h.cs, c_347_3 h.cs, c_349_0 h.cs, c_349_1 h.cs, c_349_2 h.cs, c_351_2 h.cs, c_351_10 h.cs, c_351_12 h.cs, c_354_0 h.cs, c_354_1 h.cs, c_354_2 h.cs, c_354_3 h.cs, c_354_4 h.cs, c_354_5 h.cs, c_354_6 h.cs, c_354_7 h.cs, c_354_8 h.cs, c_354_20 h.cs, c_354_25 h.cs, c_354_26 h.cs, c_354_27 h.cs, c_354_28 h.cs, c_354_32 h.cs, c_354_33 h.cs, c_354_34 h.cs, c_354_35 h.cs, c_354_38 h.cs, l_3 h.cs, l_4 h.cs, l_7 h.cs, l_8 h.cs, l_9 h.cs, l_11 h.cs, l_12 h.cs, l_13 h.cs, l_14 h.cs, l_16 h.cs, l_18 h.cs, l_19 h.cs, l_20 h.cs, l_21 h.cs, l_340 h.cs, l_343 h.cs, l_344 h.cs, l_345 h.cs, l_346 h.cs, l_348 h.cs, l_350 h.cs, l_352 h.cs, l_353 h.cs, l_355 h.cs, l_356 h.cs, l_357 h.cs, l_358 h.cs, l_359 h.cs, l_360 h.cs, l_361 h.cs, l_362 h.cs, l_363 h.cs, l_364 h.cs, l_365 h.cs, l_366 h.cs, l_367 h.cs, l_368 h.cs, l_369 h.cs, l_370 h.cs, l_371 h.cs, l_372 h.cs, l_373 h.cs, h.gnf, h.gP, h.gy, h.gx, h.gt, h.gns, h.gnt, h.gru, h.gnp, h.gnd, h.gne, e6, n0, n1, c2, c3, show (9999 : Int) ≤ B 8 by omega, hy, ↓reduceIte, hh_wr, hl_wr, b10, b11, ite_not, ne_eq, Int.reduceEq, Int.reduceLE, Int.reduceLT, Int.reduceNe, Int.reduceNeg, Int.reduceAdd, Int.reduceSub, Int.reduceMul, not_false_eq_true, not_true_eq_false, false_and, and_false, true_and, and_true, and_self, true_or, or_true, false_or, or_false, if_true, if_false, ite_true, ite_false, mj_tl_some, mj_tl_none, mj_cs0, mj_cs1, mj_cs2, mj_cs3, mj_cs4]
          exact ⟨h, Cf.rfl', hs⟩
theorem c_follow {x : Int} (h : CW M B) (hs : stp B) (t1 : TxL M (rul M) (B 4) 0 2 Lf) (t2 : TxL M (rul M) (B 4) 1 4 Ll) (hx : 0 ≤ x ∧ x ≤ 30702) : wc X (d + 7) 112 [(22, 341), (0, x)] M (fun r M1 => r = none ∧ CW M1 (faA Lf Ll B x) ∧ Cf M M1 ∧ stp (faA Lf Ll B x)) := by
  show wp X (d + 7) 112 0 [(22, 341), (0, x), (9, 0), (9, 0), (9, 0), (9, 0), (9, 0)] [] M _
  have k := c_fol60 (X := X) (d := d) h hs t1 t2 hx
  have p0 : 0 ≤ B 1 := h.ai.now.p0
  have p6 := h.P6
  have f0 := h.ai.f0
  have f8 := h.ai.f8
  have e6 : ji_div x 6 = x / 6 := ji_div_nn ⟨by omega, by omega⟩ ⟨by decide, by decide⟩ hx.1
  by_cases hp : B 1 ≤ 0
  · have ep : ppl B x 6 = -1 := if_pos hp
    by_cases hf : B 0 ≤ 0
    · have ef : pfo B x = -1 := if_pos hf
      rw [ep, ef] at k
      simp only [w112_0, w112_1, w112_4, w112_7, w112_10, w112_11, w112_12, w112_15, w112_18, w112_21, w112_22, w112_23, w112_26, w112_29, w112_31, w112_32, w112_44, w112_45, w112_47, w112_48, w112_57, w112_58, c_1_0 h.cs, c_1_1 h.cs, c_1_2 h.cs, c_1_3 h.cs, c_1_4 h.cs, c_1_5 h.cs, c_1_6 h.cs, c_1_7 h.cs, c_1_8 h.cs, c_2_0 h.cs, c_2_1 h.cs, c_5_0 h.cs, c_5_1 h.cs, c_5_2 h.cs, c_5_3 h.cs, c_5_5 h.cs, c_5_8 h.cs, c_5_11 h.cs, c_6_1 h.cs, c_6_2 h.cs, c_6_3 h.cs, c_10_4 h.cs, c_10_5 h.cs, c_10_6 h.cs, c_10_7 h.cs, c_15_1 h.cs, c_17_1 h.cs, c_339_0 h.cs, c_341_0 h.cs, c_341_1 h.cs, c_341_2 h.cs, c_342_4 h.cs, c_342_5 h.cs, c_342_6 h.cs, c_342_7 h.cs, c_347_0 h.cs, c_347_2 h.cs, c_347_3 h.cs, c_349_0 h.cs, c_349_1 h.cs, c_349_2 h.cs, c_351_2 h.cs, c_351_10 h.cs, c_351_12 h.cs, c_354_0 h.cs, c_354_1 h.cs, c_354_2 h.cs, c_354_3 h.cs, c_354_4 h.cs, c_354_5 h.cs, c_354_6 h.cs, c_354_7 h.cs, c_354_8 h.cs, c_354_20 h.cs, c_354_25 h.cs, c_354_26 h.cs, c_354_27 h.cs, c_354_28 h.cs, c_354_32 h.cs, c_354_33 h.cs, c_354_34 h.cs, c_354_35 h.cs, c_354_38 h.cs, l_3 h.cs, l_4 h.cs, l_7 h.cs, l_8 h.cs, l_9 h.cs, l_11 h.cs, l_12 h.cs, l_13 h.cs, l_14 h.cs, l_16 h.cs, l_18 h.cs, l_19 h.cs, l_20 h.cs, l_21 h.cs, l_340 h.cs, l_343 h.cs, l_344 h.cs, l_345 h.cs, l_346 h.cs, l_348 h.cs, l_350 h.cs, l_352 h.cs, l_353 h.cs, l_355 h.cs, l_356 h.cs, l_357 h.cs, l_358 h.cs, l_359 h.cs, l_360 h.cs, l_361 h.cs, l_362 h.cs, l_363 h.cs, l_364 h.cs, l_365 h.cs, l_366 h.cs, l_367 h.cs, l_368 h.cs, l_369 h.cs, l_370 h.cs, l_371 h.cs, l_372 h.cs, l_373 h.cs, h.gnf, h.gP, h.gy, h.gx, h.gt, h.gns, h.gnt, h.gru, h.gnp, h.gnd, h.gne, hp, hf, ↓reduceIte, hh_wr, hl_wr, b10, b11, ite_not, ne_eq, Int.reduceEq, Int.reduceLE, Int.reduceLT, Int.reduceNe, Int.reduceNeg, Int.reduceAdd, Int.reduceSub, Int.reduceMul, not_false_eq_true, not_true_eq_false, false_and, and_false, true_and, and_true, and_self, true_or, or_true, false_or, or_false, if_true, if_false, ite_true, ite_false, mj_tl_some, mj_tl_none, mj_cs0, mj_cs1, mj_cs2, mj_cs3, mj_cs4]
      exact k
    · have ef : pfo B x = x % B 0 := if_neg hf
      have er : ji_rem x (B 0) = x % B 0 := ji_rem_nn ⟨by omega, by omega⟩ ⟨by omega, by omega⟩ (by omega)
      rw [ep, ef] at k
      simp only [w112_0, w112_1, w112_4, w112_7, w112_10, w112_11, w112_12, w112_15, w112_18, w112_21, w112_22, w112_23, w112_26, w112_29, w112_31, w112_32, w112_44, w112_45, w112_47, w112_48, w112_51, w112_52, w112_53, w112_54, w112_58, c_1_0 h.cs, c_1_1 h.cs, c_1_2 h.cs, c_1_3 h.cs, c_1_4 h.cs, c_1_5 h.cs, c_1_6 h.cs, c_1_7 h.cs, c_1_8 h.cs, c_2_0 h.cs, c_2_1 h.cs, c_5_0 h.cs, c_5_1 h.cs, c_5_2 h.cs, c_5_3 h.cs, c_5_5 h.cs, c_5_8 h.cs, c_5_11 h.cs, c_6_1 h.cs, c_6_2 h.cs, c_6_3 h.cs, c_10_4 h.cs, c_10_5 h.cs, c_10_6 h.cs, c_10_7 h.cs, c_15_1 h.cs, c_17_1 h.cs, c_339_0 h.cs, c_341_0 h.cs, c_341_1 h.cs, c_341_2 h.cs, c_342_4 h.cs, c_342_5 h.cs, c_342_6 h.cs, c_342_7 h.cs, c_347_0 h.cs, c_347_2 h.cs, c_347_3 h.cs, c_349_0 h.cs, c_349_1 h.cs, c_349_2 h.cs, c_351_2 h.cs, c_351_10 h.cs, c_351_12 h.cs, c_354_0 h.cs, c_354_1 h.cs, c_354_2 h.cs, c_354_3 h.cs, c_354_4 h.cs, c_354_5 h.cs, c_354_6 h.cs, c_354_7 h.cs, c_354_8 h.cs, c_354_20 h.cs, c_354_25 h.cs, c_354_26 h.cs, c_354_27 h.cs, c_354_28 h.cs, c_354_32 h.cs, c_354_33 h.cs, c_354_34 h.cs, c_354_35 h.cs, c_354_38 h.cs, l_3 h.cs, l_4 h.cs, l_7 h.cs, l_8 h.cs, l_9 h.cs, l_11 h.cs, l_12 h.cs, l_13 h.cs, l_14 h.cs, l_16 h.cs, l_18 h.cs, l_19 h.cs, l_20 h.cs, l_21 h.cs, l_340 h.cs, l_343 h.cs, l_344 h.cs, l_345 h.cs, l_346 h.cs, l_348 h.cs, l_350 h.cs, l_352 h.cs, l_353 h.cs, l_355 h.cs, l_356 h.cs, l_357 h.cs, l_358 h.cs, l_359 h.cs, l_360 h.cs, l_361 h.cs, l_362 h.cs, l_363 h.cs, l_364 h.cs, l_365 h.cs, l_366 h.cs, l_367 h.cs, l_368 h.cs, l_369 h.cs, l_370 h.cs, l_371 h.cs, l_372 h.cs, l_373 h.cs, h.gnf, h.gP, h.gy, h.gx, h.gt, h.gns, h.gnt, h.gru, h.gnp, h.gnd, h.gne, hp, hf, er, show ¬ B 0 = 0 by omega, ↓reduceIte, hh_wr, hl_wr, b10, b11, ite_not, ne_eq, Int.reduceEq, Int.reduceLE, Int.reduceLT, Int.reduceNe, Int.reduceNeg, Int.reduceAdd, Int.reduceSub, Int.reduceMul, not_false_eq_true, not_true_eq_false, false_and, and_false, true_and, and_true, and_self, true_or, or_true, false_or, or_false, if_true, if_false, ite_true, ite_false, mj_tl_some, mj_tl_none, mj_cs0, mj_cs1, mj_cs2, mj_cs3, mj_cs4]
      exact k
  · have ep : ppl B x 6 = x / 6 % B 1 := if_neg hp
    have er1 : ji_rem (x / 6) (B 1) = x / 6 % B 1 := ji_rem_nn ⟨by omega, by omega⟩ ⟨by omega, by omega⟩ (by omega)
    by_cases hf : B 0 ≤ 0
    · have ef : pfo B x = -1 := if_pos hf
      rw [ep, ef] at k
      simp only [w112_0, w112_1, w112_4, w112_7, w112_10, w112_11, w112_12, w112_15, w112_18, w112_21, w112_22, w112_23, w112_26, w112_29, w112_31, w112_32, w112_35, w112_36, w112_38, w112_39, w112_40, w112_41, w112_45, w112_47, w112_48, w112_57, w112_58, c_1_0 h.cs, c_1_1 h.cs, c_1_2 h.cs, c_1_3 h.cs, c_1_4 h.cs, c_1_5 h.cs, c_1_6 h.cs, c_1_7 h.cs, c_1_8 h.cs, c_2_0 h.cs, c_2_1 h.cs, c_5_0 h.cs, c_5_1 h.cs, c_5_2 h.cs, c_5_3 h.cs, c_5_5 h.cs, c_5_8 h.cs, c_5_11 h.cs, c_6_1 h.cs, c_6_2 h.cs, c_6_3 h.cs, c_10_4 h.cs, c_10_5 h.cs, c_10_6 h.cs, c_10_7 h.cs, c_15_1 h.cs, c_17_1 h.cs, c_339_0 h.cs, c_341_0 h.cs, c_341_1 h.cs, c_341_2 h.cs, c_342_4 h.cs, c_342_5 h.cs, c_342_6 h.cs, c_342_7 h.cs, c_347_0 h.cs, c_347_2 h.cs, c_347_3 h.cs, c_349_0 h.cs, c_349_1 h.cs, c_349_2 h.cs, c_351_2 h.cs, c_351_10 h.cs, c_351_12 h.cs, c_354_0 h.cs, c_354_1 h.cs, c_354_2 h.cs, c_354_3 h.cs, c_354_4 h.cs, c_354_5 h.cs, c_354_6 h.cs, c_354_7 h.cs, c_354_8 h.cs, c_354_20 h.cs, c_354_25 h.cs, c_354_26 h.cs, c_354_27 h.cs, c_354_28 h.cs, c_354_32 h.cs, c_354_33 h.cs, c_354_34 h.cs, c_354_35 h.cs, c_354_38 h.cs, l_3 h.cs, l_4 h.cs, l_7 h.cs, l_8 h.cs, l_9 h.cs, l_11 h.cs, l_12 h.cs, l_13 h.cs, l_14 h.cs, l_16 h.cs, l_18 h.cs, l_19 h.cs, l_20 h.cs, l_21 h.cs, l_340 h.cs, l_343 h.cs, l_344 h.cs, l_345 h.cs, l_346 h.cs, l_348 h.cs, l_350 h.cs, l_352 h.cs, l_353 h.cs, l_355 h.cs, l_356 h.cs, l_357 h.cs, l_358 h.cs, l_359 h.cs, l_360 h.cs, l_361 h.cs, l_362 h.cs, l_363 h.cs, l_364 h.cs, l_365 h.cs, l_366 h.cs, l_367 h.cs, l_368 h.cs, l_369 h.cs, l_370 h.cs, l_371 h.cs, l_372 h.cs, l_373 h.cs, h.gnf, h.gP, h.gy, h.gx, h.gt, h.gns, h.gnt, h.gru, h.gnp, h.gnd, h.gne, hp, hf, e6, er1, show ¬ B 1 = 0 by omega, ↓reduceIte, hh_wr, hl_wr, b10, b11, ite_not, ne_eq, Int.reduceEq, Int.reduceLE, Int.reduceLT, Int.reduceNe, Int.reduceNeg, Int.reduceAdd, Int.reduceSub, Int.reduceMul, not_false_eq_true, not_true_eq_false, false_and, and_false, true_and, and_true, and_self, true_or, or_true, false_or, or_false, if_true, if_false, ite_true, ite_false, mj_tl_some, mj_tl_none, mj_cs0, mj_cs1, mj_cs2, mj_cs3, mj_cs4]
      exact k
    · have ef : pfo B x = x % B 0 := if_neg hf
      have er : ji_rem x (B 0) = x % B 0 := ji_rem_nn ⟨by omega, by omega⟩ ⟨by omega, by omega⟩ (by omega)
      rw [ep, ef] at k
      simp only [w112_0, w112_1, w112_4, w112_7, w112_10, w112_11, w112_12, w112_15, w112_18, w112_21, w112_22, w112_23, w112_26, w112_29, w112_31, w112_32, w112_35, w112_36, w112_38, w112_39, w112_40, w112_41, w112_45, w112_47, w112_48, w112_51, w112_52, w112_53, w112_54, w112_58, c_1_0 h.cs, c_1_1 h.cs, c_1_2 h.cs, c_1_3 h.cs, c_1_4 h.cs, c_1_5 h.cs, c_1_6 h.cs, c_1_7 h.cs, c_1_8 h.cs, c_2_0 h.cs, c_2_1 h.cs, c_5_0 h.cs, c_5_1 h.cs, c_5_2 h.cs, c_5_3 h.cs, c_5_5 h.cs, c_5_8 h.cs, c_5_11 h.cs, c_6_1 h.cs, c_6_2 h.cs, c_6_3 h.cs, c_10_4 h.cs, c_10_5 h.cs, c_10_6 h.cs, c_10_7 h.cs, c_15_1 h.cs, c_17_1 h.cs, c_339_0 h.cs, c_341_0 h.cs, c_341_1 h.cs, c_341_2 h.cs, c_342_4 h.cs, c_342_5 h.cs, c_342_6 h.cs, c_342_7 h.cs, c_347_0 h.cs, c_347_2 h.cs, c_347_3 h.cs, c_349_0 h.cs, c_349_1 h.cs, c_349_2 h.cs, c_351_2 h.cs, c_351_10 h.cs, c_351_12 h.cs, c_354_0 h.cs, c_354_1 h.cs, c_354_2 h.cs, c_354_3 h.cs, c_354_4 h.cs, c_354_5 h.cs, c_354_6 h.cs, c_354_7 h.cs, c_354_8 h.cs, c_354_20 h.cs, c_354_25 h.cs, c_354_26 h.cs, c_354_27 h.cs, c_354_28 h.cs, c_354_32 h.cs, c_354_33 h.cs, c_354_34 h.cs, c_354_35 h.cs, c_354_38 h.cs, l_3 h.cs, l_4 h.cs, l_7 h.cs, l_8 h.cs, l_9 h.cs, l_11 h.cs, l_12 h.cs, l_13 h.cs, l_14 h.cs, l_16 h.cs, l_18 h.cs, l_19 h.cs, l_20 h.cs, l_21 h.cs, l_340 h.cs, l_343 h.cs, l_344 h.cs, l_345 h.cs, l_346 h.cs, l_348 h.cs, l_350 h.cs, l_352 h.cs, l_353 h.cs, l_355 h.cs, l_356 h.cs, l_357 h.cs, l_358 h.cs, l_359 h.cs, l_360 h.cs, l_361 h.cs, l_362 h.cs, l_363 h.cs, l_364 h.cs, l_365 h.cs, l_366 h.cs, l_367 h.cs, l_368 h.cs, l_369 h.cs, l_370 h.cs, l_371 h.cs, l_372 h.cs, l_373 h.cs, h.gnf, h.gP, h.gy, h.gx, h.gt, h.gns, h.gnt, h.gru, h.gnp, h.gnd, h.gne, hp, hf, e6, er1, er, show ¬ B 0 = 0 by omega, show ¬ B 1 = 0 by omega, ↓reduceIte, hh_wr, hl_wr, b10, b11, ite_not, ne_eq, Int.reduceEq, Int.reduceLE, Int.reduceLT, Int.reduceNe, Int.reduceNeg, Int.reduceAdd, Int.reduceSub, Int.reduceMul, not_false_eq_true, not_true_eq_false, false_and, and_false, true_and, and_true, and_self, true_or, or_true, false_or, or_false, if_true, if_false, ite_true, ite_false, mj_tl_some, mj_tl_none, mj_cs0, mj_cs1, mj_cs2, mj_cs3, mj_cs4]
      exact k
end Ages
