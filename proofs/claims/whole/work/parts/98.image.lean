/-! IMAGE AND BACK: the class -/
/-- the fixed cells of the world at w -/
def WS (M : mj_M) (w : Int) : Prop := (hh M w 0 = w + 1) ∧ (hh M w 1 = w + 5) ∧ (hh M w 2 = w + 10) ∧ (hh M w 3 = w + 12) ∧ (hh M w 5 = w + 14) ∧ (hh M w 8 = w + 15) ∧ (hh M w 11 = w + 16) ∧ (hh M (w + 1) 1 = w + 2) ∧ (hh M (w + 1) 2 = w + 3) ∧ (hh M (w + 10) 1 = w + 11) ∧ (hh M (w + 12) 1 = w + 13) ∧ (hl M (w + 2) = 8) ∧ (hl M (w + 3) = 8) ∧ (hl M (w + 11) = 24) ∧ (hl M (w + 13) = 24) ∧ (hl M (w + 14) = 4) ∧ (hl M (w + 15) = 4) ∧ (hl M (w + 16) = 30) ∧ (MS M (w + 5)) ∧ (∀ i, 0 ≤ i → i < 30 → MS M (w + 17 + 5 * i) ∧ hh M (w + 16) i = w + 17 + 5 * i)
theorem WS.f0 {M : mj_M} {w : Int} (h : WS M w) : hh M w 0 = w + 1 := h.1
theorem WS.f1 {M : mj_M} {w : Int} (h : WS M w) : hh M w 1 = w + 5 := h.2.1
theorem WS.f2 {M : mj_M} {w : Int} (h : WS M w) : hh M w 2 = w + 10 := h.2.2.1
theorem WS.f3 {M : mj_M} {w : Int} (h : WS M w) : hh M w 3 = w + 12 := h.2.2.2.1
theorem WS.f5 {M : mj_M} {w : Int} (h : WS M w) : hh M w 5 = w + 14 := h.2.2.2.2.1
theorem WS.f8 {M : mj_M} {w : Int} (h : WS M w) : hh M w 8 = w + 15 := h.2.2.2.2.2.1
theorem WS.f11 {M : mj_M} {w : Int} (h : WS M w) : hh M w 11 = w + 16 := h.2.2.2.2.2.2.1
theorem WS.t1 {M : mj_M} {w : Int} (h : WS M w) : hh M (w + 1) 1 = w + 2 := h.2.2.2.2.2.2.2.1
theorem WS.t2 {M : mj_M} {w : Int} (h : WS M w) : hh M (w + 1) 2 = w + 3 := h.2.2.2.2.2.2.2.2.1
theorem WS.r1 {M : mj_M} {w : Int} (h : WS M w) : hh M (w + 10) 1 = w + 11 := h.2.2.2.2.2.2.2.2.2.1
theorem WS.r2 {M : mj_M} {w : Int} (h : WS M w) : hh M (w + 12) 1 = w + 13 := h.2.2.2.2.2.2.2.2.2.2.1
theorem WS.l2 {M : mj_M} {w : Int} (h : WS M w) : hl M (w + 2) = 8 := h.2.2.2.2.2.2.2.2.2.2.2.1
theorem WS.l3 {M : mj_M} {w : Int} (h : WS M w) : hl M (w + 3) = 8 := h.2.2.2.2.2.2.2.2.2.2.2.2.1
theorem WS.l11 {M : mj_M} {w : Int} (h : WS M w) : hl M (w + 11) = 24 := h.2.2.2.2.2.2.2.2.2.2.2.2.2.1
theorem WS.l13 {M : mj_M} {w : Int} (h : WS M w) : hl M (w + 13) = 24 := h.2.2.2.2.2.2.2.2.2.2.2.2.2.2.1
theorem WS.l14 {M : mj_M} {w : Int} (h : WS M w) : hl M (w + 14) = 4 := h.2.2.2.2.2.2.2.2.2.2.2.2.2.2.2.1
theorem WS.l15 {M : mj_M} {w : Int} (h : WS M w) : hl M (w + 15) = 4 := h.2.2.2.2.2.2.2.2.2.2.2.2.2.2.2.2.1
theorem WS.l16 {M : mj_M} {w : Int} (h : WS M w) : hl M (w + 16) = 30 := h.2.2.2.2.2.2.2.2.2.2.2.2.2.2.2.2.2.1
theorem WS.now {M : mj_M} {w : Int} (h : WS M w) : MS M (w + 5) := h.2.2.2.2.2.2.2.2.2.2.2.2.2.2.2.2.2.2.1
theorem WS.rg {M : mj_M} {w : Int} (h : WS M w) : ∀ i, 0 ≤ i → i < 30 → MS M (w + 17 + 5 * i) ∧ hh M (w + 16) i = w + 17 + 5 * i := h.2.2.2.2.2.2.2.2.2.2.2.2.2.2.2.2.2.2.2
section Image
variable {X : mj_X} {d : Nat} {M : mj_M} {A : Int → Int} {Q : Option mj_V → mj_M → Prop}
theorem CS.ws5 (h : CS M) : WS M 5 := ⟨c_5_0 h, c_5_1 h, c_5_2 h, c_5_3 h, c_5_5 h, c_5_8 h, c_5_11 h, c_6_1 h, c_6_2 h, c_15_1 h, c_17_1 h, l_7 h, l_8 h, l_16 h, l_18 h, l_19 h, l_20 h, l_21 h, h.ms10, fun _ a b => h.ms22 ⟨a, b⟩⟩
theorem CS.ws172 (h : CS M) : WS M 172 := ⟨c_172_0 h, c_172_1 h, c_172_2 h, c_172_3 h, c_172_5 h, c_172_8 h, c_172_11 h, c_173_1 h, c_173_2 h, c_182_1 h, c_184_1 h, l_174 h, l_175 h, l_183 h, l_185 h, l_186 h, l_187 h, l_188 h, ⟨by decide, ⟨c_177_4 h, c_177_5 h, c_177_6 h, c_177_7 h⟩, l_178 h, l_179 h, l_180 h, l_181 h⟩, fun _ a b => h.ms189 ⟨a, b⟩⟩
theorem c_ttake {v w : Int} (a : WS M v) (b : WS M w) (hv : 5 ≤ v) (hw : 5 ≤ w) (hd : v + 167 = w ∨ w + 167 = v) : wc X d 185 [(29, w + 1), (29, v + 1)] M (fun r M1 => r = none ∧ (∀ x j, hh M1 x j = if x = w + 3 ∧ 0 ≤ j ∧ j < 8 then hh M (v + 3) j else if x = w + 2 ∧ 0 ≤ j ∧ j < 8 then hh M (v + 2) j else if x = w + 1 ∧ j = 0 then hh M (v + 1) 0 else hh M x j) ∧ (∀ x, hl M1 x = hl M x) ∧ M1.1 = M.1 ∧ M1.2.1 = M.2.1) := by
  show wp X d 185 0 [(29, w + 1), (29, v + 1)] [] M _
  simp only [w185_0, w185_1, w185_2, w185_5, w185_8, w185_9, w185_12, w185_13, w185_14, w185_17, w185_18, w185_20, w185_23, w185_24, w185_27, w185_28, w185_29, w185_32, w185_33, w185_35, w185_38, hh_wr, hl_wr, hh_cp, hl_cp, a.t1, a.t2, b.t1, b.t2, a.l2, a.l3, b.l2, b.l3, show ¬ v + 1 = 0 by omega, show ¬ w + 1 = 0 by omega, show ¬ v + 2 = 0 by omega, show ¬ w + 2 = 0 by omega, show ¬ v + 3 = 0 by omega, show ¬ w + 3 = 0 by omega, show ¬ v + 1 = w + 1 by omega, show ¬ v + 1 = w + 2 by omega, show ¬ w + 1 = w + 2 by omega, show ¬ v + 3 = w + 2 by omega, show ¬ v + 3 = w + 1 by omega, show ¬ v + 2 = w + 1 by omega, ↓reduceIte, hh_wr, hl_wr, b10, b11, ite_not, ne_eq, Int.reduceEq, Int.reduceLE, Int.reduceLT, Int.reduceNe, Int.reduceNeg, Int.reduceAdd, Int.reduceSub, Int.reduceMul, not_false_eq_true, not_true_eq_false, false_and, and_false, true_and, and_true, and_self, true_or, or_true, false_or, or_false, if_true, if_false, ite_true, ite_false, mj_tl_some, mj_tl_none, mj_cs0, mj_cs1, mj_cs2, mj_cs3, mj_cs4]
  refine ⟨fun x j => ?_, ?_⟩
  · by_cases e3 : x = w + 3 ∧ 0 ≤ j ∧ j < 8
    · simp [e3, show 0 + (j - 0) = j by omega]
    · simp [e3]
  · exact ⟨fun _ => trivial, rfl, rfl⟩
theorem c_rtake {c e : Int} (hc : 1 ≤ c) (he : 1 ≤ e) (hd : c + 100 < e ∨ e + 100 < c) (c1 : hh M c 1 = c + 1) (e1 : hh M e 1 = e + 1) (lc : hl M (c + 1) = 24) (le : hl M (e + 1) = 24) : wc X d 186 [(27, e), (27, c)] M (fun r M1 => r = none ∧ (∀ x j, hh M1 x j = if x = e + 1 ∧ 0 ≤ j ∧ j < 24 then hh M (c + 1) j else if x = e ∧ j = 0 then hh M c 0 else hh M x j) ∧ (∀ x, hl M1 x = hl M x) ∧ M1.1 = M.1 ∧ M1.2.1 = M.2.1) := by
  show wp X d 186 0 [(27, e), (27, c)] [] M _
  simp only [w186_0, w186_1, w186_2, w186_5, w186_8, w186_9, w186_12, w186_13, w186_14, w186_17, w186_18, w186_19, w186_22, w186_23, w186_26, hh_wr, hl_wr, hh_cp, hl_cp, c1, e1, lc, le, show ¬ c = 0 by omega, show ¬ e = 0 by omega, show ¬ c + 1 = 0 by omega, show ¬ e + 1 = 0 by omega, show ¬ c = e by omega, show ¬ c + 1 = e by omega, ↓reduceIte, hh_wr, hl_wr, b10, b11, ite_not, ne_eq, Int.reduceEq, Int.reduceLE, Int.reduceLT, Int.reduceNe, Int.reduceNeg, Int.reduceAdd, Int.reduceSub, Int.reduceMul, not_false_eq_true, not_true_eq_false, false_and, and_false, true_and, and_true, and_self, true_or, or_true, false_or, or_false, if_true, if_false, ite_true, ite_false, mj_tl_some, mj_tl_none, mj_cs0, mj_cs1, mj_cs2, mj_cs3, mj_cs4]
  refine ⟨fun x j => ?_, ?_⟩
  · by_cases e3 : x = e + 1 ∧ 0 ≤ j ∧ j < 24
    · simp [e3, show 0 + (j - 0) = j by omega]
    · simp [e3]
  · exact ⟨fun _ => trivial, rfl, rfl⟩
end Image
