/-! THE LAW'S LOOP, call by call -/
section LawLoop
variable {X : mj_X} {D : Nat} {M : mj_M} {Q : Option mj_V → mj_M → Prop}
theorem wc.mono {j : Nat} {as : List mj_V} {Q Q' : Option mj_V → mj_M → Prop} (h : wc X D j as M Q) (hq : ∀ r M', Q r M' → Q' r M') : wc X D j as M Q' := wp.mono h hq
theorem jl_cmp_self (x : Int) : jl_cmp x x = 0 := by
  unfold jl_cmp lg_cmp
  rw [if_neg (by simp [Int64.lt_irrefl]), if_pos rfl]
  rfl
/-- class and reference at one call: the same answer (tag tg), and P behind it -/
def LS2 (X : mj_X) (D kc km tg : Nat) (as : List mj_V) (M : mj_M) (P : mj_M → Prop) : Prop := wc X D kc ((31, 1) :: as) M (fun r1 M1 => wc X D km ((32, 354) :: as) M1 (fun r2 M2 => ∃ x, r1 = some (tg, x) ∧ r2 = some (tg, x) ∧ P M2))
theorem LS2.x {kc km tg : Nat} {as : List mj_V} {P : mj_M → Prop} {r1 : Option mj_V} {M1 : mj_M} (h : wc X D km ((32, 354) :: as) M1 (fun r2 M2 => ∃ x, r1 = some (tg, x) ∧ r2 = some (tg, x) ∧ P M2)) : ∃ x, r1 = some (tg, x) := by
  obtain ⟨_, _, _, _, x, h, _⟩ := h
  exact ⟨x, h⟩
def lb (z : Int) : Int := if z = 0 then 0 else 1
theorem lw_c0 {i : Int} {P : mj_M → Prop} (hi : 0 ≤ i) (hi2 : i + 5 < X.1) (hX : X.1 ≤ 100000) (hst : LS2 X D 13 198 0 [(0, X.2 (i + 1)), (0, X.2 (i + 2))] M P) (kk : ∀ M2, P M2 → wp X (D + 1) 335 1662 [(8, 0), (31, 1), (32, 354), (0, i)] [] M2 Q) : wp X (D + 1) 335 236 [(8, 0), (31, 1), (32, 354), (0, i)] [] M Q := by
  have a1 : ji_add i 1 = i + 1 := ji_add_eq ⟨by omega, by omega⟩
  have b1 : 0 ≤ i + 1 := by omega
  have d1 : i + 1 < X.1 := by omega
  have a2 : ji_add i 2 = i + 2 := ji_add_eq ⟨by omega, by omega⟩
  have b2 : 0 ≤ i + 2 := by omega
  have d2 : i + 2 < X.1 := by omega
  unfold LS2 at hst
  simp only [w335_236, w335_237, w335_238, w335_239, w335_240, w335_241, w335_242, w335_243, w335_244, w335_245, w335_246, w335_247, a1, b1, d1, a2, b2, d2, ↓reduceIte, ne_eq, Int.reduceEq, Int.reduceLE, Int.reduceLT, not_false_eq_true, not_true_eq_false, false_and, and_false, true_and, and_true, and_self, mj_tl_some, mj_tl_none, mj_cs0, mj_cs1, mj_cs2, mj_cs3, mj_cs4]
  refine wc.mono hst ?_
  intro r1 M1 h1
  obtain ⟨x, rfl⟩ := LS2.x (kc := 0) h1
  simp only [w335_250, w335_251, w335_252, w335_253, w335_254, w335_255, w335_256, w335_257, w335_258, w335_259, w335_260, w335_261, a1, b1, d1, a2, b2, d2, ↓reduceIte, ne_eq, Int.reduceEq, Int.reduceLE, Int.reduceLT, not_false_eq_true, not_true_eq_false, false_and, and_false, true_and, and_true, and_self, mj_tl_some, mj_tl_none, mj_cs0, mj_cs1, mj_cs2, mj_cs3, mj_cs4]
  refine wc.mono h1 ?_
  rintro r2 M2 ⟨x', e1, rfl, hP⟩
  cases e1
  simp only [w335_264, ↓reduceIte, ne_eq, Int.reduceEq, Int.reduceLE, Int.reduceLT, not_false_eq_true, not_true_eq_false, false_and, and_false, true_and, and_true, and_self, mj_tl_some, mj_tl_none, mj_cs0, mj_cs1, mj_cs2, mj_cs3, mj_cs4]
  exact kk M2 hP
theorem lw_c1 {i : Int} {P : mj_M → Prop} (hi : 0 ≤ i) (hi2 : i + 5 < X.1) (hX : X.1 ≤ 100000) (hst : LS2 X D 15 199 0 [(0, X.2 (i + 1)), (0, X.2 (i + 2))] M P) (kk : ∀ M2, P M2 → wp X (D + 1) 335 1662 [(8, 0), (31, 1), (32, 354), (0, i)] [] M2 Q) : wp X (D + 1) 335 269 [(8, 0), (31, 1), (32, 354), (0, i)] [] M Q := by
  have a1 : ji_add i 1 = i + 1 := ji_add_eq ⟨by omega, by omega⟩
  have b1 : 0 ≤ i + 1 := by omega
  have d1 : i + 1 < X.1 := by omega
  have a2 : ji_add i 2 = i + 2 := ji_add_eq ⟨by omega, by omega⟩
  have b2 : 0 ≤ i + 2 := by omega
  have d2 : i + 2 < X.1 := by omega
  unfold LS2 at hst
  simp only [w335_269, w335_270, w335_271, w335_272, w335_273, w335_274, w335_275, w335_276, w335_277, w335_278, w335_279, w335_280, a1, b1, d1, a2, b2, d2, ↓reduceIte, ne_eq, Int.reduceEq, Int.reduceLE, Int.reduceLT, not_false_eq_true, not_true_eq_false, false_and, and_false, true_and, and_true, and_self, mj_tl_some, mj_tl_none, mj_cs0, mj_cs1, mj_cs2, mj_cs3, mj_cs4]
  refine wc.mono hst ?_
  intro r1 M1 h1
  obtain ⟨x, rfl⟩ := LS2.x (kc := 0) h1
  simp only [w335_283, w335_284, w335_285, w335_286, w335_287, w335_288, w335_289, w335_290, w335_291, w335_292, w335_293, w335_294, a1, b1, d1, a2, b2, d2, ↓reduceIte, ne_eq, Int.reduceEq, Int.reduceLE, Int.reduceLT, not_false_eq_true, not_true_eq_false, false_and, and_false, true_and, and_true, and_self, mj_tl_some, mj_tl_none, mj_cs0, mj_cs1, mj_cs2, mj_cs3, mj_cs4]
  refine wc.mono h1 ?_
  rintro r2 M2 ⟨x', e1, rfl, hP⟩
  cases e1
  simp only [w335_297, ↓reduceIte, ne_eq, Int.reduceEq, Int.reduceLE, Int.reduceLT, not_false_eq_true, not_true_eq_false, false_and, and_false, true_and, and_true, and_self, mj_tl_some, mj_tl_none, mj_cs0, mj_cs1, mj_cs2, mj_cs3, mj_cs4]
  exact kk M2 hP
theorem lw_c2 {i : Int} {P : mj_M → Prop} (hi : 0 ≤ i) (hi2 : i + 5 < X.1) (hX : X.1 ≤ 100000) (hst : LS2 X D 19 204 0 [(0, X.2 (i + 1))] M P) (kk : ∀ M2, P M2 → wp X (D + 1) 335 1662 [(8, 0), (31, 1), (32, 354), (0, i)] [] M2 Q) : wp X (D + 1) 335 302 [(8, 0), (31, 1), (32, 354), (0, i)] [] M Q := by
  have a1 : ji_add i 1 = i + 1 := ji_add_eq ⟨by omega, by omega⟩
  have b1 : 0 ≤ i + 1 := by omega
  have d1 : i + 1 < X.1 := by omega
  unfold LS2 at hst
  simp only [w335_302, w335_303, w335_304, w335_305, w335_306, w335_307, w335_308, a1, b1, d1, ↓reduceIte, ne_eq, Int.reduceEq, Int.reduceLE, Int.reduceLT, not_false_eq_true, not_true_eq_false, false_and, and_false, true_and, and_true, and_self, mj_tl_some, mj_tl_none, mj_cs0, mj_cs1, mj_cs2, mj_cs3, mj_cs4]
  refine wc.mono hst ?_
  intro r1 M1 h1
  obtain ⟨x, rfl⟩ := LS2.x (kc := 0) h1
  simp only [w335_311, w335_312, w335_313, w335_314, w335_315, w335_316, w335_317, a1, b1, d1, ↓reduceIte, ne_eq, Int.reduceEq, Int.reduceLE, Int.reduceLT, not_false_eq_true, not_true_eq_false, false_and, and_false, true_and, and_true, and_self, mj_tl_some, mj_tl_none, mj_cs0, mj_cs1, mj_cs2, mj_cs3, mj_cs4]
  refine wc.mono h1 ?_
  rintro r2 M2 ⟨x', e1, rfl, hP⟩
  cases e1
  simp only [w335_320, ↓reduceIte, ne_eq, Int.reduceEq, Int.reduceLE, Int.reduceLT, not_false_eq_true, not_true_eq_false, false_and, and_false, true_and, and_true, and_self, mj_tl_some, mj_tl_none, mj_cs0, mj_cs1, mj_cs2, mj_cs3, mj_cs4]
  exact kk M2 hP
theorem lw_c3 {i : Int} {P : mj_M → Prop} (hi : 0 ≤ i) (hi2 : i + 5 < X.1) (hX : X.1 ≤ 100000) (hst : LS2 X D 22 205 0 [(0, X.2 (i + 1)), (0, X.2 (i + 2)), (0, X.2 (i + 3)), (0, X.2 (i + 4)), (0, X.2 (i + 5))] M P) (kk : ∀ M2, P M2 → wp X (D + 1) 335 1662 [(8, 0), (31, 1), (32, 354), (0, i)] [] M2 Q) : wp X (D + 1) 335 325 [(8, 0), (31, 1), (32, 354), (0, i)] [] M Q := by
  have a1 : ji_add i 1 = i + 1 := ji_add_eq ⟨by omega, by omega⟩
  have b1 : 0 ≤ i + 1 := by omega
  have d1 : i + 1 < X.1 := by omega
  have a2 : ji_add i 2 = i + 2 := ji_add_eq ⟨by omega, by omega⟩
  have b2 : 0 ≤ i + 2 := by omega
  have d2 : i + 2 < X.1 := by omega
  have a3 : ji_add i 3 = i + 3 := ji_add_eq ⟨by omega, by omega⟩
  have b3 : 0 ≤ i + 3 := by omega
  have d3 : i + 3 < X.1 := by omega
  have a4 : ji_add i 4 = i + 4 := ji_add_eq ⟨by omega, by omega⟩
  have b4 : 0 ≤ i + 4 := by omega
  have d4 : i + 4 < X.1 := by omega
  have a5 : ji_add i 5 = i + 5 := ji_add_eq ⟨by omega, by omega⟩
  have b5 : 0 ≤ i + 5 := by omega
  have d5 : i + 5 < X.1 := by omega
  unfold LS2 at hst
  simp only [w335_325, w335_326, w335_327, w335_328, w335_329, w335_330, w335_331, w335_332, w335_333, w335_334, w335_335, w335_336, w335_337, w335_338, w335_339, w335_340, w335_341, w335_342, w335_343, w335_344, w335_345, w335_346, w335_347, w335_348, w335_349, w335_350, w335_351, a1, b1, d1, a2, b2, d2, a3, b3, d3, a4, b4, d4, a5, b5, d5, ↓reduceIte, ne_eq, Int.reduceEq, Int.reduceLE, Int.reduceLT, not_false_eq_true, not_true_eq_false, false_and, and_false, true_and, and_true, and_self, mj_tl_some, mj_tl_none, mj_cs0, mj_cs1, mj_cs2, mj_cs3, mj_cs4]
  refine wc.mono hst ?_
  intro r1 M1 h1
  obtain ⟨x, rfl⟩ := LS2.x (kc := 0) h1
  simp only [w335_354, w335_355, w335_356, w335_357, w335_358, w335_359, w335_360, w335_361, w335_362, w335_363, w335_364, w335_365, w335_366, w335_367, w335_368, w335_369, w335_370, w335_371, w335_372, w335_373, w335_374, w335_375, w335_376, w335_377, w335_378, w335_379, w335_380, a1, b1, d1, a2, b2, d2, a3, b3, d3, a4, b4, d4, a5, b5, d5, ↓reduceIte, ne_eq, Int.reduceEq, Int.reduceLE, Int.reduceLT, not_false_eq_true, not_true_eq_false, false_and, and_false, true_and, and_true, and_self, mj_tl_some, mj_tl_none, mj_cs0, mj_cs1, mj_cs2, mj_cs3, mj_cs4]
  refine wc.mono h1 ?_
  rintro r2 M2 ⟨x', e1, rfl, hP⟩
  cases e1
  simp only [w335_383, ↓reduceIte, ne_eq, Int.reduceEq, Int.reduceLE, Int.reduceLT, not_false_eq_true, not_true_eq_false, false_and, and_false, true_and, and_true, and_self, mj_tl_some, mj_tl_none, mj_cs0, mj_cs1, mj_cs2, mj_cs3, mj_cs4]
  exact kk M2 hP
theorem lw_c4 {i : Int} {P : mj_M → Prop} (hi : 0 ≤ i) (hi2 : i + 5 < X.1) (hX : X.1 ≤ 100000) (hst : LS2 X D 24 207 0 [(0, X.2 (i + 1))] M P) (kk : ∀ M2, P M2 → wp X (D + 1) 335 1662 [(8, 0), (31, 1), (32, 354), (0, i)] [] M2 Q) : wp X (D + 1) 335 388 [(8, 0), (31, 1), (32, 354), (0, i)] [] M Q := by
  have a1 : ji_add i 1 = i + 1 := ji_add_eq ⟨by omega, by omega⟩
  have b1 : 0 ≤ i + 1 := by omega
  have d1 : i + 1 < X.1 := by omega
  unfold LS2 at hst
  simp only [w335_388, w335_389, w335_390, w335_391, w335_392, w335_393, w335_394, a1, b1, d1, ↓reduceIte, ne_eq, Int.reduceEq, Int.reduceLE, Int.reduceLT, not_false_eq_true, not_true_eq_false, false_and, and_false, true_and, and_true, and_self, mj_tl_some, mj_tl_none, mj_cs0, mj_cs1, mj_cs2, mj_cs3, mj_cs4]
  refine wc.mono hst ?_
  intro r1 M1 h1
  obtain ⟨x, rfl⟩ := LS2.x (kc := 0) h1
  simp only [w335_397, w335_398, w335_399, w335_400, w335_401, w335_402, w335_403, a1, b1, d1, ↓reduceIte, ne_eq, Int.reduceEq, Int.reduceLE, Int.reduceLT, not_false_eq_true, not_true_eq_false, false_and, and_false, true_and, and_true, and_self, mj_tl_some, mj_tl_none, mj_cs0, mj_cs1, mj_cs2, mj_cs3, mj_cs4]
  refine wc.mono h1 ?_
  rintro r2 M2 ⟨x', e1, rfl, hP⟩
  cases e1
  simp only [w335_406, ↓reduceIte, ne_eq, Int.reduceEq, Int.reduceLE, Int.reduceLT, not_false_eq_true, not_true_eq_false, false_and, and_false, true_and, and_true, and_self, mj_tl_some, mj_tl_none, mj_cs0, mj_cs1, mj_cs2, mj_cs3, mj_cs4]
  exact kk M2 hP
theorem lw_c5 {i : Int} {P : mj_M → Prop} (hi : 0 ≤ i) (hi2 : i + 5 < X.1) (hX : X.1 ≤ 100000) (hst : LS2 X D 25 208 0 [] M P) (kk : ∀ M2, P M2 → wp X (D + 1) 335 1662 [(8, 0), (31, 1), (32, 354), (0, i)] [] M2 Q) : wp X (D + 1) 335 411 [(8, 0), (31, 1), (32, 354), (0, i)] [] M Q := by
  unfold LS2 at hst
  simp only [w335_411, w335_412, ↓reduceIte, ne_eq, Int.reduceEq, Int.reduceLE, Int.reduceLT, not_false_eq_true, not_true_eq_false, false_and, and_false, true_and, and_true, and_self, mj_tl_some, mj_tl_none, mj_cs0, mj_cs1, mj_cs2, mj_cs3, mj_cs4]
  refine wc.mono hst ?_
  intro r1 M1 h1
  obtain ⟨x, rfl⟩ := LS2.x (kc := 0) h1
  simp only [w335_415, w335_416, ↓reduceIte, ne_eq, Int.reduceEq, Int.reduceLE, Int.reduceLT, not_false_eq_true, not_true_eq_false, false_and, and_false, true_and, and_true, and_self, mj_tl_some, mj_tl_none, mj_cs0, mj_cs1, mj_cs2, mj_cs3, mj_cs4]
  refine wc.mono h1 ?_
  rintro r2 M2 ⟨x', e1, rfl, hP⟩
  cases e1
  simp only [w335_419, ↓reduceIte, ne_eq, Int.reduceEq, Int.reduceLE, Int.reduceLT, not_false_eq_true, not_true_eq_false, false_and, and_false, true_and, and_true, and_self, mj_tl_some, mj_tl_none, mj_cs0, mj_cs1, mj_cs2, mj_cs3, mj_cs4]
  exact kk M2 hP
theorem lw_c6 {i : Int} {P : mj_M → Prop} (hi : 0 ≤ i) (hi2 : i + 5 < X.1) (hX : X.1 ≤ 100000) (hst : LS2 X D 71 244 0 [(0, X.2 (i + 1))] M P) (kk : ∀ M2, P M2 → wp X (D + 1) 335 1662 [(8, 0), (31, 1), (32, 354), (0, i)] [] M2 Q) : wp X (D + 1) 335 424 [(8, 0), (31, 1), (32, 354), (0, i)] [] M Q := by
  have a1 : ji_add i 1 = i + 1 := ji_add_eq ⟨by omega, by omega⟩
  have b1 : 0 ≤ i + 1 := by omega
  have d1 : i + 1 < X.1 := by omega
  unfold LS2 at hst
  simp only [w335_424, w335_425, w335_426, w335_427, w335_428, w335_429, w335_430, a1, b1, d1, ↓reduceIte, ne_eq, Int.reduceEq, Int.reduceLE, Int.reduceLT, not_false_eq_true, not_true_eq_false, false_and, and_false, true_and, and_true, and_self, mj_tl_some, mj_tl_none, mj_cs0, mj_cs1, mj_cs2, mj_cs3, mj_cs4]
  refine wc.mono hst ?_
  intro r1 M1 h1
  obtain ⟨x, rfl⟩ := LS2.x (kc := 0) h1
  simp only [w335_433, w335_434, w335_435, w335_436, w335_437, w335_438, w335_439, a1, b1, d1, ↓reduceIte, ne_eq, Int.reduceEq, Int.reduceLE, Int.reduceLT, not_false_eq_true, not_true_eq_false, false_and, and_false, true_and, and_true, and_self, mj_tl_some, mj_tl_none, mj_cs0, mj_cs1, mj_cs2, mj_cs3, mj_cs4]
  refine wc.mono h1 ?_
  rintro r2 M2 ⟨x', e1, rfl, hP⟩
  cases e1
  simp only [w335_442, ↓reduceIte, ne_eq, Int.reduceEq, Int.reduceLE, Int.reduceLT, not_false_eq_true, not_true_eq_false, false_and, and_false, true_and, and_true, and_self, mj_tl_some, mj_tl_none, mj_cs0, mj_cs1, mj_cs2, mj_cs3, mj_cs4]
  exact kk M2 hP
theorem lw_c7 {i : Int} {P : mj_M → Prop} (hi : 0 ≤ i) (hi2 : i + 5 < X.1) (hX : X.1 ≤ 100000) (hst : LS2 X D 72 245 0 [(0, X.2 (i + 1))] M P) (kk : ∀ M2, P M2 → wp X (D + 1) 335 1662 [(8, 0), (31, 1), (32, 354), (0, i)] [] M2 Q) : wp X (D + 1) 335 447 [(8, 0), (31, 1), (32, 354), (0, i)] [] M Q := by
  have a1 : ji_add i 1 = i + 1 := ji_add_eq ⟨by omega, by omega⟩
  have b1 : 0 ≤ i + 1 := by omega
  have d1 : i + 1 < X.1 := by omega
  unfold LS2 at hst
  simp only [w335_447, w335_448, w335_449, w335_450, w335_451, w335_452, w335_453, a1, b1, d1, ↓reduceIte, ne_eq, Int.reduceEq, Int.reduceLE, Int.reduceLT, not_false_eq_true, not_true_eq_false, false_and, and_false, true_and, and_true, and_self, mj_tl_some, mj_tl_none, mj_cs0, mj_cs1, mj_cs2, mj_cs3, mj_cs4]
  refine wc.mono hst ?_
  intro r1 M1 h1
  obtain ⟨x, rfl⟩ := LS2.x (kc := 0) h1
  simp only [w335_456, w335_457, w335_458, w335_459, w335_460, w335_461, w335_462, a1, b1, d1, ↓reduceIte, ne_eq, Int.reduceEq, Int.reduceLE, Int.reduceLT, not_false_eq_true, not_true_eq_false, false_and, and_false, true_and, and_true, and_self, mj_tl_some, mj_tl_none, mj_cs0, mj_cs1, mj_cs2, mj_cs3, mj_cs4]
  refine wc.mono h1 ?_
  rintro r2 M2 ⟨x', e1, rfl, hP⟩
  cases e1
  simp only [w335_465, ↓reduceIte, ne_eq, Int.reduceEq, Int.reduceLE, Int.reduceLT, not_false_eq_true, not_true_eq_false, false_and, and_false, true_and, and_true, and_self, mj_tl_some, mj_tl_none, mj_cs0, mj_cs1, mj_cs2, mj_cs3, mj_cs4]
  exact kk M2 hP
theorem lw_c8 {i : Int} {P : mj_M → Prop} (hi : 0 ≤ i) (hi2 : i + 5 < X.1) (hX : X.1 ≤ 100000) (hst : LS2 X D 74 259 0 [(0, X.2 (i + 1)), (0, X.2 (i + 2)), (0, X.2 (i + 3))] M P) (kk : ∀ M2, P M2 → wp X (D + 1) 335 1662 [(8, 0), (31, 1), (32, 354), (0, i)] [] M2 Q) : wp X (D + 1) 335 470 [(8, 0), (31, 1), (32, 354), (0, i)] [] M Q := by
  have a1 : ji_add i 1 = i + 1 := ji_add_eq ⟨by omega, by omega⟩
  have b1 : 0 ≤ i + 1 := by omega
  have d1 : i + 1 < X.1 := by omega
  have a2 : ji_add i 2 = i + 2 := ji_add_eq ⟨by omega, by omega⟩
  have b2 : 0 ≤ i + 2 := by omega
  have d2 : i + 2 < X.1 := by omega
  have a3 : ji_add i 3 = i + 3 := ji_add_eq ⟨by omega, by omega⟩
  have b3 : 0 ≤ i + 3 := by omega
  have d3 : i + 3 < X.1 := by omega
  unfold LS2 at hst
  simp only [w335_470, w335_471, w335_472, w335_473, w335_474, w335_475, w335_476, w335_477, w335_478, w335_479, w335_480, w335_481, w335_482, w335_483, w335_484, w335_485, w335_486, a1, b1, d1, a2, b2, d2, a3, b3, d3, ↓reduceIte, ne_eq, Int.reduceEq, Int.reduceLE, Int.reduceLT, not_false_eq_true, not_true_eq_false, false_and, and_false, true_and, and_true, and_self, mj_tl_some, mj_tl_none, mj_cs0, mj_cs1, mj_cs2, mj_cs3, mj_cs4]
  refine wc.mono hst ?_
  intro r1 M1 h1
  obtain ⟨x, rfl⟩ := LS2.x (kc := 0) h1
  simp only [w335_489, w335_490, w335_491, w335_492, w335_493, w335_494, w335_495, w335_496, w335_497, w335_498, w335_499, w335_500, w335_501, w335_502, w335_503, w335_504, w335_505, a1, b1, d1, a2, b2, d2, a3, b3, d3, ↓reduceIte, ne_eq, Int.reduceEq, Int.reduceLE, Int.reduceLT, not_false_eq_true, not_true_eq_false, false_and, and_false, true_and, and_true, and_self, mj_tl_some, mj_tl_none, mj_cs0, mj_cs1, mj_cs2, mj_cs3, mj_cs4]
  refine wc.mono h1 ?_
  rintro r2 M2 ⟨x', e1, rfl, hP⟩
  cases e1
  simp only [w335_508, ↓reduceIte, ne_eq, Int.reduceEq, Int.reduceLE, Int.reduceLT, not_false_eq_true, not_true_eq_false, false_and, and_false, true_and, and_true, and_self, mj_tl_some, mj_tl_none, mj_cs0, mj_cs1, mj_cs2, mj_cs3, mj_cs4]
  exact kk M2 hP
theorem lw_c9 {i : Int} {P : mj_M → Prop} (hi : 0 ≤ i) (hi2 : i + 5 < X.1) (hX : X.1 ≤ 100000) (hst : LS2 X D 92 279 0 [(0, X.2 (i + 1)), (0, X.2 (i + 2))] M P) (kk : ∀ M2, P M2 → wp X (D + 1) 335 1662 [(8, 0), (31, 1), (32, 354), (0, i)] [] M2 Q) : wp X (D + 1) 335 513 [(8, 0), (31, 1), (32, 354), (0, i)] [] M Q := by
  have a1 : ji_add i 1 = i + 1 := ji_add_eq ⟨by omega, by omega⟩
  have b1 : 0 ≤ i + 1 := by omega
  have d1 : i + 1 < X.1 := by omega
  have a2 : ji_add i 2 = i + 2 := ji_add_eq ⟨by omega, by omega⟩
  have b2 : 0 ≤ i + 2 := by omega
  have d2 : i + 2 < X.1 := by omega
  unfold LS2 at hst
  simp only [w335_513, w335_514, w335_515, w335_516, w335_517, w335_518, w335_519, w335_520, w335_521, w335_522, w335_523, w335_524, a1, b1, d1, a2, b2, d2, ↓reduceIte, ne_eq, Int.reduceEq, Int.reduceLE, Int.reduceLT, not_false_eq_true, not_true_eq_false, false_and, and_false, true_and, and_true, and_self, mj_tl_some, mj_tl_none, mj_cs0, mj_cs1, mj_cs2, mj_cs3, mj_cs4]
  refine wc.mono hst ?_
  intro r1 M1 h1
  obtain ⟨x, rfl⟩ := LS2.x (kc := 0) h1
  simp only [w335_527, w335_528, w335_529, w335_530, w335_531, w335_532, w335_533, w335_534, w335_535, w335_536, w335_537, w335_538, a1, b1, d1, a2, b2, d2, ↓reduceIte, ne_eq, Int.reduceEq, Int.reduceLE, Int.reduceLT, not_false_eq_true, not_true_eq_false, false_and, and_false, true_and, and_true, and_self, mj_tl_some, mj_tl_none, mj_cs0, mj_cs1, mj_cs2, mj_cs3, mj_cs4]
  refine wc.mono h1 ?_
  rintro r2 M2 ⟨x', e1, rfl, hP⟩
  cases e1
  simp only [w335_541, ↓reduceIte, ne_eq, Int.reduceEq, Int.reduceLE, Int.reduceLT, not_false_eq_true, not_true_eq_false, false_and, and_false, true_and, and_true, and_self, mj_tl_some, mj_tl_none, mj_cs0, mj_cs1, mj_cs2, mj_cs3, mj_cs4]
  exact kk M2 hP
theorem lw_c10 {i : Int} {P : mj_M → Prop} (hi : 0 ≤ i) (hi2 : i + 5 < X.1) (hX : X.1 ≤ 100000) (hst : LS2 X D 94 282 0 [(0, X.2 (i + 1)), (0, X.2 (i + 2))] M P) (kk : ∀ M2, P M2 → wp X (D + 1) 335 1662 [(8, 0), (31, 1), (32, 354), (0, i)] [] M2 Q) : wp X (D + 1) 335 546 [(8, 0), (31, 1), (32, 354), (0, i)] [] M Q := by
  have a1 : ji_add i 1 = i + 1 := ji_add_eq ⟨by omega, by omega⟩
  have b1 : 0 ≤ i + 1 := by omega
  have d1 : i + 1 < X.1 := by omega
  have a2 : ji_add i 2 = i + 2 := ji_add_eq ⟨by omega, by omega⟩
  have b2 : 0 ≤ i + 2 := by omega
  have d2 : i + 2 < X.1 := by omega
  unfold LS2 at hst
  simp only [w335_546, w335_547, w335_548, w335_549, w335_550, w335_551, w335_552, w335_553, w335_554, w335_555, w335_556, w335_557, a1, b1, d1, a2, b2, d2, ↓reduceIte, ne_eq, Int.reduceEq, Int.reduceLE, Int.reduceLT, not_false_eq_true, not_true_eq_false, false_and, and_false, true_and, and_true, and_self, mj_tl_some, mj_tl_none, mj_cs0, mj_cs1, mj_cs2, mj_cs3, mj_cs4]
  refine wc.mono hst ?_
  intro r1 M1 h1
  obtain ⟨x, rfl⟩ := LS2.x (kc := 0) h1
  simp only [w335_560, w335_561, w335_562, w335_563, w335_564, w335_565, w335_566, w335_567, w335_568, w335_569, w335_570, w335_571, a1, b1, d1, a2, b2, d2, ↓reduceIte, ne_eq, Int.reduceEq, Int.reduceLE, Int.reduceLT, not_false_eq_true, not_true_eq_false, false_and, and_false, true_and, and_true, and_self, mj_tl_some, mj_tl_none, mj_cs0, mj_cs1, mj_cs2, mj_cs3, mj_cs4]
  refine wc.mono h1 ?_
  rintro r2 M2 ⟨x', e1, rfl, hP⟩
  cases e1
  simp only [w335_574, ↓reduceIte, ne_eq, Int.reduceEq, Int.reduceLE, Int.reduceLT, not_false_eq_true, not_true_eq_false, false_and, and_false, true_and, and_true, and_self, mj_tl_some, mj_tl_none, mj_cs0, mj_cs1, mj_cs2, mj_cs3, mj_cs4]
  exact kk M2 hP
theorem lw_c11 {i : Int} {P : mj_M → Prop} (hi : 0 ≤ i) (hi2 : i + 5 < X.1) (hX : X.1 ≤ 100000) (hst : LS2 X D 103 286 0 [(0, X.2 (i + 1))] M P) (kk : ∀ M2, P M2 → wp X (D + 1) 335 1662 [(8, 0), (31, 1), (32, 354), (0, i)] [] M2 Q) : wp X (D + 1) 335 579 [(8, 0), (31, 1), (32, 354), (0, i)] [] M Q := by
  have a1 : ji_add i 1 = i + 1 := ji_add_eq ⟨by omega, by omega⟩
  have b1 : 0 ≤ i + 1 := by omega
  have d1 : i + 1 < X.1 := by omega
  unfold LS2 at hst
  simp only [w335_579, w335_580, w335_581, w335_582, w335_583, w335_584, w335_585, a1, b1, d1, ↓reduceIte, ne_eq, Int.reduceEq, Int.reduceLE, Int.reduceLT, not_false_eq_true, not_true_eq_false, false_and, and_false, true_and, and_true, and_self, mj_tl_some, mj_tl_none, mj_cs0, mj_cs1, mj_cs2, mj_cs3, mj_cs4]
  refine wc.mono hst ?_
  intro r1 M1 h1
  obtain ⟨x, rfl⟩ := LS2.x (kc := 0) h1
  simp only [w335_588, w335_589, w335_590, w335_591, w335_592, w335_593, w335_594, a1, b1, d1, ↓reduceIte, ne_eq, Int.reduceEq, Int.reduceLE, Int.reduceLT, not_false_eq_true, not_true_eq_false, false_and, and_false, true_and, and_true, and_self, mj_tl_some, mj_tl_none, mj_cs0, mj_cs1, mj_cs2, mj_cs3, mj_cs4]
  refine wc.mono h1 ?_
  rintro r2 M2 ⟨x', e1, rfl, hP⟩
  cases e1
  simp only [w335_597, ↓reduceIte, ne_eq, Int.reduceEq, Int.reduceLE, Int.reduceLT, not_false_eq_true, not_true_eq_false, false_and, and_false, true_and, and_true, and_self, mj_tl_some, mj_tl_none, mj_cs0, mj_cs1, mj_cs2, mj_cs3, mj_cs4]
  exact kk M2 hP
theorem lw_c12 {i : Int} {P : mj_M → Prop} (hi : 0 ≤ i) (hi2 : i + 5 < X.1) (hX : X.1 ≤ 100000) (hst : LS2 X D 108 292 0 [(0, X.2 (i + 1))] M P) (kk : ∀ M2, P M2 → wp X (D + 1) 335 1662 [(8, 0), (31, 1), (32, 354), (0, i)] [] M2 Q) : wp X (D + 1) 335 602 [(8, 0), (31, 1), (32, 354), (0, i)] [] M Q := by
  have a1 : ji_add i 1 = i + 1 := ji_add_eq ⟨by omega, by omega⟩
  have b1 : 0 ≤ i + 1 := by omega
  have d1 : i + 1 < X.1 := by omega
  unfold LS2 at hst
  simp only [w335_602, w335_603, w335_604, w335_605, w335_606, w335_607, w335_608, a1, b1, d1, ↓reduceIte, ne_eq, Int.reduceEq, Int.reduceLE, Int.reduceLT, not_false_eq_true, not_true_eq_false, false_and, and_false, true_and, and_true, and_self, mj_tl_some, mj_tl_none, mj_cs0, mj_cs1, mj_cs2, mj_cs3, mj_cs4]
  refine wc.mono hst ?_
  intro r1 M1 h1
  obtain ⟨x, rfl⟩ := LS2.x (kc := 0) h1
  simp only [w335_611, w335_612, w335_613, w335_614, w335_615, w335_616, w335_617, a1, b1, d1, ↓reduceIte, ne_eq, Int.reduceEq, Int.reduceLE, Int.reduceLT, not_false_eq_true, not_true_eq_false, false_and, and_false, true_and, and_true, and_self, mj_tl_some, mj_tl_none, mj_cs0, mj_cs1, mj_cs2, mj_cs3, mj_cs4]
  refine wc.mono h1 ?_
  rintro r2 M2 ⟨x', e1, rfl, hP⟩
  cases e1
  simp only [w335_620, ↓reduceIte, ne_eq, Int.reduceEq, Int.reduceLE, Int.reduceLT, not_false_eq_true, not_true_eq_false, false_and, and_false, true_and, and_true, and_self, mj_tl_some, mj_tl_none, mj_cs0, mj_cs1, mj_cs2, mj_cs3, mj_cs4]
  exact kk M2 hP
theorem lw_c13 {i : Int} {P : mj_M → Prop} (hi : 0 ≤ i) (hi2 : i + 5 < X.1) (hX : X.1 ≤ 100000) (hst : LS2 X D 111 294 0 [(0, X.2 (i + 1)), (0, X.2 (i + 2))] M P) (kk : ∀ M2, P M2 → wp X (D + 1) 335 1662 [(8, 0), (31, 1), (32, 354), (0, i)] [] M2 Q) : wp X (D + 1) 335 625 [(8, 0), (31, 1), (32, 354), (0, i)] [] M Q := by
  have a1 : ji_add i 1 = i + 1 := ji_add_eq ⟨by omega, by omega⟩
  have b1 : 0 ≤ i + 1 := by omega
  have d1 : i + 1 < X.1 := by omega
  have a2 : ji_add i 2 = i + 2 := ji_add_eq ⟨by omega, by omega⟩
  have b2 : 0 ≤ i + 2 := by omega
  have d2 : i + 2 < X.1 := by omega
  unfold LS2 at hst
  simp only [w335_625, w335_626, w335_627, w335_628, w335_629, w335_630, w335_631, w335_632, w335_633, w335_634, w335_635, w335_636, a1, b1, d1, a2, b2, d2, ↓reduceIte, ne_eq, Int.reduceEq, Int.reduceLE, Int.reduceLT, not_false_eq_true, not_true_eq_false, false_and, and_false, true_and, and_true, and_self, mj_tl_some, mj_tl_none, mj_cs0, mj_cs1, mj_cs2, mj_cs3, mj_cs4]
  refine wc.mono hst ?_
  intro r1 M1 h1
  obtain ⟨x, rfl⟩ := LS2.x (kc := 0) h1
  simp only [w335_639, w335_640, w335_641, w335_642, w335_643, w335_644, w335_645, w335_646, w335_647, w335_648, w335_649, w335_650, a1, b1, d1, a2, b2, d2, ↓reduceIte, ne_eq, Int.reduceEq, Int.reduceLE, Int.reduceLT, not_false_eq_true, not_true_eq_false, false_and, and_false, true_and, and_true, and_self, mj_tl_some, mj_tl_none, mj_cs0, mj_cs1, mj_cs2, mj_cs3, mj_cs4]
  refine wc.mono h1 ?_
  rintro r2 M2 ⟨x', e1, rfl, hP⟩
  cases e1
  simp only [w335_653, ↓reduceIte, ne_eq, Int.reduceEq, Int.reduceLE, Int.reduceLT, not_false_eq_true, not_true_eq_false, false_and, and_false, true_and, and_true, and_self, mj_tl_some, mj_tl_none, mj_cs0, mj_cs1, mj_cs2, mj_cs3, mj_cs4]
  exact kk M2 hP
theorem lw_c14 {i : Int} {P : mj_M → Prop} (hi : 0 ≤ i) (hi2 : i + 5 < X.1) (hX : X.1 ≤ 100000) (hst : LS2 X D 113 258 0 [] M P) (kk : ∀ M2, P M2 → wp X (D + 1) 335 1662 [(8, 0), (31, 1), (32, 354), (0, i)] [] M2 Q) : wp X (D + 1) 335 658 [(8, 0), (31, 1), (32, 354), (0, i)] [] M Q := by
  unfold LS2 at hst
  simp only [w335_658, w335_659, ↓reduceIte, ne_eq, Int.reduceEq, Int.reduceLE, Int.reduceLT, not_false_eq_true, not_true_eq_false, false_and, and_false, true_and, and_true, and_self, mj_tl_some, mj_tl_none, mj_cs0, mj_cs1, mj_cs2, mj_cs3, mj_cs4]
  refine wc.mono hst ?_
  intro r1 M1 h1
  obtain ⟨x, rfl⟩ := LS2.x (kc := 0) h1
  simp only [w335_662, w335_663, ↓reduceIte, ne_eq, Int.reduceEq, Int.reduceLE, Int.reduceLT, not_false_eq_true, not_true_eq_false, false_and, and_false, true_and, and_true, and_self, mj_tl_some, mj_tl_none, mj_cs0, mj_cs1, mj_cs2, mj_cs3, mj_cs4]
  refine wc.mono h1 ?_
  rintro r2 M2 ⟨x', e1, rfl, hP⟩
  cases e1
  simp only [w335_666, ↓reduceIte, ne_eq, Int.reduceEq, Int.reduceLE, Int.reduceLT, not_false_eq_true, not_true_eq_false, false_and, and_false, true_and, and_true, and_self, mj_tl_some, mj_tl_none, mj_cs0, mj_cs1, mj_cs2, mj_cs3, mj_cs4]
  exact kk M2 hP
theorem lw_c15 {i : Int} {P : mj_M → Prop} (hi : 0 ≤ i) (hi2 : i + 5 < X.1) (hX : X.1 ≤ 100000) (hst : LS2 X D 115 296 0 [(0, X.2 (i + 1)), (0, X.2 (i + 2))] M P) (kk : ∀ M2, P M2 → wp X (D + 1) 335 1662 [(8, 0), (31, 1), (32, 354), (0, i)] [] M2 Q) : wp X (D + 1) 335 671 [(8, 0), (31, 1), (32, 354), (0, i)] [] M Q := by
  have a1 : ji_add i 1 = i + 1 := ji_add_eq ⟨by omega, by omega⟩
  have b1 : 0 ≤ i + 1 := by omega
  have d1 : i + 1 < X.1 := by omega
  have a2 : ji_add i 2 = i + 2 := ji_add_eq ⟨by omega, by omega⟩
  have b2 : 0 ≤ i + 2 := by omega
  have d2 : i + 2 < X.1 := by omega
  unfold LS2 at hst
  simp only [w335_671, w335_672, w335_673, w335_674, w335_675, w335_676, w335_677, w335_678, w335_679, w335_680, w335_681, w335_682, a1, b1, d1, a2, b2, d2, ↓reduceIte, ne_eq, Int.reduceEq, Int.reduceLE, Int.reduceLT, not_false_eq_true, not_true_eq_false, false_and, and_false, true_and, and_true, and_self, mj_tl_some, mj_tl_none, mj_cs0, mj_cs1, mj_cs2, mj_cs3, mj_cs4]
  refine wc.mono hst ?_
  intro r1 M1 h1
  obtain ⟨x, rfl⟩ := LS2.x (kc := 0) h1
  simp only [w335_685, w335_686, w335_687, w335_688, w335_689, w335_690, w335_691, w335_692, w335_693, w335_694, w335_695, w335_696, a1, b1, d1, a2, b2, d2, ↓reduceIte, ne_eq, Int.reduceEq, Int.reduceLE, Int.reduceLT, not_false_eq_true, not_true_eq_false, false_and, and_false, true_and, and_true, and_self, mj_tl_some, mj_tl_none, mj_cs0, mj_cs1, mj_cs2, mj_cs3, mj_cs4]
  refine wc.mono h1 ?_
  rintro r2 M2 ⟨x', e1, rfl, hP⟩
  cases e1
  simp only [w335_699, ↓reduceIte, ne_eq, Int.reduceEq, Int.reduceLE, Int.reduceLT, not_false_eq_true, not_true_eq_false, false_and, and_false, true_and, and_true, and_self, mj_tl_some, mj_tl_none, mj_cs0, mj_cs1, mj_cs2, mj_cs3, mj_cs4]
  exact kk M2 hP
theorem lw_c16 {i : Int} {P : mj_M → Prop} (hi : 0 ≤ i) (hi2 : i + 5 < X.1) (hX : X.1 ≤ 100000) (hst : LS2 X D 120 297 0 [(0, X.2 (i + 1)), (0, X.2 (i + 2))] M P) (kk : ∀ M2, P M2 → wp X (D + 1) 335 1662 [(8, 0), (31, 1), (32, 354), (0, i)] [] M2 Q) : wp X (D + 1) 335 704 [(8, 0), (31, 1), (32, 354), (0, i)] [] M Q := by
  have a1 : ji_add i 1 = i + 1 := ji_add_eq ⟨by omega, by omega⟩
  have b1 : 0 ≤ i + 1 := by omega
  have d1 : i + 1 < X.1 := by omega
  have a2 : ji_add i 2 = i + 2 := ji_add_eq ⟨by omega, by omega⟩
  have b2 : 0 ≤ i + 2 := by omega
  have d2 : i + 2 < X.1 := by omega
  unfold LS2 at hst
  simp only [w335_704, w335_705, w335_706, w335_707, w335_708, w335_709, w335_710, w335_711, w335_712, w335_713, w335_714, w335_715, a1, b1, d1, a2, b2, d2, ↓reduceIte, ne_eq, Int.reduceEq, Int.reduceLE, Int.reduceLT, not_false_eq_true, not_true_eq_false, false_and, and_false, true_and, and_true, and_self, mj_tl_some, mj_tl_none, mj_cs0, mj_cs1, mj_cs2, mj_cs3, mj_cs4]
  refine wc.mono hst ?_
  intro r1 M1 h1
  obtain ⟨x, rfl⟩ := LS2.x (kc := 0) h1
  simp only [w335_718, w335_719, w335_720, w335_721, w335_722, w335_723, w335_724, w335_725, w335_726, w335_727, w335_728, w335_729, a1, b1, d1, a2, b2, d2, ↓reduceIte, ne_eq, Int.reduceEq, Int.reduceLE, Int.reduceLT, not_false_eq_true, not_true_eq_false, false_and, and_false, true_and, and_true, and_self, mj_tl_some, mj_tl_none, mj_cs0, mj_cs1, mj_cs2, mj_cs3, mj_cs4]
  refine wc.mono h1 ?_
  rintro r2 M2 ⟨x', e1, rfl, hP⟩
  cases e1
  simp only [w335_732, ↓reduceIte, ne_eq, Int.reduceEq, Int.reduceLE, Int.reduceLT, not_false_eq_true, not_true_eq_false, false_and, and_false, true_and, and_true, and_self, mj_tl_some, mj_tl_none, mj_cs0, mj_cs1, mj_cs2, mj_cs3, mj_cs4]
  exact kk M2 hP
theorem lw_c17 {i : Int} {P : mj_M → Prop} (hi : 0 ≤ i) (hi2 : i + 5 < X.1) (hX : X.1 ≤ 100000) (hst : LS2 X D 121 298 0 [(0, X.2 (i + 1)), (0, X.2 (i + 2)), (0, lb (X.2 (i + 3)))] M P) (kk : ∀ M2, P M2 → wp X (D + 1) 335 1662 [(8, 0), (31, 1), (32, 354), (0, i)] [] M2 Q) : wp X (D + 1) 335 737 [(8, 0), (31, 1), (32, 354), (0, i)] [] M Q := by
  have a1 : ji_add i 1 = i + 1 := ji_add_eq ⟨by omega, by omega⟩
  have b1 : 0 ≤ i + 1 := by omega
  have d1 : i + 1 < X.1 := by omega
  have a2 : ji_add i 2 = i + 2 := ji_add_eq ⟨by omega, by omega⟩
  have b2 : 0 ≤ i + 2 := by omega
  have d2 : i + 2 < X.1 := by omega
  have a3 : ji_add i 3 = i + 3 := ji_add_eq ⟨by omega, by omega⟩
  have b3 : 0 ≤ i + 3 := by omega
  have d3 : i + 3 < X.1 := by omega
  by_cases hb : X.2 (i + 3) = 0
  · have e3 : lb (X.2 (i + 3)) = 0 := by unfold lb; rw [if_pos hb]
    rw [e3] at hst
    unfold LS2 at hst
    simp only [w335_737, w335_738, w335_739, w335_740, w335_741, w335_742, w335_743, w335_744, w335_745, w335_746, w335_747, w335_748, w335_749, w335_750, w335_751, w335_752, w335_753, w335_756, w335_757, w335_760, w335_761, a1, b1, d1, a2, b2, d2, a3, b3, d3, hb, ↓reduceIte, ne_eq, Int.reduceEq, Int.reduceLE, Int.reduceLT, not_false_eq_true, not_true_eq_false, false_and, and_false, true_and, and_true, and_self, mj_tl_some, mj_tl_none, mj_cs0, mj_cs1, mj_cs2, mj_cs3, mj_cs4]
    refine wc.mono hst ?_
    intro r1 M1 h1
    obtain ⟨x, rfl⟩ := LS2.x (kc := 0) h1
    simp only [w335_764, w335_765, w335_766, w335_767, w335_768, w335_769, w335_770, w335_771, w335_772, w335_773, w335_774, w335_775, w335_776, w335_777, w335_778, w335_779, w335_780, w335_783, w335_784, w335_787, w335_788, a1, b1, d1, a2, b2, d2, a3, b3, d3, hb, ↓reduceIte, ne_eq, Int.reduceEq, Int.reduceLE, Int.reduceLT, not_false_eq_true, not_true_eq_false, false_and, and_false, true_and, and_true, and_self, mj_tl_some, mj_tl_none, mj_cs0, mj_cs1, mj_cs2, mj_cs3, mj_cs4]
    refine wc.mono h1 ?_
    rintro r2 M2 ⟨x', e1, rfl, hP⟩
    cases e1
    simp only [w335_791, ↓reduceIte, ne_eq, Int.reduceEq, Int.reduceLE, Int.reduceLT, not_false_eq_true, not_true_eq_false, false_and, and_false, true_and, and_true, and_self, mj_tl_some, mj_tl_none, mj_cs0, mj_cs1, mj_cs2, mj_cs3, mj_cs4]
    exact kk M2 hP
  · have e3 : lb (X.2 (i + 3)) = 1 := by unfold lb; rw [if_neg hb]
    rw [e3] at hst
    unfold LS2 at hst
    simp only [w335_737, w335_738, w335_739, w335_740, w335_741, w335_742, w335_743, w335_744, w335_745, w335_746, w335_747, w335_748, w335_749, w335_750, w335_751, w335_752, w335_753, w335_756, w335_757, w335_760, w335_761, a1, b1, d1, a2, b2, d2, a3, b3, d3, hb, ↓reduceIte, ne_eq, Int.reduceEq, Int.reduceLE, Int.reduceLT, not_false_eq_true, not_true_eq_false, false_and, and_false, true_and, and_true, and_self, mj_tl_some, mj_tl_none, mj_cs0, mj_cs1, mj_cs2, mj_cs3, mj_cs4]
    refine wc.mono hst ?_
    intro r1 M1 h1
    obtain ⟨x, rfl⟩ := LS2.x (kc := 0) h1
    simp only [w335_764, w335_765, w335_766, w335_767, w335_768, w335_769, w335_770, w335_771, w335_772, w335_773, w335_774, w335_775, w335_776, w335_777, w335_778, w335_779, w335_780, w335_783, w335_784, w335_787, w335_788, a1, b1, d1, a2, b2, d2, a3, b3, d3, hb, ↓reduceIte, ne_eq, Int.reduceEq, Int.reduceLE, Int.reduceLT, not_false_eq_true, not_true_eq_false, false_and, and_false, true_and, and_true, and_self, mj_tl_some, mj_tl_none, mj_cs0, mj_cs1, mj_cs2, mj_cs3, mj_cs4]
    refine wc.mono h1 ?_
    rintro r2 M2 ⟨x', e1, rfl, hP⟩
    cases e1
    simp only [w335_791, ↓reduceIte, ne_eq, Int.reduceEq, Int.reduceLE, Int.reduceLT, not_false_eq_true, not_true_eq_false, false_and, and_false, true_and, and_true, and_self, mj_tl_some, mj_tl_none, mj_cs0, mj_cs1, mj_cs2, mj_cs3, mj_cs4]
    exact kk M2 hP
theorem lw_c18 {i : Int} {P : mj_M → Prop} (hi : 0 ≤ i) (hi2 : i + 5 < X.1) (hX : X.1 ≤ 100000) (hst : LS2 X D 122 299 0 [(0, X.2 (i + 1))] M P) (kk : ∀ M2, P M2 → wp X (D + 1) 335 1662 [(8, 0), (31, 1), (32, 354), (0, i)] [] M2 Q) : wp X (D + 1) 335 796 [(8, 0), (31, 1), (32, 354), (0, i)] [] M Q := by
  have a1 : ji_add i 1 = i + 1 := ji_add_eq ⟨by omega, by omega⟩
  have b1 : 0 ≤ i + 1 := by omega
  have d1 : i + 1 < X.1 := by omega
  unfold LS2 at hst
  simp only [w335_796, w335_797, w335_798, w335_799, w335_800, w335_801, w335_802, a1, b1, d1, ↓reduceIte, ne_eq, Int.reduceEq, Int.reduceLE, Int.reduceLT, not_false_eq_true, not_true_eq_false, false_and, and_false, true_and, and_true, and_self, mj_tl_some, mj_tl_none, mj_cs0, mj_cs1, mj_cs2, mj_cs3, mj_cs4]
  refine wc.mono hst ?_
  intro r1 M1 h1
  obtain ⟨x, rfl⟩ := LS2.x (kc := 0) h1
  simp only [w335_805, w335_806, w335_807, w335_808, w335_809, w335_810, w335_811, a1, b1, d1, ↓reduceIte, ne_eq, Int.reduceEq, Int.reduceLE, Int.reduceLT, not_false_eq_true, not_true_eq_false, false_and, and_false, true_and, and_true, and_self, mj_tl_some, mj_tl_none, mj_cs0, mj_cs1, mj_cs2, mj_cs3, mj_cs4]
  refine wc.mono h1 ?_
  rintro r2 M2 ⟨x', e1, rfl, hP⟩
  cases e1
  simp only [w335_814, ↓reduceIte, ne_eq, Int.reduceEq, Int.reduceLE, Int.reduceLT, not_false_eq_true, not_true_eq_false, false_and, and_false, true_and, and_true, and_self, mj_tl_some, mj_tl_none, mj_cs0, mj_cs1, mj_cs2, mj_cs3, mj_cs4]
  exact kk M2 hP
theorem lw_c19 {i : Int} {P : mj_M → Prop} (hi : 0 ≤ i) (hi2 : i + 5 < X.1) (hX : X.1 ≤ 100000) (hst : LS2 X D 124 301 0 [(0, X.2 (i + 1)), (0, X.2 (i + 2))] M P) (kk : ∀ M2, P M2 → wp X (D + 1) 335 1662 [(8, 0), (31, 1), (32, 354), (0, i)] [] M2 Q) : wp X (D + 1) 335 819 [(8, 0), (31, 1), (32, 354), (0, i)] [] M Q := by
  have a1 : ji_add i 1 = i + 1 := ji_add_eq ⟨by omega, by omega⟩
  have b1 : 0 ≤ i + 1 := by omega
  have d1 : i + 1 < X.1 := by omega
  have a2 : ji_add i 2 = i + 2 := ji_add_eq ⟨by omega, by omega⟩
  have b2 : 0 ≤ i + 2 := by omega
  have d2 : i + 2 < X.1 := by omega
  unfold LS2 at hst
  simp only [w335_819, w335_820, w335_821, w335_822, w335_823, w335_824, w335_825, w335_826, w335_827, w335_828, w335_829, w335_830, a1, b1, d1, a2, b2, d2, ↓reduceIte, ne_eq, Int.reduceEq, Int.reduceLE, Int.reduceLT, not_false_eq_true, not_true_eq_false, false_and, and_false, true_and, and_true, and_self, mj_tl_some, mj_tl_none, mj_cs0, mj_cs1, mj_cs2, mj_cs3, mj_cs4]
  refine wc.mono hst ?_
  intro r1 M1 h1
  obtain ⟨x, rfl⟩ := LS2.x (kc := 0) h1
  simp only [w335_833, w335_834, w335_835, w335_836, w335_837, w335_838, w335_839, w335_840, w335_841, w335_842, w335_843, w335_844, a1, b1, d1, a2, b2, d2, ↓reduceIte, ne_eq, Int.reduceEq, Int.reduceLE, Int.reduceLT, not_false_eq_true, not_true_eq_false, false_and, and_false, true_and, and_true, and_self, mj_tl_some, mj_tl_none, mj_cs0, mj_cs1, mj_cs2, mj_cs3, mj_cs4]
  refine wc.mono h1 ?_
  rintro r2 M2 ⟨x', e1, rfl, hP⟩
  cases e1
  simp only [w335_847, ↓reduceIte, ne_eq, Int.reduceEq, Int.reduceLE, Int.reduceLT, not_false_eq_true, not_true_eq_false, false_and, and_false, true_and, and_true, and_self, mj_tl_some, mj_tl_none, mj_cs0, mj_cs1, mj_cs2, mj_cs3, mj_cs4]
  exact kk M2 hP
theorem lw_c20 {i : Int} {P : mj_M → Prop} (hi : 0 ≤ i) (hi2 : i + 5 < X.1) (hX : X.1 ≤ 100000) (hst : LS2 X D 126 307 0 [(0, X.2 (i + 1)), (0, X.2 (i + 2)), (0, X.2 (i + 3))] M P) (kk : ∀ M2, P M2 → wp X (D + 1) 335 1662 [(8, 0), (31, 1), (32, 354), (0, i)] [] M2 Q) : wp X (D + 1) 335 852 [(8, 0), (31, 1), (32, 354), (0, i)] [] M Q := by
  have a1 : ji_add i 1 = i + 1 := ji_add_eq ⟨by omega, by omega⟩
  have b1 : 0 ≤ i + 1 := by omega
  have d1 : i + 1 < X.1 := by omega
  have a2 : ji_add i 2 = i + 2 := ji_add_eq ⟨by omega, by omega⟩
  have b2 : 0 ≤ i + 2 := by omega
  have d2 : i + 2 < X.1 := by omega
  have a3 : ji_add i 3 = i + 3 := ji_add_eq ⟨by omega, by omega⟩
  have b3 : 0 ≤ i + 3 := by omega
  have d3 : i + 3 < X.1 := by omega
  unfold LS2 at hst
  simp only [w335_852, w335_853, w335_854, w335_855, w335_856, w335_857, w335_858, w335_859, w335_860, w335_861, w335_862, w335_863, w335_864, w335_865, w335_866, w335_867, w335_868, a1, b1, d1, a2, b2, d2, a3, b3, d3, ↓reduceIte, ne_eq, Int.reduceEq, Int.reduceLE, Int.reduceLT, not_false_eq_true, not_true_eq_false, false_and, and_false, true_and, and_true, and_self, mj_tl_some, mj_tl_none, mj_cs0, mj_cs1, mj_cs2, mj_cs3, mj_cs4]
  refine wc.mono hst ?_
  intro r1 M1 h1
  obtain ⟨x, rfl⟩ := LS2.x (kc := 0) h1
  simp only [w335_871, w335_872, w335_873, w335_874, w335_875, w335_876, w335_877, w335_878, w335_879, w335_880, w335_881, w335_882, w335_883, w335_884, w335_885, w335_886, w335_887, a1, b1, d1, a2, b2, d2, a3, b3, d3, ↓reduceIte, ne_eq, Int.reduceEq, Int.reduceLE, Int.reduceLT, not_false_eq_true, not_true_eq_false, false_and, and_false, true_and, and_true, and_self, mj_tl_some, mj_tl_none, mj_cs0, mj_cs1, mj_cs2, mj_cs3, mj_cs4]
  refine wc.mono h1 ?_
  rintro r2 M2 ⟨x', e1, rfl, hP⟩
  cases e1
  simp only [w335_890, ↓reduceIte, ne_eq, Int.reduceEq, Int.reduceLE, Int.reduceLT, not_false_eq_true, not_true_eq_false, false_and, and_false, true_and, and_true, and_self, mj_tl_some, mj_tl_none, mj_cs0, mj_cs1, mj_cs2, mj_cs3, mj_cs4]
  exact kk M2 hP
theorem lw_c21 {i : Int} {P : mj_M → Prop} (hi : 0 ≤ i) (hi2 : i + 5 < X.1) (hX : X.1 ≤ 100000) (hst : LS2 X D 128 308 0 [(0, X.2 (i + 1)), (0, X.2 (i + 2))] M P) (kk : ∀ M2, P M2 → wp X (D + 1) 335 1662 [(8, 0), (31, 1), (32, 354), (0, i)] [] M2 Q) : wp X (D + 1) 335 895 [(8, 0), (31, 1), (32, 354), (0, i)] [] M Q := by
  have a1 : ji_add i 1 = i + 1 := ji_add_eq ⟨by omega, by omega⟩
  have b1 : 0 ≤ i + 1 := by omega
  have d1 : i + 1 < X.1 := by omega
  have a2 : ji_add i 2 = i + 2 := ji_add_eq ⟨by omega, by omega⟩
  have b2 : 0 ≤ i + 2 := by omega
  have d2 : i + 2 < X.1 := by omega
  unfold LS2 at hst
  simp only [w335_895, w335_896, w335_897, w335_898, w335_899, w335_900, w335_901, w335_902, w335_903, w335_904, w335_905, w335_906, a1, b1, d1, a2, b2, d2, ↓reduceIte, ne_eq, Int.reduceEq, Int.reduceLE, Int.reduceLT, not_false_eq_true, not_true_eq_false, false_and, and_false, true_and, and_true, and_self, mj_tl_some, mj_tl_none, mj_cs0, mj_cs1, mj_cs2, mj_cs3, mj_cs4]
  refine wc.mono hst ?_
  intro r1 M1 h1
  obtain ⟨x, rfl⟩ := LS2.x (kc := 0) h1
  simp only [w335_909, w335_910, w335_911, w335_912, w335_913, w335_914, w335_915, w335_916, w335_917, w335_918, w335_919, w335_920, a1, b1, d1, a2, b2, d2, ↓reduceIte, ne_eq, Int.reduceEq, Int.reduceLE, Int.reduceLT, not_false_eq_true, not_true_eq_false, false_and, and_false, true_and, and_true, and_self, mj_tl_some, mj_tl_none, mj_cs0, mj_cs1, mj_cs2, mj_cs3, mj_cs4]
  refine wc.mono h1 ?_
  rintro r2 M2 ⟨x', e1, rfl, hP⟩
  cases e1
  simp only [w335_923, ↓reduceIte, ne_eq, Int.reduceEq, Int.reduceLE, Int.reduceLT, not_false_eq_true, not_true_eq_false, false_and, and_false, true_and, and_true, and_self, mj_tl_some, mj_tl_none, mj_cs0, mj_cs1, mj_cs2, mj_cs3, mj_cs4]
  exact kk M2 hP
theorem lw_c22 {i : Int} {P : mj_M → Prop} (hi : 0 ≤ i) (hi2 : i + 5 < X.1) (hX : X.1 ≤ 100000) (hst : LS2 X D 130 309 0 [(0, X.2 (i + 1)), (0, X.2 (i + 2)), (0, X.2 (i + 3)), (0, X.2 (i + 4)), (0, X.2 (i + 5))] M P) (kk : ∀ M2, P M2 → wp X (D + 1) 335 1662 [(8, 0), (31, 1), (32, 354), (0, i)] [] M2 Q) : wp X (D + 1) 335 928 [(8, 0), (31, 1), (32, 354), (0, i)] [] M Q := by
  have a1 : ji_add i 1 = i + 1 := ji_add_eq ⟨by omega, by omega⟩
  have b1 : 0 ≤ i + 1 := by omega
  have d1 : i + 1 < X.1 := by omega
  have a2 : ji_add i 2 = i + 2 := ji_add_eq ⟨by omega, by omega⟩
  have b2 : 0 ≤ i + 2 := by omega
  have d2 : i + 2 < X.1 := by omega
  have a3 : ji_add i 3 = i + 3 := ji_add_eq ⟨by omega, by omega⟩
  have b3 : 0 ≤ i + 3 := by omega
  have d3 : i + 3 < X.1 := by omega
  have a4 : ji_add i 4 = i + 4 := ji_add_eq ⟨by omega, by omega⟩
  have b4 : 0 ≤ i + 4 := by omega
  have d4 : i + 4 < X.1 := by omega
  have a5 : ji_add i 5 = i + 5 := ji_add_eq ⟨by omega, by omega⟩
  have b5 : 0 ≤ i + 5 := by omega
  have d5 : i + 5 < X.1 := by omega
  unfold LS2 at hst
  simp only [w335_928, w335_929, w335_930, w335_931, w335_932, w335_933, w335_934, w335_935, w335_936, w335_937, w335_938, w335_939, w335_940, w335_941, w335_942, w335_943, w335_944, w335_945, w335_946, w335_947, w335_948, w335_949, w335_950, w335_951, w335_952, w335_953, w335_954, a1, b1, d1, a2, b2, d2, a3, b3, d3, a4, b4, d4, a5, b5, d5, ↓reduceIte, ne_eq, Int.reduceEq, Int.reduceLE, Int.reduceLT, not_false_eq_true, not_true_eq_false, false_and, and_false, true_and, and_true, and_self, mj_tl_some, mj_tl_none, mj_cs0, mj_cs1, mj_cs2, mj_cs3, mj_cs4]
  refine wc.mono hst ?_
  intro r1 M1 h1
  obtain ⟨x, rfl⟩ := LS2.x (kc := 0) h1
  simp only [w335_957, w335_958, w335_959, w335_960, w335_961, w335_962, w335_963, w335_964, w335_965, w335_966, w335_967, w335_968, w335_969, w335_970, w335_971, w335_972, w335_973, w335_974, w335_975, w335_976, w335_977, w335_978, w335_979, w335_980, w335_981, w335_982, w335_983, a1, b1, d1, a2, b2, d2, a3, b3, d3, a4, b4, d4, a5, b5, d5, ↓reduceIte, ne_eq, Int.reduceEq, Int.reduceLE, Int.reduceLT, not_false_eq_true, not_true_eq_false, false_and, and_false, true_and, and_true, and_self, mj_tl_some, mj_tl_none, mj_cs0, mj_cs1, mj_cs2, mj_cs3, mj_cs4]
  refine wc.mono h1 ?_
  rintro r2 M2 ⟨x', e1, rfl, hP⟩
  cases e1
  simp only [w335_986, ↓reduceIte, ne_eq, Int.reduceEq, Int.reduceLE, Int.reduceLT, not_false_eq_true, not_true_eq_false, false_and, and_false, true_and, and_true, and_self, mj_tl_some, mj_tl_none, mj_cs0, mj_cs1, mj_cs2, mj_cs3, mj_cs4]
  exact kk M2 hP
theorem lw_c23 {i : Int} {P : mj_M → Prop} (hi : 0 ≤ i) (hi2 : i + 5 < X.1) (hX : X.1 ≤ 100000) (hst : LS2 X D 132 311 0 [(0, X.2 (i + 1)), (0, X.2 (i + 2)), (0, X.2 (i + 3)), (0, X.2 (i + 4))] M P) (kk : ∀ M2, P M2 → wp X (D + 1) 335 1662 [(8, 0), (31, 1), (32, 354), (0, i)] [] M2 Q) : wp X (D + 1) 335 991 [(8, 0), (31, 1), (32, 354), (0, i)] [] M Q := by
  have a1 : ji_add i 1 = i + 1 := ji_add_eq ⟨by omega, by omega⟩
  have b1 : 0 ≤ i + 1 := by omega
  have d1 : i + 1 < X.1 := by omega
  have a2 : ji_add i 2 = i + 2 := ji_add_eq ⟨by omega, by omega⟩
  have b2 : 0 ≤ i + 2 := by omega
  have d2 : i + 2 < X.1 := by omega
  have a3 : ji_add i 3 = i + 3 := ji_add_eq ⟨by omega, by omega⟩
  have b3 : 0 ≤ i + 3 := by omega
  have d3 : i + 3 < X.1 := by omega
  have a4 : ji_add i 4 = i + 4 := ji_add_eq ⟨by omega, by omega⟩
  have b4 : 0 ≤ i + 4 := by omega
  have d4 : i + 4 < X.1 := by omega
  unfold LS2 at hst
  simp only [w335_991, w335_992, w335_993, w335_994, w335_995, w335_996, w335_997, w335_998, w335_999, w335_1000, w335_1001, w335_1002, w335_1003, w335_1004, w335_1005, w335_1006, w335_1007, w335_1008, w335_1009, w335_1010, w335_1011, w335_1012, a1, b1, d1, a2, b2, d2, a3, b3, d3, a4, b4, d4, ↓reduceIte, ne_eq, Int.reduceEq, Int.reduceLE, Int.reduceLT, not_false_eq_true, not_true_eq_false, false_and, and_false, true_and, and_true, and_self, mj_tl_some, mj_tl_none, mj_cs0, mj_cs1, mj_cs2, mj_cs3, mj_cs4]
  refine wc.mono hst ?_
  intro r1 M1 h1
  obtain ⟨x, rfl⟩ := LS2.x (kc := 0) h1
  simp only [w335_1015, w335_1016, w335_1017, w335_1018, w335_1019, w335_1020, w335_1021, w335_1022, w335_1023, w335_1024, w335_1025, w335_1026, w335_1027, w335_1028, w335_1029, w335_1030, w335_1031, w335_1032, w335_1033, w335_1034, w335_1035, w335_1036, a1, b1, d1, a2, b2, d2, a3, b3, d3, a4, b4, d4, ↓reduceIte, ne_eq, Int.reduceEq, Int.reduceLE, Int.reduceLT, not_false_eq_true, not_true_eq_false, false_and, and_false, true_and, and_true, and_self, mj_tl_some, mj_tl_none, mj_cs0, mj_cs1, mj_cs2, mj_cs3, mj_cs4]
  refine wc.mono h1 ?_
  rintro r2 M2 ⟨x', e1, rfl, hP⟩
  cases e1
  simp only [w335_1039, ↓reduceIte, ne_eq, Int.reduceEq, Int.reduceLE, Int.reduceLT, not_false_eq_true, not_true_eq_false, false_and, and_false, true_and, and_true, and_self, mj_tl_some, mj_tl_none, mj_cs0, mj_cs1, mj_cs2, mj_cs3, mj_cs4]
  exact kk M2 hP
theorem lw_c24 {i : Int} {P : mj_M → Prop} (hi : 0 ≤ i) (hi2 : i + 5 < X.1) (hX : X.1 ≤ 100000) (hst : LS2 X D 137 312 0 [(0, X.2 (i + 1)), (0, X.2 (i + 2)), (0, X.2 (i + 3))] M P) (kk : ∀ M2, P M2 → wp X (D + 1) 335 1662 [(8, 0), (31, 1), (32, 354), (0, i)] [] M2 Q) : wp X (D + 1) 335 1044 [(8, 0), (31, 1), (32, 354), (0, i)] [] M Q := by
  have a1 : ji_add i 1 = i + 1 := ji_add_eq ⟨by omega, by omega⟩
  have b1 : 0 ≤ i + 1 := by omega
  have d1 : i + 1 < X.1 := by omega
  have a2 : ji_add i 2 = i + 2 := ji_add_eq ⟨by omega, by omega⟩
  have b2 : 0 ≤ i + 2 := by omega
  have d2 : i + 2 < X.1 := by omega
  have a3 : ji_add i 3 = i + 3 := ji_add_eq ⟨by omega, by omega⟩
  have b3 : 0 ≤ i + 3 := by omega
  have d3 : i + 3 < X.1 := by omega
  unfold LS2 at hst
  simp only [w335_1044, w335_1045, w335_1046, w335_1047, w335_1048, w335_1049, w335_1050, w335_1051, w335_1052, w335_1053, w335_1054, w335_1055, w335_1056, w335_1057, w335_1058, w335_1059, w335_1060, a1, b1, d1, a2, b2, d2, a3, b3, d3, ↓reduceIte, ne_eq, Int.reduceEq, Int.reduceLE, Int.reduceLT, not_false_eq_true, not_true_eq_false, false_and, and_false, true_and, and_true, and_self, mj_tl_some, mj_tl_none, mj_cs0, mj_cs1, mj_cs2, mj_cs3, mj_cs4]
  refine wc.mono hst ?_
  intro r1 M1 h1
  obtain ⟨x, rfl⟩ := LS2.x (kc := 0) h1
  simp only [w335_1063, w335_1064, w335_1065, w335_1066, w335_1067, w335_1068, w335_1069, w335_1070, w335_1071, w335_1072, w335_1073, w335_1074, w335_1075, w335_1076, w335_1077, w335_1078, w335_1079, a1, b1, d1, a2, b2, d2, a3, b3, d3, ↓reduceIte, ne_eq, Int.reduceEq, Int.reduceLE, Int.reduceLT, not_false_eq_true, not_true_eq_false, false_and, and_false, true_and, and_true, and_self, mj_tl_some, mj_tl_none, mj_cs0, mj_cs1, mj_cs2, mj_cs3, mj_cs4]
  refine wc.mono h1 ?_
  rintro r2 M2 ⟨x', e1, rfl, hP⟩
  cases e1
  simp only [w335_1082, ↓reduceIte, ne_eq, Int.reduceEq, Int.reduceLE, Int.reduceLT, not_false_eq_true, not_true_eq_false, false_and, and_false, true_and, and_true, and_self, mj_tl_some, mj_tl_none, mj_cs0, mj_cs1, mj_cs2, mj_cs3, mj_cs4]
  exact kk M2 hP
theorem lw_c25 {i : Int} {P : mj_M → Prop} (hi : 0 ≤ i) (hi2 : i + 5 < X.1) (hX : X.1 ≤ 100000) (hst : LS2 X D 140 313 0 [(0, X.2 (i + 1))] M P) (kk : ∀ M2, P M2 → wp X (D + 1) 335 1662 [(8, 0), (31, 1), (32, 354), (0, i)] [] M2 Q) : wp X (D + 1) 335 1087 [(8, 0), (31, 1), (32, 354), (0, i)] [] M Q := by
  have a1 : ji_add i 1 = i + 1 := ji_add_eq ⟨by omega, by omega⟩
  have b1 : 0 ≤ i + 1 := by omega
  have d1 : i + 1 < X.1 := by omega
  unfold LS2 at hst
  simp only [w335_1087, w335_1088, w335_1089, w335_1090, w335_1091, w335_1092, w335_1093, a1, b1, d1, ↓reduceIte, ne_eq, Int.reduceEq, Int.reduceLE, Int.reduceLT, not_false_eq_true, not_true_eq_false, false_and, and_false, true_and, and_true, and_self, mj_tl_some, mj_tl_none, mj_cs0, mj_cs1, mj_cs2, mj_cs3, mj_cs4]
  refine wc.mono hst ?_
  intro r1 M1 h1
  obtain ⟨x, rfl⟩ := LS2.x (kc := 0) h1
  simp only [w335_1096, w335_1097, w335_1098, w335_1099, w335_1100, w335_1101, w335_1102, a1, b1, d1, ↓reduceIte, ne_eq, Int.reduceEq, Int.reduceLE, Int.reduceLT, not_false_eq_true, not_true_eq_false, false_and, and_false, true_and, and_true, and_self, mj_tl_some, mj_tl_none, mj_cs0, mj_cs1, mj_cs2, mj_cs3, mj_cs4]
  refine wc.mono h1 ?_
  rintro r2 M2 ⟨x', e1, rfl, hP⟩
  cases e1
  simp only [w335_1105, ↓reduceIte, ne_eq, Int.reduceEq, Int.reduceLE, Int.reduceLT, not_false_eq_true, not_true_eq_false, false_and, and_false, true_and, and_true, and_self, mj_tl_some, mj_tl_none, mj_cs0, mj_cs1, mj_cs2, mj_cs3, mj_cs4]
  exact kk M2 hP
theorem lw_c26 {i : Int} {P : mj_M → Prop} (hi : 0 ≤ i) (hi2 : i + 5 < X.1) (hX : X.1 ≤ 100000) (hst : LS2 X D 144 315 0 [(0, X.2 (i + 1)), (0, X.2 (i + 2)), (0, lb (X.2 (i + 3)))] M P) (kk : ∀ M2, P M2 → wp X (D + 1) 335 1662 [(8, 0), (31, 1), (32, 354), (0, i)] [] M2 Q) : wp X (D + 1) 335 1110 [(8, 0), (31, 1), (32, 354), (0, i)] [] M Q := by
  have a1 : ji_add i 1 = i + 1 := ji_add_eq ⟨by omega, by omega⟩
  have b1 : 0 ≤ i + 1 := by omega
  have d1 : i + 1 < X.1 := by omega
  have a2 : ji_add i 2 = i + 2 := ji_add_eq ⟨by omega, by omega⟩
  have b2 : 0 ≤ i + 2 := by omega
  have d2 : i + 2 < X.1 := by omega
  have a3 : ji_add i 3 = i + 3 := ji_add_eq ⟨by omega, by omega⟩
  have b3 : 0 ≤ i + 3 := by omega
  have d3 : i + 3 < X.1 := by omega
  by_cases hb : X.2 (i + 3) = 0
  · have e3 : lb (X.2 (i + 3)) = 0 := by unfold lb; rw [if_pos hb]
    rw [e3] at hst
    unfold LS2 at hst
    simp only [w335_1110, w335_1111, w335_1112, w335_1113, w335_1114, w335_1115, w335_1116, w335_1117, w335_1118, w335_1119, w335_1120, w335_1121, w335_1122, w335_1123, w335_1124, w335_1125, w335_1126, w335_1129, w335_1130, w335_1133, w335_1134, a1, b1, d1, a2, b2, d2, a3, b3, d3, hb, ↓reduceIte, ne_eq, Int.reduceEq, Int.reduceLE, Int.reduceLT, not_false_eq_true, not_true_eq_false, false_and, and_false, true_and, and_true, and_self, mj_tl_some, mj_tl_none, mj_cs0, mj_cs1, mj_cs2, mj_cs3, mj_cs4]
    refine wc.mono hst ?_
    intro r1 M1 h1
    obtain ⟨x, rfl⟩ := LS2.x (kc := 0) h1
    simp only [w335_1137, w335_1138, w335_1139, w335_1140, w335_1141, w335_1142, w335_1143, w335_1144, w335_1145, w335_1146, w335_1147, w335_1148, w335_1149, w335_1150, w335_1151, w335_1152, w335_1153, w335_1156, w335_1157, w335_1160, w335_1161, a1, b1, d1, a2, b2, d2, a3, b3, d3, hb, ↓reduceIte, ne_eq, Int.reduceEq, Int.reduceLE, Int.reduceLT, not_false_eq_true, not_true_eq_false, false_and, and_false, true_and, and_true, and_self, mj_tl_some, mj_tl_none, mj_cs0, mj_cs1, mj_cs2, mj_cs3, mj_cs4]
    refine wc.mono h1 ?_
    rintro r2 M2 ⟨x', e1, rfl, hP⟩
    cases e1
    simp only [w335_1164, ↓reduceIte, ne_eq, Int.reduceEq, Int.reduceLE, Int.reduceLT, not_false_eq_true, not_true_eq_false, false_and, and_false, true_and, and_true, and_self, mj_tl_some, mj_tl_none, mj_cs0, mj_cs1, mj_cs2, mj_cs3, mj_cs4]
    exact kk M2 hP
  · have e3 : lb (X.2 (i + 3)) = 1 := by unfold lb; rw [if_neg hb]
    rw [e3] at hst
    unfold LS2 at hst
    simp only [w335_1110, w335_1111, w335_1112, w335_1113, w335_1114, w335_1115, w335_1116, w335_1117, w335_1118, w335_1119, w335_1120, w335_1121, w335_1122, w335_1123, w335_1124, w335_1125, w335_1126, w335_1129, w335_1130, w335_1133, w335_1134, a1, b1, d1, a2, b2, d2, a3, b3, d3, hb, ↓reduceIte, ne_eq, Int.reduceEq, Int.reduceLE, Int.reduceLT, not_false_eq_true, not_true_eq_false, false_and, and_false, true_and, and_true, and_self, mj_tl_some, mj_tl_none, mj_cs0, mj_cs1, mj_cs2, mj_cs3, mj_cs4]
    refine wc.mono hst ?_
    intro r1 M1 h1
    obtain ⟨x, rfl⟩ := LS2.x (kc := 0) h1
    simp only [w335_1137, w335_1138, w335_1139, w335_1140, w335_1141, w335_1142, w335_1143, w335_1144, w335_1145, w335_1146, w335_1147, w335_1148, w335_1149, w335_1150, w335_1151, w335_1152, w335_1153, w335_1156, w335_1157, w335_1160, w335_1161, a1, b1, d1, a2, b2, d2, a3, b3, d3, hb, ↓reduceIte, ne_eq, Int.reduceEq, Int.reduceLE, Int.reduceLT, not_false_eq_true, not_true_eq_false, false_and, and_false, true_and, and_true, and_self, mj_tl_some, mj_tl_none, mj_cs0, mj_cs1, mj_cs2, mj_cs3, mj_cs4]
    refine wc.mono h1 ?_
    rintro r2 M2 ⟨x', e1, rfl, hP⟩
    cases e1
    simp only [w335_1164, ↓reduceIte, ne_eq, Int.reduceEq, Int.reduceLE, Int.reduceLT, not_false_eq_true, not_true_eq_false, false_and, and_false, true_and, and_true, and_self, mj_tl_some, mj_tl_none, mj_cs0, mj_cs1, mj_cs2, mj_cs3, mj_cs4]
    exact kk M2 hP
theorem lw_c27 {i : Int} {P : mj_M → Prop} (hi : 0 ≤ i) (hi2 : i + 5 < X.1) (hX : X.1 ≤ 100000) (hst : LS2 X D 148 318 0 [(0, X.2 (i + 1))] M P) (kk : ∀ M2, P M2 → wp X (D + 1) 335 1662 [(8, 0), (31, 1), (32, 354), (0, i)] [] M2 Q) : wp X (D + 1) 335 1169 [(8, 0), (31, 1), (32, 354), (0, i)] [] M Q := by
  have a1 : ji_add i 1 = i + 1 := ji_add_eq ⟨by omega, by omega⟩
  have b1 : 0 ≤ i + 1 := by omega
  have d1 : i + 1 < X.1 := by omega
  unfold LS2 at hst
  simp only [w335_1169, w335_1170, w335_1171, w335_1172, w335_1173, w335_1174, w335_1175, a1, b1, d1, ↓reduceIte, ne_eq, Int.reduceEq, Int.reduceLE, Int.reduceLT, not_false_eq_true, not_true_eq_false, false_and, and_false, true_and, and_true, and_self, mj_tl_some, mj_tl_none, mj_cs0, mj_cs1, mj_cs2, mj_cs3, mj_cs4]
  refine wc.mono hst ?_
  intro r1 M1 h1
  obtain ⟨x, rfl⟩ := LS2.x (kc := 0) h1
  simp only [w335_1178, w335_1179, w335_1180, w335_1181, w335_1182, w335_1183, w335_1184, a1, b1, d1, ↓reduceIte, ne_eq, Int.reduceEq, Int.reduceLE, Int.reduceLT, not_false_eq_true, not_true_eq_false, false_and, and_false, true_and, and_true, and_self, mj_tl_some, mj_tl_none, mj_cs0, mj_cs1, mj_cs2, mj_cs3, mj_cs4]
  refine wc.mono h1 ?_
  rintro r2 M2 ⟨x', e1, rfl, hP⟩
  cases e1
  simp only [w335_1187, ↓reduceIte, ne_eq, Int.reduceEq, Int.reduceLE, Int.reduceLT, not_false_eq_true, not_true_eq_false, false_and, and_false, true_and, and_true, and_self, mj_tl_some, mj_tl_none, mj_cs0, mj_cs1, mj_cs2, mj_cs3, mj_cs4]
  exact kk M2 hP
theorem lw_c28 {i : Int} {P : mj_M → Prop} (hi : 0 ≤ i) (hi2 : i + 5 < X.1) (hX : X.1 ≤ 100000) (hst : LS2 X D 150 319 0 [] M P) (kk : ∀ M2, P M2 → wp X (D + 1) 335 1662 [(8, 0), (31, 1), (32, 354), (0, i)] [] M2 Q) : wp X (D + 1) 335 1192 [(8, 0), (31, 1), (32, 354), (0, i)] [] M Q := by
  unfold LS2 at hst
  simp only [w335_1192, w335_1193, ↓reduceIte, ne_eq, Int.reduceEq, Int.reduceLE, Int.reduceLT, not_false_eq_true, not_true_eq_false, false_and, and_false, true_and, and_true, and_self, mj_tl_some, mj_tl_none, mj_cs0, mj_cs1, mj_cs2, mj_cs3, mj_cs4]
  refine wc.mono hst ?_
  intro r1 M1 h1
  obtain ⟨x, rfl⟩ := LS2.x (kc := 0) h1
  simp only [w335_1196, w335_1197, ↓reduceIte, ne_eq, Int.reduceEq, Int.reduceLE, Int.reduceLT, not_false_eq_true, not_true_eq_false, false_and, and_false, true_and, and_true, and_self, mj_tl_some, mj_tl_none, mj_cs0, mj_cs1, mj_cs2, mj_cs3, mj_cs4]
  refine wc.mono h1 ?_
  rintro r2 M2 ⟨x', e1, rfl, hP⟩
  cases e1
  simp only [w335_1200, ↓reduceIte, ne_eq, Int.reduceEq, Int.reduceLE, Int.reduceLT, not_false_eq_true, not_true_eq_false, false_and, and_false, true_and, and_true, and_self, mj_tl_some, mj_tl_none, mj_cs0, mj_cs1, mj_cs2, mj_cs3, mj_cs4]
  exact kk M2 hP
theorem lw_c29 {i : Int} {P : mj_M → Prop} (hi : 0 ≤ i) (hi2 : i + 5 < X.1) (hX : X.1 ≤ 100000) (hst : LS2 X D 152 246 0 [(0, X.2 (i + 1)), (0, X.2 (i + 2)), (0, lb (X.2 (i + 3)))] M P) (kk : ∀ M2, P M2 → wp X (D + 1) 335 1662 [(8, 0), (31, 1), (32, 354), (0, i)] [] M2 Q) : wp X (D + 1) 335 1205 [(8, 0), (31, 1), (32, 354), (0, i)] [] M Q := by
  have a1 : ji_add i 1 = i + 1 := ji_add_eq ⟨by omega, by omega⟩
  have b1 : 0 ≤ i + 1 := by omega
  have d1 : i + 1 < X.1 := by omega
  have a2 : ji_add i 2 = i + 2 := ji_add_eq ⟨by omega, by omega⟩
  have b2 : 0 ≤ i + 2 := by omega
  have d2 : i + 2 < X.1 := by omega
  have a3 : ji_add i 3 = i + 3 := ji_add_eq ⟨by omega, by omega⟩
  have b3 : 0 ≤ i + 3 := by omega
  have d3 : i + 3 < X.1 := by omega
  by_cases hb : X.2 (i + 3) = 0
  · have e3 : lb (X.2 (i + 3)) = 0 := by unfold lb; rw [if_pos hb]
    rw [e3] at hst
    unfold LS2 at hst
    simp only [w335_1205, w335_1206, w335_1207, w335_1208, w335_1209, w335_1210, w335_1211, w335_1212, w335_1213, w335_1214, w335_1215, w335_1216, w335_1217, w335_1218, w335_1219, w335_1220, w335_1221, w335_1224, w335_1225, w335_1228, w335_1229, a1, b1, d1, a2, b2, d2, a3, b3, d3, hb, ↓reduceIte, ne_eq, Int.reduceEq, Int.reduceLE, Int.reduceLT, not_false_eq_true, not_true_eq_false, false_and, and_false, true_and, and_true, and_self, mj_tl_some, mj_tl_none, mj_cs0, mj_cs1, mj_cs2, mj_cs3, mj_cs4]
    refine wc.mono hst ?_
    intro r1 M1 h1
    obtain ⟨x, rfl⟩ := LS2.x (kc := 0) h1
    simp only [w335_1232, w335_1233, w335_1234, w335_1235, w335_1236, w335_1237, w335_1238, w335_1239, w335_1240, w335_1241, w335_1242, w335_1243, w335_1244, w335_1245, w335_1246, w335_1247, w335_1248, w335_1251, w335_1252, w335_1255, w335_1256, a1, b1, d1, a2, b2, d2, a3, b3, d3, hb, ↓reduceIte, ne_eq, Int.reduceEq, Int.reduceLE, Int.reduceLT, not_false_eq_true, not_true_eq_false, false_and, and_false, true_and, and_true, and_self, mj_tl_some, mj_tl_none, mj_cs0, mj_cs1, mj_cs2, mj_cs3, mj_cs4]
    refine wc.mono h1 ?_
    rintro r2 M2 ⟨x', e1, rfl, hP⟩
    cases e1
    simp only [w335_1259, ↓reduceIte, ne_eq, Int.reduceEq, Int.reduceLE, Int.reduceLT, not_false_eq_true, not_true_eq_false, false_and, and_false, true_and, and_true, and_self, mj_tl_some, mj_tl_none, mj_cs0, mj_cs1, mj_cs2, mj_cs3, mj_cs4]
    exact kk M2 hP
  · have e3 : lb (X.2 (i + 3)) = 1 := by unfold lb; rw [if_neg hb]
    rw [e3] at hst
    unfold LS2 at hst
    simp only [w335_1205, w335_1206, w335_1207, w335_1208, w335_1209, w335_1210, w335_1211, w335_1212, w335_1213, w335_1214, w335_1215, w335_1216, w335_1217, w335_1218, w335_1219, w335_1220, w335_1221, w335_1224, w335_1225, w335_1228, w335_1229, a1, b1, d1, a2, b2, d2, a3, b3, d3, hb, ↓reduceIte, ne_eq, Int.reduceEq, Int.reduceLE, Int.reduceLT, not_false_eq_true, not_true_eq_false, false_and, and_false, true_and, and_true, and_self, mj_tl_some, mj_tl_none, mj_cs0, mj_cs1, mj_cs2, mj_cs3, mj_cs4]
    refine wc.mono hst ?_
    intro r1 M1 h1
    obtain ⟨x, rfl⟩ := LS2.x (kc := 0) h1
    simp only [w335_1232, w335_1233, w335_1234, w335_1235, w335_1236, w335_1237, w335_1238, w335_1239, w335_1240, w335_1241, w335_1242, w335_1243, w335_1244, w335_1245, w335_1246, w335_1247, w335_1248, w335_1251, w335_1252, w335_1255, w335_1256, a1, b1, d1, a2, b2, d2, a3, b3, d3, hb, ↓reduceIte, ne_eq, Int.reduceEq, Int.reduceLE, Int.reduceLT, not_false_eq_true, not_true_eq_false, false_and, and_false, true_and, and_true, and_self, mj_tl_some, mj_tl_none, mj_cs0, mj_cs1, mj_cs2, mj_cs3, mj_cs4]
    refine wc.mono h1 ?_
    rintro r2 M2 ⟨x', e1, rfl, hP⟩
    cases e1
    simp only [w335_1259, ↓reduceIte, ne_eq, Int.reduceEq, Int.reduceLE, Int.reduceLT, not_false_eq_true, not_true_eq_false, false_and, and_false, true_and, and_true, and_self, mj_tl_some, mj_tl_none, mj_cs0, mj_cs1, mj_cs2, mj_cs3, mj_cs4]
    exact kk M2 hP
theorem lw_c30 {i : Int} {P : mj_M → Prop} (hi : 0 ≤ i) (hi2 : i + 5 < X.1) (hX : X.1 ≤ 100000) (hst : LS2 X D 154 257 0 [(0, X.2 (i + 1)), (0, X.2 (i + 2))] M P) (kk : ∀ M2, P M2 → wp X (D + 1) 335 1662 [(8, 0), (31, 1), (32, 354), (0, i)] [] M2 Q) : wp X (D + 1) 335 1264 [(8, 0), (31, 1), (32, 354), (0, i)] [] M Q := by
  have a1 : ji_add i 1 = i + 1 := ji_add_eq ⟨by omega, by omega⟩
  have b1 : 0 ≤ i + 1 := by omega
  have d1 : i + 1 < X.1 := by omega
  have a2 : ji_add i 2 = i + 2 := ji_add_eq ⟨by omega, by omega⟩
  have b2 : 0 ≤ i + 2 := by omega
  have d2 : i + 2 < X.1 := by omega
  unfold LS2 at hst
  simp only [w335_1264, w335_1265, w335_1266, w335_1267, w335_1268, w335_1269, w335_1270, w335_1271, w335_1272, w335_1273, w335_1274, w335_1275, a1, b1, d1, a2, b2, d2, ↓reduceIte, ne_eq, Int.reduceEq, Int.reduceLE, Int.reduceLT, not_false_eq_true, not_true_eq_false, false_and, and_false, true_and, and_true, and_self, mj_tl_some, mj_tl_none, mj_cs0, mj_cs1, mj_cs2, mj_cs3, mj_cs4]
  refine wc.mono hst ?_
  intro r1 M1 h1
  obtain ⟨x, rfl⟩ := LS2.x (kc := 0) h1
  simp only [w335_1278, w335_1279, w335_1280, w335_1281, w335_1282, w335_1283, w335_1284, w335_1285, w335_1286, w335_1287, w335_1288, w335_1289, a1, b1, d1, a2, b2, d2, ↓reduceIte, ne_eq, Int.reduceEq, Int.reduceLE, Int.reduceLT, not_false_eq_true, not_true_eq_false, false_and, and_false, true_and, and_true, and_self, mj_tl_some, mj_tl_none, mj_cs0, mj_cs1, mj_cs2, mj_cs3, mj_cs4]
  refine wc.mono h1 ?_
  rintro r2 M2 ⟨x', e1, rfl, hP⟩
  cases e1
  simp only [w335_1292, ↓reduceIte, ne_eq, Int.reduceEq, Int.reduceLE, Int.reduceLT, not_false_eq_true, not_true_eq_false, false_and, and_false, true_and, and_true, and_self, mj_tl_some, mj_tl_none, mj_cs0, mj_cs1, mj_cs2, mj_cs3, mj_cs4]
  exact kk M2 hP
theorem lw_c31 {i : Int} {P : mj_M → Prop} (hi : 0 ≤ i) (hi2 : i + 5 < X.1) (hX : X.1 ≤ 100000) (hst : LS2 X D 155 320 0 [(0, X.2 (i + 1))] M P) (kk : ∀ M2, P M2 → wp X (D + 1) 335 1662 [(8, 0), (31, 1), (32, 354), (0, i)] [] M2 Q) : wp X (D + 1) 335 1297 [(8, 0), (31, 1), (32, 354), (0, i)] [] M Q := by
  have a1 : ji_add i 1 = i + 1 := ji_add_eq ⟨by omega, by omega⟩
  have b1 : 0 ≤ i + 1 := by omega
  have d1 : i + 1 < X.1 := by omega
  unfold LS2 at hst
  simp only [w335_1297, w335_1298, w335_1299, w335_1300, w335_1301, w335_1302, w335_1303, a1, b1, d1, ↓reduceIte, ne_eq, Int.reduceEq, Int.reduceLE, Int.reduceLT, not_false_eq_true, not_true_eq_false, false_and, and_false, true_and, and_true, and_self, mj_tl_some, mj_tl_none, mj_cs0, mj_cs1, mj_cs2, mj_cs3, mj_cs4]
  refine wc.mono hst ?_
  intro r1 M1 h1
  obtain ⟨x, rfl⟩ := LS2.x (kc := 0) h1
  simp only [w335_1306, w335_1307, w335_1308, w335_1309, w335_1310, w335_1311, w335_1312, a1, b1, d1, ↓reduceIte, ne_eq, Int.reduceEq, Int.reduceLE, Int.reduceLT, not_false_eq_true, not_true_eq_false, false_and, and_false, true_and, and_true, and_self, mj_tl_some, mj_tl_none, mj_cs0, mj_cs1, mj_cs2, mj_cs3, mj_cs4]
  refine wc.mono h1 ?_
  rintro r2 M2 ⟨x', e1, rfl, hP⟩
  cases e1
  simp only [w335_1315, ↓reduceIte, ne_eq, Int.reduceEq, Int.reduceLE, Int.reduceLT, not_false_eq_true, not_true_eq_false, false_and, and_false, true_and, and_true, and_self, mj_tl_some, mj_tl_none, mj_cs0, mj_cs1, mj_cs2, mj_cs3, mj_cs4]
  exact kk M2 hP
theorem lw_c32 {i : Int} {P : mj_M → Prop} (hi : 0 ≤ i) (hi2 : i + 5 < X.1) (hX : X.1 ≤ 100000) (hst : LS2 X D 158 322 0 [] M P) (kk : ∀ M2, P M2 → wp X (D + 1) 335 1662 [(8, 0), (31, 1), (32, 354), (0, i)] [] M2 Q) : wp X (D + 1) 335 1320 [(8, 0), (31, 1), (32, 354), (0, i)] [] M Q := by
  unfold LS2 at hst
  simp only [w335_1320, w335_1321, ↓reduceIte, ne_eq, Int.reduceEq, Int.reduceLE, Int.reduceLT, not_false_eq_true, not_true_eq_false, false_and, and_false, true_and, and_true, and_self, mj_tl_some, mj_tl_none, mj_cs0, mj_cs1, mj_cs2, mj_cs3, mj_cs4]
  refine wc.mono hst ?_
  intro r1 M1 h1
  obtain ⟨x, rfl⟩ := LS2.x (kc := 0) h1
  simp only [w335_1324, w335_1325, ↓reduceIte, ne_eq, Int.reduceEq, Int.reduceLE, Int.reduceLT, not_false_eq_true, not_true_eq_false, false_and, and_false, true_and, and_true, and_self, mj_tl_some, mj_tl_none, mj_cs0, mj_cs1, mj_cs2, mj_cs3, mj_cs4]
  refine wc.mono h1 ?_
  rintro r2 M2 ⟨x', e1, rfl, hP⟩
  cases e1
  simp only [w335_1328, ↓reduceIte, ne_eq, Int.reduceEq, Int.reduceLE, Int.reduceLT, not_false_eq_true, not_true_eq_false, false_and, and_false, true_and, and_true, and_self, mj_tl_some, mj_tl_none, mj_cs0, mj_cs1, mj_cs2, mj_cs3, mj_cs4]
  exact kk M2 hP
theorem lw_c33 {i : Int} {P : mj_M → Prop} (hi : 0 ≤ i) (hi2 : i + 5 < X.1) (hX : X.1 ≤ 100000) (hst : LS2 X D 161 324 0 [(0, X.2 (i + 1)), (0, X.2 (i + 2)), (0, X.2 (i + 3))] M P) (kk : ∀ M2, P M2 → wp X (D + 1) 335 1662 [(8, 0), (31, 1), (32, 354), (0, i)] [] M2 Q) : wp X (D + 1) 335 1333 [(8, 0), (31, 1), (32, 354), (0, i)] [] M Q := by
  have a1 : ji_add i 1 = i + 1 := ji_add_eq ⟨by omega, by omega⟩
  have b1 : 0 ≤ i + 1 := by omega
  have d1 : i + 1 < X.1 := by omega
  have a2 : ji_add i 2 = i + 2 := ji_add_eq ⟨by omega, by omega⟩
  have b2 : 0 ≤ i + 2 := by omega
  have d2 : i + 2 < X.1 := by omega
  have a3 : ji_add i 3 = i + 3 := ji_add_eq ⟨by omega, by omega⟩
  have b3 : 0 ≤ i + 3 := by omega
  have d3 : i + 3 < X.1 := by omega
  unfold LS2 at hst
  simp only [w335_1333, w335_1334, w335_1335, w335_1336, w335_1337, w335_1338, w335_1339, w335_1340, w335_1341, w335_1342, w335_1343, w335_1344, w335_1345, w335_1346, w335_1347, w335_1348, w335_1349, a1, b1, d1, a2, b2, d2, a3, b3, d3, ↓reduceIte, ne_eq, Int.reduceEq, Int.reduceLE, Int.reduceLT, not_false_eq_true, not_true_eq_false, false_and, and_false, true_and, and_true, and_self, mj_tl_some, mj_tl_none, mj_cs0, mj_cs1, mj_cs2, mj_cs3, mj_cs4]
  refine wc.mono hst ?_
  intro r1 M1 h1
  obtain ⟨x, rfl⟩ := LS2.x (kc := 0) h1
  simp only [w335_1352, w335_1353, w335_1354, w335_1355, w335_1356, w335_1357, w335_1358, w335_1359, w335_1360, w335_1361, w335_1362, w335_1363, w335_1364, w335_1365, w335_1366, w335_1367, w335_1368, a1, b1, d1, a2, b2, d2, a3, b3, d3, ↓reduceIte, ne_eq, Int.reduceEq, Int.reduceLE, Int.reduceLT, not_false_eq_true, not_true_eq_false, false_and, and_false, true_and, and_true, and_self, mj_tl_some, mj_tl_none, mj_cs0, mj_cs1, mj_cs2, mj_cs3, mj_cs4]
  refine wc.mono h1 ?_
  rintro r2 M2 ⟨x', e1, rfl, hP⟩
  cases e1
  simp only [w335_1371, ↓reduceIte, ne_eq, Int.reduceEq, Int.reduceLE, Int.reduceLT, not_false_eq_true, not_true_eq_false, false_and, and_false, true_and, and_true, and_self, mj_tl_some, mj_tl_none, mj_cs0, mj_cs1, mj_cs2, mj_cs3, mj_cs4]
  exact kk M2 hP
theorem lw_c34 {i : Int} {P : mj_M → Prop} (hi : 0 ≤ i) (hi2 : i + 5 < X.1) (hX : X.1 ≤ 100000) (hst : LS2 X D 162 325 0 [(0, X.2 (i + 1)), (0, X.2 (i + 2))] M P) (kk : ∀ M2, P M2 → wp X (D + 1) 335 1662 [(8, 0), (31, 1), (32, 354), (0, i)] [] M2 Q) : wp X (D + 1) 335 1376 [(8, 0), (31, 1), (32, 354), (0, i)] [] M Q := by
  have a1 : ji_add i 1 = i + 1 := ji_add_eq ⟨by omega, by omega⟩
  have b1 : 0 ≤ i + 1 := by omega
  have d1 : i + 1 < X.1 := by omega
  have a2 : ji_add i 2 = i + 2 := ji_add_eq ⟨by omega, by omega⟩
  have b2 : 0 ≤ i + 2 := by omega
  have d2 : i + 2 < X.1 := by omega
  unfold LS2 at hst
  simp only [w335_1376, w335_1377, w335_1378, w335_1379, w335_1380, w335_1381, w335_1382, w335_1383, w335_1384, w335_1385, w335_1386, w335_1387, a1, b1, d1, a2, b2, d2, ↓reduceIte, ne_eq, Int.reduceEq, Int.reduceLE, Int.reduceLT, not_false_eq_true, not_true_eq_false, false_and, and_false, true_and, and_true, and_self, mj_tl_some, mj_tl_none, mj_cs0, mj_cs1, mj_cs2, mj_cs3, mj_cs4]
  refine wc.mono hst ?_
  intro r1 M1 h1
  obtain ⟨x, rfl⟩ := LS2.x (kc := 0) h1
  simp only [w335_1390, w335_1391, w335_1392, w335_1393, w335_1394, w335_1395, w335_1396, w335_1397, w335_1398, w335_1399, w335_1400, w335_1401, a1, b1, d1, a2, b2, d2, ↓reduceIte, ne_eq, Int.reduceEq, Int.reduceLE, Int.reduceLT, not_false_eq_true, not_true_eq_false, false_and, and_false, true_and, and_true, and_self, mj_tl_some, mj_tl_none, mj_cs0, mj_cs1, mj_cs2, mj_cs3, mj_cs4]
  refine wc.mono h1 ?_
  rintro r2 M2 ⟨x', e1, rfl, hP⟩
  cases e1
  simp only [w335_1404, ↓reduceIte, ne_eq, Int.reduceEq, Int.reduceLE, Int.reduceLT, not_false_eq_true, not_true_eq_false, false_and, and_false, true_and, and_true, and_self, mj_tl_some, mj_tl_none, mj_cs0, mj_cs1, mj_cs2, mj_cs3, mj_cs4]
  exact kk M2 hP
theorem lw_c35 {i : Int} {P : mj_M → Prop} (hi : 0 ≤ i) (hi2 : i + 5 < X.1) (hX : X.1 ≤ 100000) (hst : LS2 X D 164 327 0 [] M P) (kk : ∀ M2, P M2 → wp X (D + 1) 335 1662 [(8, 0), (31, 1), (32, 354), (0, i)] [] M2 Q) : wp X (D + 1) 335 1409 [(8, 0), (31, 1), (32, 354), (0, i)] [] M Q := by
  unfold LS2 at hst
  simp only [w335_1409, w335_1410, ↓reduceIte, ne_eq, Int.reduceEq, Int.reduceLE, Int.reduceLT, not_false_eq_true, not_true_eq_false, false_and, and_false, true_and, and_true, and_self, mj_tl_some, mj_tl_none, mj_cs0, mj_cs1, mj_cs2, mj_cs3, mj_cs4]
  refine wc.mono hst ?_
  intro r1 M1 h1
  obtain ⟨x, rfl⟩ := LS2.x (kc := 0) h1
  simp only [w335_1413, w335_1414, ↓reduceIte, ne_eq, Int.reduceEq, Int.reduceLE, Int.reduceLT, not_false_eq_true, not_true_eq_false, false_and, and_false, true_and, and_true, and_self, mj_tl_some, mj_tl_none, mj_cs0, mj_cs1, mj_cs2, mj_cs3, mj_cs4]
  refine wc.mono h1 ?_
  rintro r2 M2 ⟨x', e1, rfl, hP⟩
  cases e1
  simp only [w335_1417, ↓reduceIte, ne_eq, Int.reduceEq, Int.reduceLE, Int.reduceLT, not_false_eq_true, not_true_eq_false, false_and, and_false, true_and, and_true, and_self, mj_tl_some, mj_tl_none, mj_cs0, mj_cs1, mj_cs2, mj_cs3, mj_cs4]
  exact kk M2 hP
theorem lw_c36 {i : Int} {P : mj_M → Prop} (hi : 0 ≤ i) (hi2 : i + 5 < X.1) (hX : X.1 ≤ 100000) (hst : LS2 X D 165 328 1 [(0, X.2 (i + 1)), (0, X.2 (i + 2)), (0, lb (X.2 (i + 3)))] M P) (kk : ∀ M2, P M2 → wp X (D + 1) 335 1662 [(8, 0), (31, 1), (32, 354), (0, i)] [] M2 Q) : wp X (D + 1) 335 1422 [(8, 0), (31, 1), (32, 354), (0, i)] [] M Q := by
  have a1 : ji_add i 1 = i + 1 := ji_add_eq ⟨by omega, by omega⟩
  have b1 : 0 ≤ i + 1 := by omega
  have d1 : i + 1 < X.1 := by omega
  have a2 : ji_add i 2 = i + 2 := ji_add_eq ⟨by omega, by omega⟩
  have b2 : 0 ≤ i + 2 := by omega
  have d2 : i + 2 < X.1 := by omega
  have a3 : ji_add i 3 = i + 3 := ji_add_eq ⟨by omega, by omega⟩
  have b3 : 0 ≤ i + 3 := by omega
  have d3 : i + 3 < X.1 := by omega
  by_cases hb : X.2 (i + 3) = 0
  · have e3 : lb (X.2 (i + 3)) = 0 := by unfold lb; rw [if_pos hb]
    rw [e3] at hst
    unfold LS2 at hst
    simp only [w335_1422, w335_1423, w335_1424, w335_1425, w335_1426, w335_1427, w335_1428, w335_1429, w335_1430, w335_1431, w335_1432, w335_1433, w335_1434, w335_1435, w335_1436, w335_1437, w335_1438, w335_1441, w335_1442, w335_1445, w335_1446, a1, b1, d1, a2, b2, d2, a3, b3, d3, hb, ↓reduceIte, ne_eq, Int.reduceEq, Int.reduceLE, Int.reduceLT, not_false_eq_true, not_true_eq_false, false_and, and_false, true_and, and_true, and_self, mj_tl_some, mj_tl_none, mj_cs0, mj_cs1, mj_cs2, mj_cs3, mj_cs4]
    refine wc.mono hst ?_
    intro r1 M1 h1
    obtain ⟨x, rfl⟩ := LS2.x (kc := 0) h1
    simp only [w335_1449, w335_1450, w335_1451, w335_1452, w335_1453, w335_1454, w335_1455, w335_1456, w335_1457, w335_1458, w335_1459, w335_1460, w335_1461, w335_1462, w335_1463, w335_1464, w335_1465, w335_1468, w335_1469, w335_1472, w335_1473, a1, b1, d1, a2, b2, d2, a3, b3, d3, hb, ↓reduceIte, ne_eq, Int.reduceEq, Int.reduceLE, Int.reduceLT, not_false_eq_true, not_true_eq_false, false_and, and_false, true_and, and_true, and_self, mj_tl_some, mj_tl_none, mj_cs0, mj_cs1, mj_cs2, mj_cs3, mj_cs4]
    refine wc.mono h1 ?_
    rintro r2 M2 ⟨x', e1, rfl, hP⟩
    cases e1
    simp only [w335_1476, w335_1477, jl_cmp_self, ↓reduceIte, ne_eq, Int.reduceEq, Int.reduceLE, Int.reduceLT, not_false_eq_true, not_true_eq_false, false_and, and_false, true_and, and_true, and_self, mj_tl_some, mj_tl_none, mj_cs0, mj_cs1, mj_cs2, mj_cs3, mj_cs4]
    exact kk M2 hP
  · have e3 : lb (X.2 (i + 3)) = 1 := by unfold lb; rw [if_neg hb]
    rw [e3] at hst
    unfold LS2 at hst
    simp only [w335_1422, w335_1423, w335_1424, w335_1425, w335_1426, w335_1427, w335_1428, w335_1429, w335_1430, w335_1431, w335_1432, w335_1433, w335_1434, w335_1435, w335_1436, w335_1437, w335_1438, w335_1441, w335_1442, w335_1445, w335_1446, a1, b1, d1, a2, b2, d2, a3, b3, d3, hb, ↓reduceIte, ne_eq, Int.reduceEq, Int.reduceLE, Int.reduceLT, not_false_eq_true, not_true_eq_false, false_and, and_false, true_and, and_true, and_self, mj_tl_some, mj_tl_none, mj_cs0, mj_cs1, mj_cs2, mj_cs3, mj_cs4]
    refine wc.mono hst ?_
    intro r1 M1 h1
    obtain ⟨x, rfl⟩ := LS2.x (kc := 0) h1
    simp only [w335_1449, w335_1450, w335_1451, w335_1452, w335_1453, w335_1454, w335_1455, w335_1456, w335_1457, w335_1458, w335_1459, w335_1460, w335_1461, w335_1462, w335_1463, w335_1464, w335_1465, w335_1468, w335_1469, w335_1472, w335_1473, a1, b1, d1, a2, b2, d2, a3, b3, d3, hb, ↓reduceIte, ne_eq, Int.reduceEq, Int.reduceLE, Int.reduceLT, not_false_eq_true, not_true_eq_false, false_and, and_false, true_and, and_true, and_self, mj_tl_some, mj_tl_none, mj_cs0, mj_cs1, mj_cs2, mj_cs3, mj_cs4]
    refine wc.mono h1 ?_
    rintro r2 M2 ⟨x', e1, rfl, hP⟩
    cases e1
    simp only [w335_1476, w335_1477, jl_cmp_self, ↓reduceIte, ne_eq, Int.reduceEq, Int.reduceLE, Int.reduceLT, not_false_eq_true, not_true_eq_false, false_and, and_false, true_and, and_true, and_self, mj_tl_some, mj_tl_none, mj_cs0, mj_cs1, mj_cs2, mj_cs3, mj_cs4]
    exact kk M2 hP
theorem lw_c37 {i : Int} {P : mj_M → Prop} (hi : 0 ≤ i) (hi2 : i + 5 < X.1) (hX : X.1 ≤ 100000) (hst : LS2 X D 169 329 0 [(0, X.2 (i + 1))] M P) (kk : ∀ M2, P M2 → wp X (D + 1) 335 1662 [(8, 0), (31, 1), (32, 354), (0, i)] [] M2 Q) : wp X (D + 1) 335 1482 [(8, 0), (31, 1), (32, 354), (0, i)] [] M Q := by
  have a1 : ji_add i 1 = i + 1 := ji_add_eq ⟨by omega, by omega⟩
  have b1 : 0 ≤ i + 1 := by omega
  have d1 : i + 1 < X.1 := by omega
  unfold LS2 at hst
  simp only [w335_1482, w335_1483, w335_1484, w335_1485, w335_1486, w335_1487, w335_1488, a1, b1, d1, ↓reduceIte, ne_eq, Int.reduceEq, Int.reduceLE, Int.reduceLT, not_false_eq_true, not_true_eq_false, false_and, and_false, true_and, and_true, and_self, mj_tl_some, mj_tl_none, mj_cs0, mj_cs1, mj_cs2, mj_cs3, mj_cs4]
  refine wc.mono hst ?_
  intro r1 M1 h1
  obtain ⟨x, rfl⟩ := LS2.x (kc := 0) h1
  simp only [w335_1491, w335_1492, w335_1493, w335_1494, w335_1495, w335_1496, w335_1497, a1, b1, d1, ↓reduceIte, ne_eq, Int.reduceEq, Int.reduceLE, Int.reduceLT, not_false_eq_true, not_true_eq_false, false_and, and_false, true_and, and_true, and_self, mj_tl_some, mj_tl_none, mj_cs0, mj_cs1, mj_cs2, mj_cs3, mj_cs4]
  refine wc.mono h1 ?_
  rintro r2 M2 ⟨x', e1, rfl, hP⟩
  cases e1
  simp only [w335_1500, ↓reduceIte, ne_eq, Int.reduceEq, Int.reduceLE, Int.reduceLT, not_false_eq_true, not_true_eq_false, false_and, and_false, true_and, and_true, and_self, mj_tl_some, mj_tl_none, mj_cs0, mj_cs1, mj_cs2, mj_cs3, mj_cs4]
  exact kk M2 hP
theorem lw_c38 {i : Int} {P : mj_M → Prop} (hi : 0 ≤ i) (hi2 : i + 5 < X.1) (hX : X.1 ≤ 100000) (hst : LS2 X D 171 330 0 [(0, X.2 (i + 1)), (0, X.2 (i + 2))] M P) (kk : ∀ M2, P M2 → wp X (D + 1) 335 1662 [(8, 0), (31, 1), (32, 354), (0, i)] [] M2 Q) : wp X (D + 1) 335 1505 [(8, 0), (31, 1), (32, 354), (0, i)] [] M Q := by
  have a1 : ji_add i 1 = i + 1 := ji_add_eq ⟨by omega, by omega⟩
  have b1 : 0 ≤ i + 1 := by omega
  have d1 : i + 1 < X.1 := by omega
  have a2 : ji_add i 2 = i + 2 := ji_add_eq ⟨by omega, by omega⟩
  have b2 : 0 ≤ i + 2 := by omega
  have d2 : i + 2 < X.1 := by omega
  unfold LS2 at hst
  simp only [w335_1505, w335_1506, w335_1507, w335_1508, w335_1509, w335_1510, w335_1511, w335_1512, w335_1513, w335_1514, w335_1515, w335_1516, a1, b1, d1, a2, b2, d2, ↓reduceIte, ne_eq, Int.reduceEq, Int.reduceLE, Int.reduceLT, not_false_eq_true, not_true_eq_false, false_and, and_false, true_and, and_true, and_self, mj_tl_some, mj_tl_none, mj_cs0, mj_cs1, mj_cs2, mj_cs3, mj_cs4]
  refine wc.mono hst ?_
  intro r1 M1 h1
  obtain ⟨x, rfl⟩ := LS2.x (kc := 0) h1
  simp only [w335_1519, w335_1520, w335_1521, w335_1522, w335_1523, w335_1524, w335_1525, w335_1526, w335_1527, w335_1528, w335_1529, w335_1530, a1, b1, d1, a2, b2, d2, ↓reduceIte, ne_eq, Int.reduceEq, Int.reduceLE, Int.reduceLT, not_false_eq_true, not_true_eq_false, false_and, and_false, true_and, and_true, and_self, mj_tl_some, mj_tl_none, mj_cs0, mj_cs1, mj_cs2, mj_cs3, mj_cs4]
  refine wc.mono h1 ?_
  rintro r2 M2 ⟨x', e1, rfl, hP⟩
  cases e1
  simp only [w335_1533, ↓reduceIte, ne_eq, Int.reduceEq, Int.reduceLE, Int.reduceLT, not_false_eq_true, not_true_eq_false, false_and, and_false, true_and, and_true, and_self, mj_tl_some, mj_tl_none, mj_cs0, mj_cs1, mj_cs2, mj_cs3, mj_cs4]
  exact kk M2 hP
theorem lw_c39 {i : Int} {P : mj_M → Prop} (hi : 0 ≤ i) (hi2 : i + 5 < X.1) (hX : X.1 ≤ 100000) (hst : LS2 X D 172 331 0 [] M P) (kk : ∀ M2, P M2 → wp X (D + 1) 335 1662 [(8, 0), (31, 1), (32, 354), (0, i)] [] M2 Q) : wp X (D + 1) 335 1538 [(8, 0), (31, 1), (32, 354), (0, i)] [] M Q := by
  unfold LS2 at hst
  simp only [w335_1538, w335_1539, ↓reduceIte, ne_eq, Int.reduceEq, Int.reduceLE, Int.reduceLT, not_false_eq_true, not_true_eq_false, false_and, and_false, true_and, and_true, and_self, mj_tl_some, mj_tl_none, mj_cs0, mj_cs1, mj_cs2, mj_cs3, mj_cs4]
  refine wc.mono hst ?_
  intro r1 M1 h1
  obtain ⟨x, rfl⟩ := LS2.x (kc := 0) h1
  simp only [w335_1542, w335_1543, ↓reduceIte, ne_eq, Int.reduceEq, Int.reduceLE, Int.reduceLT, not_false_eq_true, not_true_eq_false, false_and, and_false, true_and, and_true, and_self, mj_tl_some, mj_tl_none, mj_cs0, mj_cs1, mj_cs2, mj_cs3, mj_cs4]
  refine wc.mono h1 ?_
  rintro r2 M2 ⟨x', e1, rfl, hP⟩
  cases e1
  simp only [w335_1546, ↓reduceIte, ne_eq, Int.reduceEq, Int.reduceLE, Int.reduceLT, not_false_eq_true, not_true_eq_false, false_and, and_false, true_and, and_true, and_self, mj_tl_some, mj_tl_none, mj_cs0, mj_cs1, mj_cs2, mj_cs3, mj_cs4]
  exact kk M2 hP
theorem lw_c40 {i : Int} {P : mj_M → Prop} (hi : 0 ≤ i) (hi2 : i + 5 < X.1) (hX : X.1 ≤ 100000) (hst : LS2 X D 175 304 0 [] M P) (kk : ∀ M2, P M2 → wp X (D + 1) 335 1662 [(8, 0), (31, 1), (32, 354), (0, i)] [] M2 Q) : wp X (D + 1) 335 1551 [(8, 0), (31, 1), (32, 354), (0, i)] [] M Q := by
  unfold LS2 at hst
  simp only [w335_1551, w335_1552, ↓reduceIte, ne_eq, Int.reduceEq, Int.reduceLE, Int.reduceLT, not_false_eq_true, not_true_eq_false, false_and, and_false, true_and, and_true, and_self, mj_tl_some, mj_tl_none, mj_cs0, mj_cs1, mj_cs2, mj_cs3, mj_cs4]
  refine wc.mono hst ?_
  intro r1 M1 h1
  obtain ⟨x, rfl⟩ := LS2.x (kc := 0) h1
  simp only [w335_1555, w335_1556, ↓reduceIte, ne_eq, Int.reduceEq, Int.reduceLE, Int.reduceLT, not_false_eq_true, not_true_eq_false, false_and, and_false, true_and, and_true, and_self, mj_tl_some, mj_tl_none, mj_cs0, mj_cs1, mj_cs2, mj_cs3, mj_cs4]
  refine wc.mono h1 ?_
  rintro r2 M2 ⟨x', e1, rfl, hP⟩
  cases e1
  simp only [w335_1559, ↓reduceIte, ne_eq, Int.reduceEq, Int.reduceLE, Int.reduceLT, not_false_eq_true, not_true_eq_false, false_and, and_false, true_and, and_true, and_self, mj_tl_some, mj_tl_none, mj_cs0, mj_cs1, mj_cs2, mj_cs3, mj_cs4]
  exact kk M2 hP
theorem lw_c41 {i : Int} {P : mj_M → Prop} (hi : 0 ≤ i) (hi2 : i + 5 < X.1) (hX : X.1 ≤ 100000) (hst : LS2 X D 177 305 0 [] M P) (kk : ∀ M2, P M2 → wp X (D + 1) 335 1662 [(8, 0), (31, 1), (32, 354), (0, i)] [] M2 Q) : wp X (D + 1) 335 1564 [(8, 0), (31, 1), (32, 354), (0, i)] [] M Q := by
  unfold LS2 at hst
  simp only [w335_1564, w335_1565, ↓reduceIte, ne_eq, Int.reduceEq, Int.reduceLE, Int.reduceLT, not_false_eq_true, not_true_eq_false, false_and, and_false, true_and, and_true, and_self, mj_tl_some, mj_tl_none, mj_cs0, mj_cs1, mj_cs2, mj_cs3, mj_cs4]
  refine wc.mono hst ?_
  intro r1 M1 h1
  obtain ⟨x, rfl⟩ := LS2.x (kc := 0) h1
  simp only [w335_1568, w335_1569, ↓reduceIte, ne_eq, Int.reduceEq, Int.reduceLE, Int.reduceLT, not_false_eq_true, not_true_eq_false, false_and, and_false, true_and, and_true, and_self, mj_tl_some, mj_tl_none, mj_cs0, mj_cs1, mj_cs2, mj_cs3, mj_cs4]
  refine wc.mono h1 ?_
  rintro r2 M2 ⟨x', e1, rfl, hP⟩
  cases e1
  simp only [w335_1572, ↓reduceIte, ne_eq, Int.reduceEq, Int.reduceLE, Int.reduceLT, not_false_eq_true, not_true_eq_false, false_and, and_false, true_and, and_true, and_self, mj_tl_some, mj_tl_none, mj_cs0, mj_cs1, mj_cs2, mj_cs3, mj_cs4]
  exact kk M2 hP
theorem lw_c42 {i : Int} {P : mj_M → Prop} (hi : 0 ≤ i) (hi2 : i + 5 < X.1) (hX : X.1 ≤ 100000) (hst : LS2 X D 179 306 0 [] M P) (kk : ∀ M2, P M2 → wp X (D + 1) 335 1662 [(8, 0), (31, 1), (32, 354), (0, i)] [] M2 Q) : wp X (D + 1) 335 1577 [(8, 0), (31, 1), (32, 354), (0, i)] [] M Q := by
  unfold LS2 at hst
  simp only [w335_1577, w335_1578, ↓reduceIte, ne_eq, Int.reduceEq, Int.reduceLE, Int.reduceLT, not_false_eq_true, not_true_eq_false, false_and, and_false, true_and, and_true, and_self, mj_tl_some, mj_tl_none, mj_cs0, mj_cs1, mj_cs2, mj_cs3, mj_cs4]
  refine wc.mono hst ?_
  intro r1 M1 h1
  obtain ⟨x, rfl⟩ := LS2.x (kc := 0) h1
  simp only [w335_1581, w335_1582, ↓reduceIte, ne_eq, Int.reduceEq, Int.reduceLE, Int.reduceLT, not_false_eq_true, not_true_eq_false, false_and, and_false, true_and, and_true, and_self, mj_tl_some, mj_tl_none, mj_cs0, mj_cs1, mj_cs2, mj_cs3, mj_cs4]
  refine wc.mono h1 ?_
  rintro r2 M2 ⟨x', e1, rfl, hP⟩
  cases e1
  simp only [w335_1585, ↓reduceIte, ne_eq, Int.reduceEq, Int.reduceLE, Int.reduceLT, not_false_eq_true, not_true_eq_false, false_and, and_false, true_and, and_true, and_self, mj_tl_some, mj_tl_none, mj_cs0, mj_cs1, mj_cs2, mj_cs3, mj_cs4]
  exact kk M2 hP
theorem lw_c43 {i : Int} {P : mj_M → Prop} (hi : 0 ≤ i) (hi2 : i + 5 < X.1) (hX : X.1 ≤ 100000) (hst : LS2 X D 181 303 0 [(0, X.2 (i + 1))] M P) (kk : ∀ M2, P M2 → wp X (D + 1) 335 1662 [(8, 0), (31, 1), (32, 354), (0, i)] [] M2 Q) : wp X (D + 1) 335 1590 [(8, 0), (31, 1), (32, 354), (0, i)] [] M Q := by
  have a1 : ji_add i 1 = i + 1 := ji_add_eq ⟨by omega, by omega⟩
  have b1 : 0 ≤ i + 1 := by omega
  have d1 : i + 1 < X.1 := by omega
  unfold LS2 at hst
  simp only [w335_1590, w335_1591, w335_1592, w335_1593, w335_1594, w335_1595, w335_1596, a1, b1, d1, ↓reduceIte, ne_eq, Int.reduceEq, Int.reduceLE, Int.reduceLT, not_false_eq_true, not_true_eq_false, false_and, and_false, true_and, and_true, and_self, mj_tl_some, mj_tl_none, mj_cs0, mj_cs1, mj_cs2, mj_cs3, mj_cs4]
  refine wc.mono hst ?_
  intro r1 M1 h1
  obtain ⟨x, rfl⟩ := LS2.x (kc := 0) h1
  simp only [w335_1599, w335_1600, w335_1601, w335_1602, w335_1603, w335_1604, w335_1605, a1, b1, d1, ↓reduceIte, ne_eq, Int.reduceEq, Int.reduceLE, Int.reduceLT, not_false_eq_true, not_true_eq_false, false_and, and_false, true_and, and_true, and_self, mj_tl_some, mj_tl_none, mj_cs0, mj_cs1, mj_cs2, mj_cs3, mj_cs4]
  refine wc.mono h1 ?_
  rintro r2 M2 ⟨x', e1, rfl, hP⟩
  cases e1
  simp only [w335_1608, ↓reduceIte, ne_eq, Int.reduceEq, Int.reduceLE, Int.reduceLT, not_false_eq_true, not_true_eq_false, false_and, and_false, true_and, and_true, and_self, mj_tl_some, mj_tl_none, mj_cs0, mj_cs1, mj_cs2, mj_cs3, mj_cs4]
  exact kk M2 hP
theorem lw_c44 {i : Int} {P : mj_M → Prop} (hi : 0 ≤ i) (hi2 : i + 5 < X.1) (hX : X.1 ≤ 100000) (hst : LS2 X D 183 332 0 [] M P) (kk : ∀ M2, P M2 → wp X (D + 1) 335 1662 [(8, 0), (31, 1), (32, 354), (0, i)] [] M2 Q) : wp X (D + 1) 335 1613 [(8, 0), (31, 1), (32, 354), (0, i)] [] M Q := by
  unfold LS2 at hst
  simp only [w335_1613, w335_1614, ↓reduceIte, ne_eq, Int.reduceEq, Int.reduceLE, Int.reduceLT, not_false_eq_true, not_true_eq_false, false_and, and_false, true_and, and_true, and_self, mj_tl_some, mj_tl_none, mj_cs0, mj_cs1, mj_cs2, mj_cs3, mj_cs4]
  refine wc.mono hst ?_
  intro r1 M1 h1
  obtain ⟨x, rfl⟩ := LS2.x (kc := 0) h1
  simp only [w335_1617, w335_1618, ↓reduceIte, ne_eq, Int.reduceEq, Int.reduceLE, Int.reduceLT, not_false_eq_true, not_true_eq_false, false_and, and_false, true_and, and_true, and_self, mj_tl_some, mj_tl_none, mj_cs0, mj_cs1, mj_cs2, mj_cs3, mj_cs4]
  refine wc.mono h1 ?_
  rintro r2 M2 ⟨x', e1, rfl, hP⟩
  cases e1
  simp only [w335_1621, ↓reduceIte, ne_eq, Int.reduceEq, Int.reduceLE, Int.reduceLT, not_false_eq_true, not_true_eq_false, false_and, and_false, true_and, and_true, and_self, mj_tl_some, mj_tl_none, mj_cs0, mj_cs1, mj_cs2, mj_cs3, mj_cs4]
  exact kk M2 hP
theorem lw_c45 {i : Int} {P : mj_M → Prop} (hi : 0 ≤ i) (hi2 : i + 5 < X.1) (hX : X.1 ≤ 100000) (hst : LS2 X D 187 333 0 [] M P) (kk : ∀ M2, P M2 → wp X (D + 1) 335 1662 [(8, 0), (31, 1), (32, 354), (0, i)] [] M2 Q) : wp X (D + 1) 335 1626 [(8, 0), (31, 1), (32, 354), (0, i)] [] M Q := by
  unfold LS2 at hst
  simp only [w335_1626, w335_1627, ↓reduceIte, ne_eq, Int.reduceEq, Int.reduceLE, Int.reduceLT, not_false_eq_true, not_true_eq_false, false_and, and_false, true_and, and_true, and_self, mj_tl_some, mj_tl_none, mj_cs0, mj_cs1, mj_cs2, mj_cs3, mj_cs4]
  refine wc.mono hst ?_
  intro r1 M1 h1
  obtain ⟨x, rfl⟩ := LS2.x (kc := 0) h1
  simp only [w335_1630, w335_1631, ↓reduceIte, ne_eq, Int.reduceEq, Int.reduceLE, Int.reduceLT, not_false_eq_true, not_true_eq_false, false_and, and_false, true_and, and_true, and_self, mj_tl_some, mj_tl_none, mj_cs0, mj_cs1, mj_cs2, mj_cs3, mj_cs4]
  refine wc.mono h1 ?_
  rintro r2 M2 ⟨x', e1, rfl, hP⟩
  cases e1
  simp only [w335_1634, ↓reduceIte, ne_eq, Int.reduceEq, Int.reduceLE, Int.reduceLT, not_false_eq_true, not_true_eq_false, false_and, and_false, true_and, and_true, and_self, mj_tl_some, mj_tl_none, mj_cs0, mj_cs1, mj_cs2, mj_cs3, mj_cs4]
  exact kk M2 hP
theorem lw_c46 {i : Int} {P : mj_M → Prop} (hi : 0 ≤ i) (hi2 : i + 5 < X.1) (hX : X.1 ≤ 100000) (hst : LS2 X D 188 334 0 [(0, X.2 (i + 1))] M P) (kk : ∀ M2, P M2 → wp X (D + 1) 335 1662 [(8, 0), (31, 1), (32, 354), (0, i)] [] M2 Q) : wp X (D + 1) 335 1639 [(8, 0), (31, 1), (32, 354), (0, i)] [] M Q := by
  have a1 : ji_add i 1 = i + 1 := ji_add_eq ⟨by omega, by omega⟩
  have b1 : 0 ≤ i + 1 := by omega
  have d1 : i + 1 < X.1 := by omega
  unfold LS2 at hst
  simp only [w335_1639, w335_1640, w335_1641, w335_1642, w335_1643, w335_1644, w335_1645, a1, b1, d1, ↓reduceIte, ne_eq, Int.reduceEq, Int.reduceLE, Int.reduceLT, not_false_eq_true, not_true_eq_false, false_and, and_false, true_and, and_true, and_self, mj_tl_some, mj_tl_none, mj_cs0, mj_cs1, mj_cs2, mj_cs3, mj_cs4]
  refine wc.mono hst ?_
  intro r1 M1 h1
  obtain ⟨x, rfl⟩ := LS2.x (kc := 0) h1
  simp only [w335_1648, w335_1649, w335_1650, w335_1651, w335_1652, w335_1653, w335_1654, a1, b1, d1, ↓reduceIte, ne_eq, Int.reduceEq, Int.reduceLE, Int.reduceLT, not_false_eq_true, not_true_eq_false, false_and, and_false, true_and, and_true, and_self, mj_tl_some, mj_tl_none, mj_cs0, mj_cs1, mj_cs2, mj_cs3, mj_cs4]
  refine wc.mono h1 ?_
  rintro r2 M2 ⟨x', e1, rfl, hP⟩
  cases e1
  simp only [w335_1657, ↓reduceIte, ne_eq, Int.reduceEq, Int.reduceLE, Int.reduceLT, not_false_eq_true, not_true_eq_false, false_and, and_false, true_and, and_true, and_self, mj_tl_some, mj_tl_none, mj_cs0, mj_cs1, mj_cs2, mj_cs3, mj_cs4]
  exact kk M2 hP
end LawLoop
