/-! THE CLAIM OUT OF A RELATION THAT EACH CALL KEEPS -/
/-- behind a call: the relation, and little room taken -/
def Pst (R : mj_M → Prop) (M M2 : mj_M) : Prop := R M2 ∧ M2.1 ≤ M.1 + 3 ∧ M2.2.1 ≤ M.2.1 + 500
/-- call 0: form -/
def St0 (R : mj_M → Prop) (D : Nat) : Prop := ∀ (X : mj_X) (M : mj_M) (a1 : Int) (a2 : Int), R M → mj_in32 a1 → mj_in32 a2 → LS2 X D 13 198 0 [(0, a1), (0, a2)] M (Pst R M)
/-- call 1: person -/
def St1 (R : mj_M → Prop) (D : Nat) : Prop := ∀ (X : mj_X) (M : mj_M) (a1 : Int) (a2 : Int), R M → mj_in32 a1 → mj_in32 a2 → LS2 X D 15 199 0 [(0, a1), (0, a2)] M (Pst R M)
/-- call 2: story -/
def St2 (R : mj_M → Prop) (D : Nat) : Prop := ∀ (X : mj_X) (M : mj_M) (a1 : Int), R M → mj_in32 a1 → LS2 X D 19 204 0 [(0, a1)] M (Pst R M)
/-- call 3: feed -/
def St3 (R : mj_M → Prop) (D : Nat) : Prop := ∀ (X : mj_X) (M : mj_M) (a1 : Int) (a2 : Int) (a3 : Int) (a4 : Int) (a5 : Int), R M → mj_in32 a1 → mj_in32 a2 → mj_in32 a3 → mj_in32 a4 → mj_in32 a5 → LS2 X D 22 205 0 [(0, a1), (0, a2), (0, a3), (0, a4), (0, a5)] M (Pst R M)
/-- call 4: end -/
def St4 (R : mj_M → Prop) (D : Nat) : Prop := ∀ (X : mj_X) (M : mj_M) (a1 : Int), R M → mj_in32 a1 → LS2 X D 24 207 0 [(0, a1)] M (Pst R M)
/-- call 5: text -/
def St5 (R : mj_M → Prop) (D : Nat) : Prop := ∀ (X : mj_X) (M : mj_M), R M → LS2 X D 25 208 0 [] M (Pst R M)
/-- call 6: fault -/
def St6 (R : mj_M → Prop) (D : Nat) : Prop := ∀ (X : mj_X) (M : mj_M) (a1 : Int), R M → mj_in32 a1 → LS2 X D 71 244 0 [(0, a1)] M (Pst R M)
/-- call 7: by -/
def St7 (R : mj_M → Prop) (D : Nat) : Prop := ∀ (X : mj_X) (M : mj_M) (a1 : Int), R M → mj_in32 a1 → LS2 X D 72 245 0 [(0, a1)] M (Pst R M)
/-- call 8: teach -/
def St8 (R : mj_M → Prop) (D : Nat) : Prop := ∀ (X : mj_X) (M : mj_M) (a1 : Int) (a2 : Int) (a3 : Int), R M → mj_in32 a1 → mj_in32 a2 → mj_in32 a3 → LS2 X D 74 259 0 [(0, a1), (0, a2), (0, a3)] M (Pst R M)
/-- call 9: forget -/
def St9 (R : mj_M → Prop) (D : Nat) : Prop := ∀ (X : mj_X) (M : mj_M) (a1 : Int) (a2 : Int), R M → mj_in32 a1 → mj_in32 a2 → LS2 X D 92 279 0 [(0, a1), (0, a2)] M (Pst R M)
/-- call 10: tell -/
def St10 (R : mj_M → Prop) (D : Nat) : Prop := ∀ (X : mj_X) (M : mj_M) (a1 : Int) (a2 : Int), R M → mj_in32 a1 → mj_in32 a2 → LS2 X D 94 282 0 [(0, a1), (0, a2)] M (Pst R M)
/-- call 11: year -/
def St11 (R : mj_M → Prop) (D : Nat) : Prop := ∀ (X : mj_X) (M : mj_M) (a1 : Int), R M → mj_in32 a1 → LS2 X D 103 286 0 [(0, a1)] M (Pst R M)
/-- call 12: played -/
def St12 (R : mj_M → Prop) (D : Nat) : Prop := ∀ (X : mj_X) (M : mj_M) (a1 : Int), R M → mj_in32 a1 → LS2 X D 108 292 0 [(0, a1)] M (Pst R M)
/-- call 13: ages -/
def St13 (R : mj_M → Prop) (D : Nat) : Prop := ∀ (X : mj_X) (M : mj_M) (a1 : Int) (a2 : Int), R M → mj_in32 a1 → mj_in32 a2 → LS2 X D 111 294 0 [(0, a1), (0, a2)] M (Pst R M)
/-- call 14: undo -/
def St14 (R : mj_M → Prop) (D : Nat) : Prop := ∀ (X : mj_X) (M : mj_M), R M → LS2 X D 113 258 0 [] M (Pst R M)
/-- call 15: of -/
def St15 (R : mj_M → Prop) (D : Nat) : Prop := ∀ (X : mj_X) (M : mj_M) (a1 : Int) (a2 : Int), R M → mj_in32 a1 → mj_in32 a2 → LS2 X D 115 296 0 [(0, a1), (0, a2)] M (Pst R M)
/-- call 16: ofForm -/
def St16 (R : mj_M → Prop) (D : Nat) : Prop := ∀ (X : mj_X) (M : mj_M) (a1 : Int) (a2 : Int), R M → mj_in32 a1 → mj_in32 a2 → LS2 X D 120 297 0 [(0, a1), (0, a2)] M (Pst R M)
/-- call 17: law -/
def St17 (R : mj_M → Prop) (D : Nat) : Prop := ∀ (X : mj_X) (M : mj_M) (a1 : Int) (a2 : Int) (b3 : Int), R M → mj_in32 a1 → mj_in32 a2 → (b3 = 0 ∨ b3 = 1) → LS2 X D 121 298 0 [(0, a1), (0, a2), (0, b3)] M (Pst R M)
/-- call 18: is -/
def St18 (R : mj_M → Prop) (D : Nat) : Prop := ∀ (X : mj_X) (M : mj_M) (a1 : Int), R M → mj_in32 a1 → LS2 X D 122 299 0 [(0, a1)] M (Pst R M)
/-- call 19: book -/
def St19 (R : mj_M → Prop) (D : Nat) : Prop := ∀ (X : mj_X) (M : mj_M) (a1 : Int) (a2 : Int), R M → mj_in32 a1 → mj_in32 a2 → LS2 X D 124 301 0 [(0, a1), (0, a2)] M (Pst R M)
/-- call 20: foretold -/
def St20 (R : mj_M → Prop) (D : Nat) : Prop := ∀ (X : mj_X) (M : mj_M) (a1 : Int) (a2 : Int) (a3 : Int), R M → mj_in32 a1 → mj_in32 a2 → mj_in32 a3 → LS2 X D 126 307 0 [(0, a1), (0, a2), (0, a3)] M (Pst R M)
/-- call 21: order -/
def St21 (R : mj_M → Prop) (D : Nat) : Prop := ∀ (X : mj_X) (M : mj_M) (a1 : Int) (a2 : Int), R M → mj_in32 a1 → mj_in32 a2 → LS2 X D 128 308 0 [(0, a1), (0, a2)] M (Pst R M)
/-- call 22: number -/
def St22 (R : mj_M → Prop) (D : Nat) : Prop := ∀ (X : mj_X) (M : mj_M) (a1 : Int) (a2 : Int) (a3 : Int) (a4 : Int) (a5 : Int), R M → mj_in32 a1 → mj_in32 a2 → mj_in32 a3 → mj_in32 a4 → mj_in32 a5 → LS2 X D 130 309 0 [(0, a1), (0, a2), (0, a3), (0, a4), (0, a5)] M (Pst R M)
/-- call 23: holds -/
def St23 (R : mj_M → Prop) (D : Nat) : Prop := ∀ (X : mj_X) (M : mj_M) (a1 : Int) (a2 : Int) (a3 : Int) (a4 : Int), R M → mj_in32 a1 → mj_in32 a2 → mj_in32 a3 → mj_in32 a4 → LS2 X D 132 311 0 [(0, a1), (0, a2), (0, a3), (0, a4)] M (Pst R M)
/-- call 24: say -/
def St24 (R : mj_M → Prop) (D : Nat) : Prop := ∀ (X : mj_X) (M : mj_M) (a1 : Int) (a2 : Int) (a3 : Int), R M → mj_in32 a1 → mj_in32 a2 → mj_in32 a3 → LS2 X D 137 312 0 [(0, a1), (0, a2), (0, a3)] M (Pst R M)
/-- call 25: could -/
def St25 (R : mj_M → Prop) (D : Nat) : Prop := ∀ (X : mj_X) (M : mj_M) (a1 : Int), R M → mj_in32 a1 → LS2 X D 140 313 0 [(0, a1)] M (Pst R M)
/-- call 26: likely -/
def St26 (R : mj_M → Prop) (D : Nat) : Prop := ∀ (X : mj_X) (M : mj_M) (a1 : Int) (a2 : Int) (b3 : Int), R M → mj_in32 a1 → mj_in32 a2 → (b3 = 0 ∨ b3 = 1) → LS2 X D 144 315 0 [(0, a1), (0, a2), (0, b3)] M (Pst R M)
/-- call 27: sure -/
def St27 (R : mj_M → Prop) (D : Nat) : Prop := ∀ (X : mj_X) (M : mj_M) (a1 : Int), R M → mj_in32 a1 → LS2 X D 148 318 0 [(0, a1)] M (Pst R M)
/-- call 28: ask -/
def St28 (R : mj_M → Prop) (D : Nat) : Prop := ∀ (X : mj_X) (M : mj_M), R M → LS2 X D 150 319 0 [] M (Pst R M)
/-- call 29: least -/
def St29 (R : mj_M → Prop) (D : Nat) : Prop := ∀ (X : mj_X) (M : mj_M) (a1 : Int) (a2 : Int) (b3 : Int), R M → mj_in32 a1 → mj_in32 a2 → (b3 = 0 ∨ b3 = 1) → LS2 X D 152 246 0 [(0, a1), (0, a2), (0, b3)] M (Pst R M)
/-- call 30: blurred -/
def St30 (R : mj_M → Prop) (D : Nat) : Prop := ∀ (X : mj_X) (M : mj_M) (a1 : Int) (a2 : Int), R M → mj_in32 a1 → mj_in32 a2 → LS2 X D 154 257 0 [(0, a1), (0, a2)] M (Pst R M)
/-- call 31: cover -/
def St31 (R : mj_M → Prop) (D : Nat) : Prop := ∀ (X : mj_X) (M : mj_M) (a1 : Int), R M → mj_in32 a1 → LS2 X D 155 320 0 [(0, a1)] M (Pst R M)
/-- call 32: keep -/
def St32 (R : mj_M → Prop) (D : Nat) : Prop := ∀ (X : mj_X) (M : mj_M), R M → LS2 X D 158 322 0 [] M (Pst R M)
/-- call 33: both -/
def St33 (R : mj_M → Prop) (D : Nat) : Prop := ∀ (X : mj_X) (M : mj_M) (a1 : Int) (a2 : Int) (a3 : Int), R M → mj_in32 a1 → mj_in32 a2 → mj_in32 a3 → LS2 X D 161 324 0 [(0, a1), (0, a2), (0, a3)] M (Pst R M)
/-- call 34: apart -/
def St34 (R : mj_M → Prop) (D : Nat) : Prop := ∀ (X : mj_X) (M : mj_M) (a1 : Int) (a2 : Int), R M → mj_in32 a1 → mj_in32 a2 → LS2 X D 162 325 0 [(0, a1), (0, a2)] M (Pst R M)
/-- call 35: middle -/
def St35 (R : mj_M → Prop) (D : Nat) : Prop := ∀ (X : mj_X) (M : mj_M), R M → LS2 X D 164 327 0 [] M (Pst R M)
/-- call 36: lost -/
def St36 (R : mj_M → Prop) (D : Nat) : Prop := ∀ (X : mj_X) (M : mj_M) (a1 : Int) (a2 : Int) (b3 : Int), R M → mj_in32 a1 → mj_in32 a2 → (b3 = 0 ∨ b3 = 1) → LS2 X D 165 328 1 [(0, a1), (0, a2), (0, b3)] M (Pst R M)
/-- call 37: heirs -/
def St37 (R : mj_M → Prop) (D : Nat) : Prop := ∀ (X : mj_X) (M : mj_M) (a1 : Int), R M → mj_in32 a1 → LS2 X D 169 329 0 [(0, a1)] M (Pst R M)
/-- call 38: seen -/
def St38 (R : mj_M → Prop) (D : Nat) : Prop := ∀ (X : mj_X) (M : mj_M) (a1 : Int) (a2 : Int), R M → mj_in32 a1 → mj_in32 a2 → LS2 X D 171 330 0 [(0, a1), (0, a2)] M (Pst R M)
/-- call 39: whose -/
def St39 (R : mj_M → Prop) (D : Nat) : Prop := ∀ (X : mj_X) (M : mj_M), R M → LS2 X D 172 331 0 [] M (Pst R M)
/-- call 40: richest -/
def St40 (R : mj_M → Prop) (D : Nat) : Prop := ∀ (X : mj_X) (M : mj_M), R M → LS2 X D 175 304 0 [] M (Pst R M)
/-- call 41: rarest -/
def St41 (R : mj_M → Prop) (D : Nat) : Prop := ∀ (X : mj_X) (M : mj_M), R M → LS2 X D 177 305 0 [] M (Pst R M)
/-- call 42: silent -/
def St42 (R : mj_M → Prop) (D : Nat) : Prop := ∀ (X : mj_X) (M : mj_M), R M → LS2 X D 179 306 0 [] M (Pst R M)
/-- call 43: ledger -/
def St43 (R : mj_M → Prop) (D : Nat) : Prop := ∀ (X : mj_X) (M : mj_M) (a1 : Int), R M → mj_in32 a1 → LS2 X D 181 303 0 [(0, a1)] M (Pst R M)
/-- call 44: image -/
def St44 (R : mj_M → Prop) (D : Nat) : Prop := ∀ (X : mj_X) (M : mj_M), R M → LS2 X D 183 332 0 [] M (Pst R M)
/-- call 45: back -/
def St45 (R : mj_M → Prop) (D : Nat) : Prop := ∀ (X : mj_X) (M : mj_M), R M → LS2 X D 187 333 0 [] M (Pst R M)
/-- call 46: about -/
def St46 (R : mj_M → Prop) (D : Nat) : Prop := ∀ (X : mj_X) (M : mj_M) (a1 : Int), R M → mj_in32 a1 → LS2 X D 188 334 0 [(0, a1)] M (Pst R M)
def Steps (R : mj_M → Prop) (D : Nat) : Prop := St0 R D ∧ St1 R D ∧ St2 R D ∧ St3 R D ∧ St4 R D ∧ St5 R D ∧ St6 R D ∧ St7 R D ∧ St8 R D ∧ St9 R D ∧ St10 R D ∧ St11 R D ∧ St12 R D ∧ St13 R D ∧ St14 R D ∧ St15 R D ∧ St16 R D ∧ St17 R D ∧ St18 R D ∧ St19 R D ∧ St20 R D ∧ St21 R D ∧ St22 R D ∧ St23 R D ∧ St24 R D ∧ St25 R D ∧ St26 R D ∧ St27 R D ∧ St28 R D ∧ St29 R D ∧ St30 R D ∧ St31 R D ∧ St32 R D ∧ St33 R D ∧ St34 R D ∧ St35 R D ∧ St36 R D ∧ St37 R D ∧ St38 R D ∧ St39 R D ∧ St40 R D ∧ St41 R D ∧ St42 R D ∧ St43 R D ∧ St44 R D ∧ St45 R D ∧ St46 R D
theorem lb01 (z : Int) : lb z = 0 ∨ lb z = 1 := by
  unfold lb
  split
  · exact Or.inl rfl
  · exact Or.inr rfl
def Qend : Option mj_V → mj_M → Prop := fun r M' => r = some (0, 1) ∧ M'.1 ≤ 600000 ∧ M'.2.1 ≤ 7302250
set_option maxHeartbeats 4000000 in
theorem law_loop {R : mj_M → Prop} {D : Nat} (hs : Steps R D) {X : mj_X} (hX : X.1 ≤ 100000) (hX0 : 0 ≤ X.1) (hin : ∀ i, mj_in32 (X.2 i)) : ∀ (n : Nat) (i : Int) (M : mj_M), 0 ≤ i → i ≤ 100010 → X.1 - i < 6 * (n : Int) + 6 → R M → M.1 + 3 * n ≤ 600000 → M.2.1 + 500 * n ≤ 7302250 → wp X (D + 1) 335 18 [(8, 0), (31, 1), (32, 354), (0, i)] [] M Qend := by
  obtain ⟨t0, t1, t2, t3, t4, t5, t6, t7, t8, t9, t10, t11, t12, t13, t14, t15, t16, t17, t18, t19, t20, t21, t22, t23, t24, t25, t26, t27, t28, t29, t30, t31, t32, t33, t34, t35, t36, t37, t38, t39, t40, t41, t42, t43, t44, t45, t46⟩ := hs
  intro n
  induction n with
  | zero =>
    intro i M h0 h1 h2 hR m1 m2
    have e : ji_sub X.1 6 = X.1 - 6 := ji_sub_eq ⟨by omega, by omega⟩
    have hc : ¬ (i ≤ X.1 - 6) := by omega
    simp only [w335_18, w335_19, w335_20, w335_21, w335_23, w335_24, w335_1668, w335_1669_i, w335_1669_0, w335_1669_1, e, hc, ↓reduceIte, ne_eq, Int.reduceEq, Int.reduceLE, Int.reduceLT, not_false_eq_true, not_true_eq_false, false_and, and_false, true_and, and_true, and_self, mj_tl_some, mj_tl_none, mj_cs0, mj_cs1, mj_cs2, mj_cs3, mj_cs4]
    exact ⟨rfl, by omega, by omega⟩
  | succ n ih =>
    intro i M h0 h1 h2 hR m1 m2
    have e : ji_sub X.1 6 = X.1 - 6 := ji_sub_eq ⟨by omega, by omega⟩
    by_cases hc : i ≤ X.1 - 6
    · have hlt : i < X.1 := by omega
      have hi2 : i + 5 < X.1 := by omega
      have e6 : ji_add i 6 = i + 6 := ji_add_eq ⟨by omega, by omega⟩
      have kk : ∀ M2, Pst R M M2 → wp X (D + 1) 335 1662 [(8, 0), (31, 1), (32, 354), (0, i)] [] M2 Qend := by
        rintro M2 ⟨p1, p2, p3⟩
        rw [w335_1662, w335_1665, e6]
        exact ih (i + 6) M2 (by omega) (by omega) (by omega) p1 (by omega) (by omega)
      rw [w335_18, w335_19, w335_20, w335_21, w335_23, w335_24, e, if_pos hc, w335_27, w335_28, w335_29]
      refine ⟨⟨h0, hlt⟩, ?_⟩
      rw [w335_30, w335_32, w335_33]
      by_cases q0 : ji_and (X.2 i) 63 = 0
      · rw [if_pos q0]
        exact lw_c0 h0 hi2 hX (t0 X M (X.2 (i + 1)) (X.2 (i + 2)) hR (hin _) (hin _)) kk
      rw [if_neg q0]
      by_cases q1 : ji_and (X.2 i) 63 = 1
      · rw [if_pos q1]
        exact lw_c1 h0 hi2 hX (t1 X M (X.2 (i + 1)) (X.2 (i + 2)) hR (hin _) (hin _)) kk
      rw [if_neg q1]
      by_cases q2 : ji_and (X.2 i) 63 = 2
      · rw [if_pos q2]
        exact lw_c2 h0 hi2 hX (t2 X M (X.2 (i + 1)) hR (hin _)) kk
      rw [if_neg q2]
      by_cases q3 : ji_and (X.2 i) 63 = 3
      · rw [if_pos q3]
        exact lw_c3 h0 hi2 hX (t3 X M (X.2 (i + 1)) (X.2 (i + 2)) (X.2 (i + 3)) (X.2 (i + 4)) (X.2 (i + 5)) hR (hin _) (hin _) (hin _) (hin _) (hin _)) kk
      rw [if_neg q3]
      by_cases q4 : ji_and (X.2 i) 63 = 4
      · rw [if_pos q4]
        exact lw_c4 h0 hi2 hX (t4 X M (X.2 (i + 1)) hR (hin _)) kk
      rw [if_neg q4]
      by_cases q5 : ji_and (X.2 i) 63 = 5
      · rw [if_pos q5]
        exact lw_c5 h0 hi2 hX (t5 X M  hR ) kk
      rw [if_neg q5]
      by_cases q6 : ji_and (X.2 i) 63 = 6
      · rw [if_pos q6]
        exact lw_c6 h0 hi2 hX (t6 X M (X.2 (i + 1)) hR (hin _)) kk
      rw [if_neg q6]
      by_cases q7 : ji_and (X.2 i) 63 = 7
      · rw [if_pos q7]
        exact lw_c7 h0 hi2 hX (t7 X M (X.2 (i + 1)) hR (hin _)) kk
      rw [if_neg q7]
      by_cases q8 : ji_and (X.2 i) 63 = 8
      · rw [if_pos q8]
        exact lw_c8 h0 hi2 hX (t8 X M (X.2 (i + 1)) (X.2 (i + 2)) (X.2 (i + 3)) hR (hin _) (hin _) (hin _)) kk
      rw [if_neg q8]
      by_cases q9 : ji_and (X.2 i) 63 = 9
      · rw [if_pos q9]
        exact lw_c9 h0 hi2 hX (t9 X M (X.2 (i + 1)) (X.2 (i + 2)) hR (hin _) (hin _)) kk
      rw [if_neg q9]
      by_cases q10 : ji_and (X.2 i) 63 = 10
      · rw [if_pos q10]
        exact lw_c10 h0 hi2 hX (t10 X M (X.2 (i + 1)) (X.2 (i + 2)) hR (hin _) (hin _)) kk
      rw [if_neg q10]
      by_cases q11 : ji_and (X.2 i) 63 = 11
      · rw [if_pos q11]
        exact lw_c11 h0 hi2 hX (t11 X M (X.2 (i + 1)) hR (hin _)) kk
      rw [if_neg q11]
      by_cases q12 : ji_and (X.2 i) 63 = 12
      · rw [if_pos q12]
        exact lw_c12 h0 hi2 hX (t12 X M (X.2 (i + 1)) hR (hin _)) kk
      rw [if_neg q12]
      by_cases q13 : ji_and (X.2 i) 63 = 13
      · rw [if_pos q13]
        exact lw_c13 h0 hi2 hX (t13 X M (X.2 (i + 1)) (X.2 (i + 2)) hR (hin _) (hin _)) kk
      rw [if_neg q13]
      by_cases q14 : ji_and (X.2 i) 63 = 14
      · rw [if_pos q14]
        exact lw_c14 h0 hi2 hX (t14 X M  hR ) kk
      rw [if_neg q14]
      by_cases q15 : ji_and (X.2 i) 63 = 15
      · rw [if_pos q15]
        exact lw_c15 h0 hi2 hX (t15 X M (X.2 (i + 1)) (X.2 (i + 2)) hR (hin _) (hin _)) kk
      rw [if_neg q15]
      by_cases q16 : ji_and (X.2 i) 63 = 16
      · rw [if_pos q16]
        exact lw_c16 h0 hi2 hX (t16 X M (X.2 (i + 1)) (X.2 (i + 2)) hR (hin _) (hin _)) kk
      rw [if_neg q16]
      by_cases q17 : ji_and (X.2 i) 63 = 17
      · rw [if_pos q17]
        exact lw_c17 h0 hi2 hX (t17 X M (X.2 (i + 1)) (X.2 (i + 2)) (lb (X.2 (i + 3))) hR (hin _) (hin _) (lb01 _)) kk
      rw [if_neg q17]
      by_cases q18 : ji_and (X.2 i) 63 = 18
      · rw [if_pos q18]
        exact lw_c18 h0 hi2 hX (t18 X M (X.2 (i + 1)) hR (hin _)) kk
      rw [if_neg q18]
      by_cases q19 : ji_and (X.2 i) 63 = 19
      · rw [if_pos q19]
        exact lw_c19 h0 hi2 hX (t19 X M (X.2 (i + 1)) (X.2 (i + 2)) hR (hin _) (hin _)) kk
      rw [if_neg q19]
      by_cases q20 : ji_and (X.2 i) 63 = 20
      · rw [if_pos q20]
        exact lw_c20 h0 hi2 hX (t20 X M (X.2 (i + 1)) (X.2 (i + 2)) (X.2 (i + 3)) hR (hin _) (hin _) (hin _)) kk
      rw [if_neg q20]
      by_cases q21 : ji_and (X.2 i) 63 = 21
      · rw [if_pos q21]
        exact lw_c21 h0 hi2 hX (t21 X M (X.2 (i + 1)) (X.2 (i + 2)) hR (hin _) (hin _)) kk
      rw [if_neg q21]
      by_cases q22 : ji_and (X.2 i) 63 = 22
      · rw [if_pos q22]
        exact lw_c22 h0 hi2 hX (t22 X M (X.2 (i + 1)) (X.2 (i + 2)) (X.2 (i + 3)) (X.2 (i + 4)) (X.2 (i + 5)) hR (hin _) (hin _) (hin _) (hin _) (hin _)) kk
      rw [if_neg q22]
      by_cases q23 : ji_and (X.2 i) 63 = 23
      · rw [if_pos q23]
        exact lw_c23 h0 hi2 hX (t23 X M (X.2 (i + 1)) (X.2 (i + 2)) (X.2 (i + 3)) (X.2 (i + 4)) hR (hin _) (hin _) (hin _) (hin _)) kk
      rw [if_neg q23]
      by_cases q24 : ji_and (X.2 i) 63 = 24
      · rw [if_pos q24]
        exact lw_c24 h0 hi2 hX (t24 X M (X.2 (i + 1)) (X.2 (i + 2)) (X.2 (i + 3)) hR (hin _) (hin _) (hin _)) kk
      rw [if_neg q24]
      by_cases q25 : ji_and (X.2 i) 63 = 25
      · rw [if_pos q25]
        exact lw_c25 h0 hi2 hX (t25 X M (X.2 (i + 1)) hR (hin _)) kk
      rw [if_neg q25]
      by_cases q26 : ji_and (X.2 i) 63 = 26
      · rw [if_pos q26]
        exact lw_c26 h0 hi2 hX (t26 X M (X.2 (i + 1)) (X.2 (i + 2)) (lb (X.2 (i + 3))) hR (hin _) (hin _) (lb01 _)) kk
      rw [if_neg q26]
      by_cases q27 : ji_and (X.2 i) 63 = 27
      · rw [if_pos q27]
        exact lw_c27 h0 hi2 hX (t27 X M (X.2 (i + 1)) hR (hin _)) kk
      rw [if_neg q27]
      by_cases q28 : ji_and (X.2 i) 63 = 28
      · rw [if_pos q28]
        exact lw_c28 h0 hi2 hX (t28 X M  hR ) kk
      rw [if_neg q28]
      by_cases q29 : ji_and (X.2 i) 63 = 29
      · rw [if_pos q29]
        exact lw_c29 h0 hi2 hX (t29 X M (X.2 (i + 1)) (X.2 (i + 2)) (lb (X.2 (i + 3))) hR (hin _) (hin _) (lb01 _)) kk
      rw [if_neg q29]
      by_cases q30 : ji_and (X.2 i) 63 = 30
      · rw [if_pos q30]
        exact lw_c30 h0 hi2 hX (t30 X M (X.2 (i + 1)) (X.2 (i + 2)) hR (hin _) (hin _)) kk
      rw [if_neg q30]
      by_cases q31 : ji_and (X.2 i) 63 = 31
      · rw [if_pos q31]
        exact lw_c31 h0 hi2 hX (t31 X M (X.2 (i + 1)) hR (hin _)) kk
      rw [if_neg q31]
      by_cases q32 : ji_and (X.2 i) 63 = 32
      · rw [if_pos q32]
        exact lw_c32 h0 hi2 hX (t32 X M  hR ) kk
      rw [if_neg q32]
      by_cases q33 : ji_and (X.2 i) 63 = 33
      · rw [if_pos q33]
        exact lw_c33 h0 hi2 hX (t33 X M (X.2 (i + 1)) (X.2 (i + 2)) (X.2 (i + 3)) hR (hin _) (hin _) (hin _)) kk
      rw [if_neg q33]
      by_cases q34 : ji_and (X.2 i) 63 = 34
      · rw [if_pos q34]
        exact lw_c34 h0 hi2 hX (t34 X M (X.2 (i + 1)) (X.2 (i + 2)) hR (hin _) (hin _)) kk
      rw [if_neg q34]
      by_cases q35 : ji_and (X.2 i) 63 = 35
      · rw [if_pos q35]
        exact lw_c35 h0 hi2 hX (t35 X M  hR ) kk
      rw [if_neg q35]
      by_cases q36 : ji_and (X.2 i) 63 = 36
      · rw [if_pos q36]
        exact lw_c36 h0 hi2 hX (t36 X M (X.2 (i + 1)) (X.2 (i + 2)) (lb (X.2 (i + 3))) hR (hin _) (hin _) (lb01 _)) kk
      rw [if_neg q36]
      by_cases q37 : ji_and (X.2 i) 63 = 37
      · rw [if_pos q37]
        exact lw_c37 h0 hi2 hX (t37 X M (X.2 (i + 1)) hR (hin _)) kk
      rw [if_neg q37]
      by_cases q38 : ji_and (X.2 i) 63 = 38
      · rw [if_pos q38]
        exact lw_c38 h0 hi2 hX (t38 X M (X.2 (i + 1)) (X.2 (i + 2)) hR (hin _) (hin _)) kk
      rw [if_neg q38]
      by_cases q39 : ji_and (X.2 i) 63 = 39
      · rw [if_pos q39]
        exact lw_c39 h0 hi2 hX (t39 X M  hR ) kk
      rw [if_neg q39]
      by_cases q40 : ji_and (X.2 i) 63 = 40
      · rw [if_pos q40]
        exact lw_c40 h0 hi2 hX (t40 X M  hR ) kk
      rw [if_neg q40]
      by_cases q41 : ji_and (X.2 i) 63 = 41
      · rw [if_pos q41]
        exact lw_c41 h0 hi2 hX (t41 X M  hR ) kk
      rw [if_neg q41]
      by_cases q42 : ji_and (X.2 i) 63 = 42
      · rw [if_pos q42]
        exact lw_c42 h0 hi2 hX (t42 X M  hR ) kk
      rw [if_neg q42]
      by_cases q43 : ji_and (X.2 i) 63 = 43
      · rw [if_pos q43]
        exact lw_c43 h0 hi2 hX (t43 X M (X.2 (i + 1)) hR (hin _)) kk
      rw [if_neg q43]
      by_cases q44 : ji_and (X.2 i) 63 = 44
      · rw [if_pos q44]
        exact lw_c44 h0 hi2 hX (t44 X M  hR ) kk
      rw [if_neg q44]
      by_cases q45 : ji_and (X.2 i) 63 = 45
      · rw [if_pos q45]
        exact lw_c45 h0 hi2 hX (t45 X M  hR ) kk
      rw [if_neg q45]
      by_cases q46 : ji_and (X.2 i) 63 = 46
      · rw [if_pos q46]
        exact lw_c46 h0 hi2 hX (t46 X M (X.2 (i + 1)) hR (hin _)) kk
      rw [if_neg q46]
      exact kk M ⟨hR, by omega, by omega⟩
    · simp only [w335_18, w335_19, w335_20, w335_21, w335_23, w335_24, w335_1668, w335_1669_i, w335_1669_0, w335_1669_1, e, hc, ↓reduceIte, ne_eq, Int.reduceEq, Int.reduceLE, Int.reduceLT, not_false_eq_true, not_true_eq_false, false_and, and_false, true_and, and_true, and_self, mj_tl_some, mj_tl_none, mj_cs0, mj_cs1, mj_cs2, mj_cs3, mj_cs4]
      exact ⟨rfl, by omega, by omega⟩
/-- the makers: behind them the relation holds -/
def Init (R : mj_M → Prop) (D : Nat) : Prop := ∀ X : mj_X, wc X D 0 [(31, 1)] (mj_nw mj_M0 31 13 (fun _ => 0)) (fun r M1 => r = none ∧ M1.1 = 353 ∧ wc X D 189 [(32, 354)] (mj_nw M1 32 39 (fun _ => 0)) (fun r2 M2 => r2 = none ∧ R M2 ∧ M2.1 ≤ 400 ∧ M2.2.1 ≤ 30000))
theorem law_all {R : mj_M → Prop} {D : Nat} (h0 : Init R D) (hs : Steps R D) {X : mj_X} (hX : X.1 ≤ 3072) (hX0 : 0 ≤ X.1) (hin : ∀ i, mj_in32 (X.2 i)) : wp X (D + 1) 335 0 [(8, 0), (9, 0), (9, 0), (9, 0)] [] mj_M0 Qend := by
  rw [w335_0, w335_3, w335_4]
  refine ⟨⟨by decide, by decide⟩, ?_⟩
  refine wc.mono (h0 X) ?_
  rintro r M1 ⟨rfl, e1, h1⟩
  rw [mj_tl_none]
  rw [w335_7, w335_8, w335_11, w335_12, e1]
  refine ⟨⟨by decide, by decide⟩, ?_⟩
  refine wc.mono h1 ?_
  rintro r2 M2 ⟨rfl, hR, e2, e3⟩
  rw [mj_tl_none]
  rw [w335_15, w335_16, w335_17]
  exact law_loop hs (by omega) hX0 hin 520 0 M2 (by omega) (by omega) (by omega) hR (by omega) (by omega)
theorem whole_of {R : mj_M → Prop} {D : Nat} (hD : D ≤ 900) (h0 : Init R D) (hs : Steps R D) {p : Program} {e : Env} {s : State} {m : MethodId} {below : List Frame} {meth : Method} {c : Code} (l : Launch) {b L : Nat} {xs : Nat → Int32} (hL : L ≤ 3072) (C0 : lw_At p s m meth c b L xs) : W p l e room_1 s m #[Value.ref b] below meth c s.heap [] 0 0 (lw_Z below #[Value.ref b] s) (entryFrame m ([Value.ref b] : List Value).toArray 4) := by
  have h := law_all h0 hs (X := mj_Xs L xs) (by show (L : Int) ≤ 3072; omega) (by show (0 : Int) ≤ (L : Int); omega) (fun i => mj_in32_t _)
  obtain ⟨n, r, M', hx, rfl, h1, h2⟩ := h
  exact mj_whole l hL C0 hx (by omega) h1 h2
