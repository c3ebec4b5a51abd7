/-! THE TABLES ARE THE STATEMENT'S -/
def mj_vw (c : Nat) : vw_C := vwCl.getD c ("", TX0, 0)
theorem mj_lookup {α : Type} {l : List (Nat × α)} {i : Nat} {v : α} (h : l.lookup i = some v) : (i, v) ∈ l := by
  induction l with
  | nil => cases h
  | cons q t ih =>
    obtain ⟨j, w⟩ := q
    by_cases e : i = j
    · subst e
      simp only [List.lookup_cons_self] at h
      cases h
      exact List.mem_cons_self
    · have : (i == j) = false := by simp [e]
      rw [List.lookup_cons, this] at h
      exact List.mem_cons_of_mem _ (ih h)
theorem mj_getD_lt {α : Type} {l : List (List α)} {c : Nat} {q : α} (h : q ∈ l.getD c []) : c < l.length := by
  by_cases hc : c < l.length
  · exact hc
  · rw [List.getD_eq_getElem?_getD, List.getElem?_eq_none (by omega)] at h
    cases h
/-- the words that a frame holds of the tables -/
def mj_tb : List Cond := lw_tbl.filter goodWord
theorem mj_tb_in {w : Cond} (h : w ∈ tables_1) (hg : goodWord w = true) : w ∈ mj_tb := List.mem_filter.mpr ⟨List.mem_append_right _ h, hg⟩
def mj_fq (c : Nat) (q : Nat × Nat × Nat) : Cond := .fieldLink (mj_cn c) q.1 ((mj_vw q.2.1).2.1 q.2.2).1 ((mj_vw q.2.1).2.1 q.2.2).2.1 ((mj_vw q.2.1).2.1 q.2.2).2.2.1
theorem mj_fls_ok0_0 : ∀ q ∈ mj_fls.getD 0 [], q.2.1 < 13 ∧ q.2.2 < (mj_vw q.2.1).2.2 ∧ mj_fq 0 q ∈ tables_1 := by decide +kernel
theorem mj_fls_ok0_1 : ∀ q ∈ mj_fls.getD 1 [], q.2.1 < 13 ∧ q.2.2 < (mj_vw q.2.1).2.2 ∧ mj_fq 1 q ∈ tables_1 := by decide +kernel
theorem mj_fls_ok0_2 : ∀ q ∈ mj_fls.getD 2 [], q.2.1 < 13 ∧ q.2.2 < (mj_vw q.2.1).2.2 ∧ mj_fq 2 q ∈ tables_1 := by decide +kernel
theorem mj_fls_ok0_3 : ∀ q ∈ mj_fls.getD 3 [], q.2.1 < 13 ∧ q.2.2 < (mj_vw q.2.1).2.2 ∧ mj_fq 3 q ∈ tables_1 := by decide +kernel
theorem mj_fls_ok0_4 : ∀ q ∈ mj_fls.getD 4 [], q.2.1 < 13 ∧ q.2.2 < (mj_vw q.2.1).2.2 ∧ mj_fq 4 q ∈ tables_1 := by decide +kernel
theorem mj_fls_ok0_5 : ∀ q ∈ mj_fls.getD 5 [], q.2.1 < 13 ∧ q.2.2 < (mj_vw q.2.1).2.2 ∧ mj_fq 5 q ∈ tables_1 := by decide +kernel
theorem mj_fls_ok0_6 : ∀ q ∈ mj_fls.getD 6 [], q.2.1 < 13 ∧ q.2.2 < (mj_vw q.2.1).2.2 ∧ mj_fq 6 q ∈ tables_1 := by decide +kernel
theorem mj_fls_ok0_7 : ∀ q ∈ mj_fls.getD 7 [], q.2.1 < 13 ∧ q.2.2 < (mj_vw q.2.1).2.2 ∧ mj_fq 7 q ∈ tables_1 := by decide +kernel
theorem mj_fls_ok0_8 : ∀ q ∈ mj_fls.getD 8 [], q.2.1 < 13 ∧ q.2.2 < (mj_vw q.2.1).2.2 ∧ mj_fq 8 q ∈ tables_1 := by decide +kernel
theorem mj_fls_ok0_9 : ∀ q ∈ mj_fls.getD 9 [], q.2.1 < 13 ∧ q.2.2 < (mj_vw q.2.1).2.2 ∧ mj_fq 9 q ∈ tables_1 := by decide +kernel
theorem mj_fls_ok0_10 : ∀ q ∈ mj_fls.getD 10 [], q.2.1 < 13 ∧ q.2.2 < (mj_vw q.2.1).2.2 ∧ mj_fq 10 q ∈ tables_1 := by decide +kernel
theorem mj_fls_ok0_11 : ∀ q ∈ mj_fls.getD 11 [], q.2.1 < 13 ∧ q.2.2 < (mj_vw q.2.1).2.2 ∧ mj_fq 11 q ∈ tables_1 := by decide +kernel
theorem mj_fls_ok0_12 : ∀ q ∈ mj_fls.getD 12 [], q.2.1 < 13 ∧ q.2.2 < (mj_vw q.2.1).2.2 ∧ mj_fq 12 q ∈ tables_1 := by decide +kernel
theorem mj_fls_ok0_13 : ∀ q ∈ mj_fls.getD 13 [], q.2.1 < 13 ∧ q.2.2 < (mj_vw q.2.1).2.2 ∧ mj_fq 13 q ∈ tables_1 := by decide +kernel
theorem mj_fls_ok0_14 : ∀ q ∈ mj_fls.getD 14 [], q.2.1 < 13 ∧ q.2.2 < (mj_vw q.2.1).2.2 ∧ mj_fq 14 q ∈ tables_1 := by decide +kernel
theorem mj_fls_ok0_15 : ∀ q ∈ mj_fls.getD 15 [], q.2.1 < 13 ∧ q.2.2 < (mj_vw q.2.1).2.2 ∧ mj_fq 15 q ∈ tables_1 := by decide +kernel
theorem mj_fls_ok0_16 : ∀ q ∈ mj_fls.getD 16 [], q.2.1 < 13 ∧ q.2.2 < (mj_vw q.2.1).2.2 ∧ mj_fq 16 q ∈ tables_1 := by decide +kernel
theorem mj_fls_ok0_17 : ∀ q ∈ mj_fls.getD 17 [], q.2.1 < 13 ∧ q.2.2 < (mj_vw q.2.1).2.2 ∧ mj_fq 17 q ∈ tables_1 := by decide +kernel
theorem mj_fls_ok0_18 : ∀ q ∈ mj_fls.getD 18 [], q.2.1 < 13 ∧ q.2.2 < (mj_vw q.2.1).2.2 ∧ mj_fq 18 q ∈ tables_1 := by decide +kernel
theorem mj_fls_ok0_19 : ∀ q ∈ mj_fls.getD 19 [], q.2.1 < 13 ∧ q.2.2 < (mj_vw q.2.1).2.2 ∧ mj_fq 19 q ∈ tables_1 := by decide +kernel
theorem mj_fls_ok0 : ∀ c, c < 20 → ∀ q ∈ mj_fls.getD c [], q.2.1 < 13 ∧ q.2.2 < (mj_vw q.2.1).2.2 ∧ mj_fq c q ∈ tables_1 := by
  intro c hc
  have h : c = 0 ∨ c = 1 ∨ c = 2 ∨ c = 3 ∨ c = 4 ∨ c = 5 ∨ c = 6 ∨ c = 7 ∨ c = 8 ∨ c = 9 ∨ c = 10 ∨ c = 11 ∨ c = 12 ∨ c = 13 ∨ c = 14 ∨ c = 15 ∨ c = 16 ∨ c = 17 ∨ c = 18 ∨ c = 19 := by omega
  rcases h with rfl | rfl | rfl | rfl | rfl | rfl | rfl | rfl | rfl | rfl | rfl | rfl | rfl | rfl | rfl | rfl | rfl | rfl | rfl | rfl
  · exact mj_fls_ok0_0
  · exact mj_fls_ok0_1
  · exact mj_fls_ok0_2
  · exact mj_fls_ok0_3
  · exact mj_fls_ok0_4
  · exact mj_fls_ok0_5
  · exact mj_fls_ok0_6
  · exact mj_fls_ok0_7
  · exact mj_fls_ok0_8
  · exact mj_fls_ok0_9
  · exact mj_fls_ok0_10
  · exact mj_fls_ok0_11
  · exact mj_fls_ok0_12
  · exact mj_fls_ok0_13
  · exact mj_fls_ok0_14
  · exact mj_fls_ok0_15
  · exact mj_fls_ok0_16
  · exact mj_fls_ok0_17
  · exact mj_fls_ok0_18
  · exact mj_fls_ok0_19
theorem mj_vw_ok : ∀ c, c < 13 → vwCl[c]? = some (mj_vw c) := by
  intro c hc
  unfold mj_vw
  rw [List.getD_eq_getElem?_getD, List.getElem?_eq_getElem (show c < vwCl.length from hc)]
  rfl
theorem mj_fN_ok : ∀ c, c < 13 → (mj_vw c).2.2 = mj_fN c := by decide +kernel
theorem mj_uws_ok0_0 : ∀ w ∈ u_ws (mj_vw 0).1 (mj_vw 0).2.1 (mj_vw 0).2.2, w ∈ tables_1 := by decide +kernel
theorem mj_uws_ok0_1 : ∀ w ∈ u_ws (mj_vw 1).1 (mj_vw 1).2.1 (mj_vw 1).2.2, w ∈ tables_1 := by decide +kernel
theorem mj_uws_ok0_2 : ∀ w ∈ u_ws (mj_vw 2).1 (mj_vw 2).2.1 (mj_vw 2).2.2, w ∈ tables_1 := by decide +kernel
theorem mj_uws_ok0_3 : ∀ w ∈ u_ws (mj_vw 3).1 (mj_vw 3).2.1 (mj_vw 3).2.2, w ∈ tables_1 := by decide +kernel
theorem mj_uws_ok0_4 : ∀ w ∈ u_ws (mj_vw 4).1 (mj_vw 4).2.1 (mj_vw 4).2.2, w ∈ tables_1 := by decide +kernel
theorem mj_uws_ok0_5 : ∀ w ∈ u_ws (mj_vw 5).1 (mj_vw 5).2.1 (mj_vw 5).2.2, w ∈ tables_1 := by decide +kernel
theorem mj_uws_ok0_6 : ∀ w ∈ u_ws (mj_vw 6).1 (mj_vw 6).2.1 (mj_vw 6).2.2, w ∈ tables_1 := by decide +kernel
theorem mj_uws_ok0_7 : ∀ w ∈ u_ws (mj_vw 7).1 (mj_vw 7).2.1 (mj_vw 7).2.2, w ∈ tables_1 := by decide +kernel
theorem mj_uws_ok0_8 : ∀ w ∈ u_ws (mj_vw 8).1 (mj_vw 8).2.1 (mj_vw 8).2.2, w ∈ tables_1 := by decide +kernel
theorem mj_uws_ok0_9 : ∀ w ∈ u_ws (mj_vw 9).1 (mj_vw 9).2.1 (mj_vw 9).2.2, w ∈ tables_1 := by decide +kernel
theorem mj_uws_ok0_10 : ∀ w ∈ u_ws (mj_vw 10).1 (mj_vw 10).2.1 (mj_vw 10).2.2, w ∈ tables_1 := by decide +kernel
theorem mj_uws_ok0_11 : ∀ w ∈ u_ws (mj_vw 11).1 (mj_vw 11).2.1 (mj_vw 11).2.2, w ∈ tables_1 := by decide +kernel
theorem mj_uws_ok0_12 : ∀ w ∈ u_ws (mj_vw 12).1 (mj_vw 12).2.1 (mj_vw 12).2.2, w ∈ tables_1 := by decide +kernel
theorem mj_uws_ok0 : ∀ c, c < 13 → ∀ w ∈ u_ws (mj_vw c).1 (mj_vw c).2.1 (mj_vw c).2.2, w ∈ tables_1 := by
  intro c hc
  have h : c = 0 ∨ c = 1 ∨ c = 2 ∨ c = 3 ∨ c = 4 ∨ c = 5 ∨ c = 6 ∨ c = 7 ∨ c = 8 ∨ c = 9 ∨ c = 10 ∨ c = 11 ∨ c = 12 := by omega
  rcases h with rfl | rfl | rfl | rfl | rfl | rfl | rfl | rfl | rfl | rfl | rfl | rfl | rfl
  · exact mj_uws_ok0_0
  · exact mj_uws_ok0_1
  · exact mj_uws_ok0_2
  · exact mj_uws_ok0_3
  · exact mj_uws_ok0_4
  · exact mj_uws_ok0_5
  · exact mj_uws_ok0_6
  · exact mj_uws_ok0_7
  · exact mj_uws_ok0_8
  · exact mj_uws_ok0_9
  · exact mj_uws_ok0_10
  · exact mj_uws_ok0_11
  · exact mj_uws_ok0_12
theorem mj_uws_good : ∀ c, c < 13 → ∀ w ∈ u_ws (mj_vw c).1 (mj_vw c).2.1 (mj_vw c).2.2, goodWord w = true := by decide +kernel
theorem mj_uws_ok : ∀ c, c < 13 → ∀ w ∈ u_ws (mj_vw c).1 (mj_vw c).2.1 (mj_vw c).2.2, w ∈ mj_tb := fun c hc w hw => mj_tb_in (mj_uws_ok0 c hc w hw) (mj_uws_good c hc w hw)
/-- the type of a field -/
def mj_ty (c f : Nat) : FieldType := (parseFieldDescriptor ((mj_vw c).2.1 f).2.2.1).getD .int
theorem mj_ty_ok : ∀ c, c < 13 → ∀ f, f < (mj_vw c).2.2 → parseFieldDescriptor ((mj_vw c).2.1 f).2.2.1 = some (mj_ty c f) := by decide +kernel
theorem mj_nm_ok : ∀ c, c < 13 → ∀ a, a < (mj_vw c).2.2 → ∀ b, b < (mj_vw c).2.2 → a ≠ b → ((mj_vw c).2.1 a).2.1 ≠ ((mj_vw c).2.1 b).2.1 := by decide +kernel
theorem mj_own_ok : ∀ c, c < 13 → (mj_vw c).1 = mj_cn c ∧ ∀ f, f < (mj_vw c).2.2 → ((mj_vw c).2.1 f).1 = mj_cn c ∧ ((mj_vw c).2.1 f).2.2.2 = mj_fn c f := by decide +kernel
def mj_kty (kd : Nat) (ty : FieldType) : Bool := match kd with
  | 1 => decide (ty = .int)
  | 2 => decide (ty = .boolean)
  | 4 => decide (ty = .long)
  | _ => match ty with
    | .object _ => true
    | .array _ => true
    | _ => false
theorem mj_fk_ok : ∀ c, c < 13 → ∀ f, f < (mj_vw c).2.2 → mj_kty (mj_fk c f) (mj_ty c f) = true := by decide +kernel
theorem mj_fk_ft : ∀ c, c < 13 → ∀ f, f < (mj_vw c).2.2 → (mj_fk c f = 1 ∧ mj_ft c f = 0) ∨ (mj_fk c f = 2 ∧ mj_ft c f = 0) ∨ (mj_fk c f = 4 ∧ mj_ft c f = 1) ∨ (mj_fk c f = 100 + mj_ft c f ∧ ((3 ≤ mj_ft c f ∧ mj_ft c f ≤ 7) ∨ 20 ≤ mj_ft c f)) := by decide +kernel
