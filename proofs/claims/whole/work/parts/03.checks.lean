/-! THE TABLES ARE THE STATEMENT'S -/
def mj_vw (c : Nat) : vw_C := vwCl.getD c ("", TX0, 0)
theorem mj_lookup {α : Type} {l : List (Nat × α)} {i : Nat} {v : α} (h : l.lookup i = some v) : (i, v) ∈ l := by
  induction l with
  | nil => cases h
  | cons q t ih =>
    obtain ⟨j, w⟩ := q
    by_cases e : i = j
    · subst e
      simp only [List.lookup_cons_self] at h
      cases h
      exact List.mem_cons_self
    · have : (i == j) = false := by simp [e]
      rw [List.lookup_cons, this] at h
      exact List.mem_cons_of_mem _ (ih h)
theorem mj_getD_lt {α : Type} {l : List (List α)} {c : Nat} {q : α} (h : q ∈ l.getD c []) : c < l.length := by
  by_cases hc : c < l.length
  · exact hc
  · rw [List.getD_eq_getElem?_getD, List.getElem?_eq_none (by omega)] at h
    cases h
/-- the words that a frame holds of the tables -/
def mj_tb : List Cond := lw_tbl.filter goodWord
theorem mj_tb_in {w : Cond} (h : w ∈ tables_1) (hg : goodWord w = true) : w ∈ mj_tb := List.mem_filter.mpr ⟨List.mem_append_right _ h, hg⟩
def mj_fq (c : Nat) (q : Nat × Nat × Nat) : Cond := .fieldLink (mj_cn c) q.1 ((mj_vw q.2.1).2.1 q.2.2).1 ((mj_vw q.2.1).2.1 q.2.2).2.1 ((mj_vw q.2.1).2.1 q.2.2).2.2.1
theorem mj_fls_ok0 : ∀ c, c < 20 → ∀ q ∈ mj_fls.getD c [], q.2.1 < 13 ∧ q.2.2 < (mj_vw q.2.1).2.2 ∧ mj_fq c q ∈ tables_1 := by decide +kernel
theorem mj_vw_ok : ∀ c, c < 13 → vwCl[c]? = some (mj_vw c) := by
  intro c hc
  unfold mj_vw
  rw [List.getD_eq_getElem?_getD, List.getElem?_eq_getElem (show c < vwCl.length from hc)]
  rfl
theorem mj_fN_ok : ∀ c, c < 13 → (mj_vw c).2.2 = mj_fN c := by decide +kernel
theorem mj_uws_ok0 : ∀ c, c < 13 → ∀ w ∈ u_ws (mj_vw c).1 (mj_vw c).2.1 (mj_vw c).2.2, w ∈ tables_1 := by decide +kernel
theorem mj_uws_good : ∀ c, c < 13 → ∀ w ∈ u_ws (mj_vw c).1 (mj_vw c).2.1 (mj_vw c).2.2, goodWord w = true := by decide +kernel
theorem mj_uws_ok : ∀ c, c < 13 → ∀ w ∈ u_ws (mj_vw c).1 (mj_vw c).2.1 (mj_vw c).2.2, w ∈ mj_tb := fun c hc w hw => mj_tb_in (mj_uws_ok0 c hc w hw) (mj_uws_good c hc w hw)
/-- the type of a field -/
def mj_ty (c f : Nat) : FieldType := (parseFieldDescriptor ((mj_vw c).2.1 f).2.2.1).getD .int
theorem mj_ty_ok : ∀ c, c < 13 → ∀ f, f < (mj_vw c).2.2 → parseFieldDescriptor ((mj_vw c).2.1 f).2.2.1 = some (mj_ty c f) := by decide +kernel
theorem mj_nm_ok : ∀ c, c < 13 → ∀ a, a < (mj_vw c).2.2 → ∀ b, b < (mj_vw c).2.2 → a ≠ b → ((mj_vw c).2.1 a).2.1 ≠ ((mj_vw c).2.1 b).2.1 := by decide +kernel
theorem mj_own_ok : ∀ c, c < 13 → (mj_vw c).1 = mj_cn c ∧ ∀ f, f < (mj_vw c).2.2 → ((mj_vw c).2.1 f).1 = mj_cn c ∧ ((mj_vw c).2.1 f).2.2.2 = mj_fn c f := by decide +kernel
def mj_kty (kd : Nat) (ty : FieldType) : Bool := match kd with
  | 1 => decide (ty = .int)
  | 2 => decide (ty = .boolean)
  | 4 => decide (ty = .long)
  | _ => match ty with
    | .object _ => true
    | .array _ => true
    | _ => false
theorem mj_fk_ok : ∀ c, c < 13 → ∀ f, f < (mj_vw c).2.2 → mj_kty (mj_fk c f) (mj_ty c f) = true := by decide +kernel
theorem mj_fk_ft : ∀ c, c < 13 → ∀ f, f < (mj_vw c).2.2 → (mj_fk c f = 1 ∧ mj_ft c f = 0) ∨ (mj_fk c f = 2 ∧ mj_ft c f = 0) ∨ (mj_fk c f = 4 ∧ mj_ft c f = 1) ∨ (mj_fk c f = 100 + mj_ft c f ∧ ((3 ≤ mj_ft c f ∧ mj_ft c f ≤ 7) ∨ 20 ≤ mj_ft c f)) := by decide +kernel
