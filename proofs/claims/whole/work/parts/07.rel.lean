/-! THE SMALL MACHINE'S MEMORY IN THE HEAP -/
/-- D, the row classes by tag, the first new cell, the script (cell, length, ints), WAYS' cell, the texts' cells, their bytes' cells, the formatter -/
abbrev mj_G : Type := va_G × (Nat → ClassId) × Nat × (Nat × Nat × (Nat → Int32)) × Nat × (Nat → Nat) × (Nat → Nat) × Value
abbrev mj_gD (G : mj_G) : va_G := G.1
abbrev mj_ga (G : mj_G) : Nat → ClassId := G.2.1
abbrev mj_lo (G : mj_G) : Nat := G.2.2.1
abbrev mj_sc (G : mj_G) : Nat := G.2.2.2.1.1
abbrev mj_sL (G : mj_G) : Nat := G.2.2.2.1.2.1
abbrev mj_sx (G : mj_G) : Nat → Int32 := G.2.2.2.1.2.2
abbrev mj_wa (G : mj_G) : Nat := G.2.2.2.2.1
abbrev mj_tK (G : mj_G) : Nat → Nat := G.2.2.2.2.2.1
abbrev mj_tV (G : mj_G) : Nat → Nat := G.2.2.2.2.2.2.1
abbrev mj_fo (G : mj_G) : Value := G.2.2.2.2.2.2.2
abbrev mj_A (G : mj_G) : Nat → Prop := fun q => mj_lo G ≤ q
def mj_rf (ad : List Nat) (v : Int) : Option Nat := if v = 0 then none else some (ad.getD (v - 1).toNat 0)
def mj_cv (G : mj_G) (ad : List Nat) (v : mj_V) : Value := match v.1 with
  | 0 => .int (Int32.ofInt v.2)
  | 1 => .long (Int64.ofInt v.2)
  | 8 => .ref (if v.2 = 0 then mj_sc G else mj_wa G)
  | 9 => .null
  | 10 => .ref (mj_tK G v.2.toNat)
  | 11 => .ref (mj_tV G v.2.toNat)
  | 12 => mj_fo G
  | _ => va_rf (mj_rf ad v.2)
def mj_ok (M : mj_M) (v : mj_V) : Prop := match v.1 with
  | 0 => mj_in32 v.2
  | 1 => mj_in64 v.2
  | 2 => v.2 = 0
  | 8 => v.2 = 0 ∨ v.2 = 1
  | 9 => True
  | 10 => v.2 = 0 ∨ v.2 = 1
  | 11 => v.2 = 0 ∨ v.2 = 1
  | 12 => True
  | t => v.2 = 0 ∨ (1 ≤ v.2 ∧ v.2 ≤ (M.1 : Int) ∧ M.2.2.1 v.2 = t)
/-- the tag of a slot of a cell -/
def mj_sg (t : Nat) (j : Int) : Nat := match t with
  | 3 => 0
  | 4 => 1
  | 5 => 0
  | 6 => 24
  | 7 => 28
  | t => if 0 ≤ j then mj_ft (t - 20) j.toNat else 9
def mj_T (M : mj_M) : Prop := ∀ x : Int, 1 ≤ x → x ≤ (M.1 : Int) → (0 ≤ M.2.2.2.1 x ∧ M.2.2.2.1 x ≤ 100000) ∧ ((3 ≤ M.2.2.1 x ∧ M.2.2.1 x ≤ 7) ∨ (20 ≤ M.2.2.1 x ∧ M.2.2.1 x < 33 ∧ M.2.2.2.1 x = (mj_fN (M.2.2.1 x - 20) : Int))) ∧ ∀ j : Int, mj_ok M (mj_sg (M.2.2.1 x) j, M.2.2.2.2 x j)
def mj_en (G : mj_G) (ad : List Nat) (M : mj_M) (x : Int) : va_E := match M.2.2.1 x with
  | 3 => .inl (mj_ga G 3, (M.2.2.2.1 x).toNat, .inl (fun j => Int32.ofInt (M.2.2.2.2 x j)))
  | 4 => .inl (mj_ga G 4, (M.2.2.2.1 x).toNat, .inr (.inl (fun j => Int64.ofInt (M.2.2.2.2 x j))))
  | 5 => .inl (mj_ga G 5, (M.2.2.2.1 x).toNat, .inl (fun j => Int32.ofInt (M.2.2.2.2 x j)))
  | 6 => .inl (mj_ga G 6, (M.2.2.2.1 x).toNat, .inr (.inr (.inr (.inr (fun j => mj_rf ad (M.2.2.2.2 x j))))))
  | 7 => .inl (mj_ga G 7, (M.2.2.2.1 x).toNat, .inr (.inr (.inr (.inr (fun j => mj_rf ad (M.2.2.2.2 x j))))))
  | t => .inr (t - 20, (List.range (mj_fN (t - 20))).map (fun j : Nat => mj_cv G ad (mj_ft (t - 20) j, M.2.2.2.2 x j)))
def mj_ws (G : mj_G) (ad : List Nat) (M : mj_M) : va_W := (List.range M.1).map (fun i : Nat => (ad.getD i 0, mj_en G ad M ((i : Int) + 1)))
def mj_H (G : mj_G) (ad : List Nat) (M : mj_M) (H : Heap) : Prop := ad.length = M.1 ∧ va_P (mj_gD G) vwCl (mj_ws G ad M) H ∧ va_D (mj_A G) (mj_ws G ad M) ∧ mj_T M
theorem mj_ws_len (G : mj_G) (ad : List Nat) (M : mj_M) : (mj_ws G ad M).length = M.1 := by simp [mj_ws]
theorem mj_ws_at (G : mj_G) (ad : List Nat) (M : mj_M) {x : Int} (h1 : 1 ≤ x) (h2 : x ≤ (M.1 : Int)) : (mj_ws G ad M)[(x - 1).toNat]? = some (ad.getD (x - 1).toNat 0, mj_en G ad M x) := by
  have e : (((x - 1).toNat : Nat) : Int) + 1 = x := by omega
  have hl : (x - 1).toNat < M.1 := by omega
  simp only [mj_ws, List.getElem?_map, List.getElem?_range hl, Option.map_some, e]
/-- a value in 32 bits, in 64 bits -/
theorem mj_i32 {x : Int} (h : mj_in32 x) : (Int32.ofInt x).toInt = x := Int32.toInt_ofInt_of_le (by have := h.1; simpa using this) (by have := h.2; omega)
theorem mj_i64 {x : Int} (h : mj_in64 x) : (Int64.ofInt x).toInt = x := Int64.toInt_ofInt_of_le (by have := h.1; simpa using this) (by have := h.2; omega)
theorem mj_in32_t (i : Int32) : mj_in32 i.toInt := ⟨by have := Int32.le_toInt i; omega, by have := Int32.toInt_lt i; omega⟩
theorem mj_in64_t (i : Int64) : mj_in64 i.toInt := ⟨by have := Int64.le_toInt i; omega, by have := Int64.toInt_lt i; omega⟩
/-- the cell that a reference of a tag names -/
theorem mj_ok_ref {M : mj_M} {t : Nat} {x : Int} (ht : (3 ≤ t ∧ t ≤ 7) ∨ 20 ≤ t) (h : mj_ok M (t, x)) (hx : x ≠ 0) : 1 ≤ x ∧ x ≤ (M.1 : Int) ∧ M.2.2.1 x = t := by
  unfold mj_ok at h
  split at h <;> simp_all <;> omega
theorem mj_cv_ref {G : mj_G} {ad : List Nat} {t : Nat} {x : Int} (ht : (3 ≤ t ∧ t ≤ 7) ∨ 20 ≤ t) (hx : x ≠ 0) : mj_cv G ad (t, x) = .ref (ad.getD (x - 1).toNat 0) := by
  unfold mj_cv
  split <;> simp_all [mj_rf, va_rf] <;> omega
theorem mj_cv_null {G : mj_G} {ad : List Nat} {t : Nat} (ht : mj_isN t = true) : mj_cv G ad (t, 0) = .null := by
  unfold mj_cv
  split <;> simp_all [mj_rf, va_rf, mj_isN, mj_isR]
theorem mj_rf_app {ad ad2 : List Nat} {v : Int} (h : v = 0 ∨ (1 ≤ v ∧ v ≤ (ad.length : Int))) : mj_rf (ad ++ ad2) v = mj_rf ad v := by
  unfold mj_rf
  split
  · rfl
  · rcases h with h | ⟨h1, h2⟩
    · contradiction
    · have : (v - 1).toNat < ad.length := by omega
      simp only [List.getD_eq_getElem?_getD, List.getElem?_append_left this]
theorem mj_cv_app {G : mj_G} {ad ad2 : List Nat} {M : mj_M} (hl : ad.length = M.1) {v : mj_V} (h : mj_ok M v) : mj_cv G (ad ++ ad2) v = mj_cv G ad v := by
  obtain ⟨t, x⟩ := v
  unfold mj_ok at h
  unfold mj_cv
  split <;> try rfl
  rw [mj_rf_app]
  rw [hl]
  split at h <;> simp_all
  rcases h with h | h
  · exact Or.inl h
  · exact Or.inr ⟨h.1, h.2.1⟩

/-- what a slot may hold does not hang on the contents -/
theorem mj_ok_same {M M2 : mj_M} (h1 : M.1 ≤ M2.1) (h2 : ∀ x : Int, 1 ≤ x → x ≤ (M.1 : Int) → M2.2.2.1 x = M.2.2.1 x) {v : mj_V} (h : mj_ok M v) : mj_ok M2 v := by
  obtain ⟨t, x⟩ := v
  unfold mj_ok at h ⊢
  split <;> simp_all
  rcases h with h | ⟨a, b, c⟩
  · exact Or.inl h
  · exact Or.inr ⟨a, by omega, by rw [h2 x a b]; exact c⟩
theorem mj_ok_wr {M : mj_M} {a i w : Int} {v : mj_V} (h : mj_ok M v) : mj_ok (mj_wr M a i w) v := mj_ok_same (M := M) (Nat.le_refl _) (fun _ _ _ => rfl) h
theorem mj_ok_cp {M : mj_M} {a sp b dp n : Int} {v : mj_V} (h : mj_ok M v) : mj_ok (mj_cp M a sp b dp n) v := mj_ok_same (M := M) (Nat.le_refl _) (fun _ _ _ => rfl) h
theorem mj_ok_nw {M : mj_M} {t : Nat} {n : Int} {f : Int → Int} {v : mj_V} (h : mj_ok M v) : mj_ok (mj_nw M t n f) v := by
  refine mj_ok_same (M := M) (Nat.le_succ _) (fun x h1 h2 => ?_) h
  show (if x = (M.1 : Int) + 1 then t else M.2.2.1 x) = M.2.2.1 x
  rw [if_neg (by omega)]
/-- the world behind a write -/
theorem mj_T_wr {M : mj_M} {a i w : Int} (h : mj_T M) (h1 : mj_ok M (mj_sg (M.2.2.1 a) i, w)) : mj_T (mj_wr M a i w) := by
  intro x hx1 hx2
  obtain ⟨p1, p2, p3⟩ := h x hx1 hx2
  refine ⟨p1, p2, fun j => mj_ok_wr ?_⟩
  show mj_ok M (mj_sg (M.2.2.1 x) j, mj_up M.2.2.2.2 a i w x j)
  unfold mj_up
  split
  · next e => obtain ⟨rfl, rfl⟩ := e; exact h1
  · exact p3 j
theorem mj_en_wr {G : mj_G} {ad : List Nat} {M : mj_M} {a i w y : Int} (h : y ≠ a) : mj_en G ad (mj_wr M a i w) y = mj_en G ad M y := by
  have e : ∀ j, mj_up M.2.2.2.2 a i w y j = M.2.2.2.2 y j := fun j => by
    unfold mj_up
    rw [if_neg (fun q => h q.1)]
  unfold mj_en
  simp only [mj_wr, e]
theorem mj_list_set {α : Type} {f g : Nat → α} {n k : Nat} (hn : k < n) (h : ∀ j, j ≠ k → f j = g j) : (List.range n).map f = ((List.range n).map g).set k (f k) := by
  apply List.ext_getElem?
  intro j
  rw [List.getElem?_set]
  by_cases hj : k = j
  · subst hj
    simp [hn]
  · rw [if_neg hj]
    simp only [List.getElem?_map]
    by_cases hl : j < n
    · simp [List.getElem?_range hl, h j (fun q => hj q.symm)]
    · have : (List.range n)[j]? = none := by simp; omega
      rw [this]; rfl
theorem mj_ws_wr {G : mj_G} {ad : List Nat} {M : mj_M} {a i w : Int} (h1 : 1 ≤ a) (h2 : a ≤ (M.1 : Int)) : mj_ws G ad (mj_wr M a i w) = (mj_ws G ad M).set (a - 1).toNat (ad.getD (a - 1).toNat 0, mj_en G ad (mj_wr M a i w) a) := by
  have e : (((a - 1).toNat : Nat) : Int) + 1 = a := by omega
  unfold mj_ws
  rw [mj_list_set (g := fun i : Nat => (ad.getD i 0, mj_en G ad M ((i : Int) + 1))) (k := (a - 1).toNat)]
  · simp only [e, mj_wr]
  · show (a - 1).toNat < M.1
    omega
  · intro j hj
    rw [mj_en_wr (by omega)]
theorem mj_en_cp {G : mj_G} {ad : List Nat} {M : mj_M} {a sp b dp n y : Int} (h : y ≠ b) : mj_en G ad (mj_cp M a sp b dp n) y = mj_en G ad M y := by
  unfold mj_en
  simp only [mj_cp, h, false_and, if_false]
theorem mj_ws_cp {G : mj_G} {ad : List Nat} {M : mj_M} {a sp b dp n : Int} (h1 : 1 ≤ b) (h2 : b ≤ (M.1 : Int)) : mj_ws G ad (mj_cp M a sp b dp n) = (mj_ws G ad M).set (b - 1).toNat (ad.getD (b - 1).toNat 0, mj_en G ad (mj_cp M a sp b dp n) b) := by
  have e : (((b - 1).toNat : Nat) : Int) + 1 = b := by omega
  unfold mj_ws
  rw [mj_list_set (g := fun i : Nat => (ad.getD i 0, mj_en G ad M ((i : Int) + 1))) (k := (b - 1).toNat)]
  · simp only [e, mj_cp]
  · show (b - 1).toNat < M.1
    omega
  · intro j hj
    rw [mj_en_cp (by omega)]
theorem mj_T_cp {M : mj_M} {a sp b dp n : Int} (h : mj_T M) (ha : 1 ≤ a ∧ a ≤ (M.1 : Int) ∧ M.2.2.1 a = 3) (hb : M.2.2.1 b = 3) : mj_T (mj_cp M a sp b dp n) := by
  intro x hx1 hx2
  obtain ⟨p1, p2, p3⟩ := h x hx1 hx2
  refine ⟨p1, p2, fun j => mj_ok_cp ?_⟩
  show mj_ok M (mj_sg (M.2.2.1 x) j, if x = b ∧ dp ≤ j ∧ j < dp + n then M.2.2.2.2 a (sp + (j - dp)) else M.2.2.2.2 x j)
  split
  · next e =>
    obtain ⟨rfl, -⟩ := e
    have := (h a ha.1 ha.2.1).2.2 (sp + (j - dp))
    rw [ha.2.2] at this
    rw [hb]
    exact this
  · exact p3 j
theorem mj_T_nw {M : mj_M} {t : Nat} {n : Int} {f : Int → Int} (h : mj_T M) (hn : 0 ≤ n ∧ n ≤ 100000) (ht : (3 ≤ t ∧ t ≤ 7) ∨ (20 ≤ t ∧ t < 33 ∧ n = (mj_fN (t - 20) : Int))) (hf : ∀ j : Int, mj_ok M (mj_sg t j, f j)) : mj_T (mj_nw M t n f) := by
  intro x hx1 hx2
  by_cases hx : x = (M.1 : Int) + 1
  · have e1 : (mj_nw M t n f).2.2.1 x = t := if_pos hx
    have e2 : (mj_nw M t n f).2.2.2.1 x = n := if_pos hx
    have e3 : ∀ j, (mj_nw M t n f).2.2.2.2 x j = f j := fun j => if_pos hx
    rw [e1, e2]
    refine ⟨hn, ht, fun j => ?_⟩
    rw [e3]
    exact mj_ok_nw (hf j)
  · have hx3 : x ≤ (M.1 : Int) := by
      have : x ≤ ((M.1 + 1 : Nat) : Int) := hx2
      omega
    have e1 : (mj_nw M t n f).2.2.1 x = M.2.2.1 x := if_neg hx
    have e2 : (mj_nw M t n f).2.2.2.1 x = M.2.2.2.1 x := if_neg hx
    have e3 : ∀ j, (mj_nw M t n f).2.2.2.2 x j = M.2.2.2.2 x j := fun j => if_neg hx
    obtain ⟨p1, p2, p3⟩ := h x hx1 hx3
    rw [e1, e2]
    refine ⟨p1, p2, fun j => ?_⟩
    rw [e3]
    exact mj_ok_nw (p3 j)
theorem mj_ft9 : ∀ c, c < 13 → ∀ j, j < mj_fN c → mj_ft c j ≠ 9 := by decide +kernel
theorem mj_rf_ok {M : mj_M} {ad ad2 : List Nat} (hl : ad.length = M.1) {t : Nat} (ht : t = 24 ∨ t = 28) {v : Int} (h : mj_ok M (t, v)) : mj_rf (ad ++ ad2) v = mj_rf ad v := by
  apply mj_rf_app
  by_cases hv : v = 0
  · exact Or.inl hv
  · obtain ⟨a, b, -⟩ := mj_ok_ref (by omega) h hv
    exact Or.inr ⟨a, by omega⟩
theorem mj_en_nw {G : mj_G} {ad ad2 : List Nat} {M : mj_M} {t : Nat} {n : Int} {f : Int → Int} (hl : ad.length = M.1) (h : mj_T M) {y : Int} (h1 : 1 ≤ y) (h2 : y ≤ (M.1 : Int)) : mj_en G (ad ++ ad2) (mj_nw M t n f) y = mj_en G ad M y := by
  have hx : ¬ y = (M.1 : Int) + 1 := by omega
  have e1 : (mj_nw M t n f).2.2.1 y = M.2.2.1 y := if_neg hx
  have e2 : (mj_nw M t n f).2.2.2.1 y = M.2.2.2.1 y := if_neg hx
  have e3 : ∀ j, (mj_nw M t n f).2.2.2.2 y j = M.2.2.2.2 y j := fun j => if_neg hx
  obtain ⟨p1, p2, p3⟩ := h y h1 h2
  unfold mj_en
  simp only [e1, e2, e3]
  split
  · rfl
  · rfl
  · rfl
  · next e =>
    rw [e] at p3
    have q : (fun j : Nat => mj_rf (ad ++ ad2) (M.2.2.2.2 y j)) = fun j : Nat => mj_rf ad (M.2.2.2.2 y j) := funext fun j => mj_rf_ok hl (Or.inl rfl) (p3 j)
    rw [q]
  · next e =>
    rw [e] at p3
    have q : (fun j : Nat => mj_rf (ad ++ ad2) (M.2.2.2.2 y j)) = fun j : Nat => mj_rf ad (M.2.2.2.2 y j) := funext fun j => mj_rf_ok hl (Or.inr rfl) (p3 j)
    rw [q]
  · next t0 n3 n4 n5 n6 n7 =>
    congr 2
    apply List.map_congr_left
    intro j hj
    have hj : j < mj_fN (M.2.2.1 y - 20) := List.mem_range.mp hj
    have h3 := p3 j
    have h4 : mj_sg (M.2.2.1 y) j = mj_ft (M.2.2.1 y - 20) j := by
      unfold mj_sg
      split <;> simp_all
    rw [h4] at h3
    exact mj_cv_app hl h3
theorem mj_ws_nw {G : mj_G} {ad : List Nat} {q : Nat} {M : mj_M} {t : Nat} {n : Int} {f : Int → Int} (hl : ad.length = M.1) (h : mj_T M) : mj_ws G (ad ++ [q]) (mj_nw M t n f) = mj_ws G ad M ++ [(q, mj_en G (ad ++ [q]) (mj_nw M t n f) ((M.1 : Int) + 1))] := by
  unfold mj_ws
  show (List.range (M.1 + 1)).map _ = _
  rw [List.range_succ, List.map_append, List.map_singleton]
  congr 1
  · apply List.map_congr_left
    intro i hi
    have hi : i < M.1 := List.mem_range.mp hi
    rw [mj_en_nw hl h (by omega) (by omega)]
    congr 1
    simp only [List.getD_eq_getElem?_getD, List.getElem?_append_left (show i < ad.length by omega)]
  · congr 2
    simp [List.getD_eq_getElem?_getD, ← hl]
