/-! THE REFERENCE LAYS THE SAYINGS: pure -/
def okS (k d e : Nat) : Bool := isS (k : Int) (d : Int) (e : Int) && so 0 (k : Int) (d : Int) (e : Int)
def lwF (k d e : Nat) : Nat → Int := it (fun o acc => jl_or acc (if so (o : Int) (k : Int) (d : Int) (e : Int) then jl_shl 1 (o : Int) else 0)) 0
def hgF (k d e : Nat) : Nat → Int := it (fun o acc => jl_or acc (if so (60 + (o : Int)) (k : Int) (d : Int) (e : Int) then jl_shl 1 (o : Int) else 0)) 0
def sayL : List (Nat × Nat × Nat) := [(0, 0, 1), (0, 0, 2), (0, 0, 3), (0, 0, 4), (0, 1, 2), (0, 1, 3), (0, 1, 4), (0, 2, 3), (0, 2, 4), (0, 3, 4), (1, 0, 1), (1, 1, 2), (1, 2, 3), (1, 3, 4), (2, 0, 0), (3, 4, 4), (4, 0, 1), (4, 1, 2), (4, 2, 3), (4, 3, 4)]
def nbS (k d e : Nat) : Nat := (sayL.filter (fun t => decide (t.1 < k ∨ (t.1 = k ∧ (t.2.1 < d ∨ (t.2.1 = d ∧ t.2.2 < e)))))).length
set_option maxRecDepth 100000 in
theorem say_c : ((List.range 5).all fun k => (List.range 5).all fun d => (List.range 5).all fun e => decide (e < d) || (okS k d e && (decide (nbS k d e < 20) && (decide ((sayL.getD (nbS k d e) (0, 0, 0)).1 = k) && (decide ((sayL.getD (nbS k d e) (0, 0, 0)).2.1 = d) && (decide ((sayL.getD (nbS k d e) (0, 0, 0)).2.2 = e) && decide (nbS k d (e + 1) = nbS k d e + 1)))))) || (!okS k d e && decide (nbS k d (e + 1) = nbS k d e))) = true := by decide +kernel
theorem say_1' (k : Nat) (hk : k < 5) (d : Nat) (hd : d < 5) (e : Nat) (he : e < 5) : e < d ∨ (okS k d e = true ∧ nbS k d e < 20 ∧ (sayL.getD (nbS k d e) (0, 0, 0)).1 = k ∧ (sayL.getD (nbS k d e) (0, 0, 0)).2.1 = d ∧ (sayL.getD (nbS k d e) (0, 0, 0)).2.2 = e ∧ nbS k d (e + 1) = nbS k d e + 1) ∨ (okS k d e = false ∧ nbS k d (e + 1) = nbS k d e) := by
  have h := List.all_eq_true.mp (List.all_eq_true.mp (List.all_eq_true.mp say_c k (List.mem_range.mpr hk)) d (List.mem_range.mpr hd)) e (List.mem_range.mpr he)
  simp only [Bool.or_eq_true, Bool.and_eq_true, decide_eq_true_eq, Bool.not_eq_true'] at h
  rcases h with (h | h) | h
  · exact Or.inl h
  · exact Or.inr (Or.inl h)
  · exact Or.inr (Or.inr h)
theorem say_1 {k d e : Nat} (hk : k < 5) (hd : d < 5) (he : e < 5) (hde : d ≤ e) : (okS k d e = true ∧ nbS k d e < 20 ∧ sayL.getD (nbS k d e) (0, 0, 0) = (k, d, e) ∧ nbS k d (e + 1) = nbS k d e + 1) ∨ (okS k d e = false ∧ nbS k d (e + 1) = nbS k d e) := by
  rcases say_1' k hk d hd e he with h | ⟨h1, h2, h3, h4, h5, h6⟩ | h
  · omega
  · exact Or.inl ⟨h1, h2, Prod.ext h3 (Prod.ext h4 h5), h6⟩
  · exact Or.inr h
theorem say_2 : ∀ k : Nat, k < 5 → ∀ d : Nat, d < 5 → nbS k d 5 = nbS k (d + 1) (d + 1) := by decide +kernel
theorem say_3 : (∀ k : Nat, k < 5 → nbS k 5 5 = nbS (k + 1) 0 0) ∧ nbS 0 0 0 = 0 ∧ nbS 5 0 0 = 20 := by decide +kernel
set_option maxRecDepth 100000 in
theorem say_4 : ∀ n : Nat, n < 20 → kT (n : Int) = ((sayL.getD n (0, 0, 0)).1 : Int) ∧ lwF (sayL.getD n (0, 0, 0)).1 (sayL.getD n (0, 0, 0)).2.1 (sayL.getD n (0, 0, 0)).2.2 60 = lT (n : Int) ∧ hgF (sayL.getD n (0, 0, 0)).1 (sayL.getD n (0, 0, 0)).2.1 (sayL.getD n (0, 0, 0)).2.2 60 = gT (n : Int) := by decide +kernel
