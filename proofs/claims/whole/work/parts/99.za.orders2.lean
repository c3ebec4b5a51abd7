/-! THE MAKER OF THE ORDERS: the tables -/
def tkO (o : Int) : Nat → Int := it (fun i t => ji_or t (ji_shl 1 (fdg t 5 0 (rkA o (i : Int))))) 0
set_option maxRecDepth 100000 in
theorem ord_all : ∀ o : Nat, o < 120 → ∀ i : Nat, i < 5 → fdg (tkO (o : Int) i) 5 0 (rkA (o : Int) (i : Int)) = dT (5 * (o : Int) + (i : Int)) ∧ pT (5 * (o : Int) + dT (5 * (o : Int) + (i : Int))) = (i : Int) ∧ (0 ≤ rkA (o : Int) (i : Int) ∧ rkA (o : Int) (i : Int) ≤ 4) := by decide +kernel
set_option maxRecDepth 100000 in
theorem ord_inv : ∀ o : Nat, o < 120 → ∀ a : Nat, a < 5 → dT (5 * (o : Int) + pT (5 * (o : Int) + (a : Int))) = (a : Int) ∧ 0 ≤ pT (5 * (o : Int) + (a : Int)) ∧ pT (5 * (o : Int) + (a : Int)) < 5 := by decide +kernel
