/-! ARITHMETIC IN RANGE -/
theorem ji_add_eq {x y : Int} (h : mj_in32 (x + y)) : ji_add x y = x + y := by
  unfold ji_add
  rw [← Int32.ofInt_add, mj_i32 h]
theorem ji_sub_eq {x y : Int} (h : mj_in32 (x - y)) : ji_sub x y = x - y := by
  unfold ji_sub
  rw [← Int32.ofInt_sub, mj_i32 h]
theorem ji_mul_eq {x y : Int} (h : mj_in32 (x * y)) : ji_mul x y = x * y := by
  unfold ji_mul
  rw [← Int32.ofInt_mul, mj_i32 h]
theorem ji_neg_eq {x : Int} (h : mj_in32 (-x)) : ji_neg x = -x := by
  unfold ji_neg
  rw [← Int32.ofInt_neg, mj_i32 h]
theorem jl_add_eq {x y : Int} (h : mj_in64 (x + y)) : jl_add x y = x + y := by
  unfold jl_add
  rw [← Int64.ofInt_add, mj_i64 h]
theorem jl_sub_eq {x y : Int} (h : mj_in64 (x - y)) : jl_sub x y = x - y := by
  unfold jl_sub
  rw [← Int64.ofInt_sub, mj_i64 h]
theorem jl_mul_eq {x y : Int} (h : mj_in64 (x * y)) : jl_mul x y = x * y := by
  unfold jl_mul
  rw [← Int64.ofInt_mul, mj_i64 h]
theorem jl_neg_eq {x : Int} (h : mj_in64 (-x)) : jl_neg x = -x := by
  unfold jl_neg
  rw [← Int64.ofInt_neg, mj_i64 h]
theorem mj_tdiv_in {x y : Int} (hx : mj_in32 x) (hx2 : x ≠ -2147483648) : mj_in32 (x.tdiv y) := by
  have := Int.natAbs_tdiv_le_natAbs x y
  obtain ⟨a, b⟩ := hx
  constructor <;> omega
theorem mj_bmod32 {z : Int} (h : mj_in32 z) : z.bmod 4294967296 = z := by
  obtain ⟨a, b⟩ := h
  apply Int.bmod_eq_of_le <;> omega
theorem ji_div_eq {x y : Int} (hx : mj_in32 x) (hy : mj_in32 y) (hx2 : x ≠ -2147483648) : ji_div x y = x.tdiv y := by
  unfold ji_div
  have h1 := Int32.toInt_div (Int32.ofInt x) (Int32.ofInt y)
  rw [mj_i32 hx, mj_i32 hy] at h1
  rw [h1]
  exact mj_bmod32 (mj_tdiv_in hx hx2)
theorem ji_div_nn {x y : Int} (hx : mj_in32 x) (hy : mj_in32 y) (h0 : 0 ≤ x) : ji_div x y = x / y := by
  rw [ji_div_eq hx hy (by omega), Int.tdiv_eq_ediv_of_nonneg h0]
theorem ji_rem_eq {x y : Int} (hx : mj_in32 x) (hy : mj_in32 y) (hx2 : x ≠ -2147483648) : ji_rem x y = x.tmod y := by
  have h1 : Int32.ofInt x / Int32.ofInt y = Int32.ofInt (x.tdiv y) := by
    have e := ji_div_eq hx hy hx2
    unfold ji_div at e
    rw [← e, Int32.ofInt_toInt]
  unfold ji_rem
  rw [h1, ← Int32.ofInt_mul, ← Int32.ofInt_sub]
  have e : x - x.tdiv y * y = x.tmod y := by rw [Int.tmod_def, Int.mul_comm]
  rw [e]
  apply mj_i32
  have h2 : (x.tmod y).natAbs ≤ x.natAbs := by
    rw [Int.natAbs_tmod]
    exact Nat.mod_le _ _
  obtain ⟨a, b⟩ := hx
  constructor <;> omega
theorem ji_rem_nn {x y : Int} (hx : mj_in32 x) (hy : mj_in32 y) (h0 : 0 ≤ x) : ji_rem x y = x % y := by
  rw [ji_rem_eq hx hy (by omega), Int.tmod_eq_emod_of_nonneg h0]
theorem ji_2l_eq {x : Int} (h : mj_in32 x) : ji_2l x = x := by
  unfold ji_2l
  rw [Int32.toInt_toInt64, mj_i32 h]
theorem jl_2i_eq {x : Int} (h : mj_in32 x) : jl_2i x = x := by
  unfold jl_2i
  rw [Int64.toInt_toInt32, mj_i64 ⟨by have := h.1; omega, by have := h.2; omega⟩]
  apply Int.bmod_eq_of_le <;> (obtain ⟨a, b⟩ := h; omega)
theorem jl_cmp_eq {x y : Int} (hx : mj_in64 x) (hy : mj_in64 y) : jl_cmp x y = if y < x then 1 else if x = y then 0 else -1 := by
  unfold jl_cmp lg_cmp
  simp only [gt_iff_lt, Int64.lt_iff_toInt_lt, mj_i64 hx, mj_i64 hy]
  have e : (Int64.ofInt x = Int64.ofInt y) ↔ x = y := ⟨fun h => by rw [← mj_i64 hx, ← mj_i64 hy, h], fun h => by rw [h]⟩
  simp only [e]
  split
  · rfl
  · split <;> rfl
theorem ji_shl1 : ∀ n : Nat, n < 31 → ji_shl 1 n = 2 ^ n := by decide +kernel
theorem ji_and_nat {a b : Nat} (ha : a < 2147483648) (hb : b < 2147483648) : ji_and a b = ((a &&& b : Nat) : Int) := by
  unfold ji_and
  have h : (a &&& b) < 2147483648 := Nat.lt_of_le_of_lt Nat.and_le_left ha
  have e : Int32.ofInt (a : Int) &&& Int32.ofInt (b : Int) = Int32.ofInt ((a &&& b : Nat) : Int) := by
    apply Int32.toBitVec_inj.mp
    rw [Int32.toBitVec_and]
    apply BitVec.eq_of_toNat_eq
    simp
  rw [e, mj_i32 ⟨by omega, by omega⟩]
theorem ji_or_nat {a b : Nat} (ha : a < 2147483648) (hb : b < 2147483648) : ji_or a b = ((a ||| b : Nat) : Int) := by
  unfold ji_or
  have h : (a ||| b) < 2147483648 := Nat.or_lt_two_pow (n := 31) ha hb
  have e : Int32.ofInt (a : Int) ||| Int32.ofInt (b : Int) = Int32.ofInt ((a ||| b : Nat) : Int) := by
    apply Int32.toBitVec_inj.mp
    rw [Int32.toBitVec_or]
    apply BitVec.eq_of_toNat_eq
    simp
  rw [e, mj_i32 ⟨by omega, by omega⟩]
theorem ji_shr_eq {x : Int} {n : Nat} (hx : mj_in32 x) (hn : n < 32) : ji_shr x n = x >>> n := by
  unfold ji_shr
  have hk : Int32.ofInt (n : Int) &&& 31 = Int32.ofNat n := by
    have : ∀ n : Nat, n < 32 → Int32.ofInt (n : Int) &&& 31 = Int32.ofNat n := by decide +kernel
    exact this n hn
  rw [hk]
  show ((Int32.ofInt x) >>> (Int32.ofNat n)).toBitVec.toInt = _
  rw [Int32.toBitVec_shiftRight, BitVec.sshiftRight_eq', BitVec.toInt_sshiftRight]
  have e : (Int32.ofInt x).toBitVec.toInt = x := mj_i32 hx
  rw [e]
  congr 1
  have : ∀ n : Nat, n < 32 → ((Int32.ofNat n).toBitVec.smod 32).toNat = n := by decide +kernel
  exact this n hn
