/-- the rows from a on, w of them, are decoded so -/
def mj_dchk (k a w : Nat) : Bool := (List.range w).all (fun i => match mj_ins k (a + i) with
  | none => true
  | some q => decide (decode (mj_cd k) (a + i) = .ok q))
theorem mj_dchk_use {k a w : Nat} (h : mj_dchk k a w = true) {p : Nat} (h1 : a ≤ p) (h2 : p < a + w) {q : Instr × Nat} (hq : mj_ins k p = some q) : decode (mj_cd k) p = .ok q := by
  have h3 := List.all_eq_true.mp h (p - a) (List.mem_range.mpr (by omega))
  rw [show a + (p - a) = p by omega, hq] at h3
  exact of_decide_eq_true h3
theorem mj_d0_0 : mj_dchk 0 0 80 = true := by decide +kernel
theorem mj_d0_80 : mj_dchk 0 80 77 = true := by decide +kernel
theorem mj_d0 : ∀ p, p < 157 → ∀ q, mj_ins 0 p = some q → decode (mj_cd 0) p = .ok q := by
  intro p hp q hq
  by_cases h0 : p < 80
  · exact mj_dchk_use mj_d0_0 (by omega) (by omega) hq
  by_cases h80 : p < 157
  · exact mj_dchk_use mj_d0_80 (by omega) (by omega) hq
  omega
theorem mj_d1_0 : mj_dchk 1 0 80 = true := by decide +kernel
theorem mj_d1_80 : mj_dchk 1 80 14 = true := by decide +kernel
theorem mj_d1 : ∀ p, p < 94 → ∀ q, mj_ins 1 p = some q → decode (mj_cd 1) p = .ok q := by
  intro p hp q hq
  by_cases h0 : p < 80
  · exact mj_dchk_use mj_d1_0 (by omega) (by omega) hq
  by_cases h80 : p < 94
  · exact mj_dchk_use mj_d1_80 (by omega) (by omega) hq
  omega
theorem mj_d2_0 : mj_dchk 2 0 58 = true := by decide +kernel
theorem mj_d2 : ∀ p, p < 58 → ∀ q, mj_ins 2 p = some q → decode (mj_cd 2) p = .ok q := by
  intro p hp q hq
  by_cases h0 : p < 58
  · exact mj_dchk_use mj_d2_0 (by omega) (by omega) hq
  omega
theorem mj_d3_0 : mj_dchk 3 0 34 = true := by decide +kernel
theorem mj_d3 : ∀ p, p < 34 → ∀ q, mj_ins 3 p = some q → decode (mj_cd 3) p = .ok q := by
  intro p hp q hq
  by_cases h0 : p < 34
  · exact mj_dchk_use mj_d3_0 (by omega) (by omega) hq
  omega
theorem mj_d4_0 : mj_dchk 4 0 80 = true := by decide +kernel
theorem mj_d4_80 : mj_dchk 4 80 45 = true := by decide +kernel
theorem mj_d4 : ∀ p, p < 125 → ∀ q, mj_ins 4 p = some q → decode (mj_cd 4) p = .ok q := by
  intro p hp q hq
  by_cases h0 : p < 80
  · exact mj_dchk_use mj_d4_0 (by omega) (by omega) hq
  by_cases h80 : p < 125
  · exact mj_dchk_use mj_d4_80 (by omega) (by omega) hq
  omega
theorem mj_d5_0 : mj_dchk 5 0 33 = true := by decide +kernel
theorem mj_d5 : ∀ p, p < 33 → ∀ q, mj_ins 5 p = some q → decode (mj_cd 5) p = .ok q := by
  intro p hp q hq
  by_cases h0 : p < 33
  · exact mj_dchk_use mj_d5_0 (by omega) (by omega) hq
  omega
theorem mj_d6_0 : mj_dchk 6 0 59 = true := by decide +kernel
theorem mj_d6 : ∀ p, p < 59 → ∀ q, mj_ins 6 p = some q → decode (mj_cd 6) p = .ok q := by
  intro p hp q hq
  by_cases h0 : p < 59
  · exact mj_dchk_use mj_d6_0 (by omega) (by omega) hq
  omega
theorem mj_d7_0 : mj_dchk 7 0 18 = true := by decide +kernel
theorem mj_d7 : ∀ p, p < 18 → ∀ q, mj_ins 7 p = some q → decode (mj_cd 7) p = .ok q := by
  intro p hp q hq
  by_cases h0 : p < 18
  · exact mj_dchk_use mj_d7_0 (by omega) (by omega) hq
  omega
theorem mj_d8_0 : mj_dchk 8 0 13 = true := by decide +kernel
theorem mj_d8 : ∀ p, p < 13 → ∀ q, mj_ins 8 p = some q → decode (mj_cd 8) p = .ok q := by
  intro p hp q hq
  by_cases h0 : p < 13
  · exact mj_dchk_use mj_d8_0 (by omega) (by omega) hq
  omega
theorem mj_d9_0 : mj_dchk 9 0 26 = true := by decide +kernel
theorem mj_d9 : ∀ p, p < 26 → ∀ q, mj_ins 9 p = some q → decode (mj_cd 9) p = .ok q := by
  intro p hp q hq
  by_cases h0 : p < 26
  · exact mj_dchk_use mj_d9_0 (by omega) (by omega) hq
  omega
theorem mj_d10_0 : mj_dchk 10 0 28 = true := by decide +kernel
theorem mj_d10 : ∀ p, p < 28 → ∀ q, mj_ins 10 p = some q → decode (mj_cd 10) p = .ok q := by
  intro p hp q hq
  by_cases h0 : p < 28
  · exact mj_dchk_use mj_d10_0 (by omega) (by omega) hq
  omega
theorem mj_d11_0 : mj_dchk 11 0 20 = true := by decide +kernel
theorem mj_d11 : ∀ p, p < 20 → ∀ q, mj_ins 11 p = some q → decode (mj_cd 11) p = .ok q := by
  intro p hp q hq
  by_cases h0 : p < 20
  · exact mj_dchk_use mj_d11_0 (by omega) (by omega) hq
  omega
theorem mj_d12_0 : mj_dchk 12 0 80 = true := by decide +kernel
theorem mj_d12_80 : mj_dchk 12 80 18 = true := by decide +kernel
theorem mj_d12 : ∀ p, p < 98 → ∀ q, mj_ins 12 p = some q → decode (mj_cd 12) p = .ok q := by
  intro p hp q hq
  by_cases h0 : p < 80
  · exact mj_dchk_use mj_d12_0 (by omega) (by omega) hq
  by_cases h80 : p < 98
  · exact mj_dchk_use mj_d12_80 (by omega) (by omega) hq
  omega
theorem mj_d13_0 : mj_dchk 13 0 13 = true := by decide +kernel
theorem mj_d13 : ∀ p, p < 13 → ∀ q, mj_ins 13 p = some q → decode (mj_cd 13) p = .ok q := by
  intro p hp q hq
  by_cases h0 : p < 13
  · exact mj_dchk_use mj_d13_0 (by omega) (by omega) hq
  omega
theorem mj_d14_0 : mj_dchk 14 0 78 = true := by decide +kernel
theorem mj_d14 : ∀ p, p < 78 → ∀ q, mj_ins 14 p = some q → decode (mj_cd 14) p = .ok q := by
  intro p hp q hq
  by_cases h0 : p < 78
  · exact mj_dchk_use mj_d14_0 (by omega) (by omega) hq
  omega
theorem mj_d15_0 : mj_dchk 15 0 10 = true := by decide +kernel
theorem mj_d15 : ∀ p, p < 10 → ∀ q, mj_ins 15 p = some q → decode (mj_cd 15) p = .ok q := by
  intro p hp q hq
  by_cases h0 : p < 10
  · exact mj_dchk_use mj_d15_0 (by omega) (by omega) hq
  omega
theorem mj_d16_0 : mj_dchk 16 0 35 = true := by decide +kernel
theorem mj_d16 : ∀ p, p < 35 → ∀ q, mj_ins 16 p = some q → decode (mj_cd 16) p = .ok q := by
  intro p hp q hq
  by_cases h0 : p < 35
  · exact mj_dchk_use mj_d16_0 (by omega) (by omega) hq
  omega
theorem mj_d17_0 : mj_dchk 17 0 20 = true := by decide +kernel
theorem mj_d17 : ∀ p, p < 20 → ∀ q, mj_ins 17 p = some q → decode (mj_cd 17) p = .ok q := by
  intro p hp q hq
  by_cases h0 : p < 20
  · exact mj_dchk_use mj_d17_0 (by omega) (by omega) hq
  omega
theorem mj_d18_0 : mj_dchk 18 0 59 = true := by decide +kernel
theorem mj_d18 : ∀ p, p < 59 → ∀ q, mj_ins 18 p = some q → decode (mj_cd 18) p = .ok q := by
  intro p hp q hq
  by_cases h0 : p < 59
  · exact mj_dchk_use mj_d18_0 (by omega) (by omega) hq
  omega
theorem mj_d19_0 : mj_dchk 19 0 9 = true := by decide +kernel
theorem mj_d19 : ∀ p, p < 9 → ∀ q, mj_ins 19 p = some q → decode (mj_cd 19) p = .ok q := by
  intro p hp q hq
  by_cases h0 : p < 9
  · exact mj_dchk_use mj_d19_0 (by omega) (by omega) hq
  omega
theorem mj_d20_0 : mj_dchk 20 0 44 = true := by decide +kernel
theorem mj_d20 : ∀ p, p < 44 → ∀ q, mj_ins 20 p = some q → decode (mj_cd 20) p = .ok q := by
  intro p hp q hq
  by_cases h0 : p < 44
  · exact mj_dchk_use mj_d20_0 (by omega) (by omega) hq
  omega
theorem mj_d21_0 : mj_dchk 21 0 16 = true := by decide +kernel
theorem mj_d21 : ∀ p, p < 16 → ∀ q, mj_ins 21 p = some q → decode (mj_cd 21) p = .ok q := by
  intro p hp q hq
  by_cases h0 : p < 16
  · exact mj_dchk_use mj_d21_0 (by omega) (by omega) hq
  omega
theorem mj_d22_0 : mj_dchk 22 0 44 = true := by decide +kernel
theorem mj_d22 : ∀ p, p < 44 → ∀ q, mj_ins 22 p = some q → decode (mj_cd 22) p = .ok q := by
  intro p hp q hq
  by_cases h0 : p < 44
  · exact mj_dchk_use mj_d22_0 (by omega) (by omega) hq
  omega
theorem mj_d23_0 : mj_dchk 23 0 50 = true := by decide +kernel
theorem mj_d23 : ∀ p, p < 50 → ∀ q, mj_ins 23 p = some q → decode (mj_cd 23) p = .ok q := by
  intro p hp q hq
  by_cases h0 : p < 50
  · exact mj_dchk_use mj_d23_0 (by omega) (by omega) hq
  omega
theorem mj_d24_0 : mj_dchk 24 0 21 = true := by decide +kernel
theorem mj_d24 : ∀ p, p < 21 → ∀ q, mj_ins 24 p = some q → decode (mj_cd 24) p = .ok q := by
  intro p hp q hq
  by_cases h0 : p < 21
  · exact mj_dchk_use mj_d24_0 (by omega) (by omega) hq
  omega
theorem mj_d25_0 : mj_dchk 25 0 74 = true := by decide +kernel
theorem mj_d25 : ∀ p, p < 74 → ∀ q, mj_ins 25 p = some q → decode (mj_cd 25) p = .ok q := by
  intro p hp q hq
  by_cases h0 : p < 74
  · exact mj_dchk_use mj_d25_0 (by omega) (by omega) hq
  omega
theorem mj_d26_0 : mj_dchk 26 0 80 = true := by decide +kernel
theorem mj_d26_80 : mj_dchk 26 80 71 = true := by decide +kernel
theorem mj_d26 : ∀ p, p < 151 → ∀ q, mj_ins 26 p = some q → decode (mj_cd 26) p = .ok q := by
  intro p hp q hq
  by_cases h0 : p < 80
  · exact mj_dchk_use mj_d26_0 (by omega) (by omega) hq
  by_cases h80 : p < 151
  · exact mj_dchk_use mj_d26_80 (by omega) (by omega) hq
  omega
theorem mj_d27_0 : mj_dchk 27 0 59 = true := by decide +kernel
theorem mj_d27 : ∀ p, p < 59 → ∀ q, mj_ins 27 p = some q → decode (mj_cd 27) p = .ok q := by
  intro p hp q hq
  by_cases h0 : p < 59
  · exact mj_dchk_use mj_d27_0 (by omega) (by omega) hq
  omega
theorem mj_d28_0 : mj_dchk 28 0 11 = true := by decide +kernel
theorem mj_d28 : ∀ p, p < 11 → ∀ q, mj_ins 28 p = some q → decode (mj_cd 28) p = .ok q := by
  intro p hp q hq
  by_cases h0 : p < 11
  · exact mj_dchk_use mj_d28_0 (by omega) (by omega) hq
  omega
theorem mj_d29_0 : mj_dchk 29 0 80 = true := by decide +kernel
theorem mj_d29_80 : mj_dchk 29 80 57 = true := by decide +kernel
theorem mj_d29 : ∀ p, p < 137 → ∀ q, mj_ins 29 p = some q → decode (mj_cd 29) p = .ok q := by
  intro p hp q hq
  by_cases h0 : p < 80
  · exact mj_dchk_use mj_d29_0 (by omega) (by omega) hq
  by_cases h80 : p < 137
  · exact mj_dchk_use mj_d29_80 (by omega) (by omega) hq
  omega
theorem mj_d30_0 : mj_dchk 30 0 30 = true := by decide +kernel
theorem mj_d30 : ∀ p, p < 30 → ∀ q, mj_ins 30 p = some q → decode (mj_cd 30) p = .ok q := by
  intro p hp q hq
  by_cases h0 : p < 30
  · exact mj_dchk_use mj_d30_0 (by omega) (by omega) hq
  omega
theorem mj_d31_0 : mj_dchk 31 0 80 = true := by decide +kernel
theorem mj_d31_80 : mj_dchk 31 80 2 = true := by decide +kernel
theorem mj_d31 : ∀ p, p < 82 → ∀ q, mj_ins 31 p = some q → decode (mj_cd 31) p = .ok q := by
  intro p hp q hq
  by_cases h0 : p < 80
  · exact mj_dchk_use mj_d31_0 (by omega) (by omega) hq
  by_cases h80 : p < 82
  · exact mj_dchk_use mj_d31_80 (by omega) (by omega) hq
  omega
theorem mj_d32_0 : mj_dchk 32 0 75 = true := by decide +kernel
theorem mj_d32 : ∀ p, p < 75 → ∀ q, mj_ins 32 p = some q → decode (mj_cd 32) p = .ok q := by
  intro p hp q hq
  by_cases h0 : p < 75
  · exact mj_dchk_use mj_d32_0 (by omega) (by omega) hq
  omega
theorem mj_d33_0 : mj_dchk 33 0 25 = true := by decide +kernel
theorem mj_d33 : ∀ p, p < 25 → ∀ q, mj_ins 33 p = some q → decode (mj_cd 33) p = .ok q := by
  intro p hp q hq
  by_cases h0 : p < 25
  · exact mj_dchk_use mj_d33_0 (by omega) (by omega) hq
  omega
theorem mj_d34_0 : mj_dchk 34 0 19 = true := by decide +kernel
theorem mj_d34 : ∀ p, p < 19 → ∀ q, mj_ins 34 p = some q → decode (mj_cd 34) p = .ok q := by
  intro p hp q hq
  by_cases h0 : p < 19
  · exact mj_dchk_use mj_d34_0 (by omega) (by omega) hq
  omega
theorem mj_d35_0 : mj_dchk 35 0 15 = true := by decide +kernel
theorem mj_d35 : ∀ p, p < 15 → ∀ q, mj_ins 35 p = some q → decode (mj_cd 35) p = .ok q := by
  intro p hp q hq
  by_cases h0 : p < 15
  · exact mj_dchk_use mj_d35_0 (by omega) (by omega) hq
  omega
theorem mj_d36_0 : mj_dchk 36 0 10 = true := by decide +kernel
theorem mj_d36 : ∀ p, p < 10 → ∀ q, mj_ins 36 p = some q → decode (mj_cd 36) p = .ok q := by
  intro p hp q hq
  by_cases h0 : p < 10
  · exact mj_dchk_use mj_d36_0 (by omega) (by omega) hq
  omega
theorem mj_d37_0 : mj_dchk 37 0 18 = true := by decide +kernel
theorem mj_d37 : ∀ p, p < 18 → ∀ q, mj_ins 37 p = some q → decode (mj_cd 37) p = .ok q := by
  intro p hp q hq
  by_cases h0 : p < 18
  · exact mj_dchk_use mj_d37_0 (by omega) (by omega) hq
  omega
theorem mj_d38_0 : mj_dchk 38 0 18 = true := by decide +kernel
theorem mj_d38 : ∀ p, p < 18 → ∀ q, mj_ins 38 p = some q → decode (mj_cd 38) p = .ok q := by
  intro p hp q hq
  by_cases h0 : p < 18
  · exact mj_dchk_use mj_d38_0 (by omega) (by omega) hq
  omega
theorem mj_d39_0 : mj_dchk 39 0 80 = true := by decide +kernel
theorem mj_d39_80 : mj_dchk 39 80 1 = true := by decide +kernel
theorem mj_d39 : ∀ p, p < 81 → ∀ q, mj_ins 39 p = some q → decode (mj_cd 39) p = .ok q := by
  intro p hp q hq
  by_cases h0 : p < 80
  · exact mj_dchk_use mj_d39_0 (by omega) (by omega) hq
  by_cases h80 : p < 81
  · exact mj_dchk_use mj_d39_80 (by omega) (by omega) hq
  omega
theorem mj_d40_0 : mj_dchk 40 0 80 = true := by decide +kernel
theorem mj_d40_80 : mj_dchk 40 80 37 = true := by decide +kernel
theorem mj_d40 : ∀ p, p < 117 → ∀ q, mj_ins 40 p = some q → decode (mj_cd 40) p = .ok q := by
  intro p hp q hq
  by_cases h0 : p < 80
  · exact mj_dchk_use mj_d40_0 (by omega) (by omega) hq
  by_cases h80 : p < 117
  · exact mj_dchk_use mj_d40_80 (by omega) (by omega) hq
  omega
theorem mj_d41_0 : mj_dchk 41 0 7 = true := by decide +kernel
theorem mj_d41 : ∀ p, p < 7 → ∀ q, mj_ins 41 p = some q → decode (mj_cd 41) p = .ok q := by
  intro p hp q hq
  by_cases h0 : p < 7
  · exact mj_dchk_use mj_d41_0 (by omega) (by omega) hq
  omega
theorem mj_d42_0 : mj_dchk 42 0 37 = true := by decide +kernel
theorem mj_d42 : ∀ p, p < 37 → ∀ q, mj_ins 42 p = some q → decode (mj_cd 42) p = .ok q := by
  intro p hp q hq
  by_cases h0 : p < 37
  · exact mj_dchk_use mj_d42_0 (by omega) (by omega) hq
  omega
theorem mj_d43_0 : mj_dchk 43 0 11 = true := by decide +kernel
theorem mj_d43 : ∀ p, p < 11 → ∀ q, mj_ins 43 p = some q → decode (mj_cd 43) p = .ok q := by
  intro p hp q hq
  by_cases h0 : p < 11
  · exact mj_dchk_use mj_d43_0 (by omega) (by omega) hq
  omega
theorem mj_d44_0 : mj_dchk 44 0 15 = true := by decide +kernel
theorem mj_d44 : ∀ p, p < 15 → ∀ q, mj_ins 44 p = some q → decode (mj_cd 44) p = .ok q := by
  intro p hp q hq
  by_cases h0 : p < 15
  · exact mj_dchk_use mj_d44_0 (by omega) (by omega) hq
  omega
theorem mj_d45_0 : mj_dchk 45 0 37 = true := by decide +kernel
theorem mj_d45 : ∀ p, p < 37 → ∀ q, mj_ins 45 p = some q → decode (mj_cd 45) p = .ok q := by
  intro p hp q hq
  by_cases h0 : p < 37
  · exact mj_dchk_use mj_d45_0 (by omega) (by omega) hq
  omega
theorem mj_d46_0 : mj_dchk 46 0 17 = true := by decide +kernel
theorem mj_d46 : ∀ p, p < 17 → ∀ q, mj_ins 46 p = some q → decode (mj_cd 46) p = .ok q := by
  intro p hp q hq
  by_cases h0 : p < 17
  · exact mj_dchk_use mj_d46_0 (by omega) (by omega) hq
  omega
theorem mj_d47_0 : mj_dchk 47 0 11 = true := by decide +kernel
theorem mj_d47 : ∀ p, p < 11 → ∀ q, mj_ins 47 p = some q → decode (mj_cd 47) p = .ok q := by
  intro p hp q hq
  by_cases h0 : p < 11
  · exact mj_dchk_use mj_d47_0 (by omega) (by omega) hq
  omega
theorem mj_d48_0 : mj_dchk 48 0 33 = true := by decide +kernel
theorem mj_d48 : ∀ p, p < 33 → ∀ q, mj_ins 48 p = some q → decode (mj_cd 48) p = .ok q := by
  intro p hp q hq
  by_cases h0 : p < 33
  · exact mj_dchk_use mj_d48_0 (by omega) (by omega) hq
  omega
theorem mj_d49_0 : mj_dchk 49 0 61 = true := by decide +kernel
theorem mj_d49 : ∀ p, p < 61 → ∀ q, mj_ins 49 p = some q → decode (mj_cd 49) p = .ok q := by
  intro p hp q hq
  by_cases h0 : p < 61
  · exact mj_dchk_use mj_d49_0 (by omega) (by omega) hq
  omega
theorem mj_d50_0 : mj_dchk 50 0 46 = true := by decide +kernel
theorem mj_d50 : ∀ p, p < 46 → ∀ q, mj_ins 50 p = some q → decode (mj_cd 50) p = .ok q := by
  intro p hp q hq
  by_cases h0 : p < 46
  · exact mj_dchk_use mj_d50_0 (by omega) (by omega) hq
  omega
theorem mj_d51_0 : mj_dchk 51 0 27 = true := by decide +kernel
theorem mj_d51 : ∀ p, p < 27 → ∀ q, mj_ins 51 p = some q → decode (mj_cd 51) p = .ok q := by
  intro p hp q hq
  by_cases h0 : p < 27
  · exact mj_dchk_use mj_d51_0 (by omega) (by omega) hq
  omega
theorem mj_d52_0 : mj_dchk 52 0 78 = true := by decide +kernel
theorem mj_d52 : ∀ p, p < 78 → ∀ q, mj_ins 52 p = some q → decode (mj_cd 52) p = .ok q := by
  intro p hp q hq
  by_cases h0 : p < 78
  · exact mj_dchk_use mj_d52_0 (by omega) (by omega) hq
  omega
theorem mj_d53_0 : mj_dchk 53 0 60 = true := by decide +kernel
theorem mj_d53 : ∀ p, p < 60 → ∀ q, mj_ins 53 p = some q → decode (mj_cd 53) p = .ok q := by
  intro p hp q hq
  by_cases h0 : p < 60
  · exact mj_dchk_use mj_d53_0 (by omega) (by omega) hq
  omega
theorem mj_d54_0 : mj_dchk 54 0 60 = true := by decide +kernel
theorem mj_d54 : ∀ p, p < 60 → ∀ q, mj_ins 54 p = some q → decode (mj_cd 54) p = .ok q := by
  intro p hp q hq
  by_cases h0 : p < 60
  · exact mj_dchk_use mj_d54_0 (by omega) (by omega) hq
  omega
theorem mj_d55_0 : mj_dchk 55 0 80 = true := by decide +kernel
theorem mj_d55_80 : mj_dchk 55 80 57 = true := by decide +kernel
theorem mj_d55 : ∀ p, p < 137 → ∀ q, mj_ins 55 p = some q → decode (mj_cd 55) p = .ok q := by
  intro p hp q hq
  by_cases h0 : p < 80
  · exact mj_dchk_use mj_d55_0 (by omega) (by omega) hq
  by_cases h80 : p < 137
  · exact mj_dchk_use mj_d55_80 (by omega) (by omega) hq
  omega
theorem mj_d56_0 : mj_dchk 56 0 50 = true := by decide +kernel
theorem mj_d56 : ∀ p, p < 50 → ∀ q, mj_ins 56 p = some q → decode (mj_cd 56) p = .ok q := by
  intro p hp q hq
  by_cases h0 : p < 50
  · exact mj_dchk_use mj_d56_0 (by omega) (by omega) hq
  omega
theorem mj_d57_0 : mj_dchk 57 0 36 = true := by decide +kernel
theorem mj_d57 : ∀ p, p < 36 → ∀ q, mj_ins 57 p = some q → decode (mj_cd 57) p = .ok q := by
  intro p hp q hq
  by_cases h0 : p < 36
  · exact mj_dchk_use mj_d57_0 (by omega) (by omega) hq
  omega
theorem mj_d58_0 : mj_dchk 58 0 51 = true := by decide +kernel
theorem mj_d58 : ∀ p, p < 51 → ∀ q, mj_ins 58 p = some q → decode (mj_cd 58) p = .ok q := by
  intro p hp q hq
  by_cases h0 : p < 51
  · exact mj_dchk_use mj_d58_0 (by omega) (by omega) hq
  omega
theorem mj_d59_0 : mj_dchk 59 0 80 = true := by decide +kernel
theorem mj_d59_80 : mj_dchk 59 80 5 = true := by decide +kernel
theorem mj_d59 : ∀ p, p < 85 → ∀ q, mj_ins 59 p = some q → decode (mj_cd 59) p = .ok q := by
  intro p hp q hq
  by_cases h0 : p < 80
  · exact mj_dchk_use mj_d59_0 (by omega) (by omega) hq
  by_cases h80 : p < 85
  · exact mj_dchk_use mj_d59_80 (by omega) (by omega) hq
  omega
theorem mj_d60_0 : mj_dchk 60 0 21 = true := by decide +kernel
theorem mj_d60 : ∀ p, p < 21 → ∀ q, mj_ins 60 p = some q → decode (mj_cd 60) p = .ok q := by
  intro p hp q hq
  by_cases h0 : p < 21
  · exact mj_dchk_use mj_d60_0 (by omega) (by omega) hq
  omega
theorem mj_d61_0 : mj_dchk 61 0 60 = true := by decide +kernel
theorem mj_d61 : ∀ p, p < 60 → ∀ q, mj_ins 61 p = some q → decode (mj_cd 61) p = .ok q := by
  intro p hp q hq
  by_cases h0 : p < 60
  · exact mj_dchk_use mj_d61_0 (by omega) (by omega) hq
  omega
theorem mj_d62_0 : mj_dchk 62 0 47 = true := by decide +kernel
theorem mj_d62 : ∀ p, p < 47 → ∀ q, mj_ins 62 p = some q → decode (mj_cd 62) p = .ok q := by
  intro p hp q hq
  by_cases h0 : p < 47
  · exact mj_dchk_use mj_d62_0 (by omega) (by omega) hq
  omega
theorem mj_d63_0 : mj_dchk 63 0 47 = true := by decide +kernel
theorem mj_d63 : ∀ p, p < 47 → ∀ q, mj_ins 63 p = some q → decode (mj_cd 63) p = .ok q := by
  intro p hp q hq
  by_cases h0 : p < 47
  · exact mj_dchk_use mj_d63_0 (by omega) (by omega) hq
  omega
theorem mj_d64_0 : mj_dchk 64 0 80 = true := by decide +kernel
theorem mj_d64_80 : mj_dchk 64 80 30 = true := by decide +kernel
theorem mj_d64 : ∀ p, p < 110 → ∀ q, mj_ins 64 p = some q → decode (mj_cd 64) p = .ok q := by
  intro p hp q hq
  by_cases h0 : p < 80
  · exact mj_dchk_use mj_d64_0 (by omega) (by omega) hq
  by_cases h80 : p < 110
  · exact mj_dchk_use mj_d64_80 (by omega) (by omega) hq
  omega
theorem mj_d65_0 : mj_dchk 65 0 36 = true := by decide +kernel
theorem mj_d65 : ∀ p, p < 36 → ∀ q, mj_ins 65 p = some q → decode (mj_cd 65) p = .ok q := by
  intro p hp q hq
  by_cases h0 : p < 36
  · exact mj_dchk_use mj_d65_0 (by omega) (by omega) hq
  omega
theorem mj_d66_0 : mj_dchk 66 0 67 = true := by decide +kernel
theorem mj_d66 : ∀ p, p < 67 → ∀ q, mj_ins 66 p = some q → decode (mj_cd 66) p = .ok q := by
  intro p hp q hq
  by_cases h0 : p < 67
  · exact mj_dchk_use mj_d66_0 (by omega) (by omega) hq
  omega
theorem mj_d67_0 : mj_dchk 67 0 80 = true := by decide +kernel
theorem mj_d67_80 : mj_dchk 67 80 80 = true := by decide +kernel
theorem mj_d67_160 : mj_dchk 67 160 35 = true := by decide +kernel
theorem mj_d67 : ∀ p, p < 195 → ∀ q, mj_ins 67 p = some q → decode (mj_cd 67) p = .ok q := by
  intro p hp q hq
  by_cases h0 : p < 80
  · exact mj_dchk_use mj_d67_0 (by omega) (by omega) hq
  by_cases h80 : p < 160
  · exact mj_dchk_use mj_d67_80 (by omega) (by omega) hq
  by_cases h160 : p < 195
  · exact mj_dchk_use mj_d67_160 (by omega) (by omega) hq
  omega
theorem mj_d68_0 : mj_dchk 68 0 33 = true := by decide +kernel
theorem mj_d68 : ∀ p, p < 33 → ∀ q, mj_ins 68 p = some q → decode (mj_cd 68) p = .ok q := by
  intro p hp q hq
  by_cases h0 : p < 33
  · exact mj_dchk_use mj_d68_0 (by omega) (by omega) hq
  omega
theorem mj_d69_0 : mj_dchk 69 0 46 = true := by decide +kernel
theorem mj_d69 : ∀ p, p < 46 → ∀ q, mj_ins 69 p = some q → decode (mj_cd 69) p = .ok q := by
  intro p hp q hq
  by_cases h0 : p < 46
  · exact mj_dchk_use mj_d69_0 (by omega) (by omega) hq
  omega
theorem mj_d70_0 : mj_dchk 70 0 37 = true := by decide +kernel
theorem mj_d70 : ∀ p, p < 37 → ∀ q, mj_ins 70 p = some q → decode (mj_cd 70) p = .ok q := by
  intro p hp q hq
  by_cases h0 : p < 37
  · exact mj_dchk_use mj_d70_0 (by omega) (by omega) hq
  omega
theorem mj_d71_0 : mj_dchk 71 0 32 = true := by decide +kernel
theorem mj_d71 : ∀ p, p < 32 → ∀ q, mj_ins 71 p = some q → decode (mj_cd 71) p = .ok q := by
  intro p hp q hq
  by_cases h0 : p < 32
  · exact mj_dchk_use mj_d71_0 (by omega) (by omega) hq
  omega
theorem mj_d72_0 : mj_dchk 72 0 28 = true := by decide +kernel
theorem mj_d72 : ∀ p, p < 28 → ∀ q, mj_ins 72 p = some q → decode (mj_cd 72) p = .ok q := by
  intro p hp q hq
  by_cases h0 : p < 28
  · exact mj_dchk_use mj_d72_0 (by omega) (by omega) hq
  omega
theorem mj_d73_0 : mj_dchk 73 0 18 = true := by decide +kernel
theorem mj_d73 : ∀ p, p < 18 → ∀ q, mj_ins 73 p = some q → decode (mj_cd 73) p = .ok q := by
  intro p hp q hq
  by_cases h0 : p < 18
  · exact mj_dchk_use mj_d73_0 (by omega) (by omega) hq
  omega
theorem mj_d74_0 : mj_dchk 74 0 12 = true := by decide +kernel
theorem mj_d74 : ∀ p, p < 12 → ∀ q, mj_ins 74 p = some q → decode (mj_cd 74) p = .ok q := by
  intro p hp q hq
  by_cases h0 : p < 12
  · exact mj_dchk_use mj_d74_0 (by omega) (by omega) hq
  omega
theorem mj_d75_0 : mj_dchk 75 0 80 = true := by decide +kernel
theorem mj_d75_80 : mj_dchk 75 80 30 = true := by decide +kernel
theorem mj_d75 : ∀ p, p < 110 → ∀ q, mj_ins 75 p = some q → decode (mj_cd 75) p = .ok q := by
  intro p hp q hq
  by_cases h0 : p < 80
  · exact mj_dchk_use mj_d75_0 (by omega) (by omega) hq
  by_cases h80 : p < 110
  · exact mj_dchk_use mj_d75_80 (by omega) (by omega) hq
  omega
theorem mj_d76_0 : mj_dchk 76 0 18 = true := by decide +kernel
theorem mj_d76 : ∀ p, p < 18 → ∀ q, mj_ins 76 p = some q → decode (mj_cd 76) p = .ok q := by
  intro p hp q hq
  by_cases h0 : p < 18
  · exact mj_dchk_use mj_d76_0 (by omega) (by omega) hq
  omega
theorem mj_d77_0 : mj_dchk 77 0 18 = true := by decide +kernel
theorem mj_d77 : ∀ p, p < 18 → ∀ q, mj_ins 77 p = some q → decode (mj_cd 77) p = .ok q := by
  intro p hp q hq
  by_cases h0 : p < 18
  · exact mj_dchk_use mj_d77_0 (by omega) (by omega) hq
  omega
theorem mj_d78_0 : mj_dchk 78 0 48 = true := by decide +kernel
theorem mj_d78 : ∀ p, p < 48 → ∀ q, mj_ins 78 p = some q → decode (mj_cd 78) p = .ok q := by
  intro p hp q hq
  by_cases h0 : p < 48
  · exact mj_dchk_use mj_d78_0 (by omega) (by omega) hq
  omega
theorem mj_d79_0 : mj_dchk 79 0 20 = true := by decide +kernel
theorem mj_d79 : ∀ p, p < 20 → ∀ q, mj_ins 79 p = some q → decode (mj_cd 79) p = .ok q := by
  intro p hp q hq
  by_cases h0 : p < 20
  · exact mj_dchk_use mj_d79_0 (by omega) (by omega) hq
  omega
theorem mj_d80_0 : mj_dchk 80 0 61 = true := by decide +kernel
theorem mj_d80 : ∀ p, p < 61 → ∀ q, mj_ins 80 p = some q → decode (mj_cd 80) p = .ok q := by
  intro p hp q hq
  by_cases h0 : p < 61
  · exact mj_dchk_use mj_d80_0 (by omega) (by omega) hq
  omega
theorem mj_d81_0 : mj_dchk 81 0 19 = true := by decide +kernel
theorem mj_d81 : ∀ p, p < 19 → ∀ q, mj_ins 81 p = some q → decode (mj_cd 81) p = .ok q := by
  intro p hp q hq
  by_cases h0 : p < 19
  · exact mj_dchk_use mj_d81_0 (by omega) (by omega) hq
  omega
theorem mj_d82_0 : mj_dchk 82 0 62 = true := by decide +kernel
theorem mj_d82 : ∀ p, p < 62 → ∀ q, mj_ins 82 p = some q → decode (mj_cd 82) p = .ok q := by
  intro p hp q hq
  by_cases h0 : p < 62
  · exact mj_dchk_use mj_d82_0 (by omega) (by omega) hq
  omega
