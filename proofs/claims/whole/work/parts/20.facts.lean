/-! WHAT THE STATEMENT GIVES OF THE START -/
def mj_nw1 : List Cond := flatC (Jvm.Cond.and given_1 narrow_1)
def mj_tm (i : Nat) : Term := .string "PerfectFerried$Reader" (if i = 0 then 121 else 129)
theorem mj_n_ways : ∀ j, j < 40 → Cond.eq (.elem (.static "PerfectFerried$Tongue" "WAYS" "[I") (.int (Int32.ofNat j))) (.int (Int32.ofInt (mj_ways.getD j 0))) ∈ mj_nw1 := by decide +kernel
theorem mj_n_wayl : Cond.eq (.length (.static "PerfectFerried$Tongue" "WAYS" "[I")) (.int (Int32.ofNat 40)) ∈ mj_nw1 ∧ Cond.arrayOf (.static "PerfectFerried$Tongue" "WAYS" "[I") .int ∈ mj_nw1 ∧ Cond.eq (.static "java/lang/String" "COMPACT_STRINGS" "Z") (.int 1) ∈ mj_nw1 ∧ Cond.isRef (.static "jdk/internal/util/Preconditions" "SIOOBE_FORMATTER" "Ljava/util/function/BiFunction;") ∈ mj_nw1 := by decide +kernel
theorem mj_n_tx : ∀ i, i < 2 → Cond.exactly (mj_tm i) "java/lang/String" ∈ mj_nw1 ∧ Cond.eq (.field (mj_tm i) "java/lang/String" "coder" "B") (.int 0) ∈ mj_nw1 ∧ Cond.arrayOf (.field (mj_tm i) "java/lang/String" "value" "[B") .byte ∈ mj_nw1 ∧ Cond.eq (.length (.field (mj_tm i) "java/lang/String" "value" "[B")) (.int (Int32.ofNat (([156, 11] : List Nat).getD i 0))) ∈ mj_nw1 := by decide +kernel
def mj_nbq (j : Nat) : Cond := Cond.eq (.elem (.field (mj_tm 0) "java/lang/String" "value" "[B") (.int (Int32.ofNat j))) (.int ((mj_byt.getD 0 []).getD j 0))
theorem mj_n_b0_0 : ∀ j, j < 13 → mj_nbq (0 + j) ∈ mj_nw1 := by decide +kernel
theorem mj_n_b0_13 : ∀ j, j < 13 → mj_nbq (13 + j) ∈ mj_nw1 := by decide +kernel
theorem mj_n_b0_26 : ∀ j, j < 13 → mj_nbq (26 + j) ∈ mj_nw1 := by decide +kernel
theorem mj_n_b0_39 : ∀ j, j < 13 → mj_nbq (39 + j) ∈ mj_nw1 := by decide +kernel
theorem mj_n_b0_52 : ∀ j, j < 13 → mj_nbq (52 + j) ∈ mj_nw1 := by decide +kernel
theorem mj_n_b0_65 : ∀ j, j < 13 → mj_nbq (65 + j) ∈ mj_nw1 := by decide +kernel
theorem mj_n_b0_78 : ∀ j, j < 13 → mj_nbq (78 + j) ∈ mj_nw1 := by decide +kernel
theorem mj_n_b0_91 : ∀ j, j < 13 → mj_nbq (91 + j) ∈ mj_nw1 := by decide +kernel
theorem mj_n_b0_104 : ∀ j, j < 13 → mj_nbq (104 + j) ∈ mj_nw1 := by decide +kernel
theorem mj_n_b0_117 : ∀ j, j < 13 → mj_nbq (117 + j) ∈ mj_nw1 := by decide +kernel
theorem mj_n_b0_130 : ∀ j, j < 13 → mj_nbq (130 + j) ∈ mj_nw1 := by decide +kernel
theorem mj_n_b0_143 : ∀ j, j < 13 → mj_nbq (143 + j) ∈ mj_nw1 := by decide +kernel
theorem mj_n_b0 : ∀ j, j < 156 → mj_nbq j ∈ mj_nw1 := by
  intro j hj
  by_cases h0 : j < 13
  · have h := mj_n_b0_0 (j - 0) (by omega)
    rw [show 0 + (j - 0) = j by omega] at h
    exact h
  by_cases h13 : j < 26
  · have h := mj_n_b0_13 (j - 13) (by omega)
    rw [show 13 + (j - 13) = j by omega] at h
    exact h
  by_cases h26 : j < 39
  · have h := mj_n_b0_26 (j - 26) (by omega)
    rw [show 26 + (j - 26) = j by omega] at h
    exact h
  by_cases h39 : j < 52
  · have h := mj_n_b0_39 (j - 39) (by omega)
    rw [show 39 + (j - 39) = j by omega] at h
    exact h
  by_cases h52 : j < 65
  · have h := mj_n_b0_52 (j - 52) (by omega)
    rw [show 52 + (j - 52) = j by omega] at h
    exact h
  by_cases h65 : j < 78
  · have h := mj_n_b0_65 (j - 65) (by omega)
    rw [show 65 + (j - 65) = j by omega] at h
    exact h
  by_cases h78 : j < 91
  · have h := mj_n_b0_78 (j - 78) (by omega)
    rw [show 78 + (j - 78) = j by omega] at h
    exact h
  by_cases h91 : j < 104
  · have h := mj_n_b0_91 (j - 91) (by omega)
    rw [show 91 + (j - 91) = j by omega] at h
    exact h
  by_cases h104 : j < 117
  · have h := mj_n_b0_104 (j - 104) (by omega)
    rw [show 104 + (j - 104) = j by omega] at h
    exact h
  by_cases h117 : j < 130
  · have h := mj_n_b0_117 (j - 117) (by omega)
    rw [show 117 + (j - 117) = j by omega] at h
    exact h
  by_cases h130 : j < 143
  · have h := mj_n_b0_130 (j - 130) (by omega)
    rw [show 130 + (j - 130) = j by omega] at h
    exact h
  by_cases h143 : j < 156
  · have h := mj_n_b0_143 (j - 143) (by omega)
    rw [show 143 + (j - 143) = j by omega] at h
    exact h
  omega
theorem mj_n_b1 : ∀ j, j < 11 → Cond.eq (.elem (.field (mj_tm 1) "java/lang/String" "value" "[B") (.int (Int32.ofNat j))) (.int ((mj_byt.getD 1 []).getD j 0)) ∈ mj_nw1 := by decide +kernel
theorem mj_n_ne : Cond.not (Cond.eq (mj_tm 0) (mj_tm 1)) ∈ mj_nw1 := by decide +kernel
theorem mj_t_st : Cond.laysStatic "java/lang/String" "COMPACT_STRINGS" "Z" ∈ tables_1 ∧ Cond.laysStatic "PerfectFerried$Tongue" "WAYS" "[I" ∈ tables_1 ∧ Cond.laysStatic "jdk/internal/util/Preconditions" "SIOOBE_FORMATTER" "Ljava/util/function/BiFunction;" ∈ tables_1 ∧ Cond.initialized "java/lang/String" ∈ tables_1 ∧ Cond.initialized "PerfectFerried$Tongue" ∈ tables_1 ∧ Cond.initialized "jdk/internal/util/Preconditions" ∈ tables_1 := by decide +kernel
theorem mj_t_ao : Cond.arrayOver (.object "PerfectFerried$Moment") ∈ tables_1 ∧ Cond.arrayOver (.object "PerfectFerried$Text") ∈ tables_1 ∧ Cond.castable "[I" "java/lang/Cloneable" ∈ tables_1 ∧ Cond.stringRef "PerfectFerried$Reader" 121 mj_tx0 ∈ tables_1 ∧ Cond.stringRef "PerfectFerried$Reader" 129 mj_tx1 ∈ tables_1 := by decide +kernel
