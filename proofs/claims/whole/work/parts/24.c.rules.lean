section PC
variable {X : mj_X} {d : Nat} {ls st : List mj_V} {M : mj_M} {Q : Option mj_V → mj_M → Prop}
-- 0: PerfectFerried.<init>()V
theorem w0_0 {x : Int} : wp X d 0 0 ((31, x) :: ls) st M Q ↔ wp X d 0 1 ((31, x) :: ls) ((31, x) :: st) M Q := q_aload_n (show mj_ins 0 0 = some (.aload_n 0, 1) from rfl) rfl rfl
theorem w0_1 {x : Int} : wp X d 0 1 ls ((31, x) :: st) M Q ↔ (x ≠ 0 ∧ mj_cs st ≤ 8) ∧ wp X d 0 4 ls st M Q := q_oin (by decide) (show mj_ins 0 1 = some (.invokespecial 1, 3) from rfl) rfl
theorem w0_4 {x : Int} : wp X d 0 4 ((31, x) :: ls) st M Q ↔ wp X d 0 5 ((31, x) :: ls) ((31, x) :: st) M Q := q_aload_n (show mj_ins 0 4 = some (.aload_n 0, 1) from rfl) rfl rfl
theorem w0_5 : wp X d 0 5 ls st M Q ↔ wp X d 0 8 ls ((25, (M.1 : Int) + 1) :: st) (mj_nw M 25 2 (fun _ => 0)) Q := q_new (show mj_ins 0 5 = some (.new 7, 3) from rfl) rfl rfl (by decide)
theorem w0_8 {x : Int} : wp X d 0 8 ls ((25, x) :: st) M Q ↔ wp X d 0 9 ls ((25, x) :: (25, x) :: st) M Q := q_dup (show mj_ins 0 8 = some (.dup, 1) from rfl) (show ¬ ((25 : Nat) = 1 ∨ (25 : Nat) = 9) by decide)
theorem w0_9 {a0 : Int} : wp X (d + 1) 0 9 ls ((25, a0) :: st) M Q ↔ (a0 ≠ 0 ∧ mj_cs st ≤ 8) ∧ wc X d 1 [(25, a0)] M (fun r M => wp X (d + 1) 0 12 ls (r.toList ++ st) M Q) := q_callI ⟨rfl, rfl⟩ (show mj_ins 0 9 = some (.invokespecial 9, 3) from rfl) rfl rfl rfl (Nat.le_of_ble_eq_true rfl)
theorem w0_12 {x w : Int} : wp X d 0 12 ls ((25, w) :: (31, x) :: st) M Q ↔ x ≠ 0 ∧ wp X d 0 15 ls st (mj_wr M x 0 w) Q := q_putfield (show mj_ins 0 12 = some (.putfield 10, 3) from rfl) rfl rfl (Or.inr ⟨rfl, rfl⟩) rfl
theorem w0_15 {x : Int} : wp X d 0 15 ((31, x) :: ls) st M Q ↔ wp X d 0 16 ((31, x) :: ls) ((31, x) :: st) M Q := q_aload_n (show mj_ins 0 15 = some (.aload_n 0, 1) from rfl) rfl rfl
theorem w0_16 : wp X d 0 16 ls st M Q ↔ wp X d 0 19 ls ((30, (M.1 : Int) + 1) :: st) (mj_nw M 30 12 (fun _ => 0)) Q := q_new (show mj_ins 0 16 = some (.new 16, 3) from rfl) rfl rfl (by decide)
theorem w0_19 {x : Int} : wp X d 0 19 ls ((30, x) :: st) M Q ↔ wp X d 0 20 ls ((30, x) :: (30, x) :: st) M Q := q_dup (show mj_ins 0 19 = some (.dup, 1) from rfl) (show ¬ ((30 : Nat) = 1 ∨ (30 : Nat) = 9) by decide)
theorem w0_20 {a0 : Int} : wp X (d + 1) 0 20 ls ((30, a0) :: st) M Q ↔ (a0 ≠ 0 ∧ mj_cs st ≤ 8) ∧ wc X d 4 [(30, a0)] M (fun r M => wp X (d + 1) 0 23 ls (r.toList ++ st) M Q) := q_callI ⟨rfl, rfl⟩ (show mj_ins 0 20 = some (.invokespecial 18, 3) from rfl) rfl rfl rfl (Nat.le_of_ble_eq_true rfl)
theorem w0_23 {x w : Int} : wp X d 0 23 ls ((30, w) :: (31, x) :: st) M Q ↔ x ≠ 0 ∧ wp X d 0 26 ls st (mj_wr M x 1 w) Q := q_putfield (show mj_ins 0 23 = some (.putfield 19, 3) from rfl) rfl rfl (Or.inr ⟨rfl, rfl⟩) rfl
theorem w0_26 {x : Int} : wp X d 0 26 ((31, x) :: ls) st M Q ↔ wp X d 0 27 ((31, x) :: ls) ((31, x) :: st) M Q := q_aload_n (show mj_ins 0 26 = some (.aload_n 0, 1) from rfl) rfl rfl
theorem w0_27 : wp X d 0 27 ls st M Q ↔ wp X d 0 30 ls ((30, (M.1 : Int) + 1) :: st) (mj_nw M 30 12 (fun _ => 0)) Q := q_new (show mj_ins 0 27 = some (.new 16, 3) from rfl) rfl rfl (by decide)
theorem w0_30 {x : Int} : wp X d 0 30 ls ((30, x) :: st) M Q ↔ wp X d 0 31 ls ((30, x) :: (30, x) :: st) M Q := q_dup (show mj_ins 0 30 = some (.dup, 1) from rfl) (show ¬ ((30 : Nat) = 1 ∨ (30 : Nat) = 9) by decide)
theorem w0_31 {a0 : Int} : wp X (d + 1) 0 31 ls ((30, a0) :: st) M Q ↔ (a0 ≠ 0 ∧ mj_cs st ≤ 8) ∧ wc X d 4 [(30, a0)] M (fun r M => wp X (d + 1) 0 34 ls (r.toList ++ st) M Q) := q_callI ⟨rfl, rfl⟩ (show mj_ins 0 31 = some (.invokespecial 18, 3) from rfl) rfl rfl rfl (Nat.le_of_ble_eq_true rfl)
theorem w0_34 {x w : Int} : wp X d 0 34 ls ((30, w) :: (31, x) :: st) M Q ↔ x ≠ 0 ∧ wp X d 0 37 ls st (mj_wr M x 2 w) Q := q_putfield (show mj_ins 0 34 = some (.putfield 23, 3) from rfl) rfl rfl (Or.inr ⟨rfl, rfl⟩) rfl
theorem w0_37 {x : Int} : wp X d 0 37 ((31, x) :: ls) st M Q ↔ wp X d 0 38 ((31, x) :: ls) ((31, x) :: st) M Q := q_aload_n (show mj_ins 0 37 = some (.aload_n 0, 1) from rfl) rfl rfl
theorem w0_38 : wp X d 0 38 ls st M Q ↔ wp X d 0 41 ls ((23, (M.1 : Int) + 1) :: st) (mj_nw M 23 1 (fun _ => 0)) Q := q_new (show mj_ins 0 38 = some (.new 26, 3) from rfl) rfl rfl (by decide)
theorem w0_41 {x : Int} : wp X d 0 41 ls ((23, x) :: st) M Q ↔ wp X d 0 42 ls ((23, x) :: (23, x) :: st) M Q := q_dup (show mj_ins 0 41 = some (.dup, 1) from rfl) (show ¬ ((23 : Nat) = 1 ∨ (23 : Nat) = 9) by decide)
theorem w0_42 {a0 : Int} : wp X (d + 1) 0 42 ls ((23, a0) :: st) M Q ↔ (a0 ≠ 0 ∧ mj_cs st ≤ 8) ∧ wc X d 8 [(23, a0)] M (fun r M => wp X (d + 1) 0 45 ls (r.toList ++ st) M Q) := q_callI ⟨rfl, rfl⟩ (show mj_ins 0 42 = some (.invokespecial 28, 3) from rfl) rfl rfl rfl (Nat.le_of_ble_eq_true rfl)
theorem w0_45 {x w : Int} : wp X d 0 45 ls ((23, w) :: (31, x) :: st) M Q ↔ x ≠ 0 ∧ wp X d 0 48 ls st (mj_wr M x 3 w) Q := q_putfield (show mj_ins 0 45 = some (.putfield 29, 3) from rfl) rfl rfl (Or.inr ⟨rfl, rfl⟩) rfl
theorem w0_48 {x : Int} : wp X d 0 48 ((31, x) :: ls) st M Q ↔ wp X d 0 49 ((31, x) :: ls) ((31, x) :: st) M Q := q_aload_n (show mj_ins 0 48 = some (.aload_n 0, 1) from rfl) rfl rfl
theorem w0_49 : wp X d 0 49 ls st M Q ↔ wp X d 0 52 ls ((22, (M.1 : Int) + 1) :: st) (mj_nw M 22 3 (fun _ => 0)) Q := q_new (show mj_ins 0 49 = some (.new 33, 3) from rfl) rfl rfl (by decide)
theorem w0_52 {x : Int} : wp X d 0 52 ls ((22, x) :: st) M Q ↔ wp X d 0 53 ls ((22, x) :: (22, x) :: st) M Q := q_dup (show mj_ins 0 52 = some (.dup, 1) from rfl) (show ¬ ((22 : Nat) = 1 ∨ (22 : Nat) = 9) by decide)
theorem w0_53 {x : Int} : wp X d 0 53 ((31, x) :: ls) st M Q ↔ wp X d 0 54 ((31, x) :: ls) ((31, x) :: st) M Q := q_aload_n (show mj_ins 0 53 = some (.aload_n 0, 1) from rfl) rfl rfl
theorem w0_54 {x : Int} : wp X d 0 54 ls ((31, x) :: st) M Q ↔ x ≠ 0 ∧ wp X d 0 57 ls ((30, hh M x 1) :: st) M Q := q_getfield (show mj_ins 0 54 = some (.getfield 19, 3) from rfl) rfl rfl rfl
theorem w0_57 {x : Int} : wp X d 0 57 ((31, x) :: ls) st M Q ↔ wp X d 0 58 ((31, x) :: ls) ((31, x) :: st) M Q := q_aload_n (show mj_ins 0 57 = some (.aload_n 0, 1) from rfl) rfl rfl
theorem w0_58 {x : Int} : wp X d 0 58 ls ((31, x) :: st) M Q ↔ x ≠ 0 ∧ wp X d 0 61 ls ((23, hh M x 3) :: st) M Q := q_getfield (show mj_ins 0 58 = some (.getfield 29, 3) from rfl) rfl rfl rfl
theorem w0_61 {a0 a1 a2 : Int} : wp X (d + 1) 0 61 ls ((23, a2) :: (30, a1) :: (22, a0) :: st) M Q ↔ (a0 ≠ 0 ∧ mj_cs st ≤ 8) ∧ wc X d 9 [(22, a0), (30, a1), (23, a2)] M (fun r M => wp X (d + 1) 0 64 ls (r.toList ++ st) M Q) := q_callI ⟨rfl, rfl⟩ (show mj_ins 0 61 = some (.invokespecial 35, 3) from rfl) rfl rfl rfl (Nat.le_of_ble_eq_true rfl)
theorem w0_64 {x w : Int} : wp X d 0 64 ls ((22, w) :: (31, x) :: st) M Q ↔ x ≠ 0 ∧ wp X d 0 67 ls st (mj_wr M x 4 w) Q := q_putfield (show mj_ins 0 64 = some (.putfield 38, 3) from rfl) rfl rfl (Or.inr ⟨rfl, rfl⟩) rfl
theorem w0_67 {x : Int} : wp X d 0 67 ((31, x) :: ls) st M Q ↔ wp X d 0 68 ((31, x) :: ls) ((31, x) :: st) M Q := q_aload_n (show mj_ins 0 67 = some (.aload_n 0, 1) from rfl) rfl rfl
theorem w0_68 : wp X d 0 68 ls st M Q ↔ wp X d 0 71 ls ((21, (M.1 : Int) + 1) :: st) (mj_nw M 21 4 (fun _ => 0)) Q := q_new (show mj_ins 0 68 = some (.new 42, 3) from rfl) rfl rfl (by decide)
theorem w0_71 {x : Int} : wp X d 0 71 ls ((21, x) :: st) M Q ↔ wp X d 0 72 ls ((21, x) :: (21, x) :: st) M Q := q_dup (show mj_ins 0 71 = some (.dup, 1) from rfl) (show ¬ ((21 : Nat) = 1 ∨ (21 : Nat) = 9) by decide)
theorem w0_72 {x : Int} : wp X d 0 72 ((31, x) :: ls) st M Q ↔ wp X d 0 73 ((31, x) :: ls) ((31, x) :: st) M Q := q_aload_n (show mj_ins 0 72 = some (.aload_n 0, 1) from rfl) rfl rfl
theorem w0_73 {x : Int} : wp X d 0 73 ls ((31, x) :: st) M Q ↔ x ≠ 0 ∧ wp X d 0 76 ls ((25, hh M x 0) :: st) M Q := q_getfield (show mj_ins 0 73 = some (.getfield 10, 3) from rfl) rfl rfl rfl
theorem w0_76 {x : Int} : wp X d 0 76 ((31, x) :: ls) st M Q ↔ wp X d 0 77 ((31, x) :: ls) ((31, x) :: st) M Q := q_aload_n (show mj_ins 0 76 = some (.aload_n 0, 1) from rfl) rfl rfl
theorem w0_77 {x : Int} : wp X d 0 77 ls ((31, x) :: st) M Q ↔ x ≠ 0 ∧ wp X d 0 80 ls ((30, hh M x 1) :: st) M Q := q_getfield (show mj_ins 0 77 = some (.getfield 19, 3) from rfl) rfl rfl rfl
theorem w0_80 {x : Int} : wp X d 0 80 ls ((30, x) :: st) M Q ↔ x ≠ 0 ∧ wp X d 0 83 ls ((27, hh M x 2) :: st) M Q := q_getfield (show mj_ins 0 80 = some (.getfield 44, 3) from rfl) rfl rfl rfl
theorem w0_83 {a0 a1 a2 : Int} : wp X (d + 1) 0 83 ls ((27, a2) :: (25, a1) :: (21, a0) :: st) M Q ↔ (a0 ≠ 0 ∧ mj_cs st ≤ 8) ∧ wc X d 10 [(21, a0), (25, a1), (27, a2)] M (fun r M => wp X (d + 1) 0 86 ls (r.toList ++ st) M Q) := q_callI ⟨rfl, rfl⟩ (show mj_ins 0 83 = some (.invokespecial 48, 3) from rfl) rfl rfl rfl (Nat.le_of_ble_eq_true rfl)
theorem w0_86 {x w : Int} : wp X d 0 86 ls ((21, w) :: (31, x) :: st) M Q ↔ x ≠ 0 ∧ wp X d 0 89 ls st (mj_wr M x 5 w) Q := q_putfield (show mj_ins 0 86 = some (.putfield 51, 3) from rfl) rfl rfl (Or.inr ⟨rfl, rfl⟩) rfl
theorem w0_89 {x : Int} : wp X d 0 89 ((31, x) :: ls) st M Q ↔ wp X d 0 90 ((31, x) :: ls) ((31, x) :: st) M Q := q_aload_n (show mj_ins 0 89 = some (.aload_n 0, 1) from rfl) rfl rfl
theorem w0_90 : wp X d 0 90 ls st M Q ↔ wp X d 0 93 ls ((20, (M.1 : Int) + 1) :: st) (mj_nw M 20 3 (fun _ => 0)) Q := q_new (show mj_ins 0 90 = some (.new 55, 3) from rfl) rfl rfl (by decide)
theorem w0_93 {x : Int} : wp X d 0 93 ls ((20, x) :: st) M Q ↔ wp X d 0 94 ls ((20, x) :: (20, x) :: st) M Q := q_dup (show mj_ins 0 93 = some (.dup, 1) from rfl) (show ¬ ((20 : Nat) = 1 ∨ (20 : Nat) = 9) by decide)
theorem w0_94 {x : Int} : wp X d 0 94 ((31, x) :: ls) st M Q ↔ wp X d 0 95 ((31, x) :: ls) ((31, x) :: st) M Q := q_aload_n (show mj_ins 0 94 = some (.aload_n 0, 1) from rfl) rfl rfl
theorem w0_95 {x : Int} : wp X d 0 95 ls ((31, x) :: st) M Q ↔ x ≠ 0 ∧ wp X d 0 98 ls ((30, hh M x 1) :: st) M Q := q_getfield (show mj_ins 0 95 = some (.getfield 19, 3) from rfl) rfl rfl rfl
theorem w0_98 {x : Int} : wp X d 0 98 ((31, x) :: ls) st M Q ↔ wp X d 0 99 ((31, x) :: ls) ((31, x) :: st) M Q := q_aload_n (show mj_ins 0 98 = some (.aload_n 0, 1) from rfl) rfl rfl
theorem w0_99 {x : Int} : wp X d 0 99 ls ((31, x) :: st) M Q ↔ x ≠ 0 ∧ wp X d 0 102 ls ((22, hh M x 4) :: st) M Q := q_getfield (show mj_ins 0 99 = some (.getfield 38, 3) from rfl) rfl rfl rfl
theorem w0_102 {x : Int} : wp X d 0 102 ((31, x) :: ls) st M Q ↔ wp X d 0 103 ((31, x) :: ls) ((31, x) :: st) M Q := q_aload_n (show mj_ins 0 102 = some (.aload_n 0, 1) from rfl) rfl rfl
theorem w0_103 {x : Int} : wp X d 0 103 ls ((31, x) :: st) M Q ↔ x ≠ 0 ∧ wp X d 0 106 ls ((23, hh M x 3) :: st) M Q := q_getfield (show mj_ins 0 103 = some (.getfield 29, 3) from rfl) rfl rfl rfl
theorem w0_106 {a0 a1 a2 a3 : Int} : wp X (d + 1) 0 106 ls ((23, a3) :: (22, a2) :: (30, a1) :: (20, a0) :: st) M Q ↔ (a0 ≠ 0 ∧ mj_cs st ≤ 8) ∧ wc X d 11 [(20, a0), (30, a1), (22, a2), (23, a3)] M (fun r M => wp X (d + 1) 0 109 ls (r.toList ++ st) M Q) := q_callI ⟨rfl, rfl⟩ (show mj_ins 0 106 = some (.invokespecial 57, 3) from rfl) rfl rfl rfl (Nat.le_of_ble_eq_true rfl)
theorem w0_109 {x w : Int} : wp X d 0 109 ls ((20, w) :: (31, x) :: st) M Q ↔ x ≠ 0 ∧ wp X d 0 112 ls st (mj_wr M x 6 w) Q := q_putfield (show mj_ins 0 109 = some (.putfield 60, 3) from rfl) rfl rfl (Or.inr ⟨rfl, rfl⟩) rfl
theorem w0_112 {x : Int} : wp X d 0 112 ((31, x) :: ls) st M Q ↔ wp X d 0 113 ((31, x) :: ls) ((31, x) :: st) M Q := q_aload_n (show mj_ins 0 112 = some (.aload_n 0, 1) from rfl) rfl rfl
theorem w0_113 : wp X d 0 113 ls st M Q ↔ wp X d 0 116 ls ((0, 300) :: st) M Q := q_sipush (show mj_ins 0 113 = some (.sipush 300, 3) from rfl) (by decide)
theorem w0_116 {n : Int} : wp X d 0 116 ls ((0, n) :: st) M Q ↔ (0 ≤ n ∧ n ≤ 100000) ∧ wp X d 0 118 ls ((3, (M.1 : Int) + 1) :: st) (mj_nw M 3 n (fun _ => 0)) Q := q_newI (show mj_ins 0 116 = some (.newarray .int, 2) from rfl)
theorem w0_118 {x w : Int} : wp X d 0 118 ls ((3, w) :: (31, x) :: st) M Q ↔ x ≠ 0 ∧ wp X d 0 121 ls st (mj_wr M x 7 w) Q := q_putfield (show mj_ins 0 118 = some (.putfield 64, 3) from rfl) rfl rfl (Or.inr ⟨rfl, rfl⟩) rfl
theorem w0_121 {x : Int} : wp X d 0 121 ((31, x) :: ls) st M Q ↔ wp X d 0 122 ((31, x) :: ls) ((31, x) :: st) M Q := q_aload_n (show mj_ins 0 121 = some (.aload_n 0, 1) from rfl) rfl rfl
theorem w0_122 : wp X d 0 122 ls st M Q ↔ wp X d 0 125 ls ((26, (M.1 : Int) + 1) :: st) (mj_nw M 26 17 (fun _ => 0)) Q := q_new (show mj_ins 0 122 = some (.new 68, 3) from rfl) rfl rfl (by decide)
theorem w0_125 {x : Int} : wp X d 0 125 ls ((26, x) :: st) M Q ↔ wp X d 0 126 ls ((26, x) :: (26, x) :: st) M Q := q_dup (show mj_ins 0 125 = some (.dup, 1) from rfl) (show ¬ ((26 : Nat) = 1 ∨ (26 : Nat) = 9) by decide)
theorem w0_126 {x : Int} : wp X d 0 126 ((31, x) :: ls) st M Q ↔ wp X d 0 127 ((31, x) :: ls) ((31, x) :: st) M Q := q_aload_n (show mj_ins 0 126 = some (.aload_n 0, 1) from rfl) rfl rfl
theorem w0_127 {x : Int} : wp X d 0 127 ls ((31, x) :: st) M Q ↔ x ≠ 0 ∧ wp X d 0 130 ls ((3, hh M x 7) :: st) M Q := q_getfield (show mj_ins 0 127 = some (.getfield 64, 3) from rfl) rfl rfl rfl
theorem w0_130 {a0 a1 : Int} : wp X (d + 1) 0 130 ls ((3, a1) :: (26, a0) :: st) M Q ↔ (a0 ≠ 0 ∧ mj_cs st ≤ 8) ∧ wc X d 12 [(26, a0), (3, a1)] M (fun r M => wp X (d + 1) 0 133 ls (r.toList ++ st) M Q) := q_callI ⟨rfl, rfl⟩ (show mj_ins 0 130 = some (.invokespecial 70, 3) from rfl) rfl rfl rfl (Nat.le_of_ble_eq_true rfl)
theorem w0_133 {x w : Int} : wp X d 0 133 ls ((26, w) :: (31, x) :: st) M Q ↔ x ≠ 0 ∧ wp X d 0 136 ls st (mj_wr M x 8 w) Q := q_putfield (show mj_ins 0 133 = some (.putfield 73, 3) from rfl) rfl rfl (Or.inr ⟨rfl, rfl⟩) rfl
theorem w0_136 {x : Int} : wp X d 0 136 ((31, x) :: ls) st M Q ↔ wp X d 0 137 ((31, x) :: ls) ((31, x) :: st) M Q := q_aload_n (show mj_ins 0 136 = some (.aload_n 0, 1) from rfl) rfl rfl
theorem w0_137 : wp X d 0 137 ls st M Q ↔ wp X d 0 138 ls ((0, 0) :: st) M Q := q_iconst (show mj_ins 0 137 = some (.iconst 0, 1) from rfl) (by decide)
theorem w0_138 {x w : Int} : wp X d 0 138 ls ((0, w) :: (31, x) :: st) M Q ↔ x ≠ 0 ∧ wp X d 0 141 ls st (mj_wr M x 9 w) Q := q_putfield (show mj_ins 0 138 = some (.putfield 77, 3) from rfl) rfl rfl (Or.inl rfl) rfl
theorem w0_141 {x : Int} : wp X d 0 141 ((31, x) :: ls) st M Q ↔ wp X d 0 142 ((31, x) :: ls) ((31, x) :: st) M Q := q_aload_n (show mj_ins 0 141 = some (.aload_n 0, 1) from rfl) rfl rfl
theorem w0_142 : wp X d 0 142 ls st M Q ↔ wp X d 0 143 ls ((0, 0) :: st) M Q := q_iconst (show mj_ins 0 142 = some (.iconst 0, 1) from rfl) (by decide)
theorem w0_143 {x w : Int} (hw : w = 0 ∨ w = 1) : wp X d 0 143 ls ((0, w) :: (31, x) :: st) M Q ↔ x ≠ 0 ∧ wp X d 0 146 ls st (mj_wr M x 10 w) Q := q_putfield (show mj_ins 0 143 = some (.putfield 81, 3) from rfl) rfl rfl (Or.inl rfl) (show (if (0 : Nat) = 0 ∧ (w = 0 ∨ w = 1) then some w else none) = some w from if_pos ⟨rfl, hw⟩)
theorem w0_146 {x : Int} : wp X d 0 146 ((31, x) :: ls) st M Q ↔ wp X d 0 147 ((31, x) :: ls) ((31, x) :: st) M Q := q_aload_n (show mj_ins 0 146 = some (.aload_n 0, 1) from rfl) rfl rfl
theorem w0_147 : wp X d 0 147 ls st M Q ↔ wp X d 0 148 ls ((0, 0) :: st) M Q := q_iconst (show mj_ins 0 147 = some (.iconst 0, 1) from rfl) (by decide)
theorem w0_148 {x w : Int} : wp X d 0 148 ls ((0, w) :: (31, x) :: st) M Q ↔ x ≠ 0 ∧ wp X d 0 151 ls st (mj_wr M x 11 w) Q := q_putfield (show mj_ins 0 148 = some (.putfield 85, 3) from rfl) rfl rfl (Or.inl rfl) rfl
theorem w0_151 {x : Int} : wp X d 0 151 ((31, x) :: ls) st M Q ↔ wp X d 0 152 ((31, x) :: ls) ((31, x) :: st) M Q := q_aload_n (show mj_ins 0 151 = some (.aload_n 0, 1) from rfl) rfl rfl
theorem w0_152 : wp X d 0 152 ls st M Q ↔ wp X d 0 153 ls ((0, (-1)) :: st) M Q := q_iconst (show mj_ins 0 152 = some (.iconst (-1), 1) from rfl) (by decide)
theorem w0_153 {x w : Int} : wp X d 0 153 ls ((0, w) :: (31, x) :: st) M Q ↔ x ≠ 0 ∧ wp X d 0 156 ls st (mj_wr M x 12 w) Q := q_putfield (show mj_ins 0 153 = some (.putfield 88, 3) from rfl) rfl rfl (Or.inl rfl) rfl
theorem w0_156 : wp X d 0 156 ls [] M Q ↔ Q none M := q_return (show mj_ins 0 156 = some (.return_, 1) from rfl) rfl
-- 12: PerfectFerried$Reader.<init>([I)V
theorem w12_0 {x : Int} : wp X d 12 0 ((26, x) :: ls) st M Q ↔ wp X d 12 1 ((26, x) :: ls) ((26, x) :: st) M Q := q_aload_n (show mj_ins 12 0 = some (.aload_n 0, 1) from rfl) rfl rfl
theorem w12_1 {x : Int} : wp X d 12 1 ls ((26, x) :: st) M Q ↔ (x ≠ 0 ∧ mj_cs st ≤ 8) ∧ wp X d 12 4 ls st M Q := q_oin (by decide) (show mj_ins 12 1 = some (.invokespecial 3, 3) from rfl) rfl
theorem w12_4 {x : Int} : wp X d 12 4 ((26, x) :: ls) st M Q ↔ wp X d 12 5 ((26, x) :: ls) ((26, x) :: st) M Q := q_aload_n (show mj_ins 12 4 = some (.aload_n 0, 1) from rfl) rfl rfl
theorem w12_5 : wp X d 12 5 ls st M Q ↔ wp X d 12 6 ls ((0, 0) :: st) M Q := q_iconst (show mj_ins 12 5 = some (.iconst 0, 1) from rfl) (by decide)
theorem w12_6 {x w : Int} : wp X d 12 6 ls ((0, w) :: (26, x) :: st) M Q ↔ x ≠ 0 ∧ wp X d 12 9 ls st (mj_wr M x 0 w) Q := q_putfield (show mj_ins 12 6 = some (.putfield 9, 3) from rfl) rfl rfl (Or.inl rfl) rfl
theorem w12_9 {x : Int} : wp X d 12 9 ((26, x) :: ls) st M Q ↔ wp X d 12 10 ((26, x) :: ls) ((26, x) :: st) M Q := q_aload_n (show mj_ins 12 9 = some (.aload_n 0, 1) from rfl) rfl rfl
theorem w12_10 : wp X d 12 10 ls st M Q ↔ wp X d 12 11 ls ((0, (-1)) :: st) M Q := q_iconst (show mj_ins 12 10 = some (.iconst (-1), 1) from rfl) (by decide)
theorem w12_11 {x w : Int} : wp X d 12 11 ls ((0, w) :: (26, x) :: st) M Q ↔ x ≠ 0 ∧ wp X d 12 14 ls st (mj_wr M x 1 w) Q := q_putfield (show mj_ins 12 11 = some (.putfield 15, 3) from rfl) rfl rfl (Or.inl rfl) rfl
theorem w12_14 {x : Int} : wp X d 12 14 ((26, x) :: ls) st M Q ↔ wp X d 12 15 ((26, x) :: ls) ((26, x) :: st) M Q := q_aload_n (show mj_ins 12 14 = some (.aload_n 0, 1) from rfl) rfl rfl
theorem w12_15 : wp X d 12 15 ls st M Q ↔ wp X d 12 16 ls ((0, 0) :: st) M Q := q_iconst (show mj_ins 12 15 = some (.iconst 0, 1) from rfl) (by decide)
theorem w12_16 {x w : Int} : wp X d 12 16 ls ((0, w) :: (26, x) :: st) M Q ↔ x ≠ 0 ∧ wp X d 12 19 ls st (mj_wr M x 3 w) Q := q_putfield (show mj_ins 12 16 = some (.putfield 18, 3) from rfl) rfl rfl (Or.inl rfl) rfl
theorem w12_19 {x : Int} : wp X d 12 19 ((26, x) :: ls) st M Q ↔ wp X d 12 20 ((26, x) :: ls) ((26, x) :: st) M Q := q_aload_n (show mj_ins 12 19 = some (.aload_n 0, 1) from rfl) rfl rfl
theorem w12_20 : wp X d 12 20 ls st M Q ↔ wp X d 12 21 ls ((0, 0) :: st) M Q := q_iconst (show mj_ins 12 20 = some (.iconst 0, 1) from rfl) (by decide)
theorem w12_21 {x w : Int} : wp X d 12 21 ls ((0, w) :: (26, x) :: st) M Q ↔ x ≠ 0 ∧ wp X d 12 24 ls st (mj_wr M x 4 w) Q := q_putfield (show mj_ins 12 21 = some (.putfield 21, 3) from rfl) rfl rfl (Or.inl rfl) rfl
theorem w12_24 {x : Int} : wp X d 12 24 ((26, x) :: ls) st M Q ↔ wp X d 12 25 ((26, x) :: ls) ((26, x) :: st) M Q := q_aload_n (show mj_ins 12 24 = some (.aload_n 0, 1) from rfl) rfl rfl
theorem w12_25 : wp X d 12 25 ls st M Q ↔ wp X d 12 26 ls ((0, 0) :: st) M Q := q_iconst (show mj_ins 12 25 = some (.iconst 0, 1) from rfl) (by decide)
theorem w12_26 {x w : Int} : wp X d 12 26 ls ((0, w) :: (26, x) :: st) M Q ↔ x ≠ 0 ∧ wp X d 12 29 ls st (mj_wr M x 5 w) Q := q_putfield (show mj_ins 12 26 = some (.putfield 24, 3) from rfl) rfl rfl (Or.inl rfl) rfl
theorem w12_29 {x : Int} : wp X d 12 29 ((26, x) :: ls) st M Q ↔ wp X d 12 30 ((26, x) :: ls) ((26, x) :: st) M Q := q_aload_n (show mj_ins 12 29 = some (.aload_n 0, 1) from rfl) rfl rfl
theorem w12_30 : wp X d 12 30 ls st M Q ↔ wp X d 12 32 ls ((0, 40) :: st) M Q := q_bipush (show mj_ins 12 30 = some (.bipush 40, 2) from rfl) (by decide)
theorem w12_32 {x w : Int} : wp X d 12 32 ls ((0, w) :: (26, x) :: st) M Q ↔ x ≠ 0 ∧ wp X d 12 35 ls st (mj_wr M x 6 w) Q := q_putfield (show mj_ins 12 32 = some (.putfield 27, 3) from rfl) rfl rfl (Or.inl rfl) rfl
theorem w12_35 {x : Int} : wp X d 12 35 ((26, x) :: ls) st M Q ↔ wp X d 12 36 ((26, x) :: ls) ((26, x) :: st) M Q := q_aload_n (show mj_ins 12 35 = some (.aload_n 0, 1) from rfl) rfl rfl
theorem w12_36 : wp X d 12 36 ls st M Q ↔ wp X d 12 37 ls ((0, 0) :: st) M Q := q_iconst (show mj_ins 12 36 = some (.iconst 0, 1) from rfl) (by decide)
theorem w12_37 {x w : Int} : wp X d 12 37 ls ((0, w) :: (26, x) :: st) M Q ↔ x ≠ 0 ∧ wp X d 12 40 ls st (mj_wr M x 7 w) Q := q_putfield (show mj_ins 12 37 = some (.putfield 30, 3) from rfl) rfl rfl (Or.inl rfl) rfl
theorem w12_40 {x : Int} : wp X d 12 40 ((26, x) :: ls) st M Q ↔ wp X d 12 41 ((26, x) :: ls) ((26, x) :: st) M Q := q_aload_n (show mj_ins 12 40 = some (.aload_n 0, 1) from rfl) rfl rfl
theorem w12_41 : wp X d 12 41 ls st M Q ↔ wp X d 12 42 ls ((0, 0) :: st) M Q := q_iconst (show mj_ins 12 41 = some (.iconst 0, 1) from rfl) (by decide)
theorem w12_42 {x w : Int} (hw : w = 0 ∨ w = 1) : wp X d 12 42 ls ((0, w) :: (26, x) :: st) M Q ↔ x ≠ 0 ∧ wp X d 12 45 ls st (mj_wr M x 8 w) Q := q_putfield (show mj_ins 12 42 = some (.putfield 33, 3) from rfl) rfl rfl (Or.inl rfl) (show (if (0 : Nat) = 0 ∧ (w = 0 ∨ w = 1) then some w else none) = some w from if_pos ⟨rfl, hw⟩)
theorem w12_45 {x : Int} : wp X d 12 45 ((26, x) :: ls) st M Q ↔ wp X d 12 46 ((26, x) :: ls) ((26, x) :: st) M Q := q_aload_n (show mj_ins 12 45 = some (.aload_n 0, 1) from rfl) rfl rfl
theorem w12_46 : wp X d 12 46 ls st M Q ↔ wp X d 12 47 ls ((0, 0) :: st) M Q := q_iconst (show mj_ins 12 46 = some (.iconst 0, 1) from rfl) (by decide)
theorem w12_47 {x w : Int} : wp X d 12 47 ls ((0, w) :: (26, x) :: st) M Q ↔ x ≠ 0 ∧ wp X d 12 50 ls st (mj_wr M x 9 w) Q := q_putfield (show mj_ins 12 47 = some (.putfield 37, 3) from rfl) rfl rfl (Or.inl rfl) rfl
theorem w12_50 {x : Int} : wp X d 12 50 ((26, x) :: ls) st M Q ↔ wp X d 12 51 ((26, x) :: ls) ((26, x) :: st) M Q := q_aload_n (show mj_ins 12 50 = some (.aload_n 0, 1) from rfl) rfl rfl
theorem w12_51 : wp X d 12 51 ls st M Q ↔ wp X d 12 53 ls ((0, 96) :: st) M Q := q_bipush (show mj_ins 12 51 = some (.bipush 96, 2) from rfl) (by decide)
theorem w12_53 {n : Int} : wp X d 12 53 ls ((0, n) :: st) M Q ↔ (0 ≤ n ∧ n ≤ 100000) ∧ wp X d 12 55 ls ((3, (M.1 : Int) + 1) :: st) (mj_nw M 3 n (fun _ => 0)) Q := q_newI (show mj_ins 12 53 = some (.newarray .int, 2) from rfl)
theorem w12_55 {x w : Int} : wp X d 12 55 ls ((3, w) :: (26, x) :: st) M Q ↔ x ≠ 0 ∧ wp X d 12 58 ls st (mj_wr M x 10 w) Q := q_putfield (show mj_ins 12 55 = some (.putfield 40, 3) from rfl) rfl rfl (Or.inr ⟨rfl, rfl⟩) rfl
theorem w12_58 {x : Int} : wp X d 12 58 ((26, x) :: ls) st M Q ↔ wp X d 12 59 ((26, x) :: ls) ((26, x) :: st) M Q := q_aload_n (show mj_ins 12 58 = some (.aload_n 0, 1) from rfl) rfl rfl
theorem w12_59 : wp X d 12 59 ls st M Q ↔ wp X d 12 60 ls ((0, 0) :: st) M Q := q_iconst (show mj_ins 12 59 = some (.iconst 0, 1) from rfl) (by decide)
theorem w12_60 {x w : Int} : wp X d 12 60 ls ((0, w) :: (26, x) :: st) M Q ↔ x ≠ 0 ∧ wp X d 12 63 ls st (mj_wr M x 11 w) Q := q_putfield (show mj_ins 12 60 = some (.putfield 44, 3) from rfl) rfl rfl (Or.inl rfl) rfl
theorem w12_63 {x : Int} : wp X d 12 63 ((26, x) :: ls) st M Q ↔ wp X d 12 64 ((26, x) :: ls) ((26, x) :: st) M Q := q_aload_n (show mj_ins 12 63 = some (.aload_n 0, 1) from rfl) rfl rfl
theorem w12_64 : wp X d 12 64 ls st M Q ↔ wp X d 12 67 ls ((0, 300) :: st) M Q := q_sipush (show mj_ins 12 64 = some (.sipush 300, 3) from rfl) (by decide)
theorem w12_67 {n : Int} : wp X d 12 67 ls ((0, n) :: st) M Q ↔ (0 ≤ n ∧ n ≤ 100000) ∧ wp X d 12 69 ls ((3, (M.1 : Int) + 1) :: st) (mj_nw M 3 n (fun _ => 0)) Q := q_newI (show mj_ins 12 67 = some (.newarray .int, 2) from rfl)
theorem w12_69 {x w : Int} : wp X d 12 69 ls ((3, w) :: (26, x) :: st) M Q ↔ x ≠ 0 ∧ wp X d 12 72 ls st (mj_wr M x 12 w) Q := q_putfield (show mj_ins 12 69 = some (.putfield 47, 3) from rfl) rfl rfl (Or.inr ⟨rfl, rfl⟩) rfl
theorem w12_72 {x : Int} : wp X d 12 72 ((26, x) :: ls) st M Q ↔ wp X d 12 73 ((26, x) :: ls) ((26, x) :: st) M Q := q_aload_n (show mj_ins 12 72 = some (.aload_n 0, 1) from rfl) rfl rfl
theorem w12_73 : wp X d 12 73 ls st M Q ↔ wp X d 12 74 ls ((0, (-1)) :: st) M Q := q_iconst (show mj_ins 12 73 = some (.iconst (-1), 1) from rfl) (by decide)
theorem w12_74 {x w : Int} : wp X d 12 74 ls ((0, w) :: (26, x) :: st) M Q ↔ x ≠ 0 ∧ wp X d 12 77 ls st (mj_wr M x 13 w) Q := q_putfield (show mj_ins 12 74 = some (.putfield 50, 3) from rfl) rfl rfl (Or.inl rfl) rfl
theorem w12_77 {x : Int} : wp X d 12 77 ((26, x) :: ls) st M Q ↔ wp X d 12 78 ((26, x) :: ls) ((26, x) :: st) M Q := q_aload_n (show mj_ins 12 77 = some (.aload_n 0, 1) from rfl) rfl rfl
theorem w12_78 : wp X d 12 78 ls st M Q ↔ wp X d 12 79 ls ((0, (-1)) :: st) M Q := q_iconst (show mj_ins 12 78 = some (.iconst (-1), 1) from rfl) (by decide)
theorem w12_79 {x w : Int} : wp X d 12 79 ls ((0, w) :: (26, x) :: st) M Q ↔ x ≠ 0 ∧ wp X d 12 82 ls st (mj_wr M x 14 w) Q := q_putfield (show mj_ins 12 79 = some (.putfield 53, 3) from rfl) rfl rfl (Or.inl rfl) rfl
theorem w12_82 {x : Int} : wp X d 12 82 ((26, x) :: ls) st M Q ↔ wp X d 12 83 ((26, x) :: ls) ((26, x) :: st) M Q := q_aload_n (show mj_ins 12 82 = some (.aload_n 0, 1) from rfl) rfl rfl
theorem w12_83 : wp X d 12 83 ls st M Q ↔ wp X d 12 84 ls ((0, (-1)) :: st) M Q := q_iconst (show mj_ins 12 83 = some (.iconst (-1), 1) from rfl) (by decide)
theorem w12_84 {x w : Int} : wp X d 12 84 ls ((0, w) :: (26, x) :: st) M Q ↔ x ≠ 0 ∧ wp X d 12 87 ls st (mj_wr M x 15 w) Q := q_putfield (show mj_ins 12 84 = some (.putfield 56, 3) from rfl) rfl rfl (Or.inl rfl) rfl
theorem w12_87 {x : Int} : wp X d 12 87 ((26, x) :: ls) st M Q ↔ wp X d 12 88 ((26, x) :: ls) ((26, x) :: st) M Q := q_aload_n (show mj_ins 12 87 = some (.aload_n 0, 1) from rfl) rfl rfl
theorem w12_88 : wp X d 12 88 ls st M Q ↔ wp X d 12 89 ls ((0, (-1)) :: st) M Q := q_iconst (show mj_ins 12 88 = some (.iconst (-1), 1) from rfl) (by decide)
theorem w12_89 {x w : Int} : wp X d 12 89 ls ((0, w) :: (26, x) :: st) M Q ↔ x ≠ 0 ∧ wp X d 12 92 ls st (mj_wr M x 16 w) Q := q_putfield (show mj_ins 12 89 = some (.putfield 59, 3) from rfl) rfl rfl (Or.inl rfl) rfl
theorem w12_92 {x : Int} : wp X d 12 92 ((26, x) :: ls) st M Q ↔ wp X d 12 93 ((26, x) :: ls) ((26, x) :: st) M Q := q_aload_n (show mj_ins 12 92 = some (.aload_n 0, 1) from rfl) rfl rfl
theorem w12_93 {v0 : mj_V} {x : Int} : wp X d 12 93 (v0 :: (3, x) :: ls) st M Q ↔ wp X d 12 94 (v0 :: (3, x) :: ls) ((3, x) :: st) M Q := q_aload_n (show mj_ins 12 93 = some (.aload_n 1, 1) from rfl) rfl rfl
theorem w12_94 {x w : Int} : wp X d 12 94 ls ((3, w) :: (26, x) :: st) M Q ↔ x ≠ 0 ∧ wp X d 12 97 ls st (mj_wr M x 2 w) Q := q_putfield (show mj_ins 12 94 = some (.putfield 62, 3) from rfl) rfl rfl (Or.inr ⟨rfl, rfl⟩) rfl
theorem w12_97 : wp X d 12 97 ls [] M Q ↔ Q none M := q_return (show mj_ins 12 97 = some (.return_, 1) from rfl) rfl
-- 13: PerfectFerried.form(II)I
theorem w13_0 {x : Int} : wp X d 13 0 ((31, x) :: ls) st M Q ↔ wp X d 13 1 ((31, x) :: ls) ((31, x) :: st) M Q := q_aload_n (show mj_ins 13 0 = some (.aload_n 0, 1) from rfl) rfl rfl
theorem w13_1 {x : Int} : wp X d 13 1 ls ((31, x) :: st) M Q ↔ x ≠ 0 ∧ wp X d 13 4 ls ((30, hh M x 1) :: st) M Q := q_getfield (show mj_ins 13 1 = some (.getfield 19, 3) from rfl) rfl rfl rfl
theorem w13_4 {x : Int} : wp X d 13 4 ls ((30, x) :: st) M Q ↔ x ≠ 0 ∧ wp X d 13 7 ls ((29, hh M x 0) :: st) M Q := q_getfield (show mj_ins 13 4 = some (.getfield 91, 3) from rfl) rfl rfl rfl
theorem w13_7 {v0 : mj_V} {x : Int} : wp X d 13 7 (v0 :: (0, x) :: ls) st M Q ↔ wp X d 13 8 (v0 :: (0, x) :: ls) ((0, x) :: st) M Q := q_iload_n (show mj_ins 13 7 = some (.iload_n 1, 1) from rfl) rfl
theorem w13_8 {v0 v1 : mj_V} {x : Int} : wp X d 13 8 (v0 :: v1 :: (0, x) :: ls) st M Q ↔ wp X d 13 9 (v0 :: v1 :: (0, x) :: ls) ((0, x) :: st) M Q := q_iload_n (show mj_ins 13 8 = some (.iload_n 2, 1) from rfl) rfl
theorem w13_9 {a0 a1 a2 : Int} : wp X (d + 1) 13 9 ls ((0, a2) :: (0, a1) :: (29, a0) :: st) M Q ↔ (a0 ≠ 0 ∧ mj_cs st ≤ 8) ∧ wc X d 14 [(29, a0), (0, a1), (0, a2)] M (fun r M => wp X (d + 1) 13 12 ls (r.toList ++ st) M Q) := q_callV ⟨rfl, rfl⟩ (show mj_ins 13 9 = some (.invokevirtual 95, 3) from rfl) rfl rfl rfl (Nat.le_of_ble_eq_true rfl)
theorem w13_12 {x : Int} : wp X d 13 12 ls [(0, x)] M Q ↔ Q (some (0, x)) M := q_ireturn (show mj_ins 13 12 = some (.ireturn, 1) from rfl) rfl
-- 15: PerfectFerried.person(II)I
theorem w15_0 {x : Int} : wp X d 15 0 ((31, x) :: ls) st M Q ↔ wp X d 15 1 ((31, x) :: ls) ((31, x) :: st) M Q := q_aload_n (show mj_ins 15 0 = some (.aload_n 0, 1) from rfl) rfl rfl
theorem w15_1 {x : Int} : wp X d 15 1 ls ((31, x) :: st) M Q ↔ x ≠ 0 ∧ wp X d 15 4 ls ((30, hh M x 1) :: st) M Q := q_getfield (show mj_ins 15 1 = some (.getfield 19, 3) from rfl) rfl rfl rfl
theorem w15_4 {v0 : mj_V} {x : Int} : wp X d 15 4 (v0 :: (0, x) :: ls) st M Q ↔ wp X d 15 5 (v0 :: (0, x) :: ls) ((0, x) :: st) M Q := q_iload_n (show mj_ins 15 4 = some (.iload_n 1, 1) from rfl) rfl
theorem w15_5 {v0 v1 : mj_V} {x : Int} : wp X d 15 5 (v0 :: v1 :: (0, x) :: ls) st M Q ↔ wp X d 15 6 (v0 :: v1 :: (0, x) :: ls) ((0, x) :: st) M Q := q_iload_n (show mj_ins 15 5 = some (.iload_n 2, 1) from rfl) rfl
theorem w15_6 {a0 a1 a2 : Int} : wp X (d + 1) 15 6 ls ((0, a2) :: (0, a1) :: (30, a0) :: st) M Q ↔ (a0 ≠ 0 ∧ mj_cs st ≤ 8) ∧ wc X d 16 [(30, a0), (0, a1), (0, a2)] M (fun r M => wp X (d + 1) 15 9 ls (r.toList ++ st) M Q) := q_callV ⟨rfl, rfl⟩ (show mj_ins 15 6 = some (.invokevirtual 101, 3) from rfl) rfl rfl rfl (Nat.le_of_ble_eq_true rfl)
theorem w15_9 {x : Int} : wp X d 15 9 ls [(0, x)] M Q ↔ Q (some (0, x)) M := q_ireturn (show mj_ins 15 9 = some (.ireturn, 1) from rfl) rfl
-- 19: PerfectFerried.story(I)I
theorem w19_0 {x : Int} : wp X d 19 0 ((31, x) :: ls) st M Q ↔ wp X d 19 1 ((31, x) :: ls) ((31, x) :: st) M Q := q_aload_n (show mj_ins 19 0 = some (.aload_n 0, 1) from rfl) rfl rfl
theorem w19_1 {x : Int} : wp X d 19 1 ls ((31, x) :: st) M Q ↔ x ≠ 0 ∧ wp X d 19 4 ls ((30, hh M x 1) :: st) M Q := q_getfield (show mj_ins 19 1 = some (.getfield 19, 3) from rfl) rfl rfl rfl
theorem w19_4 {v0 : mj_V} {x : Int} : wp X d 19 4 (v0 :: (0, x) :: ls) st M Q ↔ wp X d 19 5 (v0 :: (0, x) :: ls) ((0, x) :: st) M Q := q_iload_n (show mj_ins 19 4 = some (.iload_n 1, 1) from rfl) rfl
theorem w19_5 {a0 a1 : Int} : wp X (d + 1) 19 5 ls ((0, a1) :: (30, a0) :: st) M Q ↔ (a0 ≠ 0 ∧ mj_cs st ≤ 8) ∧ wc X d 20 [(30, a0), (0, a1)] M (fun r M => wp X (d + 1) 19 8 ls (r.toList ++ st) M Q) := q_callV ⟨rfl, rfl⟩ (show mj_ins 19 5 = some (.invokevirtual 104, 3) from rfl) rfl rfl rfl (Nat.le_of_ble_eq_true rfl)
theorem w19_8 {x : Int} : wp X d 19 8 ls [(0, x)] M Q ↔ Q (some (0, x)) M := q_ireturn (show mj_ins 19 8 = some (.ireturn, 1) from rfl) rfl
-- 21: PerfectFerried.isOrder(I)Z
theorem w21_0 {x : Int} : wp X d 21 0 ((0, x) :: ls) st M Q ↔ wp X d 21 1 ((0, x) :: ls) ((0, x) :: st) M Q := q_iload_n (show mj_ins 21 0 = some (.iload_n 0, 1) from rfl) rfl
theorem w21_1 {x : Int} : wp X d 21 1 ls ((0, x) :: st) M Q ↔ if x < 0 then wp X d 21 14 ls st M Q else wp X d 21 4 ls st M Q := q_if_lt (show mj_ins 21 1 = some (.ifCond .lt 13, 3) from rfl) rfl
theorem w21_4 {x : Int} : wp X d 21 4 ((0, x) :: ls) st M Q ↔ wp X d 21 5 ((0, x) :: ls) ((0, x) :: st) M Q := q_iload_n (show mj_ins 21 4 = some (.iload_n 0, 1) from rfl) rfl
theorem w21_5 : wp X d 21 5 ls st M Q ↔ wp X d 21 7 ls ((0, 120) :: st) M Q := q_bipush (show mj_ins 21 5 = some (.bipush 120, 2) from rfl) (by decide)
theorem w21_7 {x y : Int} : wp X d 21 7 ls ((0, y) :: (0, x) :: st) M Q ↔ if x < y then wp X d 21 10 ls st M Q else wp X d 21 14 ls st M Q := q_icmp_ge (show mj_ins 21 7 = some (.if_icmp .ge 7, 3) from rfl) rfl
theorem w21_10 : wp X d 21 10 ls st M Q ↔ wp X d 21 11 ls ((0, 1) :: st) M Q := q_iconst (show mj_ins 21 10 = some (.iconst 1, 1) from rfl) (by decide)
theorem w21_11 : wp X d 21 11 ls st M Q ↔ wp X d 21 15 ls st M Q := q_goto (show mj_ins 21 11 = some (.goto 4, 3) from rfl) rfl
theorem w21_14 : wp X d 21 14 ls st M Q ↔ wp X d 21 15 ls ((0, 0) :: st) M Q := q_iconst (show mj_ins 21 14 = some (.iconst 0, 1) from rfl) (by decide)
theorem w21_15_i {P : Prop} {hP : Decidable P} : wp X d 21 15 ls [(0, @ite Int P hP 1 0)] M Q ↔ Q (some (0, @ite Int P hP 1 0)) M := q_zreturn (show mj_ins 21 15 = some (.ireturn, 1) from rfl) rfl (by by_cases h : P <;> simp [h])
theorem w21_15_0 : wp X d 21 15 ls [(0, 0)] M Q ↔ Q (some (0, 0)) M := q_zreturn (show mj_ins 21 15 = some (.ireturn, 1) from rfl) rfl (by decide)
theorem w21_15_1 : wp X d 21 15 ls [(0, 1)] M Q ↔ Q (some (0, 1)) M := q_zreturn (show mj_ins 21 15 = some (.ireturn, 1) from rfl) rfl (by decide)
-- 22: PerfectFerried.feed(IIIII)I
theorem w22_0 {x : Int} : wp X d 22 0 ((31, x) :: ls) st M Q ↔ wp X d 22 1 ((31, x) :: ls) ((31, x) :: st) M Q := q_aload_n (show mj_ins 22 0 = some (.aload_n 0, 1) from rfl) rfl rfl
theorem w22_1 {x : Int} : wp X d 22 1 ls ((31, x) :: st) M Q ↔ x ≠ 0 ∧ wp X d 22 4 ls ((0, hh M x 9) :: st) M Q := q_getfield (show mj_ins 22 1 = some (.getfield 77, 3) from rfl) rfl rfl rfl
theorem w22_4 : wp X d 22 4 ls st M Q ↔ wp X d 22 7 ls ((0, 280) :: st) M Q := q_sipush (show mj_ins 22 4 = some (.sipush 280, 3) from rfl) (by decide)
theorem w22_7 {x y : Int} : wp X d 22 7 ls ((0, y) :: (0, x) :: st) M Q ↔ if x ≤ y then wp X d 22 12 ls st M Q else wp X d 22 10 ls st M Q := q_icmp_le (show mj_ins 22 7 = some (.if_icmp .le 5, 3) from rfl) rfl
theorem w22_10 : wp X d 22 10 ls st M Q ↔ wp X d 22 11 ls ((0, (-1)) :: st) M Q := q_iconst (show mj_ins 22 10 = some (.iconst (-1), 1) from rfl) (by decide)
theorem w22_11 {x : Int} : wp X d 22 11 ls [(0, x)] M Q ↔ Q (some (0, x)) M := q_ireturn (show mj_ins 22 11 = some (.ireturn, 1) from rfl) rfl
theorem w22_12 {x : Int} : wp X d 22 12 ((31, x) :: ls) st M Q ↔ wp X d 22 13 ((31, x) :: ls) ((31, x) :: st) M Q := q_aload_n (show mj_ins 22 12 = some (.aload_n 0, 1) from rfl) rfl rfl
theorem w22_13 {v0 : mj_V} {x : Int} : wp X d 22 13 (v0 :: (0, x) :: ls) st M Q ↔ wp X d 22 14 (v0 :: (0, x) :: ls) ((0, x) :: st) M Q := q_iload_n (show mj_ins 22 13 = some (.iload_n 1, 1) from rfl) rfl
theorem w22_14 {a0 a1 : Int} : wp X (d + 1) 22 14 ls ((0, a1) :: (31, a0) :: st) M Q ↔ (a0 ≠ 0 ∧ mj_cs st ≤ 8) ∧ wc X d 23 [(31, a0), (0, a1)] M (fun r M => wp X (d + 1) 22 17 ls (r.toList ++ st) M Q) := q_callV ⟨rfl, rfl⟩ (show mj_ins 22 14 = some (.invokevirtual 108, 3) from rfl) rfl rfl rfl (Nat.le_of_ble_eq_true rfl)
theorem w22_17 {x : Int} : wp X d 22 17 ((31, x) :: ls) st M Q ↔ wp X d 22 18 ((31, x) :: ls) ((31, x) :: st) M Q := q_aload_n (show mj_ins 22 17 = some (.aload_n 0, 1) from rfl) rfl rfl
theorem w22_18 {v0 v1 : mj_V} {x : Int} : wp X d 22 18 (v0 :: v1 :: (0, x) :: ls) st M Q ↔ wp X d 22 19 (v0 :: v1 :: (0, x) :: ls) ((0, x) :: st) M Q := q_iload_n (show mj_ins 22 18 = some (.iload_n 2, 1) from rfl) rfl
theorem w22_19 {a0 a1 : Int} : wp X (d + 1) 22 19 ls ((0, a1) :: (31, a0) :: st) M Q ↔ (a0 ≠ 0 ∧ mj_cs st ≤ 8) ∧ wc X d 23 [(31, a0), (0, a1)] M (fun r M => wp X (d + 1) 22 22 ls (r.toList ++ st) M Q) := q_callV ⟨rfl, rfl⟩ (show mj_ins 22 19 = some (.invokevirtual 108, 3) from rfl) rfl rfl rfl (Nat.le_of_ble_eq_true rfl)
theorem w22_22 {x : Int} : wp X d 22 22 ((31, x) :: ls) st M Q ↔ wp X d 22 23 ((31, x) :: ls) ((31, x) :: st) M Q := q_aload_n (show mj_ins 22 22 = some (.aload_n 0, 1) from rfl) rfl rfl
theorem w22_23 {v0 v1 v2 : mj_V} {x : Int} : wp X d 22 23 (v0 :: v1 :: v2 :: (0, x) :: ls) st M Q ↔ wp X d 22 24 (v0 :: v1 :: v2 :: (0, x) :: ls) ((0, x) :: st) M Q := q_iload_n (show mj_ins 22 23 = some (.iload_n 3, 1) from rfl) rfl
theorem w22_24 {a0 a1 : Int} : wp X (d + 1) 22 24 ls ((0, a1) :: (31, a0) :: st) M Q ↔ (a0 ≠ 0 ∧ mj_cs st ≤ 8) ∧ wc X d 23 [(31, a0), (0, a1)] M (fun r M => wp X (d + 1) 22 27 ls (r.toList ++ st) M Q) := q_callV ⟨rfl, rfl⟩ (show mj_ins 22 24 = some (.invokevirtual 108, 3) from rfl) rfl rfl rfl (Nat.le_of_ble_eq_true rfl)
theorem w22_27 {x : Int} : wp X d 22 27 ((31, x) :: ls) st M Q ↔ wp X d 22 28 ((31, x) :: ls) ((31, x) :: st) M Q := q_aload_n (show mj_ins 22 27 = some (.aload_n 0, 1) from rfl) rfl rfl
theorem w22_28 {v0 v1 v2 v3 : mj_V} {x : Int} : wp X d 22 28 (v0 :: v1 :: v2 :: v3 :: (0, x) :: ls) st M Q ↔ wp X d 22 30 (v0 :: v1 :: v2 :: v3 :: (0, x) :: ls) ((0, x) :: st) M Q := q_iload (show mj_ins 22 28 = some (.iload 4, 2) from rfl) rfl
theorem w22_30 {a0 a1 : Int} : wp X (d + 1) 22 30 ls ((0, a1) :: (31, a0) :: st) M Q ↔ (a0 ≠ 0 ∧ mj_cs st ≤ 8) ∧ wc X d 23 [(31, a0), (0, a1)] M (fun r M => wp X (d + 1) 22 33 ls (r.toList ++ st) M Q) := q_callV ⟨rfl, rfl⟩ (show mj_ins 22 30 = some (.invokevirtual 108, 3) from rfl) rfl rfl rfl (Nat.le_of_ble_eq_true rfl)
theorem w22_33 {x : Int} : wp X d 22 33 ((31, x) :: ls) st M Q ↔ wp X d 22 34 ((31, x) :: ls) ((31, x) :: st) M Q := q_aload_n (show mj_ins 22 33 = some (.aload_n 0, 1) from rfl) rfl rfl
theorem w22_34 {v0 v1 v2 v3 v4 : mj_V} {x : Int} : wp X d 22 34 (v0 :: v1 :: v2 :: v3 :: v4 :: (0, x) :: ls) st M Q ↔ wp X d 22 36 (v0 :: v1 :: v2 :: v3 :: v4 :: (0, x) :: ls) ((0, x) :: st) M Q := q_iload (show mj_ins 22 34 = some (.iload 5, 2) from rfl) rfl
theorem w22_36 {a0 a1 : Int} : wp X (d + 1) 22 36 ls ((0, a1) :: (31, a0) :: st) M Q ↔ (a0 ≠ 0 ∧ mj_cs st ≤ 8) ∧ wc X d 23 [(31, a0), (0, a1)] M (fun r M => wp X (d + 1) 22 39 ls (r.toList ++ st) M Q) := q_callV ⟨rfl, rfl⟩ (show mj_ins 22 36 = some (.invokevirtual 108, 3) from rfl) rfl rfl rfl (Nat.le_of_ble_eq_true rfl)
theorem w22_39 {x : Int} : wp X d 22 39 ((31, x) :: ls) st M Q ↔ wp X d 22 40 ((31, x) :: ls) ((31, x) :: st) M Q := q_aload_n (show mj_ins 22 39 = some (.aload_n 0, 1) from rfl) rfl rfl
theorem w22_40 {x : Int} : wp X d 22 40 ls ((31, x) :: st) M Q ↔ x ≠ 0 ∧ wp X d 22 43 ls ((0, hh M x 9) :: st) M Q := q_getfield (show mj_ins 22 40 = some (.getfield 77, 3) from rfl) rfl rfl rfl
theorem w22_43 {x : Int} : wp X d 22 43 ls [(0, x)] M Q ↔ Q (some (0, x)) M := q_ireturn (show mj_ins 22 43 = some (.ireturn, 1) from rfl) rfl
-- 23: PerfectFerried.feedFour(I)V
theorem w23_0 : wp X d 23 0 ls st M Q ↔ wp X d 23 2 ls ((0, 24) :: st) M Q := q_bipush (show mj_ins 23 0 = some (.bipush 24, 2) from rfl) (by decide)
theorem w23_2 {v0 w : mj_V} {x y : Int} : wp X d 23 2 (v0 :: (0, y) :: w :: ls) ((0, x) :: st) M Q ↔ wp X d 23 3 (v0 :: (0, y) :: (0, x) :: ls) st M Q := q_istore_n (show mj_ins 23 2 = some (.istore_n 2, 1) from rfl) (Nat.le_add_left 3 _) (mj_set_s (fun z hz => by cases hz; exact (show (0 : Nat) ≠ 1 by decide)))
theorem w23_3 {v0 v1 : mj_V} {x : Int} : wp X d 23 3 (v0 :: v1 :: (0, x) :: ls) st M Q ↔ wp X d 23 4 (v0 :: v1 :: (0, x) :: ls) ((0, x) :: st) M Q := q_iload_n (show mj_ins 23 3 = some (.iload_n 2, 1) from rfl) rfl
theorem w23_4 {x : Int} : wp X d 23 4 ls ((0, x) :: st) M Q ↔ if x < 0 then wp X d 23 49 ls st M Q else wp X d 23 7 ls st M Q := q_if_lt (show mj_ins 23 4 = some (.ifCond .lt 45, 3) from rfl) rfl
theorem w23_7 {x : Int} : wp X d 23 7 ((31, x) :: ls) st M Q ↔ wp X d 23 8 ((31, x) :: ls) ((31, x) :: st) M Q := q_aload_n (show mj_ins 23 7 = some (.aload_n 0, 1) from rfl) rfl rfl
theorem w23_8 {x : Int} : wp X d 23 8 ls ((31, x) :: st) M Q ↔ x ≠ 0 ∧ wp X d 23 11 ls ((0, hh M x 9) :: st) M Q := q_getfield (show mj_ins 23 8 = some (.getfield 77, 3) from rfl) rfl rfl rfl
theorem w23_11 : wp X d 23 11 ls st M Q ↔ wp X d 23 14 ls ((0, 300) :: st) M Q := q_sipush (show mj_ins 23 11 = some (.sipush 300, 3) from rfl) (by decide)
theorem w23_14 {x y : Int} : wp X d 23 14 ls ((0, y) :: (0, x) :: st) M Q ↔ if x < y then wp X d 23 17 ls st M Q else wp X d 23 49 ls st M Q := q_icmp_ge (show mj_ins 23 14 = some (.if_icmp .ge 35, 3) from rfl) rfl
theorem w23_17 {x : Int} : wp X d 23 17 ((31, x) :: ls) st M Q ↔ wp X d 23 18 ((31, x) :: ls) ((31, x) :: st) M Q := q_aload_n (show mj_ins 23 17 = some (.aload_n 0, 1) from rfl) rfl rfl
theorem w23_18 {x : Int} : wp X d 23 18 ls ((31, x) :: st) M Q ↔ x ≠ 0 ∧ wp X d 23 21 ls ((3, hh M x 7) :: st) M Q := q_getfield (show mj_ins 23 18 = some (.getfield 64, 3) from rfl) rfl rfl rfl
theorem w23_21 {x : Int} : wp X d 23 21 ((31, x) :: ls) st M Q ↔ wp X d 23 22 ((31, x) :: ls) ((31, x) :: st) M Q := q_aload_n (show mj_ins 23 21 = some (.aload_n 0, 1) from rfl) rfl rfl
theorem w23_22 {x : Int} : wp X d 23 22 ls ((31, x) :: st) M Q ↔ x ≠ 0 ∧ wp X d 23 25 ls ((0, hh M x 9) :: st) M Q := q_getfield (show mj_ins 23 22 = some (.getfield 77, 3) from rfl) rfl rfl rfl
theorem w23_25 {v0 : mj_V} {x : Int} : wp X d 23 25 (v0 :: (0, x) :: ls) st M Q ↔ wp X d 23 26 (v0 :: (0, x) :: ls) ((0, x) :: st) M Q := q_iload_n (show mj_ins 23 25 = some (.iload_n 1, 1) from rfl) rfl
theorem w23_26 {v0 v1 : mj_V} {x : Int} : wp X d 23 26 (v0 :: v1 :: (0, x) :: ls) st M Q ↔ wp X d 23 27 (v0 :: v1 :: (0, x) :: ls) ((0, x) :: st) M Q := q_iload_n (show mj_ins 23 26 = some (.iload_n 2, 1) from rfl) rfl
theorem w23_27 {x y : Int} : wp X d 23 27 ls ((0, y) :: (0, x) :: st) M Q ↔ wp X d 23 28 ls ((0, ji_shr x y) :: st) M Q := q_ishr (show mj_ins 23 27 = some (.ishr, 1) from rfl)
theorem w23_28 : wp X d 23 28 ls st M Q ↔ wp X d 23 31 ls ((0, 255) :: st) M Q := q_sipush (show mj_ins 23 28 = some (.sipush 255, 3) from rfl) (by decide)
theorem w23_31 {x y : Int} : wp X d 23 31 ls ((0, y) :: (0, x) :: st) M Q ↔ wp X d 23 32 ls ((0, ji_and x y) :: st) M Q := q_iand (show mj_ins 23 31 = some (.iand, 1) from rfl)
theorem w23_32 {i x v : Int} : wp X d 23 32 ls ((0, v) :: (0, i) :: (3, x) :: st) M Q ↔ (x ≠ 0 ∧ 0 ≤ i ∧ i < hl M x) ∧ wp X d 23 33 ls st (mj_wr M x i v) Q := q_iastore (show mj_ins 23 32 = some (.iastore, 1) from rfl)
theorem w23_33 {x : Int} : wp X d 23 33 ((31, x) :: ls) st M Q ↔ wp X d 23 34 ((31, x) :: ls) ((31, x) :: st) M Q := q_aload_n (show mj_ins 23 33 = some (.aload_n 0, 1) from rfl) rfl rfl
theorem w23_34 {x : Int} : wp X d 23 34 ls ((31, x) :: st) M Q ↔ wp X d 23 35 ls ((31, x) :: (31, x) :: st) M Q := q_dup (show mj_ins 23 34 = some (.dup, 1) from rfl) (show ¬ ((31 : Nat) = 1 ∨ (31 : Nat) = 9) by decide)
theorem w23_35 {x : Int} : wp X d 23 35 ls ((31, x) :: st) M Q ↔ x ≠ 0 ∧ wp X d 23 38 ls ((0, hh M x 9) :: st) M Q := q_getfield (show mj_ins 23 35 = some (.getfield 77, 3) from rfl) rfl rfl rfl
theorem w23_38 : wp X d 23 38 ls st M Q ↔ wp X d 23 39 ls ((0, 1) :: st) M Q := q_iconst (show mj_ins 23 38 = some (.iconst 1, 1) from rfl) (by decide)
theorem w23_39 {x y : Int} : wp X d 23 39 ls ((0, y) :: (0, x) :: st) M Q ↔ wp X d 23 40 ls ((0, ji_add x y) :: st) M Q := q_iadd (show mj_ins 23 39 = some (.iadd, 1) from rfl)
theorem w23_40 {x w : Int} : wp X d 23 40 ls ((0, w) :: (31, x) :: st) M Q ↔ x ≠ 0 ∧ wp X d 23 43 ls st (mj_wr M x 9 w) Q := q_putfield (show mj_ins 23 40 = some (.putfield 77, 3) from rfl) rfl rfl (Or.inl rfl) rfl
theorem w23_43 {v0 : mj_V} {x y : Int} : wp X d 23 43 (v0 :: (0, y) :: (0, x) :: ls) st M Q ↔ wp X d 23 46 (v0 :: (0, y) :: (0, ji_add x (-8)) :: ls) st M Q := q_iinc (show mj_ins 23 43 = some (.iinc 2 (-8), 3) from rfl) rfl (mj_set_s (fun z hz => by cases hz; exact (show (0 : Nat) ≠ 1 by decide)))
theorem w23_46 : wp X d 23 46 ls st M Q ↔ wp X d 23 3 ls st M Q := q_goto (show mj_ins 23 46 = some (.goto (-43), 3) from rfl) rfl
theorem w23_49 : wp X d 23 49 ls [] M Q ↔ Q none M := q_return (show mj_ins 23 49 = some (.return_, 1) from rfl) rfl
-- 24: PerfectFerried.end(I)I
theorem w24_0 {v0 : mj_V} {x : Int} : wp X d 24 0 (v0 :: (0, x) :: ls) st M Q ↔ wp X d 24 1 (v0 :: (0, x) :: ls) ((0, x) :: st) M Q := q_iload_n (show mj_ins 24 0 = some (.iload_n 1, 1) from rfl) rfl
theorem w24_1 {x : Int} : wp X d 24 1 ls ((0, x) :: st) M Q ↔ if x < 0 then wp X d 24 12 ls st M Q else wp X d 24 4 ls st M Q := q_if_lt (show mj_ins 24 1 = some (.ifCond .lt 11, 3) from rfl) rfl
theorem w24_4 {v0 : mj_V} {x : Int} : wp X d 24 4 (v0 :: (0, x) :: ls) st M Q ↔ wp X d 24 5 (v0 :: (0, x) :: ls) ((0, x) :: st) M Q := q_iload_n (show mj_ins 24 4 = some (.iload_n 1, 1) from rfl) rfl
theorem w24_5 {x : Int} : wp X d 24 5 ((31, x) :: ls) st M Q ↔ wp X d 24 6 ((31, x) :: ls) ((31, x) :: st) M Q := q_aload_n (show mj_ins 24 5 = some (.aload_n 0, 1) from rfl) rfl rfl
theorem w24_6 {x : Int} : wp X d 24 6 ls ((31, x) :: st) M Q ↔ x ≠ 0 ∧ wp X d 24 9 ls ((0, hh M x 9) :: st) M Q := q_getfield (show mj_ins 24 6 = some (.getfield 77, 3) from rfl) rfl rfl rfl
theorem w24_9 {x y : Int} : wp X d 24 9 ls ((0, y) :: (0, x) :: st) M Q ↔ if x ≤ y then wp X d 24 14 ls st M Q else wp X d 24 12 ls st M Q := q_icmp_le (show mj_ins 24 9 = some (.if_icmp .le 5, 3) from rfl) rfl
theorem w24_12 : wp X d 24 12 ls st M Q ↔ wp X d 24 13 ls ((0, (-1)) :: st) M Q := q_iconst (show mj_ins 24 12 = some (.iconst (-1), 1) from rfl) (by decide)
theorem w24_13 {x : Int} : wp X d 24 13 ls [(0, x)] M Q ↔ Q (some (0, x)) M := q_ireturn (show mj_ins 24 13 = some (.ireturn, 1) from rfl) rfl
theorem w24_14 {x : Int} : wp X d 24 14 ((31, x) :: ls) st M Q ↔ wp X d 24 15 ((31, x) :: ls) ((31, x) :: st) M Q := q_aload_n (show mj_ins 24 14 = some (.aload_n 0, 1) from rfl) rfl rfl
theorem w24_15 {v0 : mj_V} {x : Int} : wp X d 24 15 (v0 :: (0, x) :: ls) st M Q ↔ wp X d 24 16 (v0 :: (0, x) :: ls) ((0, x) :: st) M Q := q_iload_n (show mj_ins 24 15 = some (.iload_n 1, 1) from rfl) rfl
theorem w24_16 {x w : Int} : wp X d 24 16 ls ((0, w) :: (31, x) :: st) M Q ↔ x ≠ 0 ∧ wp X d 24 19 ls st (mj_wr M x 9 w) Q := q_putfield (show mj_ins 24 16 = some (.putfield 77, 3) from rfl) rfl rfl (Or.inl rfl) rfl
theorem w24_19 {v0 : mj_V} {x : Int} : wp X d 24 19 (v0 :: (0, x) :: ls) st M Q ↔ wp X d 24 20 (v0 :: (0, x) :: ls) ((0, x) :: st) M Q := q_iload_n (show mj_ins 24 19 = some (.iload_n 1, 1) from rfl) rfl
theorem w24_20 {x : Int} : wp X d 24 20 ls [(0, x)] M Q ↔ Q (some (0, x)) M := q_ireturn (show mj_ins 24 20 = some (.ireturn, 1) from rfl) rfl
-- 25: PerfectFerried.text()I
theorem w25_0 {x : Int} : wp X d 25 0 ((31, x) :: ls) st M Q ↔ wp X d 25 1 ((31, x) :: ls) ((31, x) :: st) M Q := q_aload_n (show mj_ins 25 0 = some (.aload_n 0, 1) from rfl) rfl rfl
theorem w25_1 {x : Int} : wp X d 25 1 ls ((31, x) :: st) M Q ↔ x ≠ 0 ∧ wp X d 25 4 ls ((30, hh M x 1) :: st) M Q := q_getfield (show mj_ins 25 1 = some (.getfield 19, 3) from rfl) rfl rfl rfl
theorem w25_4 {x : Int} : wp X d 25 4 ls ((30, x) :: st) M Q ↔ x ≠ 0 ∧ wp X d 25 7 ls ((0, hh M x 6) :: st) M Q := q_getfield (show mj_ins 25 4 = some (.getfield 112, 3) from rfl) rfl rfl rfl
theorem w25_7 : wp X d 25 7 ls st M Q ↔ wp X d 25 8 ls ((0, 4) :: st) M Q := q_iconst (show mj_ins 25 7 = some (.iconst 4, 1) from rfl) (by decide)
theorem w25_8 {x y : Int} : wp X d 25 8 ls ((0, y) :: (0, x) :: st) M Q ↔ if x < y then wp X d 25 13 ls st M Q else wp X d 25 11 ls st M Q := q_icmp_lt (show mj_ins 25 8 = some (.if_icmp .lt 5, 3) from rfl) rfl
theorem w25_11 : wp X d 25 11 ls st M Q ↔ wp X d 25 12 ls ((0, (-1)) :: st) M Q := q_iconst (show mj_ins 25 11 = some (.iconst (-1), 1) from rfl) (by decide)
theorem w25_12 {x : Int} : wp X d 25 12 ls [(0, x)] M Q ↔ Q (some (0, x)) M := q_ireturn (show mj_ins 25 12 = some (.ireturn, 1) from rfl) rfl
theorem w25_13 {x : Int} : wp X d 25 13 ((31, x) :: ls) st M Q ↔ wp X d 25 14 ((31, x) :: ls) ((31, x) :: st) M Q := q_aload_n (show mj_ins 25 13 = some (.aload_n 0, 1) from rfl) rfl rfl
theorem w25_14 {x : Int} : wp X d 25 14 ls ((31, x) :: st) M Q ↔ x ≠ 0 ∧ wp X d 25 17 ls ((26, hh M x 8) :: st) M Q := q_getfield (show mj_ins 25 14 = some (.getfield 73, 3) from rfl) rfl rfl rfl
theorem w25_17 {x : Int} : wp X d 25 17 ((31, x) :: ls) st M Q ↔ wp X d 25 18 ((31, x) :: ls) ((31, x) :: st) M Q := q_aload_n (show mj_ins 25 17 = some (.aload_n 0, 1) from rfl) rfl rfl
theorem w25_18 {x : Int} : wp X d 25 18 ls ((31, x) :: st) M Q ↔ x ≠ 0 ∧ wp X d 25 21 ls ((0, hh M x 9) :: st) M Q := q_getfield (show mj_ins 25 18 = some (.getfield 77, 3) from rfl) rfl rfl rfl
theorem w25_21 {a0 a1 : Int} : wp X (d + 1) 25 21 ls ((0, a1) :: (26, a0) :: st) M Q ↔ (a0 ≠ 0 ∧ mj_cs st ≤ 8) ∧ wc X d 26 [(26, a0), (0, a1)] M (fun r M => wp X (d + 1) 25 24 ls (r.toList ++ st) M Q) := q_callV ⟨rfl, rfl⟩ (show mj_ins 25 21 = some (.invokevirtual 115, 3) from rfl) rfl rfl rfl (Nat.le_of_ble_eq_true rfl)
theorem w25_24 {w : mj_V} {x y : Int} : wp X d 25 24 ((31, y) :: w :: ls) ((28, x) :: st) M Q ↔ wp X d 25 25 ((31, y) :: (28, x) :: ls) st M Q := q_astore_n (show mj_ins 25 24 = some (.astore_n 1, 1) from rfl) rfl (Nat.le_add_left 2 _) (mj_set_s (fun z hz => by cases hz; exact (show (31 : Nat) ≠ 1 by decide)))
theorem w25_25 {x : Int} : wp X d 25 25 ((31, x) :: ls) st M Q ↔ wp X d 25 26 ((31, x) :: ls) ((31, x) :: st) M Q := q_aload_n (show mj_ins 25 25 = some (.aload_n 0, 1) from rfl) rfl rfl
theorem w25_26 : wp X d 25 26 ls st M Q ↔ wp X d 25 27 ls ((0, 0) :: st) M Q := q_iconst (show mj_ins 25 26 = some (.iconst 0, 1) from rfl) (by decide)
theorem w25_27 {x w : Int} : wp X d 25 27 ls ((0, w) :: (31, x) :: st) M Q ↔ x ≠ 0 ∧ wp X d 25 30 ls st (mj_wr M x 9 w) Q := q_putfield (show mj_ins 25 27 = some (.putfield 77, 3) from rfl) rfl rfl (Or.inl rfl) rfl
theorem w25_30 {x : Int} : wp X d 25 30 ((31, x) :: ls) st M Q ↔ wp X d 25 31 ((31, x) :: ls) ((31, x) :: st) M Q := q_aload_n (show mj_ins 25 30 = some (.aload_n 0, 1) from rfl) rfl rfl
theorem w25_31 : wp X d 25 31 ls st M Q ↔ wp X d 25 32 ls ((0, 1) :: st) M Q := q_iconst (show mj_ins 25 31 = some (.iconst 1, 1) from rfl) (by decide)
theorem w25_32 {x w : Int} (hw : w = 0 ∨ w = 1) : wp X d 25 32 ls ((0, w) :: (31, x) :: st) M Q ↔ x ≠ 0 ∧ wp X d 25 35 ls st (mj_wr M x 10 w) Q := q_putfield (show mj_ins 25 32 = some (.putfield 81, 3) from rfl) rfl rfl (Or.inl rfl) (show (if (0 : Nat) = 0 ∧ (w = 0 ∨ w = 1) then some w else none) = some w from if_pos ⟨rfl, hw⟩)
theorem w25_35 {x : Int} : wp X d 25 35 ((31, x) :: ls) st M Q ↔ wp X d 25 36 ((31, x) :: ls) ((31, x) :: st) M Q := q_aload_n (show mj_ins 25 35 = some (.aload_n 0, 1) from rfl) rfl rfl
theorem w25_36 {x : Int} : wp X d 25 36 ((31, x) :: ls) st M Q ↔ wp X d 25 37 ((31, x) :: ls) ((31, x) :: st) M Q := q_aload_n (show mj_ins 25 36 = some (.aload_n 0, 1) from rfl) rfl rfl
theorem w25_37 {x : Int} : wp X d 25 37 ls ((31, x) :: st) M Q ↔ x ≠ 0 ∧ wp X d 25 40 ls ((26, hh M x 8) :: st) M Q := q_getfield (show mj_ins 25 37 = some (.getfield 73, 3) from rfl) rfl rfl rfl
theorem w25_40 {x : Int} : wp X d 25 40 ls ((26, x) :: st) M Q ↔ x ≠ 0 ∧ wp X d 25 43 ls ((0, hh M x 0) :: st) M Q := q_getfield (show mj_ins 25 40 = some (.getfield 119, 3) from rfl) rfl rfl rfl
theorem w25_43 {x w : Int} : wp X d 25 43 ls ((0, w) :: (31, x) :: st) M Q ↔ x ≠ 0 ∧ wp X d 25 46 ls st (mj_wr M x 11 w) Q := q_putfield (show mj_ins 25 43 = some (.putfield 85, 3) from rfl) rfl rfl (Or.inl rfl) rfl
theorem w25_46 {x : Int} : wp X d 25 46 ((31, x) :: ls) st M Q ↔ wp X d 25 47 ((31, x) :: ls) ((31, x) :: st) M Q := q_aload_n (show mj_ins 25 46 = some (.aload_n 0, 1) from rfl) rfl rfl
theorem w25_47 {x : Int} : wp X d 25 47 ((31, x) :: ls) st M Q ↔ wp X d 25 48 ((31, x) :: ls) ((31, x) :: st) M Q := q_aload_n (show mj_ins 25 47 = some (.aload_n 0, 1) from rfl) rfl rfl
theorem w25_48 {x : Int} : wp X d 25 48 ls ((31, x) :: st) M Q ↔ x ≠ 0 ∧ wp X d 25 51 ls ((26, hh M x 8) :: st) M Q := q_getfield (show mj_ins 25 48 = some (.getfield 73, 3) from rfl) rfl rfl rfl
theorem w25_51 {x : Int} : wp X d 25 51 ls ((26, x) :: st) M Q ↔ x ≠ 0 ∧ wp X d 25 54 ls ((0, hh M x 1) :: st) M Q := q_getfield (show mj_ins 25 51 = some (.getfield 122, 3) from rfl) rfl rfl rfl
theorem w25_54 {x w : Int} : wp X d 25 54 ls ((0, w) :: (31, x) :: st) M Q ↔ x ≠ 0 ∧ wp X d 25 57 ls st (mj_wr M x 12 w) Q := q_putfield (show mj_ins 25 54 = some (.putfield 88, 3) from rfl) rfl rfl (Or.inl rfl) rfl
theorem w25_57 {v0 : mj_V} {x : Int} : wp X d 25 57 (v0 :: (28, x) :: ls) st M Q ↔ wp X d 25 58 (v0 :: (28, x) :: ls) ((28, x) :: st) M Q := q_aload_n (show mj_ins 25 57 = some (.aload_n 1, 1) from rfl) rfl rfl
theorem w25_58 {x : Int} : wp X d 25 58 ls ((28, x) :: st) M Q ↔ if x = 0 then wp X d 25 61 ls st M Q else wp X d 25 65 ls st M Q := q_ifnonnull (show mj_ins 25 58 = some (.ifnonnull 7, 3) from rfl) rfl rfl
theorem w25_61 : wp X d 25 61 ls st M Q ↔ wp X d 25 62 ls ((0, (-1)) :: st) M Q := q_iconst (show mj_ins 25 61 = some (.iconst (-1), 1) from rfl) (by decide)
theorem w25_62 : wp X d 25 62 ls st M Q ↔ wp X d 25 73 ls st M Q := q_goto (show mj_ins 25 62 = some (.goto 11, 3) from rfl) rfl
theorem w25_65 {x : Int} : wp X d 25 65 ((31, x) :: ls) st M Q ↔ wp X d 25 66 ((31, x) :: ls) ((31, x) :: st) M Q := q_aload_n (show mj_ins 25 65 = some (.aload_n 0, 1) from rfl) rfl rfl
theorem w25_66 {x : Int} : wp X d 25 66 ls ((31, x) :: st) M Q ↔ x ≠ 0 ∧ wp X d 25 69 ls ((30, hh M x 1) :: st) M Q := q_getfield (show mj_ins 25 66 = some (.getfield 19, 3) from rfl) rfl rfl rfl
theorem w25_69 {v0 : mj_V} {x : Int} : wp X d 25 69 (v0 :: (28, x) :: ls) st M Q ↔ wp X d 25 70 (v0 :: (28, x) :: ls) ((28, x) :: st) M Q := q_aload_n (show mj_ins 25 69 = some (.aload_n 1, 1) from rfl) rfl rfl
theorem w25_70 {a0 a1 : Int} : wp X (d + 1) 25 70 ls ((28, a1) :: (30, a0) :: st) M Q ↔ (a0 ≠ 0 ∧ mj_cs st ≤ 8) ∧ wc X d 70 [(30, a0), (28, a1)] M (fun r M => wp X (d + 1) 25 73 ls (r.toList ++ st) M Q) := q_callV ⟨rfl, rfl⟩ (show mj_ins 25 70 = some (.invokevirtual 125, 3) from rfl) rfl rfl rfl (Nat.le_of_ble_eq_true rfl)
theorem w25_73 {x : Int} : wp X d 25 73 ls [(0, x)] M Q ↔ Q (some (0, x)) M := q_ireturn (show mj_ins 25 73 = some (.ireturn, 1) from rfl) rfl
-- 26: PerfectFerried$Reader.read(I)LPerfectFerried$Text;
theorem w26_0 {x : Int} : wp X d 26 0 ((26, x) :: ls) st M Q ↔ wp X d 26 1 ((26, x) :: ls) ((26, x) :: st) M Q := q_aload_n (show mj_ins 26 0 = some (.aload_n 0, 1) from rfl) rfl rfl
theorem w26_1 {v0 : mj_V} {x : Int} : wp X d 26 1 (v0 :: (0, x) :: ls) st M Q ↔ wp X d 26 2 (v0 :: (0, x) :: ls) ((0, x) :: st) M Q := q_iload_n (show mj_ins 26 1 = some (.iload_n 1, 1) from rfl) rfl
theorem w26_2 {a0 a1 : Int} : wp X (d + 1) 26 2 ls ((0, a1) :: (26, a0) :: st) M Q ↔ (a0 ≠ 0 ∧ mj_cs st ≤ 8) ∧ wc X d 27 [(26, a0), (0, a1)] M (fun r M => wp X (d + 1) 26 5 ls (r.toList ++ st) M Q) := q_callV ⟨rfl, rfl⟩ (show mj_ins 26 2 = some (.invokevirtual 65, 3) from rfl) rfl rfl rfl (Nat.le_of_ble_eq_true rfl)
theorem w26_5 {x : Int} : wp X d 26 5 ((26, x) :: ls) st M Q ↔ wp X d 26 6 ((26, x) :: ls) ((26, x) :: st) M Q := q_aload_n (show mj_ins 26 5 = some (.aload_n 0, 1) from rfl) rfl rfl
theorem w26_6 {a0 : Int} : wp X (d + 1) 26 6 ls ((26, a0) :: st) M Q ↔ (a0 ≠ 0 ∧ mj_cs st ≤ 8) ∧ wc X d 29 [(26, a0)] M (fun r M => wp X (d + 1) 26 9 ls (r.toList ++ st) M Q) := q_callV ⟨rfl, rfl⟩ (show mj_ins 26 6 = some (.invokevirtual 69, 3) from rfl) rfl rfl rfl (Nat.le_of_ble_eq_true rfl)
theorem w26_9 : wp X d 26 9 ls st M Q ↔ wp X d 26 10 ls ((0, 0) :: st) M Q := q_iconst (show mj_ins 26 9 = some (.iconst 0, 1) from rfl) (by decide)
theorem w26_10 {v0 w : mj_V} {x y : Int} : wp X d 26 10 (v0 :: (0, y) :: w :: ls) ((0, x) :: st) M Q ↔ wp X d 26 11 (v0 :: (0, y) :: (0, x) :: ls) st M Q := q_istore_n (show mj_ins 26 10 = some (.istore_n 2, 1) from rfl) (Nat.le_add_left 3 _) (mj_set_s (fun z hz => by cases hz; exact (show (0 : Nat) ≠ 1 by decide)))
theorem w26_11 {v0 v1 : mj_V} {x : Int} : wp X d 26 11 (v0 :: v1 :: (0, x) :: ls) st M Q ↔ wp X d 26 12 (v0 :: v1 :: (0, x) :: ls) ((0, x) :: st) M Q := q_iload_n (show mj_ins 26 11 = some (.iload_n 2, 1) from rfl) rfl
theorem w26_12 : wp X d 26 12 ls st M Q ↔ wp X d 26 14 ls ((0, 24) :: st) M Q := q_bipush (show mj_ins 26 12 = some (.bipush 24, 2) from rfl) (by decide)
theorem w26_14 {x y : Int} : wp X d 26 14 ls ((0, y) :: (0, x) :: st) M Q ↔ if x ≤ y then wp X d 26 17 ls st M Q else wp X d 26 94 ls st M Q := q_icmp_gt (show mj_ins 26 14 = some (.if_icmp .gt 80, 3) from rfl) rfl
theorem w26_17 {x : Int} : wp X d 26 17 ((26, x) :: ls) st M Q ↔ wp X d 26 18 ((26, x) :: ls) ((26, x) :: st) M Q := q_aload_n (show mj_ins 26 17 = some (.aload_n 0, 1) from rfl) rfl rfl
theorem w26_18 {x : Int} : wp X d 26 18 ls ((26, x) :: st) M Q ↔ x ≠ 0 ∧ wp X d 26 21 ls ((0, hh M x 0) :: st) M Q := q_getfield (show mj_ins 26 18 = some (.getfield 9, 3) from rfl) rfl rfl rfl
theorem w26_21 {x : Int} : wp X d 26 21 ls ((0, x) :: st) M Q ↔ if x = 0 then wp X d 26 24 ls st M Q else wp X d 26 94 ls st M Q := q_if_ne (show mj_ins 26 21 = some (.ifCond .ne 73, 3) from rfl) rfl
theorem w26_24 {x : Int} : wp X d 26 24 ((26, x) :: ls) st M Q ↔ wp X d 26 25 ((26, x) :: ls) ((26, x) :: st) M Q := q_aload_n (show mj_ins 26 24 = some (.aload_n 0, 1) from rfl) rfl rfl
theorem w26_25 {x : Int} : wp X d 26 25 ls ((26, x) :: st) M Q ↔ x ≠ 0 ∧ wp X d 26 28 ls ((0, hh M x 6) :: st) M Q := q_getfield (show mj_ins 26 25 = some (.getfield 27, 3) from rfl) rfl rfl rfl
theorem w26_28 : wp X d 26 28 ls st M Q ↔ wp X d 26 30 ls ((0, 40) :: st) M Q := q_bipush (show mj_ins 26 28 = some (.bipush 40, 2) from rfl) (by decide)
theorem w26_30 {x y : Int} : wp X d 26 30 ls ((0, y) :: (0, x) :: st) M Q ↔ if x = y then wp X d 26 94 ls st M Q else wp X d 26 33 ls st M Q := q_icmp_eq (show mj_ins 26 30 = some (.if_icmp .eq 64, 3) from rfl) rfl
theorem w26_33 {x : Int} : wp X d 26 33 ((26, x) :: ls) st M Q ↔ wp X d 26 34 ((26, x) :: ls) ((26, x) :: st) M Q := q_aload_n (show mj_ins 26 33 = some (.aload_n 0, 1) from rfl) rfl rfl
theorem w26_34 {x : Int} : wp X d 26 34 ((26, x) :: ls) st M Q ↔ wp X d 26 35 ((26, x) :: ls) ((26, x) :: st) M Q := q_aload_n (show mj_ins 26 34 = some (.aload_n 0, 1) from rfl) rfl rfl
theorem w26_35 {x : Int} : wp X d 26 35 ls ((26, x) :: st) M Q ↔ x ≠ 0 ∧ wp X d 26 38 ls ((0, hh M x 6) :: st) M Q := q_getfield (show mj_ins 26 35 = some (.getfield 27, 3) from rfl) rfl rfl rfl
theorem w26_38 {a0 a1 : Int} : wp X (d + 1) 26 38 ls ((0, a1) :: (26, a0) :: st) M Q ↔ (a0 ≠ 0 ∧ mj_cs st ≤ 8) ∧ wc X d 49 [(26, a0), (0, a1)] M (fun r M => wp X (d + 1) 26 41 ls (r.toList ++ st) M Q) := q_callV ⟨rfl, rfl⟩ (show mj_ins 26 38 = some (.invokevirtual 72, 3) from rfl) rfl rfl rfl (Nat.le_of_ble_eq_true rfl)
theorem w26_41 {v0 v1 w : mj_V} {x y : Int} : wp X d 26 41 (v0 :: v1 :: (0, y) :: w :: ls) ((0, x) :: st) M Q ↔ wp X d 26 42 (v0 :: v1 :: (0, y) :: (0, x) :: ls) st M Q := q_istore_n (show mj_ins 26 41 = some (.istore_n 3, 1) from rfl) (Nat.le_add_left 4 _) (mj_set_s (fun z hz => by cases hz; exact (show (0 : Nat) ≠ 1 by decide)))
theorem w26_42 {v0 v1 v2 : mj_V} {x : Int} : wp X d 26 42 (v0 :: v1 :: v2 :: (0, x) :: ls) st M Q ↔ wp X d 26 43 (v0 :: v1 :: v2 :: (0, x) :: ls) ((0, x) :: st) M Q := q_iload_n (show mj_ins 26 42 = some (.iload_n 3, 1) from rfl) rfl
theorem w26_43 {x : Int} : wp X d 26 43 ls ((0, x) :: st) M Q ↔ if x = 0 then wp X d 26 54 ls st M Q else wp X d 26 46 ls st M Q := q_if_eq (show mj_ins 26 43 = some (.ifCond .eq 11, 3) from rfl) rfl
theorem w26_46 {x : Int} : wp X d 26 46 ((26, x) :: ls) st M Q ↔ wp X d 26 47 ((26, x) :: ls) ((26, x) :: st) M Q := q_aload_n (show mj_ins 26 46 = some (.aload_n 0, 1) from rfl) rfl rfl
theorem w26_47 {v0 v1 v2 : mj_V} {x : Int} : wp X d 26 47 (v0 :: v1 :: v2 :: (0, x) :: ls) st M Q ↔ wp X d 26 48 (v0 :: v1 :: v2 :: (0, x) :: ls) ((0, x) :: st) M Q := q_iload_n (show mj_ins 26 47 = some (.iload_n 3, 1) from rfl) rfl
theorem w26_48 {a0 a1 : Int} : wp X (d + 1) 26 48 ls ((0, a1) :: (26, a0) :: st) M Q ↔ (a0 ≠ 0 ∧ mj_cs st ≤ 8) ∧ wc X d 51 [(26, a0), (0, a1)] M (fun r M => wp X (d + 1) 26 51 ls (r.toList ++ st) M Q) := q_callV ⟨rfl, rfl⟩ (show mj_ins 26 48 = some (.invokevirtual 76, 3) from rfl) rfl rfl rfl (Nat.le_of_ble_eq_true rfl)
theorem w26_51 : wp X d 26 51 ls st M Q ↔ wp X d 26 88 ls st M Q := q_goto (show mj_ins 26 51 = some (.goto 37, 3) from rfl) rfl
theorem w26_54 {x : Int} : wp X d 26 54 ((26, x) :: ls) st M Q ↔ wp X d 26 55 ((26, x) :: ls) ((26, x) :: st) M Q := q_aload_n (show mj_ins 26 54 = some (.aload_n 0, 1) from rfl) rfl rfl
theorem w26_55 {x : Int} : wp X d 26 55 ls ((26, x) :: st) M Q ↔ x ≠ 0 ∧ wp X d 26 58 ls ((0, hh M x 6) :: st) M Q := q_getfield (show mj_ins 26 55 = some (.getfield 27, 3) from rfl) rfl rfl rfl
theorem w26_58 {x : Int} : wp X d 26 58 ls ((0, x) :: st) M Q ↔ if x = 0 then wp X d 26 69 ls st M Q else wp X d 26 61 ls st M Q := q_if_eq (show mj_ins 26 58 = some (.ifCond .eq 11, 3) from rfl) rfl
theorem w26_61 {x : Int} : wp X d 26 61 ((26, x) :: ls) st M Q ↔ wp X d 26 62 ((26, x) :: ls) ((26, x) :: st) M Q := q_aload_n (show mj_ins 26 61 = some (.aload_n 0, 1) from rfl) rfl rfl
theorem w26_62 {x : Int} : wp X d 26 62 ls ((26, x) :: st) M Q ↔ x ≠ 0 ∧ wp X d 26 65 ls ((0, hh M x 6) :: st) M Q := q_getfield (show mj_ins 26 62 = some (.getfield 27, 3) from rfl) rfl rfl rfl
theorem w26_65 : wp X d 26 65 ls st M Q ↔ wp X d 26 66 ls ((0, 1) :: st) M Q := q_iconst (show mj_ins 26 65 = some (.iconst 1, 1) from rfl) (by decide)
theorem w26_66 {x y : Int} : wp X d 26 66 ls ((0, y) :: (0, x) :: st) M Q ↔ if x = y then wp X d 26 69 ls st M Q else wp X d 26 80 ls st M Q := q_icmp_ne (show mj_ins 26 66 = some (.if_icmp .ne 14, 3) from rfl) rfl
theorem w26_69 {x : Int} : wp X d 26 69 ((26, x) :: ls) st M Q ↔ wp X d 26 70 ((26, x) :: ls) ((26, x) :: st) M Q := q_aload_n (show mj_ins 26 69 = some (.aload_n 0, 1) from rfl) rfl rfl
theorem w26_70 {x : Int} : wp X d 26 70 ((26, x) :: ls) st M Q ↔ wp X d 26 71 ((26, x) :: ls) ((26, x) :: st) M Q := q_aload_n (show mj_ins 26 70 = some (.aload_n 0, 1) from rfl) rfl rfl
theorem w26_71 {x : Int} : wp X d 26 71 ls ((26, x) :: st) M Q ↔ x ≠ 0 ∧ wp X d 26 74 ls ((0, hh M x 6) :: st) M Q := q_getfield (show mj_ins 26 71 = some (.getfield 27, 3) from rfl) rfl rfl rfl
theorem w26_74 {a0 a1 : Int} : wp X (d + 1) 26 74 ls ((0, a1) :: (26, a0) :: st) M Q ↔ (a0 ≠ 0 ∧ mj_cs st ≤ 8) ∧ wc X d 52 [(26, a0), (0, a1)] M (fun r M => wp X (d + 1) 26 77 ls (r.toList ++ st) M Q) := q_callV ⟨rfl, rfl⟩ (show mj_ins 26 74 = some (.invokevirtual 79, 3) from rfl) rfl rfl rfl (Nat.le_of_ble_eq_true rfl)
theorem w26_77 : wp X d 26 77 ls st M Q ↔ wp X d 26 88 ls st M Q := q_goto (show mj_ins 26 77 = some (.goto 11, 3) from rfl) rfl
theorem w26_80 {x : Int} : wp X d 26 80 ((26, x) :: ls) st M Q ↔ wp X d 26 81 ((26, x) :: ls) ((26, x) :: st) M Q := q_aload_n (show mj_ins 26 80 = some (.aload_n 0, 1) from rfl) rfl rfl
theorem w26_81 {x : Int} : wp X d 26 81 ((26, x) :: ls) st M Q ↔ wp X d 26 82 ((26, x) :: ls) ((26, x) :: st) M Q := q_aload_n (show mj_ins 26 81 = some (.aload_n 0, 1) from rfl) rfl rfl
theorem w26_82 {x : Int} : wp X d 26 82 ls ((26, x) :: st) M Q ↔ x ≠ 0 ∧ wp X d 26 85 ls ((0, hh M x 6) :: st) M Q := q_getfield (show mj_ins 26 82 = some (.getfield 27, 3) from rfl) rfl rfl rfl
theorem w26_85 {a0 a1 : Int} : wp X (d + 1) 26 85 ls ((0, a1) :: (26, a0) :: st) M Q ↔ (a0 ≠ 0 ∧ mj_cs st ≤ 8) ∧ wc X d 67 [(26, a0), (0, a1)] M (fun r M => wp X (d + 1) 26 88 ls (r.toList ++ st) M Q) := q_callV ⟨rfl, rfl⟩ (show mj_ins 26 85 = some (.invokevirtual 82, 3) from rfl) rfl rfl rfl (Nat.le_of_ble_eq_true rfl)
theorem w26_88 {v0 : mj_V} {x y : Int} : wp X d 26 88 (v0 :: (0, y) :: (0, x) :: ls) st M Q ↔ wp X d 26 91 (v0 :: (0, y) :: (0, ji_add x 1) :: ls) st M Q := q_iinc (show mj_ins 26 88 = some (.iinc 2 1, 3) from rfl) rfl (mj_set_s (fun z hz => by cases hz; exact (show (0 : Nat) ≠ 1 by decide)))
theorem w26_91 : wp X d 26 91 ls st M Q ↔ wp X d 26 11 ls st M Q := q_goto (show mj_ins 26 91 = some (.goto (-80), 3) from rfl) rfl
theorem w26_94 {x : Int} : wp X d 26 94 ((26, x) :: ls) st M Q ↔ wp X d 26 95 ((26, x) :: ls) ((26, x) :: st) M Q := q_aload_n (show mj_ins 26 94 = some (.aload_n 0, 1) from rfl) rfl rfl
theorem w26_95 {x : Int} : wp X d 26 95 ls ((26, x) :: st) M Q ↔ x ≠ 0 ∧ wp X d 26 98 ls ((0, hh M x 0) :: st) M Q := q_getfield (show mj_ins 26 95 = some (.getfield 9, 3) from rfl) rfl rfl rfl
theorem w26_98 {x : Int} : wp X d 26 98 ls ((0, x) :: st) M Q ↔ if x = 0 then wp X d 26 103 ls st M Q else wp X d 26 101 ls st M Q := q_if_eq (show mj_ins 26 98 = some (.ifCond .eq 5, 3) from rfl) rfl
theorem w26_101 : wp X d 26 101 ls st M Q ↔ wp X d 26 102 ls ((2, 0) :: st) M Q := q_aconst_null (show mj_ins 26 101 = some (.aconst_null, 1) from rfl)
theorem w26_102 {x : Int} : wp X d 26 102 ls [(28, x)] M Q ↔ Q (some (28, x)) M := q_areturn (T := 28) (show mj_ins 26 102 = some (.areturn, 1) from rfl) rfl (by decide) rfl
theorem w26_102_n : wp X d 26 102 ls [(2, 0)] M Q ↔ Q (some (28, 0)) M := q_areturn (T := 28) (show mj_ins 26 102 = some (.areturn, 1) from rfl) rfl (by decide) rfl
theorem w26_103 : wp X d 26 103 ls st M Q ↔ wp X d 26 106 ls ((28, (M.1 : Int) + 1) :: st) (mj_nw M 28 7 (fun _ => 0)) Q := q_new (show mj_ins 26 103 = some (.new 85, 3) from rfl) rfl rfl (by decide)
theorem w26_106 {x : Int} : wp X d 26 106 ls ((28, x) :: st) M Q ↔ wp X d 26 107 ls ((28, x) :: (28, x) :: st) M Q := q_dup (show mj_ins 26 106 = some (.dup, 1) from rfl) (show ¬ ((28 : Nat) = 1 ∨ (28 : Nat) = 9) by decide)
theorem w26_107 {x : Int} : wp X d 26 107 ((26, x) :: ls) st M Q ↔ wp X d 26 108 ((26, x) :: ls) ((26, x) :: st) M Q := q_aload_n (show mj_ins 26 107 = some (.aload_n 0, 1) from rfl) rfl rfl
theorem w26_108 {x : Int} : wp X d 26 108 ls ((26, x) :: st) M Q ↔ x ≠ 0 ∧ wp X d 26 111 ls ((3, hh M x 10) :: st) M Q := q_getfield (show mj_ins 26 108 = some (.getfield 40, 3) from rfl) rfl rfl rfl
theorem w26_111 {x : Int} : wp X d 26 111 ((26, x) :: ls) st M Q ↔ wp X d 26 112 ((26, x) :: ls) ((26, x) :: st) M Q := q_aload_n (show mj_ins 26 111 = some (.aload_n 0, 1) from rfl) rfl rfl
theorem w26_112 {x : Int} : wp X d 26 112 ls ((26, x) :: st) M Q ↔ x ≠ 0 ∧ wp X d 26 115 ls ((0, hh M x 9) :: st) M Q := q_getfield (show mj_ins 26 112 = some (.getfield 37, 3) from rfl) rfl rfl rfl
theorem w26_115 : wp X d 26 115 ls st M Q ↔ wp X d 26 116 ls ((0, 4) :: st) M Q := q_iconst (show mj_ins 26 115 = some (.iconst 4, 1) from rfl) (by decide)
theorem w26_116 {x y : Int} : wp X d 26 116 ls ((0, y) :: (0, x) :: st) M Q ↔ wp X d 26 117 ls ((0, ji_mul x y) :: st) M Q := q_imul (show mj_ins 26 116 = some (.imul, 1) from rfl)
theorem w26_117 {a0 a1 : Int} : wp X (d + 1) 26 117 ls ((0, a1) :: (3, a0) :: st) M Q ↔ (mj_cs st ≤ 8) ∧ wc X d 68 [(3, a0), (0, a1)] M (fun r M => wp X (d + 1) 26 120 ls (r.toList ++ st) M Q) := q_callS (show mj_ins 26 117 = some (.invokestatic 87, 3) from rfl) rfl rfl rfl (Nat.le_of_ble_eq_true rfl)
theorem w26_120 {x : Int} : wp X d 26 120 ((26, x) :: ls) st M Q ↔ wp X d 26 121 ((26, x) :: ls) ((26, x) :: st) M Q := q_aload_n (show mj_ins 26 120 = some (.aload_n 0, 1) from rfl) rfl rfl
theorem w26_121 {x : Int} : wp X d 26 121 ls ((26, x) :: st) M Q ↔ x ≠ 0 ∧ wp X d 26 124 ls ((3, hh M x 12) :: st) M Q := q_getfield (show mj_ins 26 121 = some (.getfield 47, 3) from rfl) rfl rfl rfl
theorem w26_124 {x : Int} : wp X d 26 124 ((26, x) :: ls) st M Q ↔ wp X d 26 125 ((26, x) :: ls) ((26, x) :: st) M Q := q_aload_n (show mj_ins 26 124 = some (.aload_n 0, 1) from rfl) rfl rfl
theorem w26_125 {x : Int} : wp X d 26 125 ls ((26, x) :: st) M Q ↔ x ≠ 0 ∧ wp X d 26 128 ls ((0, hh M x 11) :: st) M Q := q_getfield (show mj_ins 26 125 = some (.getfield 44, 3) from rfl) rfl rfl rfl
theorem w26_128 {a0 a1 : Int} : wp X (d + 1) 26 128 ls ((0, a1) :: (3, a0) :: st) M Q ↔ (mj_cs st ≤ 8) ∧ wc X d 68 [(3, a0), (0, a1)] M (fun r M => wp X (d + 1) 26 131 ls (r.toList ++ st) M Q) := q_callS (show mj_ins 26 128 = some (.invokestatic 87, 3) from rfl) rfl rfl rfl (Nat.le_of_ble_eq_true rfl)
theorem w26_131 {x : Int} : wp X d 26 131 ((26, x) :: ls) st M Q ↔ wp X d 26 132 ((26, x) :: ls) ((26, x) :: st) M Q := q_aload_n (show mj_ins 26 131 = some (.aload_n 0, 1) from rfl) rfl rfl
theorem w26_132 {x : Int} : wp X d 26 132 ls ((26, x) :: st) M Q ↔ x ≠ 0 ∧ wp X d 26 135 ls ((0, hh M x 13) :: st) M Q := q_getfield (show mj_ins 26 132 = some (.getfield 50, 3) from rfl) rfl rfl rfl
theorem w26_135 {x : Int} : wp X d 26 135 ((26, x) :: ls) st M Q ↔ wp X d 26 136 ((26, x) :: ls) ((26, x) :: st) M Q := q_aload_n (show mj_ins 26 135 = some (.aload_n 0, 1) from rfl) rfl rfl
theorem w26_136 {x : Int} : wp X d 26 136 ls ((26, x) :: st) M Q ↔ x ≠ 0 ∧ wp X d 26 139 ls ((0, hh M x 14) :: st) M Q := q_getfield (show mj_ins 26 136 = some (.getfield 53, 3) from rfl) rfl rfl rfl
theorem w26_139 {x : Int} : wp X d 26 139 ((26, x) :: ls) st M Q ↔ wp X d 26 140 ((26, x) :: ls) ((26, x) :: st) M Q := q_aload_n (show mj_ins 26 139 = some (.aload_n 0, 1) from rfl) rfl rfl
theorem w26_140 {x : Int} : wp X d 26 140 ls ((26, x) :: st) M Q ↔ x ≠ 0 ∧ wp X d 26 143 ls ((0, hh M x 15) :: st) M Q := q_getfield (show mj_ins 26 140 = some (.getfield 56, 3) from rfl) rfl rfl rfl
theorem w26_143 {x : Int} : wp X d 26 143 ((26, x) :: ls) st M Q ↔ wp X d 26 144 ((26, x) :: ls) ((26, x) :: st) M Q := q_aload_n (show mj_ins 26 143 = some (.aload_n 0, 1) from rfl) rfl rfl
theorem w26_144 {x : Int} : wp X d 26 144 ls ((26, x) :: st) M Q ↔ x ≠ 0 ∧ wp X d 26 147 ls ((0, hh M x 16) :: st) M Q := q_getfield (show mj_ins 26 144 = some (.getfield 59, 3) from rfl) rfl rfl rfl
theorem w26_147 {a0 a1 a2 a3 a4 a5 a6 : Int} : wp X (d + 1) 26 147 ls ((0, a6) :: (0, a5) :: (0, a4) :: (0, a3) :: (3, a2) :: (3, a1) :: (28, a0) :: st) M Q ↔ (a0 ≠ 0 ∧ mj_cs st ≤ 8) ∧ wc X d 69 [(28, a0), (3, a1), (3, a2), (0, a3), (0, a4), (0, a5), (0, a6)] M (fun r M => wp X (d + 1) 26 150 ls (r.toList ++ st) M Q) := q_callI ⟨rfl, rfl⟩ (show mj_ins 26 147 = some (.invokespecial 93, 3) from rfl) rfl rfl rfl (Nat.le_of_ble_eq_true rfl)
theorem w26_150 {x : Int} : wp X d 26 150 ls [(28, x)] M Q ↔ Q (some (28, x)) M := q_areturn (T := 28) (show mj_ins 26 150 = some (.areturn, 1) from rfl) rfl (by decide) rfl
-- 27: PerfectFerried$Reader.begin(I)V
theorem w27_0 {x : Int} : wp X d 27 0 ((26, x) :: ls) st M Q ↔ wp X d 27 1 ((26, x) :: ls) ((26, x) :: st) M Q := q_aload_n (show mj_ins 27 0 = some (.aload_n 0, 1) from rfl) rfl rfl
theorem w27_1 : wp X d 27 1 ls st M Q ↔ wp X d 27 2 ls ((0, 0) :: st) M Q := q_iconst (show mj_ins 27 1 = some (.iconst 0, 1) from rfl) (by decide)
theorem w27_2 {x w : Int} : wp X d 27 2 ls ((0, w) :: (26, x) :: st) M Q ↔ x ≠ 0 ∧ wp X d 27 5 ls st (mj_wr M x 0 w) Q := q_putfield (show mj_ins 27 2 = some (.putfield 9, 3) from rfl) rfl rfl (Or.inl rfl) rfl
theorem w27_5 {x : Int} : wp X d 27 5 ((26, x) :: ls) st M Q ↔ wp X d 27 6 ((26, x) :: ls) ((26, x) :: st) M Q := q_aload_n (show mj_ins 27 5 = some (.aload_n 0, 1) from rfl) rfl rfl
theorem w27_6 : wp X d 27 6 ls st M Q ↔ wp X d 27 7 ls ((0, (-1)) :: st) M Q := q_iconst (show mj_ins 27 6 = some (.iconst (-1), 1) from rfl) (by decide)
theorem w27_7 {x w : Int} : wp X d 27 7 ls ((0, w) :: (26, x) :: st) M Q ↔ x ≠ 0 ∧ wp X d 27 10 ls st (mj_wr M x 1 w) Q := q_putfield (show mj_ins 27 7 = some (.putfield 15, 3) from rfl) rfl rfl (Or.inl rfl) rfl
theorem w27_10 {x : Int} : wp X d 27 10 ((26, x) :: ls) st M Q ↔ wp X d 27 11 ((26, x) :: ls) ((26, x) :: st) M Q := q_aload_n (show mj_ins 27 10 = some (.aload_n 0, 1) from rfl) rfl rfl
theorem w27_11 {v0 : mj_V} {x : Int} : wp X d 27 11 (v0 :: (0, x) :: ls) st M Q ↔ wp X d 27 12 (v0 :: (0, x) :: ls) ((0, x) :: st) M Q := q_iload_n (show mj_ins 27 11 = some (.iload_n 1, 1) from rfl) rfl
theorem w27_12 {x : Int} : wp X d 27 12 ((26, x) :: ls) st M Q ↔ wp X d 27 13 ((26, x) :: ls) ((26, x) :: st) M Q := q_aload_n (show mj_ins 27 12 = some (.aload_n 0, 1) from rfl) rfl rfl
theorem w27_13 {x : Int} : wp X d 27 13 ls ((26, x) :: st) M Q ↔ x ≠ 0 ∧ wp X d 27 16 ls ((3, hh M x 2) :: st) M Q := q_getfield (show mj_ins 27 13 = some (.getfield 62, 3) from rfl) rfl rfl rfl
theorem w27_16 {x : Int} : wp X d 27 16 ls ((3, x) :: st) M Q ↔ x ≠ 0 ∧ wp X d 27 17 ls ((0, hl M x) :: st) M Q := q_alen (show mj_ins 27 16 = some (.arraylength, 1) from rfl) (by decide)
theorem w27_17 {a0 a1 : Int} : wp X (d + 1) 27 17 ls ((0, a1) :: (0, a0) :: st) M Q ↔ (mj_cs st ≤ 8) ∧ wc X d 28 [(0, a0), (0, a1)] M (fun r M => wp X (d + 1) 27 20 ls (r.toList ++ st) M Q) := q_callS (show mj_ins 27 17 = some (.invokestatic 96, 3) from rfl) rfl rfl rfl (Nat.le_of_ble_eq_true rfl)
theorem w27_20 {x w : Int} : wp X d 27 20 ls ((0, w) :: (26, x) :: st) M Q ↔ x ≠ 0 ∧ wp X d 27 23 ls st (mj_wr M x 3 w) Q := q_putfield (show mj_ins 27 20 = some (.putfield 18, 3) from rfl) rfl rfl (Or.inl rfl) rfl
theorem w27_23 {x : Int} : wp X d 27 23 ((26, x) :: ls) st M Q ↔ wp X d 27 24 ((26, x) :: ls) ((26, x) :: st) M Q := q_aload_n (show mj_ins 27 23 = some (.aload_n 0, 1) from rfl) rfl rfl
theorem w27_24 : wp X d 27 24 ls st M Q ↔ wp X d 27 25 ls ((0, 0) :: st) M Q := q_iconst (show mj_ins 27 24 = some (.iconst 0, 1) from rfl) (by decide)
theorem w27_25 {x w : Int} : wp X d 27 25 ls ((0, w) :: (26, x) :: st) M Q ↔ x ≠ 0 ∧ wp X d 27 28 ls st (mj_wr M x 4 w) Q := q_putfield (show mj_ins 27 25 = some (.putfield 21, 3) from rfl) rfl rfl (Or.inl rfl) rfl
theorem w27_28 {x : Int} : wp X d 27 28 ((26, x) :: ls) st M Q ↔ wp X d 27 29 ((26, x) :: ls) ((26, x) :: st) M Q := q_aload_n (show mj_ins 27 28 = some (.aload_n 0, 1) from rfl) rfl rfl
theorem w27_29 : wp X d 27 29 ls st M Q ↔ wp X d 27 30 ls ((0, 0) :: st) M Q := q_iconst (show mj_ins 27 29 = some (.iconst 0, 1) from rfl) (by decide)
theorem w27_30 {x w : Int} : wp X d 27 30 ls ((0, w) :: (26, x) :: st) M Q ↔ x ≠ 0 ∧ wp X d 27 33 ls st (mj_wr M x 9 w) Q := q_putfield (show mj_ins 27 30 = some (.putfield 37, 3) from rfl) rfl rfl (Or.inl rfl) rfl
theorem w27_33 {x : Int} : wp X d 27 33 ((26, x) :: ls) st M Q ↔ wp X d 27 34 ((26, x) :: ls) ((26, x) :: st) M Q := q_aload_n (show mj_ins 27 33 = some (.aload_n 0, 1) from rfl) rfl rfl
theorem w27_34 : wp X d 27 34 ls st M Q ↔ wp X d 27 35 ls ((0, 0) :: st) M Q := q_iconst (show mj_ins 27 34 = some (.iconst 0, 1) from rfl) (by decide)
theorem w27_35 {x w : Int} : wp X d 27 35 ls ((0, w) :: (26, x) :: st) M Q ↔ x ≠ 0 ∧ wp X d 27 38 ls st (mj_wr M x 11 w) Q := q_putfield (show mj_ins 27 35 = some (.putfield 44, 3) from rfl) rfl rfl (Or.inl rfl) rfl
theorem w27_38 {x : Int} : wp X d 27 38 ((26, x) :: ls) st M Q ↔ wp X d 27 39 ((26, x) :: ls) ((26, x) :: st) M Q := q_aload_n (show mj_ins 27 38 = some (.aload_n 0, 1) from rfl) rfl rfl
theorem w27_39 : wp X d 27 39 ls st M Q ↔ wp X d 27 40 ls ((0, (-1)) :: st) M Q := q_iconst (show mj_ins 27 39 = some (.iconst (-1), 1) from rfl) (by decide)
theorem w27_40 {x w : Int} : wp X d 27 40 ls ((0, w) :: (26, x) :: st) M Q ↔ x ≠ 0 ∧ wp X d 27 43 ls st (mj_wr M x 13 w) Q := q_putfield (show mj_ins 27 40 = some (.putfield 50, 3) from rfl) rfl rfl (Or.inl rfl) rfl
theorem w27_43 {x : Int} : wp X d 27 43 ((26, x) :: ls) st M Q ↔ wp X d 27 44 ((26, x) :: ls) ((26, x) :: st) M Q := q_aload_n (show mj_ins 27 43 = some (.aload_n 0, 1) from rfl) rfl rfl
theorem w27_44 : wp X d 27 44 ls st M Q ↔ wp X d 27 45 ls ((0, (-1)) :: st) M Q := q_iconst (show mj_ins 27 44 = some (.iconst (-1), 1) from rfl) (by decide)
theorem w27_45 {x w : Int} : wp X d 27 45 ls ((0, w) :: (26, x) :: st) M Q ↔ x ≠ 0 ∧ wp X d 27 48 ls st (mj_wr M x 14 w) Q := q_putfield (show mj_ins 27 45 = some (.putfield 53, 3) from rfl) rfl rfl (Or.inl rfl) rfl
theorem w27_48 {x : Int} : wp X d 27 48 ((26, x) :: ls) st M Q ↔ wp X d 27 49 ((26, x) :: ls) ((26, x) :: st) M Q := q_aload_n (show mj_ins 27 48 = some (.aload_n 0, 1) from rfl) rfl rfl
theorem w27_49 : wp X d 27 49 ls st M Q ↔ wp X d 27 50 ls ((0, (-1)) :: st) M Q := q_iconst (show mj_ins 27 49 = some (.iconst (-1), 1) from rfl) (by decide)
theorem w27_50 {x w : Int} : wp X d 27 50 ls ((0, w) :: (26, x) :: st) M Q ↔ x ≠ 0 ∧ wp X d 27 53 ls st (mj_wr M x 15 w) Q := q_putfield (show mj_ins 27 50 = some (.putfield 56, 3) from rfl) rfl rfl (Or.inl rfl) rfl
theorem w27_53 {x : Int} : wp X d 27 53 ((26, x) :: ls) st M Q ↔ wp X d 27 54 ((26, x) :: ls) ((26, x) :: st) M Q := q_aload_n (show mj_ins 27 53 = some (.aload_n 0, 1) from rfl) rfl rfl
theorem w27_54 : wp X d 27 54 ls st M Q ↔ wp X d 27 55 ls ((0, (-1)) :: st) M Q := q_iconst (show mj_ins 27 54 = some (.iconst (-1), 1) from rfl) (by decide)
theorem w27_55 {x w : Int} : wp X d 27 55 ls ((0, w) :: (26, x) :: st) M Q ↔ x ≠ 0 ∧ wp X d 27 58 ls st (mj_wr M x 16 w) Q := q_putfield (show mj_ins 27 55 = some (.putfield 59, 3) from rfl) rfl rfl (Or.inl rfl) rfl
theorem w27_58 : wp X d 27 58 ls [] M Q ↔ Q none M := q_return (show mj_ins 27 58 = some (.return_, 1) from rfl) rfl
-- 29: PerfectFerried$Reader.next()V
theorem w29_0 {x : Int} : wp X d 29 0 ((26, x) :: ls) st M Q ↔ wp X d 29 1 ((26, x) :: ls) ((26, x) :: st) M Q := q_aload_n (show mj_ins 29 0 = some (.aload_n 0, 1) from rfl) rfl rfl
theorem w29_1 {x : Int} : wp X d 29 1 ls ((26, x) :: st) M Q ↔ x ≠ 0 ∧ wp X d 29 4 ls ((0, hh M x 0) :: st) M Q := q_getfield (show mj_ins 29 1 = some (.getfield 9, 3) from rfl) rfl rfl rfl
theorem w29_4 {x : Int} : wp X d 29 4 ls ((0, x) :: st) M Q ↔ if x = 0 then wp X d 29 8 ls st M Q else wp X d 29 7 ls st M Q := q_if_eq (show mj_ins 29 4 = some (.ifCond .eq 4, 3) from rfl) rfl
theorem w29_7 : wp X d 29 7 ls [] M Q ↔ Q none M := q_return (show mj_ins 29 7 = some (.return_, 1) from rfl) rfl
theorem w29_8 {x : Int} : wp X d 29 8 ((26, x) :: ls) st M Q ↔ wp X d 29 9 ((26, x) :: ls) ((26, x) :: st) M Q := q_aload_n (show mj_ins 29 8 = some (.aload_n 0, 1) from rfl) rfl rfl
theorem w29_9 {x : Int} : wp X d 29 9 ls ((26, x) :: st) M Q ↔ x ≠ 0 ∧ wp X d 29 12 ls ((0, hh M x 4) :: st) M Q := q_getfield (show mj_ins 29 9 = some (.getfield 21, 3) from rfl) rfl rfl rfl
theorem w29_12 {x : Int} : wp X d 29 12 ((26, x) :: ls) st M Q ↔ wp X d 29 13 ((26, x) :: ls) ((26, x) :: st) M Q := q_aload_n (show mj_ins 29 12 = some (.aload_n 0, 1) from rfl) rfl rfl
theorem w29_13 {x : Int} : wp X d 29 13 ls ((26, x) :: st) M Q ↔ x ≠ 0 ∧ wp X d 29 16 ls ((0, hh M x 3) :: st) M Q := q_getfield (show mj_ins 29 13 = some (.getfield 18, 3) from rfl) rfl rfl rfl
theorem w29_16 {x y : Int} : wp X d 29 16 ls ((0, y) :: (0, x) :: st) M Q ↔ if x < y then wp X d 29 19 ls st M Q else wp X d 29 60 ls st M Q := q_icmp_ge (show mj_ins 29 16 = some (.if_icmp .ge 44, 3) from rfl) rfl
theorem w29_19 {x : Int} : wp X d 29 19 ((26, x) :: ls) st M Q ↔ wp X d 29 20 ((26, x) :: ls) ((26, x) :: st) M Q := q_aload_n (show mj_ins 29 19 = some (.aload_n 0, 1) from rfl) rfl rfl
theorem w29_20 {x : Int} : wp X d 29 20 ls ((26, x) :: st) M Q ↔ x ≠ 0 ∧ wp X d 29 23 ls ((3, hh M x 2) :: st) M Q := q_getfield (show mj_ins 29 20 = some (.getfield 62, 3) from rfl) rfl rfl rfl
theorem w29_23 {x : Int} : wp X d 29 23 ((26, x) :: ls) st M Q ↔ wp X d 29 24 ((26, x) :: ls) ((26, x) :: st) M Q := q_aload_n (show mj_ins 29 23 = some (.aload_n 0, 1) from rfl) rfl rfl
theorem w29_24 {x : Int} : wp X d 29 24 ls ((26, x) :: st) M Q ↔ x ≠ 0 ∧ wp X d 29 27 ls ((0, hh M x 4) :: st) M Q := q_getfield (show mj_ins 29 24 = some (.getfield 21, 3) from rfl) rfl rfl rfl
theorem w29_27 {i x : Int} : wp X d 29 27 ls ((0, i) :: (3, x) :: st) M Q ↔ (x ≠ 0 ∧ 0 ≤ i ∧ i < hl M x) ∧ wp X d 29 28 ls ((0, hh M x i) :: st) M Q := q_iaload (show mj_ins 29 27 = some (.iaload, 1) from rfl)
theorem w29_28 : wp X d 29 28 ls st M Q ↔ wp X d 29 30 ls ((0, 32) :: st) M Q := q_bipush (show mj_ins 29 28 = some (.bipush 32, 2) from rfl) (by decide)
theorem w29_30 {x y : Int} : wp X d 29 30 ls ((0, y) :: (0, x) :: st) M Q ↔ if x = y then wp X d 29 47 ls st M Q else wp X d 29 33 ls st M Q := q_icmp_eq (show mj_ins 29 30 = some (.if_icmp .eq 17, 3) from rfl) rfl
theorem w29_33 {x : Int} : wp X d 29 33 ((26, x) :: ls) st M Q ↔ wp X d 29 34 ((26, x) :: ls) ((26, x) :: st) M Q := q_aload_n (show mj_ins 29 33 = some (.aload_n 0, 1) from rfl) rfl rfl
theorem w29_34 {x : Int} : wp X d 29 34 ls ((26, x) :: st) M Q ↔ x ≠ 0 ∧ wp X d 29 37 ls ((3, hh M x 2) :: st) M Q := q_getfield (show mj_ins 29 34 = some (.getfield 62, 3) from rfl) rfl rfl rfl
theorem w29_37 {x : Int} : wp X d 29 37 ((26, x) :: ls) st M Q ↔ wp X d 29 38 ((26, x) :: ls) ((26, x) :: st) M Q := q_aload_n (show mj_ins 29 37 = some (.aload_n 0, 1) from rfl) rfl rfl
theorem w29_38 {x : Int} : wp X d 29 38 ls ((26, x) :: st) M Q ↔ x ≠ 0 ∧ wp X d 29 41 ls ((0, hh M x 4) :: st) M Q := q_getfield (show mj_ins 29 38 = some (.getfield 21, 3) from rfl) rfl rfl rfl
theorem w29_41 {i x : Int} : wp X d 29 41 ls ((0, i) :: (3, x) :: st) M Q ↔ (x ≠ 0 ∧ 0 ≤ i ∧ i < hl M x) ∧ wp X d 29 42 ls ((0, hh M x i) :: st) M Q := q_iaload (show mj_ins 29 41 = some (.iaload, 1) from rfl)
theorem w29_42 : wp X d 29 42 ls st M Q ↔ wp X d 29 44 ls ((0, 10) :: st) M Q := q_bipush (show mj_ins 29 42 = some (.bipush 10, 2) from rfl) (by decide)
theorem w29_44 {x y : Int} : wp X d 29 44 ls ((0, y) :: (0, x) :: st) M Q ↔ if x = y then wp X d 29 47 ls st M Q else wp X d 29 60 ls st M Q := q_icmp_ne (show mj_ins 29 44 = some (.if_icmp .ne 16, 3) from rfl) rfl
theorem w29_47 {x : Int} : wp X d 29 47 ((26, x) :: ls) st M Q ↔ wp X d 29 48 ((26, x) :: ls) ((26, x) :: st) M Q := q_aload_n (show mj_ins 29 47 = some (.aload_n 0, 1) from rfl) rfl rfl
theorem w29_48 {x : Int} : wp X d 29 48 ls ((26, x) :: st) M Q ↔ wp X d 29 49 ls ((26, x) :: (26, x) :: st) M Q := q_dup (show mj_ins 29 48 = some (.dup, 1) from rfl) (show ¬ ((26 : Nat) = 1 ∨ (26 : Nat) = 9) by decide)
theorem w29_49 {x : Int} : wp X d 29 49 ls ((26, x) :: st) M Q ↔ x ≠ 0 ∧ wp X d 29 52 ls ((0, hh M x 4) :: st) M Q := q_getfield (show mj_ins 29 49 = some (.getfield 21, 3) from rfl) rfl rfl rfl
theorem w29_52 : wp X d 29 52 ls st M Q ↔ wp X d 29 53 ls ((0, 1) :: st) M Q := q_iconst (show mj_ins 29 52 = some (.iconst 1, 1) from rfl) (by decide)
theorem w29_53 {x y : Int} : wp X d 29 53 ls ((0, y) :: (0, x) :: st) M Q ↔ wp X d 29 54 ls ((0, ji_add x y) :: st) M Q := q_iadd (show mj_ins 29 53 = some (.iadd, 1) from rfl)
theorem w29_54 {x w : Int} : wp X d 29 54 ls ((0, w) :: (26, x) :: st) M Q ↔ x ≠ 0 ∧ wp X d 29 57 ls st (mj_wr M x 4 w) Q := q_putfield (show mj_ins 29 54 = some (.putfield 21, 3) from rfl) rfl rfl (Or.inl rfl) rfl
theorem w29_57 : wp X d 29 57 ls st M Q ↔ wp X d 29 8 ls st M Q := q_goto (show mj_ins 29 57 = some (.goto (-49), 3) from rfl) rfl
theorem w29_60 {x : Int} : wp X d 29 60 ((26, x) :: ls) st M Q ↔ wp X d 29 61 ((26, x) :: ls) ((26, x) :: st) M Q := q_aload_n (show mj_ins 29 60 = some (.aload_n 0, 1) from rfl) rfl rfl
theorem w29_61 {x : Int} : wp X d 29 61 ((26, x) :: ls) st M Q ↔ wp X d 29 62 ((26, x) :: ls) ((26, x) :: st) M Q := q_aload_n (show mj_ins 29 61 = some (.aload_n 0, 1) from rfl) rfl rfl
theorem w29_62 {x : Int} : wp X d 29 62 ls ((26, x) :: st) M Q ↔ x ≠ 0 ∧ wp X d 29 65 ls ((0, hh M x 4) :: st) M Q := q_getfield (show mj_ins 29 62 = some (.getfield 21, 3) from rfl) rfl rfl rfl
theorem w29_65 {x w : Int} : wp X d 29 65 ls ((0, w) :: (26, x) :: st) M Q ↔ x ≠ 0 ∧ wp X d 29 68 ls st (mj_wr M x 5 w) Q := q_putfield (show mj_ins 29 65 = some (.putfield 24, 3) from rfl) rfl rfl (Or.inl rfl) rfl
theorem w29_68 {x : Int} : wp X d 29 68 ((26, x) :: ls) st M Q ↔ wp X d 29 69 ((26, x) :: ls) ((26, x) :: st) M Q := q_aload_n (show mj_ins 29 68 = some (.aload_n 0, 1) from rfl) rfl rfl
theorem w29_69 {x : Int} : wp X d 29 69 ls ((26, x) :: st) M Q ↔ x ≠ 0 ∧ wp X d 29 72 ls ((0, hh M x 4) :: st) M Q := q_getfield (show mj_ins 29 69 = some (.getfield 21, 3) from rfl) rfl rfl rfl
theorem w29_72 {x : Int} : wp X d 29 72 ((26, x) :: ls) st M Q ↔ wp X d 29 73 ((26, x) :: ls) ((26, x) :: st) M Q := q_aload_n (show mj_ins 29 72 = some (.aload_n 0, 1) from rfl) rfl rfl
theorem w29_73 {x : Int} : wp X d 29 73 ls ((26, x) :: st) M Q ↔ x ≠ 0 ∧ wp X d 29 76 ls ((0, hh M x 3) :: st) M Q := q_getfield (show mj_ins 29 73 = some (.getfield 18, 3) from rfl) rfl rfl rfl
theorem w29_76 {x y : Int} : wp X d 29 76 ls ((0, y) :: (0, x) :: st) M Q ↔ if x < y then wp X d 29 88 ls st M Q else wp X d 29 79 ls st M Q := q_icmp_lt (show mj_ins 29 76 = some (.if_icmp .lt 12, 3) from rfl) rfl
theorem w29_79 {x : Int} : wp X d 29 79 ((26, x) :: ls) st M Q ↔ wp X d 29 80 ((26, x) :: ls) ((26, x) :: st) M Q := q_aload_n (show mj_ins 29 79 = some (.aload_n 0, 1) from rfl) rfl rfl
theorem w29_80 : wp X d 29 80 ls st M Q ↔ wp X d 29 82 ls ((0, 40) :: st) M Q := q_bipush (show mj_ins 29 80 = some (.bipush 40, 2) from rfl) (by decide)
theorem w29_82 {x w : Int} : wp X d 29 82 ls ((0, w) :: (26, x) :: st) M Q ↔ x ≠ 0 ∧ wp X d 29 85 ls st (mj_wr M x 6 w) Q := q_putfield (show mj_ins 29 82 = some (.putfield 27, 3) from rfl) rfl rfl (Or.inl rfl) rfl
theorem w29_85 : wp X d 29 85 ls st M Q ↔ wp X d 29 136 ls st M Q := q_goto (show mj_ins 29 85 = some (.goto 51, 3) from rfl) rfl
theorem w29_88 {x : Int} : wp X d 29 88 ((26, x) :: ls) st M Q ↔ wp X d 29 89 ((26, x) :: ls) ((26, x) :: st) M Q := q_aload_n (show mj_ins 29 88 = some (.aload_n 0, 1) from rfl) rfl rfl
theorem w29_89 {x : Int} : wp X d 29 89 ls ((26, x) :: st) M Q ↔ x ≠ 0 ∧ wp X d 29 92 ls ((3, hh M x 2) :: st) M Q := q_getfield (show mj_ins 29 89 = some (.getfield 62, 3) from rfl) rfl rfl rfl
theorem w29_92 {x : Int} : wp X d 29 92 ((26, x) :: ls) st M Q ↔ wp X d 29 93 ((26, x) :: ls) ((26, x) :: st) M Q := q_aload_n (show mj_ins 29 92 = some (.aload_n 0, 1) from rfl) rfl rfl
theorem w29_93 {x : Int} : wp X d 29 93 ls ((26, x) :: st) M Q ↔ x ≠ 0 ∧ wp X d 29 96 ls ((0, hh M x 4) :: st) M Q := q_getfield (show mj_ins 29 93 = some (.getfield 21, 3) from rfl) rfl rfl rfl
theorem w29_96 {i x : Int} : wp X d 29 96 ls ((0, i) :: (3, x) :: st) M Q ↔ (x ≠ 0 ∧ 0 ≤ i ∧ i < hl M x) ∧ wp X d 29 97 ls ((0, hh M x i) :: st) M Q := q_iaload (show mj_ins 29 96 = some (.iaload, 1) from rfl)
theorem w29_97 {a0 : Int} : wp X (d + 1) 29 97 ls ((0, a0) :: st) M Q ↔ (mj_cs st ≤ 8) ∧ wc X d 30 [(0, a0)] M (fun r M => wp X (d + 1) 29 100 ls (r.toList ++ st) M Q) := q_callS (show mj_ins 29 97 = some (.invokestatic 102, 3) from rfl) rfl rfl rfl (Nat.le_of_ble_eq_true rfl)
theorem w29_100 {x : Int} : wp X d 29 100 ls ((0, x) :: st) M Q ↔ if x = 0 then wp X d 29 110 ls st M Q else wp X d 29 103 ls st M Q := q_if_eq (show mj_ins 29 100 = some (.ifCond .eq 10, 3) from rfl) rfl
theorem w29_103 {x : Int} : wp X d 29 103 ((26, x) :: ls) st M Q ↔ wp X d 29 104 ((26, x) :: ls) ((26, x) :: st) M Q := q_aload_n (show mj_ins 29 103 = some (.aload_n 0, 1) from rfl) rfl rfl
theorem w29_104 {a0 : Int} : wp X (d + 1) 29 104 ls ((26, a0) :: st) M Q ↔ (a0 ≠ 0 ∧ mj_cs st ≤ 8) ∧ wc X d 31 [(26, a0)] M (fun r M => wp X (d + 1) 29 107 ls (r.toList ++ st) M Q) := q_callV ⟨rfl, rfl⟩ (show mj_ins 29 104 = some (.invokevirtual 106, 3) from rfl) rfl rfl rfl (Nat.le_of_ble_eq_true rfl)
theorem w29_107 : wp X d 29 107 ls st M Q ↔ wp X d 29 136 ls st M Q := q_goto (show mj_ins 29 107 = some (.goto 29, 3) from rfl) rfl
theorem w29_110 {x : Int} : wp X d 29 110 ((26, x) :: ls) st M Q ↔ wp X d 29 111 ((26, x) :: ls) ((26, x) :: st) M Q := q_aload_n (show mj_ins 29 110 = some (.aload_n 0, 1) from rfl) rfl rfl
theorem w29_111 {x : Int} : wp X d 29 111 ls ((26, x) :: st) M Q ↔ x ≠ 0 ∧ wp X d 29 114 ls ((3, hh M x 2) :: st) M Q := q_getfield (show mj_ins 29 111 = some (.getfield 62, 3) from rfl) rfl rfl rfl
theorem w29_114 {x : Int} : wp X d 29 114 ((26, x) :: ls) st M Q ↔ wp X d 29 115 ((26, x) :: ls) ((26, x) :: st) M Q := q_aload_n (show mj_ins 29 114 = some (.aload_n 0, 1) from rfl) rfl rfl
theorem w29_115 {x : Int} : wp X d 29 115 ls ((26, x) :: st) M Q ↔ x ≠ 0 ∧ wp X d 29 118 ls ((0, hh M x 4) :: st) M Q := q_getfield (show mj_ins 29 115 = some (.getfield 21, 3) from rfl) rfl rfl rfl
theorem w29_118 {i x : Int} : wp X d 29 118 ls ((0, i) :: (3, x) :: st) M Q ↔ (x ≠ 0 ∧ 0 ≤ i ∧ i < hl M x) ∧ wp X d 29 119 ls ((0, hh M x i) :: st) M Q := q_iaload (show mj_ins 29 118 = some (.iaload, 1) from rfl)
theorem w29_119 {a0 : Int} : wp X (d + 1) 29 119 ls ((0, a0) :: st) M Q ↔ (mj_cs st ≤ 8) ∧ wc X d 38 [(0, a0)] M (fun r M => wp X (d + 1) 29 122 ls (r.toList ++ st) M Q) := q_callS (show mj_ins 29 119 = some (.invokestatic 109, 3) from rfl) rfl rfl rfl (Nat.le_of_ble_eq_true rfl)
theorem w29_122 {x : Int} : wp X d 29 122 ls ((0, x) :: st) M Q ↔ if x = 0 then wp X d 29 132 ls st M Q else wp X d 29 125 ls st M Q := q_if_eq (show mj_ins 29 122 = some (.ifCond .eq 10, 3) from rfl) rfl
theorem w29_125 {x : Int} : wp X d 29 125 ((26, x) :: ls) st M Q ↔ wp X d 29 126 ((26, x) :: ls) ((26, x) :: st) M Q := q_aload_n (show mj_ins 29 125 = some (.aload_n 0, 1) from rfl) rfl rfl
theorem w29_126 {a0 : Int} : wp X (d + 1) 29 126 ls ((26, a0) :: st) M Q ↔ (a0 ≠ 0 ∧ mj_cs st ≤ 8) ∧ wc X d 39 [(26, a0)] M (fun r M => wp X (d + 1) 29 129 ls (r.toList ++ st) M Q) := q_callV ⟨rfl, rfl⟩ (show mj_ins 29 126 = some (.invokevirtual 112, 3) from rfl) rfl rfl rfl (Nat.le_of_ble_eq_true rfl)
theorem w29_129 : wp X d 29 129 ls st M Q ↔ wp X d 29 136 ls st M Q := q_goto (show mj_ins 29 129 = some (.goto 7, 3) from rfl) rfl
theorem w29_132 {x : Int} : wp X d 29 132 ((26, x) :: ls) st M Q ↔ wp X d 29 133 ((26, x) :: ls) ((26, x) :: st) M Q := q_aload_n (show mj_ins 29 132 = some (.aload_n 0, 1) from rfl) rfl rfl
theorem w29_133 {a0 : Int} : wp X (d + 1) 29 133 ls ((26, a0) :: st) M Q ↔ (a0 ≠ 0 ∧ mj_cs st ≤ 8) ∧ wc X d 40 [(26, a0)] M (fun r M => wp X (d + 1) 29 136 ls (r.toList ++ st) M Q) := q_callV ⟨rfl, rfl⟩ (show mj_ins 29 133 = some (.invokevirtual 115, 3) from rfl) rfl rfl rfl (Nat.le_of_ble_eq_true rfl)
theorem w29_136 : wp X d 29 136 ls [] M Q ↔ Q none M := q_return (show mj_ins 29 136 = some (.return_, 1) from rfl) rfl
-- 30: PerfectFerried$Reader.isLetter(I)Z
theorem w30_0 {x : Int} : wp X d 30 0 ((0, x) :: ls) st M Q ↔ wp X d 30 1 ((0, x) :: ls) ((0, x) :: st) M Q := q_iload_n (show mj_ins 30 0 = some (.iload_n 0, 1) from rfl) rfl
theorem w30_1 : wp X d 30 1 ls st M Q ↔ wp X d 30 3 ls ((0, 97) :: st) M Q := q_bipush (show mj_ins 30 1 = some (.bipush 97, 2) from rfl) (by decide)
theorem w30_3 {x y : Int} : wp X d 30 3 ls ((0, y) :: (0, x) :: st) M Q ↔ if x < y then wp X d 30 12 ls st M Q else wp X d 30 6 ls st M Q := q_icmp_lt (show mj_ins 30 3 = some (.if_icmp .lt 9, 3) from rfl) rfl
theorem w30_6 {x : Int} : wp X d 30 6 ((0, x) :: ls) st M Q ↔ wp X d 30 7 ((0, x) :: ls) ((0, x) :: st) M Q := q_iload_n (show mj_ins 30 6 = some (.iload_n 0, 1) from rfl) rfl
theorem w30_7 : wp X d 30 7 ls st M Q ↔ wp X d 30 9 ls ((0, 122) :: st) M Q := q_bipush (show mj_ins 30 7 = some (.bipush 122, 2) from rfl) (by decide)
theorem w30_9 {x y : Int} : wp X d 30 9 ls ((0, y) :: (0, x) :: st) M Q ↔ if x ≤ y then wp X d 30 24 ls st M Q else wp X d 30 12 ls st M Q := q_icmp_le (show mj_ins 30 9 = some (.if_icmp .le 15, 3) from rfl) rfl
theorem w30_12 {x : Int} : wp X d 30 12 ((0, x) :: ls) st M Q ↔ wp X d 30 13 ((0, x) :: ls) ((0, x) :: st) M Q := q_iload_n (show mj_ins 30 12 = some (.iload_n 0, 1) from rfl) rfl
theorem w30_13 : wp X d 30 13 ls st M Q ↔ wp X d 30 15 ls ((0, 65) :: st) M Q := q_bipush (show mj_ins 30 13 = some (.bipush 65, 2) from rfl) (by decide)
theorem w30_15 {x y : Int} : wp X d 30 15 ls ((0, y) :: (0, x) :: st) M Q ↔ if x < y then wp X d 30 28 ls st M Q else wp X d 30 18 ls st M Q := q_icmp_lt (show mj_ins 30 15 = some (.if_icmp .lt 13, 3) from rfl) rfl
theorem w30_18 {x : Int} : wp X d 30 18 ((0, x) :: ls) st M Q ↔ wp X d 30 19 ((0, x) :: ls) ((0, x) :: st) M Q := q_iload_n (show mj_ins 30 18 = some (.iload_n 0, 1) from rfl) rfl
theorem w30_19 : wp X d 30 19 ls st M Q ↔ wp X d 30 21 ls ((0, 90) :: st) M Q := q_bipush (show mj_ins 30 19 = some (.bipush 90, 2) from rfl) (by decide)
theorem w30_21 {x y : Int} : wp X d 30 21 ls ((0, y) :: (0, x) :: st) M Q ↔ if x ≤ y then wp X d 30 24 ls st M Q else wp X d 30 28 ls st M Q := q_icmp_gt (show mj_ins 30 21 = some (.if_icmp .gt 7, 3) from rfl) rfl
theorem w30_24 : wp X d 30 24 ls st M Q ↔ wp X d 30 25 ls ((0, 1) :: st) M Q := q_iconst (show mj_ins 30 24 = some (.iconst 1, 1) from rfl) (by decide)
theorem w30_25 : wp X d 30 25 ls st M Q ↔ wp X d 30 29 ls st M Q := q_goto (show mj_ins 30 25 = some (.goto 4, 3) from rfl) rfl
theorem w30_28 : wp X d 30 28 ls st M Q ↔ wp X d 30 29 ls ((0, 0) :: st) M Q := q_iconst (show mj_ins 30 28 = some (.iconst 0, 1) from rfl) (by decide)
theorem w30_29_i {P : Prop} {hP : Decidable P} : wp X d 30 29 ls [(0, @ite Int P hP 1 0)] M Q ↔ Q (some (0, @ite Int P hP 1 0)) M := q_zreturn (show mj_ins 30 29 = some (.ireturn, 1) from rfl) rfl (by by_cases h : P <;> simp [h])
theorem w30_29_0 : wp X d 30 29 ls [(0, 0)] M Q ↔ Q (some (0, 0)) M := q_zreturn (show mj_ins 30 29 = some (.ireturn, 1) from rfl) rfl (by decide)
theorem w30_29_1 : wp X d 30 29 ls [(0, 1)] M Q ↔ Q (some (0, 1)) M := q_zreturn (show mj_ins 30 29 = some (.ireturn, 1) from rfl) rfl (by decide)
-- 31: PerfectFerried$Reader.takeWord()V
theorem w31_0 {x : Int} : wp X d 31 0 ((26, x) :: ls) st M Q ↔ wp X d 31 1 ((26, x) :: ls) ((26, x) :: st) M Q := q_aload_n (show mj_ins 31 0 = some (.aload_n 0, 1) from rfl) rfl rfl
theorem w31_1 {x : Int} : wp X d 31 1 ls ((26, x) :: st) M Q ↔ x ≠ 0 ∧ wp X d 31 4 ls ((0, hh M x 4) :: st) M Q := q_getfield (show mj_ins 31 1 = some (.getfield 21, 3) from rfl) rfl rfl rfl
theorem w31_4 {x : Int} : wp X d 31 4 ((26, x) :: ls) st M Q ↔ wp X d 31 5 ((26, x) :: ls) ((26, x) :: st) M Q := q_aload_n (show mj_ins 31 4 = some (.aload_n 0, 1) from rfl) rfl rfl
theorem w31_5 {x : Int} : wp X d 31 5 ls ((26, x) :: st) M Q ↔ x ≠ 0 ∧ wp X d 31 8 ls ((0, hh M x 3) :: st) M Q := q_getfield (show mj_ins 31 5 = some (.getfield 18, 3) from rfl) rfl rfl rfl
theorem w31_8 {x y : Int} : wp X d 31 8 ls ((0, y) :: (0, x) :: st) M Q ↔ if x < y then wp X d 31 11 ls st M Q else wp X d 31 39 ls st M Q := q_icmp_ge (show mj_ins 31 8 = some (.if_icmp .ge 31, 3) from rfl) rfl
theorem w31_11 {x : Int} : wp X d 31 11 ((26, x) :: ls) st M Q ↔ wp X d 31 12 ((26, x) :: ls) ((26, x) :: st) M Q := q_aload_n (show mj_ins 31 11 = some (.aload_n 0, 1) from rfl) rfl rfl
theorem w31_12 {x : Int} : wp X d 31 12 ls ((26, x) :: st) M Q ↔ x ≠ 0 ∧ wp X d 31 15 ls ((3, hh M x 2) :: st) M Q := q_getfield (show mj_ins 31 12 = some (.getfield 62, 3) from rfl) rfl rfl rfl
theorem w31_15 {x : Int} : wp X d 31 15 ((26, x) :: ls) st M Q ↔ wp X d 31 16 ((26, x) :: ls) ((26, x) :: st) M Q := q_aload_n (show mj_ins 31 15 = some (.aload_n 0, 1) from rfl) rfl rfl
theorem w31_16 {x : Int} : wp X d 31 16 ls ((26, x) :: st) M Q ↔ x ≠ 0 ∧ wp X d 31 19 ls ((0, hh M x 4) :: st) M Q := q_getfield (show mj_ins 31 16 = some (.getfield 21, 3) from rfl) rfl rfl rfl
theorem w31_19 {i x : Int} : wp X d 31 19 ls ((0, i) :: (3, x) :: st) M Q ↔ (x ≠ 0 ∧ 0 ≤ i ∧ i < hl M x) ∧ wp X d 31 20 ls ((0, hh M x i) :: st) M Q := q_iaload (show mj_ins 31 19 = some (.iaload, 1) from rfl)
theorem w31_20 {a0 : Int} : wp X (d + 1) 31 20 ls ((0, a0) :: st) M Q ↔ (mj_cs st ≤ 8) ∧ wc X d 30 [(0, a0)] M (fun r M => wp X (d + 1) 31 23 ls (r.toList ++ st) M Q) := q_callS (show mj_ins 31 20 = some (.invokestatic 102, 3) from rfl) rfl rfl rfl (Nat.le_of_ble_eq_true rfl)
theorem w31_23 {x : Int} : wp X d 31 23 ls ((0, x) :: st) M Q ↔ if x = 0 then wp X d 31 39 ls st M Q else wp X d 31 26 ls st M Q := q_if_eq (show mj_ins 31 23 = some (.ifCond .eq 16, 3) from rfl) rfl
theorem w31_26 {x : Int} : wp X d 31 26 ((26, x) :: ls) st M Q ↔ wp X d 31 27 ((26, x) :: ls) ((26, x) :: st) M Q := q_aload_n (show mj_ins 31 26 = some (.aload_n 0, 1) from rfl) rfl rfl
theorem w31_27 {x : Int} : wp X d 31 27 ls ((26, x) :: st) M Q ↔ wp X d 31 28 ls ((26, x) :: (26, x) :: st) M Q := q_dup (show mj_ins 31 27 = some (.dup, 1) from rfl) (show ¬ ((26 : Nat) = 1 ∨ (26 : Nat) = 9) by decide)
theorem w31_28 {x : Int} : wp X d 31 28 ls ((26, x) :: st) M Q ↔ x ≠ 0 ∧ wp X d 31 31 ls ((0, hh M x 4) :: st) M Q := q_getfield (show mj_ins 31 28 = some (.getfield 21, 3) from rfl) rfl rfl rfl
theorem w31_31 : wp X d 31 31 ls st M Q ↔ wp X d 31 32 ls ((0, 1) :: st) M Q := q_iconst (show mj_ins 31 31 = some (.iconst 1, 1) from rfl) (by decide)
theorem w31_32 {x y : Int} : wp X d 31 32 ls ((0, y) :: (0, x) :: st) M Q ↔ wp X d 31 33 ls ((0, ji_add x y) :: st) M Q := q_iadd (show mj_ins 31 32 = some (.iadd, 1) from rfl)
theorem w31_33 {x w : Int} : wp X d 31 33 ls ((0, w) :: (26, x) :: st) M Q ↔ x ≠ 0 ∧ wp X d 31 36 ls st (mj_wr M x 4 w) Q := q_putfield (show mj_ins 31 33 = some (.putfield 21, 3) from rfl) rfl rfl (Or.inl rfl) rfl
theorem w31_36 : wp X d 31 36 ls st M Q ↔ wp X d 31 0 ls st M Q := q_goto (show mj_ins 31 36 = some (.goto (-36), 3) from rfl) rfl
theorem w31_39 {x : Int} : wp X d 31 39 ((26, x) :: ls) st M Q ↔ wp X d 31 40 ((26, x) :: ls) ((26, x) :: st) M Q := q_aload_n (show mj_ins 31 39 = some (.aload_n 0, 1) from rfl) rfl rfl
theorem w31_40 : wp X d 31 40 ls st M Q ↔ wp X d 31 42 ls ((0, 41) :: st) M Q := q_bipush (show mj_ins 31 40 = some (.bipush 41, 2) from rfl) (by decide)
theorem w31_42 {x w : Int} : wp X d 31 42 ls ((0, w) :: (26, x) :: st) M Q ↔ x ≠ 0 ∧ wp X d 31 45 ls st (mj_wr M x 6 w) Q := q_putfield (show mj_ins 31 42 = some (.putfield 27, 3) from rfl) rfl rfl (Or.inl rfl) rfl
theorem w31_45 : wp X d 31 45 ls st M Q ↔ wp X d 31 46 ls ((0, 0) :: st) M Q := q_iconst (show mj_ins 31 45 = some (.iconst 0, 1) from rfl) (by decide)
theorem w31_46 {w : mj_V} {x y : Int} : wp X d 31 46 ((26, y) :: w :: ls) ((0, x) :: st) M Q ↔ wp X d 31 47 ((26, y) :: (0, x) :: ls) st M Q := q_istore_n (show mj_ins 31 46 = some (.istore_n 1, 1) from rfl) (Nat.le_add_left 2 _) (mj_set_s (fun z hz => by cases hz; exact (show (26 : Nat) ≠ 1 by decide)))
theorem w31_47 {v0 : mj_V} {x : Int} : wp X d 31 47 (v0 :: (0, x) :: ls) st M Q ↔ wp X d 31 48 (v0 :: (0, x) :: ls) ((0, x) :: st) M Q := q_iload_n (show mj_ins 31 47 = some (.iload_n 1, 1) from rfl) rfl
theorem w31_48 : wp X d 31 48 ls st M Q ↔ wp X d 31 50 ls ((0, 26) :: st) M Q := q_bipush (show mj_ins 31 48 = some (.bipush 26, 2) from rfl) (by decide)
theorem w31_50 {x y : Int} : wp X d 31 50 ls ((0, y) :: (0, x) :: st) M Q ↔ if x < y then wp X d 31 53 ls st M Q else wp X d 31 81 ls st M Q := q_icmp_ge (show mj_ins 31 50 = some (.if_icmp .ge 31, 3) from rfl) rfl
theorem w31_53 {x : Int} : wp X d 31 53 ((26, x) :: ls) st M Q ↔ wp X d 31 54 ((26, x) :: ls) ((26, x) :: st) M Q := q_aload_n (show mj_ins 31 53 = some (.aload_n 0, 1) from rfl) rfl rfl
theorem w31_54 {x : Int} : wp X d 31 54 ls ((26, x) :: st) M Q ↔ x ≠ 0 ∧ wp X d 31 57 ls ((0, hh M x 6) :: st) M Q := q_getfield (show mj_ins 31 54 = some (.getfield 27, 3) from rfl) rfl rfl rfl
theorem w31_57 : wp X d 31 57 ls st M Q ↔ wp X d 31 59 ls ((0, 41) :: st) M Q := q_bipush (show mj_ins 31 57 = some (.bipush 41, 2) from rfl) (by decide)
theorem w31_59 {x y : Int} : wp X d 31 59 ls ((0, y) :: (0, x) :: st) M Q ↔ if x = y then wp X d 31 62 ls st M Q else wp X d 31 81 ls st M Q := q_icmp_ne (show mj_ins 31 59 = some (.if_icmp .ne 22, 3) from rfl) rfl
theorem w31_62 {x : Int} : wp X d 31 62 ((26, x) :: ls) st M Q ↔ wp X d 31 63 ((26, x) :: ls) ((26, x) :: st) M Q := q_aload_n (show mj_ins 31 62 = some (.aload_n 0, 1) from rfl) rfl rfl
theorem w31_63 {v0 : mj_V} {x : Int} : wp X d 31 63 (v0 :: (0, x) :: ls) st M Q ↔ wp X d 31 64 (v0 :: (0, x) :: ls) ((0, x) :: st) M Q := q_iload_n (show mj_ins 31 63 = some (.iload_n 1, 1) from rfl) rfl
theorem w31_64 {a0 a1 : Int} : wp X (d + 1) 31 64 ls ((0, a1) :: (26, a0) :: st) M Q ↔ (a0 ≠ 0 ∧ mj_cs st ≤ 8) ∧ wc X d 32 [(26, a0), (0, a1)] M (fun r M => wp X (d + 1) 31 67 ls (r.toList ++ st) M Q) := q_callV ⟨rfl, rfl⟩ (show mj_ins 31 64 = some (.invokevirtual 118, 3) from rfl) rfl rfl rfl (Nat.le_of_ble_eq_true rfl)
theorem w31_67 {x : Int} : wp X d 31 67 ls ((0, x) :: st) M Q ↔ if x = 0 then wp X d 31 75 ls st M Q else wp X d 31 70 ls st M Q := q_if_eq (show mj_ins 31 67 = some (.ifCond .eq 8, 3) from rfl) rfl
theorem w31_70 {x : Int} : wp X d 31 70 ((26, x) :: ls) st M Q ↔ wp X d 31 71 ((26, x) :: ls) ((26, x) :: st) M Q := q_aload_n (show mj_ins 31 70 = some (.aload_n 0, 1) from rfl) rfl rfl
theorem w31_71 {v0 : mj_V} {x : Int} : wp X d 31 71 (v0 :: (0, x) :: ls) st M Q ↔ wp X d 31 72 (v0 :: (0, x) :: ls) ((0, x) :: st) M Q := q_iload_n (show mj_ins 31 71 = some (.iload_n 1, 1) from rfl) rfl
theorem w31_72 {x w : Int} : wp X d 31 72 ls ((0, w) :: (26, x) :: st) M Q ↔ x ≠ 0 ∧ wp X d 31 75 ls st (mj_wr M x 6 w) Q := q_putfield (show mj_ins 31 72 = some (.putfield 27, 3) from rfl) rfl rfl (Or.inl rfl) rfl
theorem w31_75 {x y : Int} : wp X d 31 75 ((26, y) :: (0, x) :: ls) st M Q ↔ wp X d 31 78 ((26, y) :: (0, ji_add x 1) :: ls) st M Q := q_iinc (show mj_ins 31 75 = some (.iinc 1 1, 3) from rfl) rfl (mj_set_s (fun z hz => by cases hz; exact (show (26 : Nat) ≠ 1 by decide)))
theorem w31_78 : wp X d 31 78 ls st M Q ↔ wp X d 31 47 ls st M Q := q_goto (show mj_ins 31 78 = some (.goto (-31), 3) from rfl) rfl
theorem w31_81 : wp X d 31 81 ls [] M Q ↔ Q none M := q_return (show mj_ins 31 81 = some (.return_, 1) from rfl) rfl
-- 32: PerfectFerried$Reader.isSpelt(I)Z
theorem w32_0 {x : Int} : wp X d 32 0 ((26, x) :: ls) st M Q ↔ wp X d 32 1 ((26, x) :: ls) ((26, x) :: st) M Q := q_aload_n (show mj_ins 32 0 = some (.aload_n 0, 1) from rfl) rfl rfl
theorem w32_1 {x : Int} : wp X d 32 1 ls ((26, x) :: st) M Q ↔ x ≠ 0 ∧ wp X d 32 4 ls ((0, hh M x 4) :: st) M Q := q_getfield (show mj_ins 32 1 = some (.getfield 21, 3) from rfl) rfl rfl rfl
theorem w32_4 {x : Int} : wp X d 32 4 ((26, x) :: ls) st M Q ↔ wp X d 32 5 ((26, x) :: ls) ((26, x) :: st) M Q := q_aload_n (show mj_ins 32 4 = some (.aload_n 0, 1) from rfl) rfl rfl
theorem w32_5 {x : Int} : wp X d 32 5 ls ((26, x) :: st) M Q ↔ x ≠ 0 ∧ wp X d 32 8 ls ((0, hh M x 5) :: st) M Q := q_getfield (show mj_ins 32 5 = some (.getfield 24, 3) from rfl) rfl rfl rfl
theorem w32_8 {x y : Int} : wp X d 32 8 ls ((0, y) :: (0, x) :: st) M Q ↔ wp X d 32 9 ls ((0, ji_sub x y) :: st) M Q := q_isub (show mj_ins 32 8 = some (.isub, 1) from rfl)
theorem w32_9 {v0 w : mj_V} {x y : Int} : wp X d 32 9 (v0 :: (0, y) :: w :: ls) ((0, x) :: st) M Q ↔ wp X d 32 10 (v0 :: (0, y) :: (0, x) :: ls) st M Q := q_istore_n (show mj_ins 32 9 = some (.istore_n 2, 1) from rfl) (Nat.le_add_left 3 _) (mj_set_s (fun z hz => by cases hz; exact (show (0 : Nat) ≠ 1 by decide)))
theorem w32_10 {v0 v1 : mj_V} {x : Int} : wp X d 32 10 (v0 :: v1 :: (0, x) :: ls) st M Q ↔ wp X d 32 11 (v0 :: v1 :: (0, x) :: ls) ((0, x) :: st) M Q := q_iload_n (show mj_ins 32 10 = some (.iload_n 2, 1) from rfl) rfl
theorem w32_11 : wp X d 32 11 ls st M Q ↔ wp X d 32 13 ls ((0, 6) :: st) M Q := q_bipush (show mj_ins 32 11 = some (.bipush 6, 2) from rfl) (by decide)
theorem w32_13 {x y : Int} : wp X d 32 13 ls ((0, y) :: (0, x) :: st) M Q ↔ if x ≤ y then wp X d 32 18 ls st M Q else wp X d 32 16 ls st M Q := q_icmp_le (show mj_ins 32 13 = some (.if_icmp .le 5, 3) from rfl) rfl
theorem w32_16 : wp X d 32 16 ls st M Q ↔ wp X d 32 17 ls ((0, 0) :: st) M Q := q_iconst (show mj_ins 32 16 = some (.iconst 0, 1) from rfl) (by decide)
theorem w32_17_i {P : Prop} {hP : Decidable P} : wp X d 32 17 ls [(0, @ite Int P hP 1 0)] M Q ↔ Q (some (0, @ite Int P hP 1 0)) M := q_zreturn (show mj_ins 32 17 = some (.ireturn, 1) from rfl) rfl (by by_cases h : P <;> simp [h])
theorem w32_17_0 : wp X d 32 17 ls [(0, 0)] M Q ↔ Q (some (0, 0)) M := q_zreturn (show mj_ins 32 17 = some (.ireturn, 1) from rfl) rfl (by decide)
theorem w32_17_1 : wp X d 32 17 ls [(0, 1)] M Q ↔ Q (some (0, 1)) M := q_zreturn (show mj_ins 32 17 = some (.ireturn, 1) from rfl) rfl (by decide)
theorem w32_18 : wp X d 32 18 ls st M Q ↔ wp X d 32 19 ls ((0, 0) :: st) M Q := q_iconst (show mj_ins 32 18 = some (.iconst 0, 1) from rfl) (by decide)
theorem w32_19 {v0 v1 w : mj_V} {x y : Int} : wp X d 32 19 (v0 :: v1 :: (0, y) :: w :: ls) ((0, x) :: st) M Q ↔ wp X d 32 20 (v0 :: v1 :: (0, y) :: (0, x) :: ls) st M Q := q_istore_n (show mj_ins 32 19 = some (.istore_n 3, 1) from rfl) (Nat.le_add_left 4 _) (mj_set_s (fun z hz => by cases hz; exact (show (0 : Nat) ≠ 1 by decide)))
theorem w32_20 {v0 v1 v2 : mj_V} {x : Int} : wp X d 32 20 (v0 :: v1 :: v2 :: (0, x) :: ls) st M Q ↔ wp X d 32 21 (v0 :: v1 :: v2 :: (0, x) :: ls) ((0, x) :: st) M Q := q_iload_n (show mj_ins 32 20 = some (.iload_n 3, 1) from rfl) rfl
theorem w32_21 : wp X d 32 21 ls st M Q ↔ wp X d 32 23 ls ((0, 6) :: st) M Q := q_bipush (show mj_ins 32 21 = some (.bipush 6, 2) from rfl) (by decide)
theorem w32_23 {x y : Int} : wp X d 32 23 ls ((0, y) :: (0, x) :: st) M Q ↔ if x < y then wp X d 32 26 ls st M Q else wp X d 32 73 ls st M Q := q_icmp_ge (show mj_ins 32 23 = some (.if_icmp .ge 50, 3) from rfl) rfl
theorem w32_26 {v0 v1 v2 : mj_V} {x : Int} : wp X d 32 26 (v0 :: v1 :: v2 :: (0, x) :: ls) st M Q ↔ wp X d 32 27 (v0 :: v1 :: v2 :: (0, x) :: ls) ((0, x) :: st) M Q := q_iload_n (show mj_ins 32 26 = some (.iload_n 3, 1) from rfl) rfl
theorem w32_27 {v0 v1 : mj_V} {x : Int} : wp X d 32 27 (v0 :: v1 :: (0, x) :: ls) st M Q ↔ wp X d 32 28 (v0 :: v1 :: (0, x) :: ls) ((0, x) :: st) M Q := q_iload_n (show mj_ins 32 27 = some (.iload_n 2, 1) from rfl) rfl
theorem w32_28 {x y : Int} : wp X d 32 28 ls ((0, y) :: (0, x) :: st) M Q ↔ if x < y then wp X d 32 31 ls st M Q else wp X d 32 45 ls st M Q := q_icmp_ge (show mj_ins 32 28 = some (.if_icmp .ge 17, 3) from rfl) rfl
theorem w32_31 {x : Int} : wp X d 32 31 ((26, x) :: ls) st M Q ↔ wp X d 32 32 ((26, x) :: ls) ((26, x) :: st) M Q := q_aload_n (show mj_ins 32 31 = some (.aload_n 0, 1) from rfl) rfl rfl
theorem w32_32 {x : Int} : wp X d 32 32 ls ((26, x) :: st) M Q ↔ x ≠ 0 ∧ wp X d 32 35 ls ((3, hh M x 2) :: st) M Q := q_getfield (show mj_ins 32 32 = some (.getfield 62, 3) from rfl) rfl rfl rfl
theorem w32_35 {x : Int} : wp X d 32 35 ((26, x) :: ls) st M Q ↔ wp X d 32 36 ((26, x) :: ls) ((26, x) :: st) M Q := q_aload_n (show mj_ins 32 35 = some (.aload_n 0, 1) from rfl) rfl rfl
theorem w32_36 {x : Int} : wp X d 32 36 ls ((26, x) :: st) M Q ↔ x ≠ 0 ∧ wp X d 32 39 ls ((0, hh M x 5) :: st) M Q := q_getfield (show mj_ins 32 36 = some (.getfield 24, 3) from rfl) rfl rfl rfl
theorem w32_39 {v0 v1 v2 : mj_V} {x : Int} : wp X d 32 39 (v0 :: v1 :: v2 :: (0, x) :: ls) st M Q ↔ wp X d 32 40 (v0 :: v1 :: v2 :: (0, x) :: ls) ((0, x) :: st) M Q := q_iload_n (show mj_ins 32 39 = some (.iload_n 3, 1) from rfl) rfl
theorem w32_40 {x y : Int} : wp X d 32 40 ls ((0, y) :: (0, x) :: st) M Q ↔ wp X d 32 41 ls ((0, ji_add x y) :: st) M Q := q_iadd (show mj_ins 32 40 = some (.iadd, 1) from rfl)
theorem w32_41 {i x : Int} : wp X d 32 41 ls ((0, i) :: (3, x) :: st) M Q ↔ (x ≠ 0 ∧ 0 ≤ i ∧ i < hl M x) ∧ wp X d 32 42 ls ((0, hh M x i) :: st) M Q := q_iaload (show mj_ins 32 41 = some (.iaload, 1) from rfl)
theorem w32_42 : wp X d 32 42 ls st M Q ↔ wp X d 32 47 ls st M Q := q_goto (show mj_ins 32 42 = some (.goto 5, 3) from rfl) rfl
theorem w32_45 : wp X d 32 45 ls st M Q ↔ wp X d 32 47 ls ((0, 32) :: st) M Q := q_bipush (show mj_ins 32 45 = some (.bipush 32, 2) from rfl) (by decide)
theorem w32_47 {v0 v1 v2 w : mj_V} {x y : Int} : wp X d 32 47 (v0 :: v1 :: v2 :: (0, y) :: w :: ls) ((0, x) :: st) M Q ↔ wp X d 32 49 (v0 :: v1 :: v2 :: (0, y) :: (0, x) :: ls) st M Q := q_istore (show mj_ins 32 47 = some (.istore 4, 2) from rfl) (Nat.le_add_left 5 _) (mj_set_s (fun z hz => by cases hz; exact (show (0 : Nat) ≠ 1 by decide)))
theorem w32_49 : wp X d 32 49 ls st M Q ↔ wp X d 32 51 ls ((10, 0) :: st) M Q := q_ldcS (show mj_ins 32 49 = some (.ldc 121, 2) from rfl) rfl
theorem w32_51 {v0 : mj_V} {x : Int} : wp X d 32 51 (v0 :: (0, x) :: ls) st M Q ↔ wp X d 32 52 (v0 :: (0, x) :: ls) ((0, x) :: st) M Q := q_iload_n (show mj_ins 32 51 = some (.iload_n 1, 1) from rfl) rfl
theorem w32_52 : wp X d 32 52 ls st M Q ↔ wp X d 32 54 ls ((0, 6) :: st) M Q := q_bipush (show mj_ins 32 52 = some (.bipush 6, 2) from rfl) (by decide)
theorem w32_54 {x y : Int} : wp X d 32 54 ls ((0, y) :: (0, x) :: st) M Q ↔ wp X d 32 55 ls ((0, ji_mul x y) :: st) M Q := q_imul (show mj_ins 32 54 = some (.imul, 1) from rfl)
theorem w32_55 {v0 v1 v2 : mj_V} {x : Int} : wp X d 32 55 (v0 :: v1 :: v2 :: (0, x) :: ls) st M Q ↔ wp X d 32 56 (v0 :: v1 :: v2 :: (0, x) :: ls) ((0, x) :: st) M Q := q_iload_n (show mj_ins 32 55 = some (.iload_n 3, 1) from rfl) rfl
theorem w32_56 {x y : Int} : wp X d 32 56 ls ((0, y) :: (0, x) :: st) M Q ↔ wp X d 32 57 ls ((0, ji_add x y) :: st) M Q := q_iadd (show mj_ins 32 56 = some (.iadd, 1) from rfl)
theorem w32_57 {a0 a1 : Int} : wp X (d + 1) 32 57 ls ((0, a1) :: (10, a0) :: st) M Q ↔ (mj_cs st ≤ 8) ∧ wc X d 33 [(10, a0), (0, a1)] M (fun r M => wp X (d + 1) 32 60 ls (r.toList ++ st) M Q) := q_callT (show mj_ins 32 57 = some (.invokevirtual 123, 3) from rfl) rfl rfl rfl (Nat.le_of_ble_eq_true rfl)
theorem w32_60 {v0 v1 v2 v3 : mj_V} {x : Int} : wp X d 32 60 (v0 :: v1 :: v2 :: v3 :: (0, x) :: ls) st M Q ↔ wp X d 32 62 (v0 :: v1 :: v2 :: v3 :: (0, x) :: ls) ((0, x) :: st) M Q := q_iload (show mj_ins 32 60 = some (.iload 4, 2) from rfl) rfl
theorem w32_62 {x y : Int} : wp X d 32 62 ls ((0, y) :: (0, x) :: st) M Q ↔ if x = y then wp X d 32 67 ls st M Q else wp X d 32 65 ls st M Q := q_icmp_eq (show mj_ins 32 62 = some (.if_icmp .eq 5, 3) from rfl) rfl
theorem w32_65 : wp X d 32 65 ls st M Q ↔ wp X d 32 66 ls ((0, 0) :: st) M Q := q_iconst (show mj_ins 32 65 = some (.iconst 0, 1) from rfl) (by decide)
theorem w32_66_i {P : Prop} {hP : Decidable P} : wp X d 32 66 ls [(0, @ite Int P hP 1 0)] M Q ↔ Q (some (0, @ite Int P hP 1 0)) M := q_zreturn (show mj_ins 32 66 = some (.ireturn, 1) from rfl) rfl (by by_cases h : P <;> simp [h])
theorem w32_66_0 : wp X d 32 66 ls [(0, 0)] M Q ↔ Q (some (0, 0)) M := q_zreturn (show mj_ins 32 66 = some (.ireturn, 1) from rfl) rfl (by decide)
theorem w32_66_1 : wp X d 32 66 ls [(0, 1)] M Q ↔ Q (some (0, 1)) M := q_zreturn (show mj_ins 32 66 = some (.ireturn, 1) from rfl) rfl (by decide)
theorem w32_67 {v0 v1 : mj_V} {x y : Int} : wp X d 32 67 (v0 :: v1 :: (0, y) :: (0, x) :: ls) st M Q ↔ wp X d 32 70 (v0 :: v1 :: (0, y) :: (0, ji_add x 1) :: ls) st M Q := q_iinc (show mj_ins 32 67 = some (.iinc 3 1, 3) from rfl) rfl (mj_set_s (fun z hz => by cases hz; exact (show (0 : Nat) ≠ 1 by decide)))
theorem w32_70 : wp X d 32 70 ls st M Q ↔ wp X d 32 20 ls st M Q := q_goto (show mj_ins 32 70 = some (.goto (-50), 3) from rfl) rfl
theorem w32_73 : wp X d 32 73 ls st M Q ↔ wp X d 32 74 ls ((0, 1) :: st) M Q := q_iconst (show mj_ins 32 73 = some (.iconst 1, 1) from rfl) (by decide)
theorem w32_74_i {P : Prop} {hP : Decidable P} : wp X d 32 74 ls [(0, @ite Int P hP 1 0)] M Q ↔ Q (some (0, @ite Int P hP 1 0)) M := q_zreturn (show mj_ins 32 74 = some (.ireturn, 1) from rfl) rfl (by by_cases h : P <;> simp [h])
theorem w32_74_0 : wp X d 32 74 ls [(0, 0)] M Q ↔ Q (some (0, 0)) M := q_zreturn (show mj_ins 32 74 = some (.ireturn, 1) from rfl) rfl (by decide)
theorem w32_74_1 : wp X d 32 74 ls [(0, 1)] M Q ↔ Q (some (0, 1)) M := q_zreturn (show mj_ins 32 74 = some (.ireturn, 1) from rfl) rfl (by decide)
-- 38: PerfectFerried$Reader.isDigit(I)Z
theorem w38_0 {x : Int} : wp X d 38 0 ((0, x) :: ls) st M Q ↔ wp X d 38 1 ((0, x) :: ls) ((0, x) :: st) M Q := q_iload_n (show mj_ins 38 0 = some (.iload_n 0, 1) from rfl) rfl
theorem w38_1 : wp X d 38 1 ls st M Q ↔ wp X d 38 3 ls ((0, 48) :: st) M Q := q_bipush (show mj_ins 38 1 = some (.bipush 48, 2) from rfl) (by decide)
theorem w38_3 {x y : Int} : wp X d 38 3 ls ((0, y) :: (0, x) :: st) M Q ↔ if x < y then wp X d 38 16 ls st M Q else wp X d 38 6 ls st M Q := q_icmp_lt (show mj_ins 38 3 = some (.if_icmp .lt 13, 3) from rfl) rfl
theorem w38_6 {x : Int} : wp X d 38 6 ((0, x) :: ls) st M Q ↔ wp X d 38 7 ((0, x) :: ls) ((0, x) :: st) M Q := q_iload_n (show mj_ins 38 6 = some (.iload_n 0, 1) from rfl) rfl
theorem w38_7 : wp X d 38 7 ls st M Q ↔ wp X d 38 9 ls ((0, 57) :: st) M Q := q_bipush (show mj_ins 38 7 = some (.bipush 57, 2) from rfl) (by decide)
theorem w38_9 {x y : Int} : wp X d 38 9 ls ((0, y) :: (0, x) :: st) M Q ↔ if x ≤ y then wp X d 38 12 ls st M Q else wp X d 38 16 ls st M Q := q_icmp_gt (show mj_ins 38 9 = some (.if_icmp .gt 7, 3) from rfl) rfl
theorem w38_12 : wp X d 38 12 ls st M Q ↔ wp X d 38 13 ls ((0, 1) :: st) M Q := q_iconst (show mj_ins 38 12 = some (.iconst 1, 1) from rfl) (by decide)
theorem w38_13 : wp X d 38 13 ls st M Q ↔ wp X d 38 17 ls st M Q := q_goto (show mj_ins 38 13 = some (.goto 4, 3) from rfl) rfl
theorem w38_16 : wp X d 38 16 ls st M Q ↔ wp X d 38 17 ls ((0, 0) :: st) M Q := q_iconst (show mj_ins 38 16 = some (.iconst 0, 1) from rfl) (by decide)
theorem w38_17_i {P : Prop} {hP : Decidable P} : wp X d 38 17 ls [(0, @ite Int P hP 1 0)] M Q ↔ Q (some (0, @ite Int P hP 1 0)) M := q_zreturn (show mj_ins 38 17 = some (.ireturn, 1) from rfl) rfl (by by_cases h : P <;> simp [h])
theorem w38_17_0 : wp X d 38 17 ls [(0, 0)] M Q ↔ Q (some (0, 0)) M := q_zreturn (show mj_ins 38 17 = some (.ireturn, 1) from rfl) rfl (by decide)
theorem w38_17_1 : wp X d 38 17 ls [(0, 1)] M Q ↔ Q (some (0, 1)) M := q_zreturn (show mj_ins 38 17 = some (.ireturn, 1) from rfl) rfl (by decide)
-- 39: PerfectFerried$Reader.takeNumber()V
theorem w39_0 {x : Int} : wp X d 39 0 ((26, x) :: ls) st M Q ↔ wp X d 39 1 ((26, x) :: ls) ((26, x) :: st) M Q := q_aload_n (show mj_ins 39 0 = some (.aload_n 0, 1) from rfl) rfl rfl
theorem w39_1 : wp X d 39 1 ls st M Q ↔ wp X d 39 2 ls ((0, 0) :: st) M Q := q_iconst (show mj_ins 39 1 = some (.iconst 0, 1) from rfl) (by decide)
theorem w39_2 {x w : Int} : wp X d 39 2 ls ((0, w) :: (26, x) :: st) M Q ↔ x ≠ 0 ∧ wp X d 39 5 ls st (mj_wr M x 7 w) Q := q_putfield (show mj_ins 39 2 = some (.putfield 30, 3) from rfl) rfl rfl (Or.inl rfl) rfl
theorem w39_5 {x : Int} : wp X d 39 5 ((26, x) :: ls) st M Q ↔ wp X d 39 6 ((26, x) :: ls) ((26, x) :: st) M Q := q_aload_n (show mj_ins 39 5 = some (.aload_n 0, 1) from rfl) rfl rfl
theorem w39_6 {x : Int} : wp X d 39 6 ls ((26, x) :: st) M Q ↔ x ≠ 0 ∧ wp X d 39 9 ls ((0, hh M x 4) :: st) M Q := q_getfield (show mj_ins 39 6 = some (.getfield 21, 3) from rfl) rfl rfl rfl
theorem w39_9 {x : Int} : wp X d 39 9 ((26, x) :: ls) st M Q ↔ wp X d 39 10 ((26, x) :: ls) ((26, x) :: st) M Q := q_aload_n (show mj_ins 39 9 = some (.aload_n 0, 1) from rfl) rfl rfl
theorem w39_10 {x : Int} : wp X d 39 10 ls ((26, x) :: st) M Q ↔ x ≠ 0 ∧ wp X d 39 13 ls ((0, hh M x 3) :: st) M Q := q_getfield (show mj_ins 39 10 = some (.getfield 18, 3) from rfl) rfl rfl rfl
theorem w39_13 {x y : Int} : wp X d 39 13 ls ((0, y) :: (0, x) :: st) M Q ↔ if x < y then wp X d 39 16 ls st M Q else wp X d 39 74 ls st M Q := q_icmp_ge (show mj_ins 39 13 = some (.if_icmp .ge 61, 3) from rfl) rfl
theorem w39_16 {x : Int} : wp X d 39 16 ((26, x) :: ls) st M Q ↔ wp X d 39 17 ((26, x) :: ls) ((26, x) :: st) M Q := q_aload_n (show mj_ins 39 16 = some (.aload_n 0, 1) from rfl) rfl rfl
theorem w39_17 {x : Int} : wp X d 39 17 ls ((26, x) :: st) M Q ↔ x ≠ 0 ∧ wp X d 39 20 ls ((3, hh M x 2) :: st) M Q := q_getfield (show mj_ins 39 17 = some (.getfield 62, 3) from rfl) rfl rfl rfl
theorem w39_20 {x : Int} : wp X d 39 20 ((26, x) :: ls) st M Q ↔ wp X d 39 21 ((26, x) :: ls) ((26, x) :: st) M Q := q_aload_n (show mj_ins 39 20 = some (.aload_n 0, 1) from rfl) rfl rfl
theorem w39_21 {x : Int} : wp X d 39 21 ls ((26, x) :: st) M Q ↔ x ≠ 0 ∧ wp X d 39 24 ls ((0, hh M x 4) :: st) M Q := q_getfield (show mj_ins 39 21 = some (.getfield 21, 3) from rfl) rfl rfl rfl
theorem w39_24 {i x : Int} : wp X d 39 24 ls ((0, i) :: (3, x) :: st) M Q ↔ (x ≠ 0 ∧ 0 ≤ i ∧ i < hl M x) ∧ wp X d 39 25 ls ((0, hh M x i) :: st) M Q := q_iaload (show mj_ins 39 24 = some (.iaload, 1) from rfl)
theorem w39_25 {a0 : Int} : wp X (d + 1) 39 25 ls ((0, a0) :: st) M Q ↔ (mj_cs st ≤ 8) ∧ wc X d 38 [(0, a0)] M (fun r M => wp X (d + 1) 39 28 ls (r.toList ++ st) M Q) := q_callS (show mj_ins 39 25 = some (.invokestatic 109, 3) from rfl) rfl rfl rfl (Nat.le_of_ble_eq_true rfl)
theorem w39_28 {x : Int} : wp X d 39 28 ls ((0, x) :: st) M Q ↔ if x = 0 then wp X d 39 74 ls st M Q else wp X d 39 31 ls st M Q := q_if_eq (show mj_ins 39 28 = some (.ifCond .eq 46, 3) from rfl) rfl
theorem w39_31 {x : Int} : wp X d 39 31 ((26, x) :: ls) st M Q ↔ wp X d 39 32 ((26, x) :: ls) ((26, x) :: st) M Q := q_aload_n (show mj_ins 39 31 = some (.aload_n 0, 1) from rfl) rfl rfl
theorem w39_32 {x : Int} : wp X d 39 32 ((26, x) :: ls) st M Q ↔ wp X d 39 33 ((26, x) :: ls) ((26, x) :: st) M Q := q_aload_n (show mj_ins 39 32 = some (.aload_n 0, 1) from rfl) rfl rfl
theorem w39_33 {x : Int} : wp X d 39 33 ls ((26, x) :: st) M Q ↔ x ≠ 0 ∧ wp X d 39 36 ls ((0, hh M x 7) :: st) M Q := q_getfield (show mj_ins 39 33 = some (.getfield 30, 3) from rfl) rfl rfl rfl
theorem w39_36 : wp X d 39 36 ls st M Q ↔ wp X d 39 38 ls ((0, 10) :: st) M Q := q_bipush (show mj_ins 39 36 = some (.bipush 10, 2) from rfl) (by decide)
theorem w39_38 {x y : Int} : wp X d 39 38 ls ((0, y) :: (0, x) :: st) M Q ↔ wp X d 39 39 ls ((0, ji_mul x y) :: st) M Q := q_imul (show mj_ins 39 38 = some (.imul, 1) from rfl)
theorem w39_39 {x : Int} : wp X d 39 39 ((26, x) :: ls) st M Q ↔ wp X d 39 40 ((26, x) :: ls) ((26, x) :: st) M Q := q_aload_n (show mj_ins 39 39 = some (.aload_n 0, 1) from rfl) rfl rfl
theorem w39_40 {x : Int} : wp X d 39 40 ls ((26, x) :: st) M Q ↔ x ≠ 0 ∧ wp X d 39 43 ls ((3, hh M x 2) :: st) M Q := q_getfield (show mj_ins 39 40 = some (.getfield 62, 3) from rfl) rfl rfl rfl
theorem w39_43 {x : Int} : wp X d 39 43 ((26, x) :: ls) st M Q ↔ wp X d 39 44 ((26, x) :: ls) ((26, x) :: st) M Q := q_aload_n (show mj_ins 39 43 = some (.aload_n 0, 1) from rfl) rfl rfl
theorem w39_44 {x : Int} : wp X d 39 44 ls ((26, x) :: st) M Q ↔ x ≠ 0 ∧ wp X d 39 47 ls ((0, hh M x 4) :: st) M Q := q_getfield (show mj_ins 39 44 = some (.getfield 21, 3) from rfl) rfl rfl rfl
theorem w39_47 {i x : Int} : wp X d 39 47 ls ((0, i) :: (3, x) :: st) M Q ↔ (x ≠ 0 ∧ 0 ≤ i ∧ i < hl M x) ∧ wp X d 39 48 ls ((0, hh M x i) :: st) M Q := q_iaload (show mj_ins 39 47 = some (.iaload, 1) from rfl)
theorem w39_48 {x y : Int} : wp X d 39 48 ls ((0, y) :: (0, x) :: st) M Q ↔ wp X d 39 49 ls ((0, ji_add x y) :: st) M Q := q_iadd (show mj_ins 39 48 = some (.iadd, 1) from rfl)
theorem w39_49 : wp X d 39 49 ls st M Q ↔ wp X d 39 51 ls ((0, 48) :: st) M Q := q_bipush (show mj_ins 39 49 = some (.bipush 48, 2) from rfl) (by decide)
theorem w39_51 {x y : Int} : wp X d 39 51 ls ((0, y) :: (0, x) :: st) M Q ↔ wp X d 39 52 ls ((0, ji_sub x y) :: st) M Q := q_isub (show mj_ins 39 51 = some (.isub, 1) from rfl)
theorem w39_52 : wp X d 39 52 ls st M Q ↔ wp X d 39 55 ls ((0, 10000) :: st) M Q := q_sipush (show mj_ins 39 52 = some (.sipush 10000, 3) from rfl) (by decide)
theorem w39_55 {a0 a1 : Int} : wp X (d + 1) 39 55 ls ((0, a1) :: (0, a0) :: st) M Q ↔ (mj_cs st ≤ 8) ∧ wc X d 28 [(0, a0), (0, a1)] M (fun r M => wp X (d + 1) 39 58 ls (r.toList ++ st) M Q) := q_callS (show mj_ins 39 55 = some (.invokestatic 96, 3) from rfl) rfl rfl rfl (Nat.le_of_ble_eq_true rfl)
theorem w39_58 {x w : Int} : wp X d 39 58 ls ((0, w) :: (26, x) :: st) M Q ↔ x ≠ 0 ∧ wp X d 39 61 ls st (mj_wr M x 7 w) Q := q_putfield (show mj_ins 39 58 = some (.putfield 30, 3) from rfl) rfl rfl (Or.inl rfl) rfl
theorem w39_61 {x : Int} : wp X d 39 61 ((26, x) :: ls) st M Q ↔ wp X d 39 62 ((26, x) :: ls) ((26, x) :: st) M Q := q_aload_n (show mj_ins 39 61 = some (.aload_n 0, 1) from rfl) rfl rfl
theorem w39_62 {x : Int} : wp X d 39 62 ls ((26, x) :: st) M Q ↔ wp X d 39 63 ls ((26, x) :: (26, x) :: st) M Q := q_dup (show mj_ins 39 62 = some (.dup, 1) from rfl) (show ¬ ((26 : Nat) = 1 ∨ (26 : Nat) = 9) by decide)
theorem w39_63 {x : Int} : wp X d 39 63 ls ((26, x) :: st) M Q ↔ x ≠ 0 ∧ wp X d 39 66 ls ((0, hh M x 4) :: st) M Q := q_getfield (show mj_ins 39 63 = some (.getfield 21, 3) from rfl) rfl rfl rfl
theorem w39_66 : wp X d 39 66 ls st M Q ↔ wp X d 39 67 ls ((0, 1) :: st) M Q := q_iconst (show mj_ins 39 66 = some (.iconst 1, 1) from rfl) (by decide)
theorem w39_67 {x y : Int} : wp X d 39 67 ls ((0, y) :: (0, x) :: st) M Q ↔ wp X d 39 68 ls ((0, ji_add x y) :: st) M Q := q_iadd (show mj_ins 39 67 = some (.iadd, 1) from rfl)
theorem w39_68 {x w : Int} : wp X d 39 68 ls ((0, w) :: (26, x) :: st) M Q ↔ x ≠ 0 ∧ wp X d 39 71 ls st (mj_wr M x 4 w) Q := q_putfield (show mj_ins 39 68 = some (.putfield 21, 3) from rfl) rfl rfl (Or.inl rfl) rfl
theorem w39_71 : wp X d 39 71 ls st M Q ↔ wp X d 39 5 ls st M Q := q_goto (show mj_ins 39 71 = some (.goto (-66), 3) from rfl) rfl
theorem w39_74 {x : Int} : wp X d 39 74 ((26, x) :: ls) st M Q ↔ wp X d 39 75 ((26, x) :: ls) ((26, x) :: st) M Q := q_aload_n (show mj_ins 39 74 = some (.aload_n 0, 1) from rfl) rfl rfl
theorem w39_75 : wp X d 39 75 ls st M Q ↔ wp X d 39 77 ls ((0, 39) :: st) M Q := q_bipush (show mj_ins 39 75 = some (.bipush 39, 2) from rfl) (by decide)
theorem w39_77 {x w : Int} : wp X d 39 77 ls ((0, w) :: (26, x) :: st) M Q ↔ x ≠ 0 ∧ wp X d 39 80 ls st (mj_wr M x 6 w) Q := q_putfield (show mj_ins 39 77 = some (.putfield 27, 3) from rfl) rfl rfl (Or.inl rfl) rfl
theorem w39_80 : wp X d 39 80 ls [] M Q ↔ Q none M := q_return (show mj_ins 39 80 = some (.return_, 1) from rfl) rfl
-- 40: PerfectFerried$Reader.takeSign()V
theorem w40_0 : wp X d 40 0 ls st M Q ↔ wp X d 40 2 ls ((10, 1) :: st) M Q := q_ldcS (show mj_ins 40 0 = some (.ldc 129, 2) from rfl) rfl
theorem w40_2 {x : Int} : wp X d 40 2 ((26, x) :: ls) st M Q ↔ wp X d 40 3 ((26, x) :: ls) ((26, x) :: st) M Q := q_aload_n (show mj_ins 40 2 = some (.aload_n 0, 1) from rfl) rfl rfl
theorem w40_3 {x : Int} : wp X d 40 3 ls ((26, x) :: st) M Q ↔ x ≠ 0 ∧ wp X d 40 6 ls ((3, hh M x 2) :: st) M Q := q_getfield (show mj_ins 40 3 = some (.getfield 62, 3) from rfl) rfl rfl rfl
theorem w40_6 {x : Int} : wp X d 40 6 ((26, x) :: ls) st M Q ↔ wp X d 40 7 ((26, x) :: ls) ((26, x) :: st) M Q := q_aload_n (show mj_ins 40 6 = some (.aload_n 0, 1) from rfl) rfl rfl
theorem w40_7 {x : Int} : wp X d 40 7 ls ((26, x) :: st) M Q ↔ x ≠ 0 ∧ wp X d 40 10 ls ((0, hh M x 4) :: st) M Q := q_getfield (show mj_ins 40 7 = some (.getfield 21, 3) from rfl) rfl rfl rfl
theorem w40_10 {i x : Int} : wp X d 40 10 ls ((0, i) :: (3, x) :: st) M Q ↔ (x ≠ 0 ∧ 0 ≤ i ∧ i < hl M x) ∧ wp X d 40 11 ls ((0, hh M x i) :: st) M Q := q_iaload (show mj_ins 40 10 = some (.iaload, 1) from rfl)
theorem w40_11 {x : Int} : wp X d 40 11 ls ((0, x) :: st) M Q ↔ wp X d 40 12 ls ((0, ji_2c x) :: st) M Q := q_i2c (show mj_ins 40 11 = some (.i2c, 1) from rfl)
theorem w40_12 {a0 a1 : Int} : wp X (d + 1) 40 12 ls ((0, a1) :: (10, a0) :: st) M Q ↔ (mj_cs st ≤ 8) ∧ wc X d 41 [(10, a0), (0, a1)] M (fun r M => wp X (d + 1) 40 15 ls (r.toList ++ st) M Q) := q_callT (show mj_ins 40 12 = some (.invokevirtual 131, 3) from rfl) rfl rfl rfl (Nat.le_of_ble_eq_true rfl)
theorem w40_15 {w : mj_V} {x y : Int} : wp X d 40 15 ((26, y) :: w :: ls) ((0, x) :: st) M Q ↔ wp X d 40 16 ((26, y) :: (0, x) :: ls) st M Q := q_istore_n (show mj_ins 40 15 = some (.istore_n 1, 1) from rfl) (Nat.le_add_left 2 _) (mj_set_s (fun z hz => by cases hz; exact (show (26 : Nat) ≠ 1 by decide)))
theorem w40_16 {x : Int} : wp X d 40 16 ((26, x) :: ls) st M Q ↔ wp X d 40 17 ((26, x) :: ls) ((26, x) :: st) M Q := q_aload_n (show mj_ins 40 16 = some (.aload_n 0, 1) from rfl) rfl rfl
theorem w40_17 {v0 : mj_V} {x : Int} : wp X d 40 17 (v0 :: (0, x) :: ls) st M Q ↔ wp X d 40 18 (v0 :: (0, x) :: ls) ((0, x) :: st) M Q := q_iload_n (show mj_ins 40 17 = some (.iload_n 1, 1) from rfl) rfl
theorem w40_18 {x : Int} : wp X d 40 18 ls ((0, x) :: st) M Q ↔ if x < 0 then wp X d 40 21 ls st M Q else wp X d 40 26 ls st M Q := q_if_ge (show mj_ins 40 18 = some (.ifCond .ge 8, 3) from rfl) rfl
theorem w40_21 : wp X d 40 21 ls st M Q ↔ wp X d 40 23 ls ((0, 41) :: st) M Q := q_bipush (show mj_ins 40 21 = some (.bipush 41, 2) from rfl) (by decide)
theorem w40_23 : wp X d 40 23 ls st M Q ↔ wp X d 40 30 ls st M Q := q_goto (show mj_ins 40 23 = some (.goto 7, 3) from rfl) rfl
theorem w40_26 : wp X d 40 26 ls st M Q ↔ wp X d 40 28 ls ((0, 26) :: st) M Q := q_bipush (show mj_ins 40 26 = some (.bipush 26, 2) from rfl) (by decide)
theorem w40_28 {v0 : mj_V} {x : Int} : wp X d 40 28 (v0 :: (0, x) :: ls) st M Q ↔ wp X d 40 29 (v0 :: (0, x) :: ls) ((0, x) :: st) M Q := q_iload_n (show mj_ins 40 28 = some (.iload_n 1, 1) from rfl) rfl
theorem w40_29 {x y : Int} : wp X d 40 29 ls ((0, y) :: (0, x) :: st) M Q ↔ wp X d 40 30 ls ((0, ji_add x y) :: st) M Q := q_iadd (show mj_ins 40 29 = some (.iadd, 1) from rfl)
theorem w40_30 {x w : Int} : wp X d 40 30 ls ((0, w) :: (26, x) :: st) M Q ↔ x ≠ 0 ∧ wp X d 40 33 ls st (mj_wr M x 6 w) Q := q_putfield (show mj_ins 40 30 = some (.putfield 27, 3) from rfl) rfl rfl (Or.inl rfl) rfl
theorem w40_33 {x : Int} : wp X d 40 33 ((26, x) :: ls) st M Q ↔ wp X d 40 34 ((26, x) :: ls) ((26, x) :: st) M Q := q_aload_n (show mj_ins 40 33 = some (.aload_n 0, 1) from rfl) rfl rfl
theorem w40_34 {x : Int} : wp X d 40 34 ls ((26, x) :: st) M Q ↔ wp X d 40 35 ls ((26, x) :: (26, x) :: st) M Q := q_dup (show mj_ins 40 34 = some (.dup, 1) from rfl) (show ¬ ((26 : Nat) = 1 ∨ (26 : Nat) = 9) by decide)
theorem w40_35 {x : Int} : wp X d 40 35 ls ((26, x) :: st) M Q ↔ x ≠ 0 ∧ wp X d 40 38 ls ((0, hh M x 4) :: st) M Q := q_getfield (show mj_ins 40 35 = some (.getfield 21, 3) from rfl) rfl rfl rfl
theorem w40_38 : wp X d 40 38 ls st M Q ↔ wp X d 40 39 ls ((0, 1) :: st) M Q := q_iconst (show mj_ins 40 38 = some (.iconst 1, 1) from rfl) (by decide)
theorem w40_39 {x y : Int} : wp X d 40 39 ls ((0, y) :: (0, x) :: st) M Q ↔ wp X d 40 40 ls ((0, ji_add x y) :: st) M Q := q_iadd (show mj_ins 40 39 = some (.iadd, 1) from rfl)
theorem w40_40 {x w : Int} : wp X d 40 40 ls ((0, w) :: (26, x) :: st) M Q ↔ x ≠ 0 ∧ wp X d 40 43 ls st (mj_wr M x 4 w) Q := q_putfield (show mj_ins 40 40 = some (.putfield 21, 3) from rfl) rfl rfl (Or.inl rfl) rfl
theorem w40_43 {x : Int} : wp X d 40 43 ((26, x) :: ls) st M Q ↔ wp X d 40 44 ((26, x) :: ls) ((26, x) :: st) M Q := q_aload_n (show mj_ins 40 43 = some (.aload_n 0, 1) from rfl) rfl rfl
theorem w40_44 {x : Int} : wp X d 40 44 ls ((26, x) :: st) M Q ↔ x ≠ 0 ∧ wp X d 40 47 ls ((0, hh M x 6) :: st) M Q := q_getfield (show mj_ins 40 44 = some (.getfield 27, 3) from rfl) rfl rfl rfl
theorem w40_47 : wp X d 40 47 ls st M Q ↔ wp X d 40 49 ls ((0, 26) :: st) M Q := q_bipush (show mj_ins 40 47 = some (.bipush 26, 2) from rfl) (by decide)
theorem w40_49 {x y : Int} : wp X d 40 49 ls ((0, y) :: (0, x) :: st) M Q ↔ if x = y then wp X d 40 61 ls st M Q else wp X d 40 52 ls st M Q := q_icmp_eq (show mj_ins 40 49 = some (.if_icmp .eq 12, 3) from rfl) rfl
theorem w40_52 {x : Int} : wp X d 40 52 ((26, x) :: ls) st M Q ↔ wp X d 40 53 ((26, x) :: ls) ((26, x) :: st) M Q := q_aload_n (show mj_ins 40 52 = some (.aload_n 0, 1) from rfl) rfl rfl
theorem w40_53 {x : Int} : wp X d 40 53 ls ((26, x) :: st) M Q ↔ x ≠ 0 ∧ wp X d 40 56 ls ((0, hh M x 6) :: st) M Q := q_getfield (show mj_ins 40 53 = some (.getfield 27, 3) from rfl) rfl rfl rfl
theorem w40_56 : wp X d 40 56 ls st M Q ↔ wp X d 40 58 ls ((0, 27) :: st) M Q := q_bipush (show mj_ins 40 56 = some (.bipush 27, 2) from rfl) (by decide)
theorem w40_58 {x y : Int} : wp X d 40 58 ls ((0, y) :: (0, x) :: st) M Q ↔ if x = y then wp X d 40 61 ls st M Q else wp X d 40 116 ls st M Q := q_icmp_ne (show mj_ins 40 58 = some (.if_icmp .ne 58, 3) from rfl) rfl
theorem w40_61 {x : Int} : wp X d 40 61 ((26, x) :: ls) st M Q ↔ wp X d 40 62 ((26, x) :: ls) ((26, x) :: st) M Q := q_aload_n (show mj_ins 40 61 = some (.aload_n 0, 1) from rfl) rfl rfl
theorem w40_62 {x : Int} : wp X d 40 62 ls ((26, x) :: st) M Q ↔ x ≠ 0 ∧ wp X d 40 65 ls ((0, hh M x 4) :: st) M Q := q_getfield (show mj_ins 40 62 = some (.getfield 21, 3) from rfl) rfl rfl rfl
theorem w40_65 {x : Int} : wp X d 40 65 ((26, x) :: ls) st M Q ↔ wp X d 40 66 ((26, x) :: ls) ((26, x) :: st) M Q := q_aload_n (show mj_ins 40 65 = some (.aload_n 0, 1) from rfl) rfl rfl
theorem w40_66 {x : Int} : wp X d 40 66 ls ((26, x) :: st) M Q ↔ x ≠ 0 ∧ wp X d 40 69 ls ((0, hh M x 3) :: st) M Q := q_getfield (show mj_ins 40 66 = some (.getfield 18, 3) from rfl) rfl rfl rfl
theorem w40_69 {x y : Int} : wp X d 40 69 ls ((0, y) :: (0, x) :: st) M Q ↔ if x < y then wp X d 40 72 ls st M Q else wp X d 40 116 ls st M Q := q_icmp_ge (show mj_ins 40 69 = some (.if_icmp .ge 47, 3) from rfl) rfl
theorem w40_72 {x : Int} : wp X d 40 72 ((26, x) :: ls) st M Q ↔ wp X d 40 73 ((26, x) :: ls) ((26, x) :: st) M Q := q_aload_n (show mj_ins 40 72 = some (.aload_n 0, 1) from rfl) rfl rfl
theorem w40_73 {x : Int} : wp X d 40 73 ls ((26, x) :: st) M Q ↔ x ≠ 0 ∧ wp X d 40 76 ls ((3, hh M x 2) :: st) M Q := q_getfield (show mj_ins 40 73 = some (.getfield 62, 3) from rfl) rfl rfl rfl
theorem w40_76 {x : Int} : wp X d 40 76 ((26, x) :: ls) st M Q ↔ wp X d 40 77 ((26, x) :: ls) ((26, x) :: st) M Q := q_aload_n (show mj_ins 40 76 = some (.aload_n 0, 1) from rfl) rfl rfl
theorem w40_77 {x : Int} : wp X d 40 77 ls ((26, x) :: st) M Q ↔ x ≠ 0 ∧ wp X d 40 80 ls ((0, hh M x 4) :: st) M Q := q_getfield (show mj_ins 40 77 = some (.getfield 21, 3) from rfl) rfl rfl rfl
theorem w40_80 {i x : Int} : wp X d 40 80 ls ((0, i) :: (3, x) :: st) M Q ↔ (x ≠ 0 ∧ 0 ≤ i ∧ i < hl M x) ∧ wp X d 40 81 ls ((0, hh M x i) :: st) M Q := q_iaload (show mj_ins 40 80 = some (.iaload, 1) from rfl)
theorem w40_81 : wp X d 40 81 ls st M Q ↔ wp X d 40 83 ls ((0, 61) :: st) M Q := q_bipush (show mj_ins 40 81 = some (.bipush 61, 2) from rfl) (by decide)
theorem w40_83 {x y : Int} : wp X d 40 83 ls ((0, y) :: (0, x) :: st) M Q ↔ if x = y then wp X d 40 86 ls st M Q else wp X d 40 116 ls st M Q := q_icmp_ne (show mj_ins 40 83 = some (.if_icmp .ne 33, 3) from rfl) rfl
theorem w40_86 {x : Int} : wp X d 40 86 ((26, x) :: ls) st M Q ↔ wp X d 40 87 ((26, x) :: ls) ((26, x) :: st) M Q := q_aload_n (show mj_ins 40 86 = some (.aload_n 0, 1) from rfl) rfl rfl
theorem w40_87 {x : Int} : wp X d 40 87 ((26, x) :: ls) st M Q ↔ wp X d 40 88 ((26, x) :: ls) ((26, x) :: st) M Q := q_aload_n (show mj_ins 40 87 = some (.aload_n 0, 1) from rfl) rfl rfl
theorem w40_88 {x : Int} : wp X d 40 88 ls ((26, x) :: st) M Q ↔ x ≠ 0 ∧ wp X d 40 91 ls ((0, hh M x 6) :: st) M Q := q_getfield (show mj_ins 40 88 = some (.getfield 27, 3) from rfl) rfl rfl rfl
theorem w40_91 : wp X d 40 91 ls st M Q ↔ wp X d 40 93 ls ((0, 26) :: st) M Q := q_bipush (show mj_ins 40 91 = some (.bipush 26, 2) from rfl) (by decide)
theorem w40_93 {x y : Int} : wp X d 40 93 ls ((0, y) :: (0, x) :: st) M Q ↔ if x = y then wp X d 40 96 ls st M Q else wp X d 40 101 ls st M Q := q_icmp_ne (show mj_ins 40 93 = some (.if_icmp .ne 8, 3) from rfl) rfl
theorem w40_96 : wp X d 40 96 ls st M Q ↔ wp X d 40 98 ls ((0, 37) :: st) M Q := q_bipush (show mj_ins 40 96 = some (.bipush 37, 2) from rfl) (by decide)
theorem w40_98 : wp X d 40 98 ls st M Q ↔ wp X d 40 103 ls st M Q := q_goto (show mj_ins 40 98 = some (.goto 5, 3) from rfl) rfl
theorem w40_101 : wp X d 40 101 ls st M Q ↔ wp X d 40 103 ls ((0, 38) :: st) M Q := q_bipush (show mj_ins 40 101 = some (.bipush 38, 2) from rfl) (by decide)
theorem w40_103 {x w : Int} : wp X d 40 103 ls ((0, w) :: (26, x) :: st) M Q ↔ x ≠ 0 ∧ wp X d 40 106 ls st (mj_wr M x 6 w) Q := q_putfield (show mj_ins 40 103 = some (.putfield 27, 3) from rfl) rfl rfl (Or.inl rfl) rfl
theorem w40_106 {x : Int} : wp X d 40 106 ((26, x) :: ls) st M Q ↔ wp X d 40 107 ((26, x) :: ls) ((26, x) :: st) M Q := q_aload_n (show mj_ins 40 106 = some (.aload_n 0, 1) from rfl) rfl rfl
theorem w40_107 {x : Int} : wp X d 40 107 ls ((26, x) :: st) M Q ↔ wp X d 40 108 ls ((26, x) :: (26, x) :: st) M Q := q_dup (show mj_ins 40 107 = some (.dup, 1) from rfl) (show ¬ ((26 : Nat) = 1 ∨ (26 : Nat) = 9) by decide)
theorem w40_108 {x : Int} : wp X d 40 108 ls ((26, x) :: st) M Q ↔ x ≠ 0 ∧ wp X d 40 111 ls ((0, hh M x 4) :: st) M Q := q_getfield (show mj_ins 40 108 = some (.getfield 21, 3) from rfl) rfl rfl rfl
theorem w40_111 : wp X d 40 111 ls st M Q ↔ wp X d 40 112 ls ((0, 1) :: st) M Q := q_iconst (show mj_ins 40 111 = some (.iconst 1, 1) from rfl) (by decide)
theorem w40_112 {x y : Int} : wp X d 40 112 ls ((0, y) :: (0, x) :: st) M Q ↔ wp X d 40 113 ls ((0, ji_add x y) :: st) M Q := q_iadd (show mj_ins 40 112 = some (.iadd, 1) from rfl)
theorem w40_113 {x w : Int} : wp X d 40 113 ls ((0, w) :: (26, x) :: st) M Q ↔ x ≠ 0 ∧ wp X d 40 116 ls st (mj_wr M x 4 w) Q := q_putfield (show mj_ins 40 113 = some (.putfield 21, 3) from rfl) rfl rfl (Or.inl rfl) rfl
theorem w40_116 : wp X d 40 116 ls [] M Q ↔ Q none M := q_return (show mj_ins 40 116 = some (.return_, 1) from rfl) rfl
-- 49: PerfectFerried$Reader.wrongBeginning(I)I
theorem w49_0 {v0 : mj_V} {x : Int} : wp X d 49 0 (v0 :: (0, x) :: ls) st M Q ↔ wp X d 49 1 (v0 :: (0, x) :: ls) ((0, x) :: st) M Q := q_iload_n (show mj_ins 49 0 = some (.iload_n 1, 1) from rfl) rfl
theorem w49_1 {x : Int} : wp X d 49 1 ls ((0, x) :: st) M Q ↔ if x = 0 then wp X d 49 18 ls st M Q else wp X d 49 4 ls st M Q := q_if_eq (show mj_ins 49 1 = some (.ifCond .eq 17, 3) from rfl) rfl
theorem w49_4 {v0 : mj_V} {x : Int} : wp X d 49 4 (v0 :: (0, x) :: ls) st M Q ↔ wp X d 49 5 (v0 :: (0, x) :: ls) ((0, x) :: st) M Q := q_iload_n (show mj_ins 49 4 = some (.iload_n 1, 1) from rfl) rfl
theorem w49_5 : wp X d 49 5 ls st M Q ↔ wp X d 49 6 ls ((0, 1) :: st) M Q := q_iconst (show mj_ins 49 5 = some (.iconst 1, 1) from rfl) (by decide)
theorem w49_6 {x y : Int} : wp X d 49 6 ls ((0, y) :: (0, x) :: st) M Q ↔ if x = y then wp X d 49 18 ls st M Q else wp X d 49 9 ls st M Q := q_icmp_eq (show mj_ins 49 6 = some (.if_icmp .eq 12, 3) from rfl) rfl
theorem w49_9 {v0 : mj_V} {x : Int} : wp X d 49 9 (v0 :: (0, x) :: ls) st M Q ↔ wp X d 49 10 (v0 :: (0, x) :: ls) ((0, x) :: st) M Q := q_iload_n (show mj_ins 49 9 = some (.iload_n 1, 1) from rfl) rfl
theorem w49_10 {a0 : Int} : wp X (d + 1) 49 10 ls ((0, a0) :: st) M Q ↔ (mj_cs st ≤ 8) ∧ wc X d 50 [(0, a0)] M (fun r M => wp X (d + 1) 49 13 ls (r.toList ++ st) M Q) := q_callS (show mj_ins 49 10 = some (.invokestatic 134, 3) from rfl) rfl rfl rfl (Nat.le_of_ble_eq_true rfl)
theorem w49_13 {x : Int} : wp X d 49 13 ls ((0, x) :: st) M Q ↔ if x = 0 then wp X d 49 16 ls st M Q else wp X d 49 18 ls st M Q := q_if_ne (show mj_ins 49 13 = some (.ifCond .ne 5, 3) from rfl) rfl
theorem w49_16 : wp X d 49 16 ls st M Q ↔ wp X d 49 17 ls ((0, 1) :: st) M Q := q_iconst (show mj_ins 49 16 = some (.iconst 1, 1) from rfl) (by decide)
theorem w49_17 {x : Int} : wp X d 49 17 ls [(0, x)] M Q ↔ Q (some (0, x)) M := q_ireturn (show mj_ins 49 17 = some (.ireturn, 1) from rfl) rfl
theorem w49_18 {v0 : mj_V} {x : Int} : wp X d 49 18 (v0 :: (0, x) :: ls) st M Q ↔ wp X d 49 19 (v0 :: (0, x) :: ls) ((0, x) :: st) M Q := q_iload_n (show mj_ins 49 18 = some (.iload_n 1, 1) from rfl) rfl
theorem w49_19 {x : Int} : wp X d 49 19 ls ((0, x) :: st) M Q ↔ if x = 0 then wp X d 49 22 ls st M Q else wp X d 49 30 ls st M Q := q_if_ne (show mj_ins 49 19 = some (.ifCond .ne 11, 3) from rfl) rfl
theorem w49_22 {x : Int} : wp X d 49 22 ((26, x) :: ls) st M Q ↔ wp X d 49 23 ((26, x) :: ls) ((26, x) :: st) M Q := q_aload_n (show mj_ins 49 22 = some (.aload_n 0, 1) from rfl) rfl rfl
theorem w49_23 {x : Int} : wp X d 49 23 ls ((26, x) :: st) M Q ↔ x ≠ 0 ∧ wp X d 49 26 ls ((0, hh M x 13) :: st) M Q := q_getfield (show mj_ins 49 23 = some (.getfield 50, 3) from rfl) rfl rfl rfl
theorem w49_26 : wp X d 49 26 ls st M Q ↔ wp X d 49 27 ls ((0, (-1)) :: st) M Q := q_iconst (show mj_ins 49 26 = some (.iconst (-1), 1) from rfl) (by decide)
theorem w49_27 {x y : Int} : wp X d 49 27 ls ((0, y) :: (0, x) :: st) M Q ↔ if x = y then wp X d 49 30 ls st M Q else wp X d 49 43 ls st M Q := q_icmp_ne (show mj_ins 49 27 = some (.if_icmp .ne 16, 3) from rfl) rfl
theorem w49_30 {v0 : mj_V} {x : Int} : wp X d 49 30 (v0 :: (0, x) :: ls) st M Q ↔ wp X d 49 31 (v0 :: (0, x) :: ls) ((0, x) :: st) M Q := q_iload_n (show mj_ins 49 30 = some (.iload_n 1, 1) from rfl) rfl
theorem w49_31 : wp X d 49 31 ls st M Q ↔ wp X d 49 32 ls ((0, 1) :: st) M Q := q_iconst (show mj_ins 49 31 = some (.iconst 1, 1) from rfl) (by decide)
theorem w49_32 {x y : Int} : wp X d 49 32 ls ((0, y) :: (0, x) :: st) M Q ↔ if x = y then wp X d 49 35 ls st M Q else wp X d 49 45 ls st M Q := q_icmp_ne (show mj_ins 49 32 = some (.if_icmp .ne 13, 3) from rfl) rfl
theorem w49_35 {x : Int} : wp X d 49 35 ((26, x) :: ls) st M Q ↔ wp X d 49 36 ((26, x) :: ls) ((26, x) :: st) M Q := q_aload_n (show mj_ins 49 35 = some (.aload_n 0, 1) from rfl) rfl rfl
theorem w49_36 {x : Int} : wp X d 49 36 ls ((26, x) :: st) M Q ↔ x ≠ 0 ∧ wp X d 49 39 ls ((0, hh M x 15) :: st) M Q := q_getfield (show mj_ins 49 36 = some (.getfield 56, 3) from rfl) rfl rfl rfl
theorem w49_39 : wp X d 49 39 ls st M Q ↔ wp X d 49 40 ls ((0, (-1)) :: st) M Q := q_iconst (show mj_ins 49 39 = some (.iconst (-1), 1) from rfl) (by decide)
theorem w49_40 {x y : Int} : wp X d 49 40 ls ((0, y) :: (0, x) :: st) M Q ↔ if x = y then wp X d 49 45 ls st M Q else wp X d 49 43 ls st M Q := q_icmp_eq (show mj_ins 49 40 = some (.if_icmp .eq 5, 3) from rfl) rfl
theorem w49_43 : wp X d 49 43 ls st M Q ↔ wp X d 49 44 ls ((0, 4) :: st) M Q := q_iconst (show mj_ins 49 43 = some (.iconst 4, 1) from rfl) (by decide)
theorem w49_44 {x : Int} : wp X d 49 44 ls [(0, x)] M Q ↔ Q (some (0, x)) M := q_ireturn (show mj_ins 49 44 = some (.ireturn, 1) from rfl) rfl
theorem w49_45 {x : Int} : wp X d 49 45 ((26, x) :: ls) st M Q ↔ wp X d 49 46 ((26, x) :: ls) ((26, x) :: st) M Q := q_aload_n (show mj_ins 49 45 = some (.aload_n 0, 1) from rfl) rfl rfl
theorem w49_46 {x : Int} : wp X d 49 46 ls ((26, x) :: st) M Q ↔ x ≠ 0 ∧ wp X d 49 49 ls ((0, hh M x 9) :: st) M Q := q_getfield (show mj_ins 49 46 = some (.getfield 37, 3) from rfl) rfl rfl rfl
theorem w49_49 : wp X d 49 49 ls st M Q ↔ wp X d 49 51 ls ((0, 24) :: st) M Q := q_bipush (show mj_ins 49 49 = some (.bipush 24, 2) from rfl) (by decide)
theorem w49_51 {x y : Int} : wp X d 49 51 ls ((0, y) :: (0, x) :: st) M Q ↔ if x < y then wp X d 49 59 ls st M Q else wp X d 49 54 ls st M Q := q_icmp_lt (show mj_ins 49 51 = some (.if_icmp .lt 8, 3) from rfl) rfl
theorem w49_54 : wp X d 49 54 ls st M Q ↔ wp X d 49 56 ls ((0, 6) :: st) M Q := q_bipush (show mj_ins 49 54 = some (.bipush 6, 2) from rfl) (by decide)
theorem w49_56 : wp X d 49 56 ls st M Q ↔ wp X d 49 60 ls st M Q := q_goto (show mj_ins 49 56 = some (.goto 4, 3) from rfl) rfl
theorem w49_59 : wp X d 49 59 ls st M Q ↔ wp X d 49 60 ls ((0, 0) :: st) M Q := q_iconst (show mj_ins 49 59 = some (.iconst 0, 1) from rfl) (by decide)
theorem w49_60 {x : Int} : wp X d 49 60 ls [(0, x)] M Q ↔ Q (some (0, x)) M := q_ireturn (show mj_ins 49 60 = some (.ireturn, 1) from rfl) rfl
-- 50: PerfectFerried$Reader.isDeed(I)Z
theorem w50_0 {x : Int} : wp X d 50 0 ((0, x) :: ls) st M Q ↔ wp X d 50 1 ((0, x) :: ls) ((0, x) :: st) M Q := q_iload_n (show mj_ins 50 0 = some (.iload_n 0, 1) from rfl) rfl
theorem w50_1 : wp X d 50 1 ls st M Q ↔ wp X d 50 2 ls ((0, 2) :: st) M Q := q_iconst (show mj_ins 50 1 = some (.iconst 2, 1) from rfl) (by decide)
theorem w50_2 {x y : Int} : wp X d 50 2 ls ((0, y) :: (0, x) :: st) M Q ↔ if x = y then wp X d 50 40 ls st M Q else wp X d 50 5 ls st M Q := q_icmp_eq (show mj_ins 50 2 = some (.if_icmp .eq 38, 3) from rfl) rfl
theorem w50_5 {x : Int} : wp X d 50 5 ((0, x) :: ls) st M Q ↔ wp X d 50 6 ((0, x) :: ls) ((0, x) :: st) M Q := q_iload_n (show mj_ins 50 5 = some (.iload_n 0, 1) from rfl) rfl
theorem w50_6 : wp X d 50 6 ls st M Q ↔ wp X d 50 7 ls ((0, 4) :: st) M Q := q_iconst (show mj_ins 50 6 = some (.iconst 4, 1) from rfl) (by decide)
theorem w50_7 {x y : Int} : wp X d 50 7 ls ((0, y) :: (0, x) :: st) M Q ↔ if x = y then wp X d 50 40 ls st M Q else wp X d 50 10 ls st M Q := q_icmp_eq (show mj_ins 50 7 = some (.if_icmp .eq 33, 3) from rfl) rfl
theorem w50_10 {x : Int} : wp X d 50 10 ((0, x) :: ls) st M Q ↔ wp X d 50 11 ((0, x) :: ls) ((0, x) :: st) M Q := q_iload_n (show mj_ins 50 10 = some (.iload_n 0, 1) from rfl) rfl
theorem w50_11 : wp X d 50 11 ls st M Q ↔ wp X d 50 13 ls ((0, 6) :: st) M Q := q_bipush (show mj_ins 50 11 = some (.bipush 6, 2) from rfl) (by decide)
theorem w50_13 {x y : Int} : wp X d 50 13 ls ((0, y) :: (0, x) :: st) M Q ↔ if x = y then wp X d 50 40 ls st M Q else wp X d 50 16 ls st M Q := q_icmp_eq (show mj_ins 50 13 = some (.if_icmp .eq 27, 3) from rfl) rfl
theorem w50_16 {x : Int} : wp X d 50 16 ((0, x) :: ls) st M Q ↔ wp X d 50 17 ((0, x) :: ls) ((0, x) :: st) M Q := q_iload_n (show mj_ins 50 16 = some (.iload_n 0, 1) from rfl) rfl
theorem w50_17 : wp X d 50 17 ls st M Q ↔ wp X d 50 19 ls ((0, 7) :: st) M Q := q_bipush (show mj_ins 50 17 = some (.bipush 7, 2) from rfl) (by decide)
theorem w50_19 {x y : Int} : wp X d 50 19 ls ((0, y) :: (0, x) :: st) M Q ↔ if x = y then wp X d 50 40 ls st M Q else wp X d 50 22 ls st M Q := q_icmp_eq (show mj_ins 50 19 = some (.if_icmp .eq 21, 3) from rfl) rfl
theorem w50_22 {x : Int} : wp X d 50 22 ((0, x) :: ls) st M Q ↔ wp X d 50 23 ((0, x) :: ls) ((0, x) :: st) M Q := q_iload_n (show mj_ins 50 22 = some (.iload_n 0, 1) from rfl) rfl
theorem w50_23 : wp X d 50 23 ls st M Q ↔ wp X d 50 25 ls ((0, 10) :: st) M Q := q_bipush (show mj_ins 50 23 = some (.bipush 10, 2) from rfl) (by decide)
theorem w50_25 {x y : Int} : wp X d 50 25 ls ((0, y) :: (0, x) :: st) M Q ↔ if x = y then wp X d 50 40 ls st M Q else wp X d 50 28 ls st M Q := q_icmp_eq (show mj_ins 50 25 = some (.if_icmp .eq 15, 3) from rfl) rfl
theorem w50_28 {x : Int} : wp X d 50 28 ((0, x) :: ls) st M Q ↔ wp X d 50 29 ((0, x) :: ls) ((0, x) :: st) M Q := q_iload_n (show mj_ins 50 28 = some (.iload_n 0, 1) from rfl) rfl
theorem w50_29 : wp X d 50 29 ls st M Q ↔ wp X d 50 31 ls ((0, 11) :: st) M Q := q_bipush (show mj_ins 50 29 = some (.bipush 11, 2) from rfl) (by decide)
theorem w50_31 {x y : Int} : wp X d 50 31 ls ((0, y) :: (0, x) :: st) M Q ↔ if x = y then wp X d 50 40 ls st M Q else wp X d 50 34 ls st M Q := q_icmp_eq (show mj_ins 50 31 = some (.if_icmp .eq 9, 3) from rfl) rfl
theorem w50_34 {x : Int} : wp X d 50 34 ((0, x) :: ls) st M Q ↔ wp X d 50 35 ((0, x) :: ls) ((0, x) :: st) M Q := q_iload_n (show mj_ins 50 34 = some (.iload_n 0, 1) from rfl) rfl
theorem w50_35 : wp X d 50 35 ls st M Q ↔ wp X d 50 37 ls ((0, 12) :: st) M Q := q_bipush (show mj_ins 50 35 = some (.bipush 12, 2) from rfl) (by decide)
theorem w50_37 {x y : Int} : wp X d 50 37 ls ((0, y) :: (0, x) :: st) M Q ↔ if x = y then wp X d 50 40 ls st M Q else wp X d 50 44 ls st M Q := q_icmp_ne (show mj_ins 50 37 = some (.if_icmp .ne 7, 3) from rfl) rfl
theorem w50_40 : wp X d 50 40 ls st M Q ↔ wp X d 50 41 ls ((0, 1) :: st) M Q := q_iconst (show mj_ins 50 40 = some (.iconst 1, 1) from rfl) (by decide)
theorem w50_41 : wp X d 50 41 ls st M Q ↔ wp X d 50 45 ls st M Q := q_goto (show mj_ins 50 41 = some (.goto 4, 3) from rfl) rfl
theorem w50_44 : wp X d 50 44 ls st M Q ↔ wp X d 50 45 ls ((0, 0) :: st) M Q := q_iconst (show mj_ins 50 44 = some (.iconst 0, 1) from rfl) (by decide)
theorem w50_45_i {P : Prop} {hP : Decidable P} : wp X d 50 45 ls [(0, @ite Int P hP 1 0)] M Q ↔ Q (some (0, @ite Int P hP 1 0)) M := q_zreturn (show mj_ins 50 45 = some (.ireturn, 1) from rfl) rfl (by by_cases h : P <;> simp [h])
theorem w50_45_0 : wp X d 50 45 ls [(0, 0)] M Q ↔ Q (some (0, 0)) M := q_zreturn (show mj_ins 50 45 = some (.ireturn, 1) from rfl) rfl (by decide)
theorem w50_45_1 : wp X d 50 45 ls [(0, 1)] M Q ↔ Q (some (0, 1)) M := q_zreturn (show mj_ins 50 45 = some (.ireturn, 1) from rfl) rfl (by decide)
-- 51: PerfectFerried$Reader.fail(I)V
theorem w51_0 {x : Int} : wp X d 51 0 ((26, x) :: ls) st M Q ↔ wp X d 51 1 ((26, x) :: ls) ((26, x) :: st) M Q := q_aload_n (show mj_ins 51 0 = some (.aload_n 0, 1) from rfl) rfl rfl
theorem w51_1 {x : Int} : wp X d 51 1 ls ((26, x) :: st) M Q ↔ x ≠ 0 ∧ wp X d 51 4 ls ((0, hh M x 0) :: st) M Q := q_getfield (show mj_ins 51 1 = some (.getfield 9, 3) from rfl) rfl rfl rfl
theorem w51_4 {x : Int} : wp X d 51 4 ls ((0, x) :: st) M Q ↔ if x = 0 then wp X d 51 7 ls st M Q else wp X d 51 20 ls st M Q := q_if_ne (show mj_ins 51 4 = some (.ifCond .ne 16, 3) from rfl) rfl
theorem w51_7 {x : Int} : wp X d 51 7 ((26, x) :: ls) st M Q ↔ wp X d 51 8 ((26, x) :: ls) ((26, x) :: st) M Q := q_aload_n (show mj_ins 51 7 = some (.aload_n 0, 1) from rfl) rfl rfl
theorem w51_8 {v0 : mj_V} {x : Int} : wp X d 51 8 (v0 :: (0, x) :: ls) st M Q ↔ wp X d 51 9 (v0 :: (0, x) :: ls) ((0, x) :: st) M Q := q_iload_n (show mj_ins 51 8 = some (.iload_n 1, 1) from rfl) rfl
theorem w51_9 {x w : Int} : wp X d 51 9 ls ((0, w) :: (26, x) :: st) M Q ↔ x ≠ 0 ∧ wp X d 51 12 ls st (mj_wr M x 0 w) Q := q_putfield (show mj_ins 51 9 = some (.putfield 9, 3) from rfl) rfl rfl (Or.inl rfl) rfl
theorem w51_12 {x : Int} : wp X d 51 12 ((26, x) :: ls) st M Q ↔ wp X d 51 13 ((26, x) :: ls) ((26, x) :: st) M Q := q_aload_n (show mj_ins 51 12 = some (.aload_n 0, 1) from rfl) rfl rfl
theorem w51_13 {x : Int} : wp X d 51 13 ((26, x) :: ls) st M Q ↔ wp X d 51 14 ((26, x) :: ls) ((26, x) :: st) M Q := q_aload_n (show mj_ins 51 13 = some (.aload_n 0, 1) from rfl) rfl rfl
theorem w51_14 {x : Int} : wp X d 51 14 ls ((26, x) :: st) M Q ↔ x ≠ 0 ∧ wp X d 51 17 ls ((0, hh M x 5) :: st) M Q := q_getfield (show mj_ins 51 14 = some (.getfield 24, 3) from rfl) rfl rfl rfl
theorem w51_17 {x w : Int} : wp X d 51 17 ls ((0, w) :: (26, x) :: st) M Q ↔ x ≠ 0 ∧ wp X d 51 20 ls st (mj_wr M x 1 w) Q := q_putfield (show mj_ins 51 17 = some (.putfield 15, 3) from rfl) rfl rfl (Or.inl rfl) rfl
theorem w51_20 {x : Int} : wp X d 51 20 ((26, x) :: ls) st M Q ↔ wp X d 51 21 ((26, x) :: ls) ((26, x) :: st) M Q := q_aload_n (show mj_ins 51 20 = some (.aload_n 0, 1) from rfl) rfl rfl
theorem w51_21 : wp X d 51 21 ls st M Q ↔ wp X d 51 23 ls ((0, 41) :: st) M Q := q_bipush (show mj_ins 51 21 = some (.bipush 41, 2) from rfl) (by decide)
theorem w51_23 {x w : Int} : wp X d 51 23 ls ((0, w) :: (26, x) :: st) M Q ↔ x ≠ 0 ∧ wp X d 51 26 ls st (mj_wr M x 6 w) Q := q_putfield (show mj_ins 51 23 = some (.putfield 27, 3) from rfl) rfl rfl (Or.inl rfl) rfl
theorem w51_26 : wp X d 51 26 ls [] M Q ↔ Q none M := q_return (show mj_ins 51 26 = some (.return_, 1) from rfl) rfl
-- 52: PerfectFerried$Reader.readLaw(I)V
theorem w52_0 {x : Int} : wp X d 52 0 ((26, x) :: ls) st M Q ↔ wp X d 52 1 ((26, x) :: ls) ((26, x) :: st) M Q := q_aload_n (show mj_ins 52 0 = some (.aload_n 0, 1) from rfl) rfl rfl
theorem w52_1 {x : Int} : wp X d 52 1 ls ((26, x) :: st) M Q ↔ x ≠ 0 ∧ wp X d 52 4 ls ((0, hh M x 11) :: st) M Q := q_getfield (show mj_ins 52 1 = some (.getfield 44, 3) from rfl) rfl rfl rfl
theorem w52_4 {v0 w : mj_V} {x y : Int} : wp X d 52 4 (v0 :: (0, y) :: w :: ls) ((0, x) :: st) M Q ↔ wp X d 52 5 (v0 :: (0, y) :: (0, x) :: ls) st M Q := q_istore_n (show mj_ins 52 4 = some (.istore_n 2, 1) from rfl) (Nat.le_add_left 3 _) (mj_set_s (fun z hz => by cases hz; exact (show (0 : Nat) ≠ 1 by decide)))
theorem w52_5 {x : Int} : wp X d 52 5 ((26, x) :: ls) st M Q ↔ wp X d 52 6 ((26, x) :: ls) ((26, x) :: st) M Q := q_aload_n (show mj_ins 52 5 = some (.aload_n 0, 1) from rfl) rfl rfl
theorem w52_6 {v0 : mj_V} {x : Int} : wp X d 52 6 (v0 :: (0, x) :: ls) st M Q ↔ wp X d 52 7 (v0 :: (0, x) :: ls) ((0, x) :: st) M Q := q_iload_n (show mj_ins 52 6 = some (.iload_n 1, 1) from rfl) rfl
theorem w52_7 {x : Int} : wp X d 52 7 ls ((0, x) :: st) M Q ↔ if x = 0 then wp X d 52 10 ls st M Q else wp X d 52 14 ls st M Q := q_if_ne (show mj_ins 52 7 = some (.ifCond .ne 7, 3) from rfl) rfl
theorem w52_10 : wp X d 52 10 ls st M Q ↔ wp X d 52 11 ls ((0, 1) :: st) M Q := q_iconst (show mj_ins 52 10 = some (.iconst 1, 1) from rfl) (by decide)
theorem w52_11 : wp X d 52 11 ls st M Q ↔ wp X d 52 15 ls st M Q := q_goto (show mj_ins 52 11 = some (.goto 4, 3) from rfl) rfl
theorem w52_14 : wp X d 52 14 ls st M Q ↔ wp X d 52 15 ls ((0, 0) :: st) M Q := q_iconst (show mj_ins 52 14 = some (.iconst 0, 1) from rfl) (by decide)
theorem w52_15 {x w : Int} (hw : w = 0 ∨ w = 1) : wp X d 52 15 ls ((0, w) :: (26, x) :: st) M Q ↔ x ≠ 0 ∧ wp X d 52 18 ls st (mj_wr M x 8 w) Q := q_putfield (show mj_ins 52 15 = some (.putfield 33, 3) from rfl) rfl rfl (Or.inl rfl) (show (if (0 : Nat) = 0 ∧ (w = 0 ∨ w = 1) then some w else none) = some w from if_pos ⟨rfl, hw⟩)
theorem w52_18 {x : Int} : wp X d 52 18 ((26, x) :: ls) st M Q ↔ wp X d 52 19 ((26, x) :: ls) ((26, x) :: st) M Q := q_aload_n (show mj_ins 52 18 = some (.aload_n 0, 1) from rfl) rfl rfl
theorem w52_19 {a0 : Int} : wp X (d + 1) 52 19 ls ((26, a0) :: st) M Q ↔ (a0 ≠ 0 ∧ mj_cs st ≤ 8) ∧ wc X d 29 [(26, a0)] M (fun r M => wp X (d + 1) 52 22 ls (r.toList ++ st) M Q) := q_callV ⟨rfl, rfl⟩ (show mj_ins 52 19 = some (.invokevirtual 69, 3) from rfl) rfl rfl rfl (Nat.le_of_ble_eq_true rfl)
theorem w52_22 {x : Int} : wp X d 52 22 ((26, x) :: ls) st M Q ↔ wp X d 52 23 ((26, x) :: ls) ((26, x) :: st) M Q := q_aload_n (show mj_ins 52 22 = some (.aload_n 0, 1) from rfl) rfl rfl
theorem w52_23 : wp X d 52 23 ls st M Q ↔ wp X d 52 24 ls ((0, 0) :: st) M Q := q_iconst (show mj_ins 52 23 = some (.iconst 0, 1) from rfl) (by decide)
theorem w52_24 {a0 a1 : Int} : wp X (d + 1) 52 24 ls ((0, a1) :: (26, a0) :: st) M Q ↔ (a0 ≠ 0 ∧ mj_cs st ≤ 8) ∧ wc X d 53 [(26, a0), (0, a1)] M (fun r M => wp X (d + 1) 52 27 ls (r.toList ++ st) M Q) := q_callV ⟨rfl, rfl⟩ (show mj_ins 52 24 = some (.invokevirtual 147, 3) from rfl) rfl rfl rfl (Nat.le_of_ble_eq_true rfl)
theorem w52_27 {x : Int} : wp X d 52 27 ((26, x) :: ls) st M Q ↔ wp X d 52 28 ((26, x) :: ls) ((26, x) :: st) M Q := q_aload_n (show mj_ins 52 27 = some (.aload_n 0, 1) from rfl) rfl rfl
theorem w52_28 : wp X d 52 28 ls st M Q ↔ wp X d 52 30 ls ((0, 36) :: st) M Q := q_bipush (show mj_ins 52 28 = some (.bipush 36, 2) from rfl) (by decide)
theorem w52_30 {a0 a1 : Int} : wp X (d + 1) 52 30 ls ((0, a1) :: (26, a0) :: st) M Q ↔ (a0 ≠ 0 ∧ mj_cs st ≤ 8) ∧ wc X d 60 [(26, a0), (0, a1)] M (fun r M => wp X (d + 1) 52 33 ls (r.toList ++ st) M Q) := q_callV ⟨rfl, rfl⟩ (show mj_ins 52 30 = some (.invokevirtual 140, 3) from rfl) rfl rfl rfl (Nat.le_of_ble_eq_true rfl)
theorem w52_33 {x : Int} : wp X d 52 33 ((26, x) :: ls) st M Q ↔ wp X d 52 34 ((26, x) :: ls) ((26, x) :: st) M Q := q_aload_n (show mj_ins 52 33 = some (.aload_n 0, 1) from rfl) rfl rfl
theorem w52_34 {x : Int} : wp X d 52 34 ls ((26, x) :: st) M Q ↔ x ≠ 0 ∧ wp X d 52 37 ls ((0, hh M x 8) :: st) M Q := q_getfield (show mj_ins 52 34 = some (.getfield 33, 3) from rfl) rfl rfl rfl
theorem w52_37 {x : Int} : wp X d 52 37 ls ((0, x) :: st) M Q ↔ if x = 0 then wp X d 52 56 ls st M Q else wp X d 52 40 ls st M Q := q_if_eq (show mj_ins 52 37 = some (.ifCond .eq 19, 3) from rfl) rfl
theorem w52_40 {x : Int} : wp X d 52 40 ((26, x) :: ls) st M Q ↔ wp X d 52 41 ((26, x) :: ls) ((26, x) :: st) M Q := q_aload_n (show mj_ins 52 40 = some (.aload_n 0, 1) from rfl) rfl rfl
theorem w52_41 {v0 v1 : mj_V} {x : Int} : wp X d 52 41 (v0 :: v1 :: (0, x) :: ls) st M Q ↔ wp X d 52 42 (v0 :: v1 :: (0, x) :: ls) ((0, x) :: st) M Q := q_iload_n (show mj_ins 52 41 = some (.iload_n 2, 1) from rfl) rfl
theorem w52_42 {x w : Int} : wp X d 52 42 ls ((0, w) :: (26, x) :: st) M Q ↔ x ≠ 0 ∧ wp X d 52 45 ls st (mj_wr M x 13 w) Q := q_putfield (show mj_ins 52 42 = some (.putfield 50, 3) from rfl) rfl rfl (Or.inl rfl) rfl
theorem w52_45 {x : Int} : wp X d 52 45 ((26, x) :: ls) st M Q ↔ wp X d 52 46 ((26, x) :: ls) ((26, x) :: st) M Q := q_aload_n (show mj_ins 52 45 = some (.aload_n 0, 1) from rfl) rfl rfl
theorem w52_46 {x : Int} : wp X d 52 46 ((26, x) :: ls) st M Q ↔ wp X d 52 47 ((26, x) :: ls) ((26, x) :: st) M Q := q_aload_n (show mj_ins 52 46 = some (.aload_n 0, 1) from rfl) rfl rfl
theorem w52_47 {x : Int} : wp X d 52 47 ls ((26, x) :: st) M Q ↔ x ≠ 0 ∧ wp X d 52 50 ls ((0, hh M x 11) :: st) M Q := q_getfield (show mj_ins 52 47 = some (.getfield 44, 3) from rfl) rfl rfl rfl
theorem w52_50 {x w : Int} : wp X d 52 50 ls ((0, w) :: (26, x) :: st) M Q ↔ x ≠ 0 ∧ wp X d 52 53 ls st (mj_wr M x 14 w) Q := q_putfield (show mj_ins 52 50 = some (.putfield 53, 3) from rfl) rfl rfl (Or.inl rfl) rfl
theorem w52_53 : wp X d 52 53 ls st M Q ↔ wp X d 52 69 ls st M Q := q_goto (show mj_ins 52 53 = some (.goto 16, 3) from rfl) rfl
theorem w52_56 {x : Int} : wp X d 52 56 ((26, x) :: ls) st M Q ↔ wp X d 52 57 ((26, x) :: ls) ((26, x) :: st) M Q := q_aload_n (show mj_ins 52 56 = some (.aload_n 0, 1) from rfl) rfl rfl
theorem w52_57 {v0 v1 : mj_V} {x : Int} : wp X d 52 57 (v0 :: v1 :: (0, x) :: ls) st M Q ↔ wp X d 52 58 (v0 :: v1 :: (0, x) :: ls) ((0, x) :: st) M Q := q_iload_n (show mj_ins 52 57 = some (.iload_n 2, 1) from rfl) rfl
theorem w52_58 {x w : Int} : wp X d 52 58 ls ((0, w) :: (26, x) :: st) M Q ↔ x ≠ 0 ∧ wp X d 52 61 ls st (mj_wr M x 15 w) Q := q_putfield (show mj_ins 52 58 = some (.putfield 56, 3) from rfl) rfl rfl (Or.inl rfl) rfl
theorem w52_61 {x : Int} : wp X d 52 61 ((26, x) :: ls) st M Q ↔ wp X d 52 62 ((26, x) :: ls) ((26, x) :: st) M Q := q_aload_n (show mj_ins 52 61 = some (.aload_n 0, 1) from rfl) rfl rfl
theorem w52_62 {x : Int} : wp X d 52 62 ((26, x) :: ls) st M Q ↔ wp X d 52 63 ((26, x) :: ls) ((26, x) :: st) M Q := q_aload_n (show mj_ins 52 62 = some (.aload_n 0, 1) from rfl) rfl rfl
theorem w52_63 {x : Int} : wp X d 52 63 ls ((26, x) :: st) M Q ↔ x ≠ 0 ∧ wp X d 52 66 ls ((0, hh M x 11) :: st) M Q := q_getfield (show mj_ins 52 63 = some (.getfield 44, 3) from rfl) rfl rfl rfl
theorem w52_66 {x w : Int} : wp X d 52 66 ls ((0, w) :: (26, x) :: st) M Q ↔ x ≠ 0 ∧ wp X d 52 69 ls st (mj_wr M x 16 w) Q := q_putfield (show mj_ins 52 66 = some (.putfield 59, 3) from rfl) rfl rfl (Or.inl rfl) rfl
theorem w52_69 {x : Int} : wp X d 52 69 ((26, x) :: ls) st M Q ↔ wp X d 52 70 ((26, x) :: ls) ((26, x) :: st) M Q := q_aload_n (show mj_ins 52 69 = some (.aload_n 0, 1) from rfl) rfl rfl
theorem w52_70 {v0 : mj_V} {x : Int} : wp X d 52 70 (v0 :: (0, x) :: ls) st M Q ↔ wp X d 52 71 (v0 :: (0, x) :: ls) ((0, x) :: st) M Q := q_iload_n (show mj_ins 52 70 = some (.iload_n 1, 1) from rfl) rfl
theorem w52_71 : wp X d 52 71 ls st M Q ↔ wp X d 52 72 ls ((0, 0) :: st) M Q := q_iconst (show mj_ins 52 71 = some (.iconst 0, 1) from rfl) (by decide)
theorem w52_72 : wp X d 52 72 ls st M Q ↔ wp X d 52 73 ls ((0, 0) :: st) M Q := q_iconst (show mj_ins 52 72 = some (.iconst 0, 1) from rfl) (by decide)
theorem w52_73 : wp X d 52 73 ls st M Q ↔ wp X d 52 74 ls ((0, 0) :: st) M Q := q_iconst (show mj_ins 52 73 = some (.iconst 0, 1) from rfl) (by decide)
theorem w52_74 {a0 a1 a2 a3 a4 : Int} : wp X (d + 1) 52 74 ls ((0, a4) :: (0, a3) :: (0, a2) :: (0, a1) :: (26, a0) :: st) M Q ↔ (a0 ≠ 0 ∧ mj_cs st ≤ 8) ∧ wc X d 66 [(26, a0), (0, a1), (0, a2), (0, a3), (0, a4)] M (fun r M => wp X (d + 1) 52 77 ls (r.toList ++ st) M Q) := q_callV ⟨rfl, rfl⟩ (show mj_ins 52 74 = some (.invokevirtual 143, 3) from rfl) rfl rfl rfl (Nat.le_of_ble_eq_true rfl)
theorem w52_77 : wp X d 52 77 ls [] M Q ↔ Q none M := q_return (show mj_ins 52 77 = some (.return_, 1) from rfl) rfl
-- 53: PerfectFerried$Reader.readSum(I)V
theorem w53_0 {x : Int} : wp X d 53 0 ((26, x) :: ls) st M Q ↔ wp X d 53 1 ((26, x) :: ls) ((26, x) :: st) M Q := q_aload_n (show mj_ins 53 0 = some (.aload_n 0, 1) from rfl) rfl rfl
theorem w53_1 {v0 : mj_V} {x : Int} : wp X d 53 1 (v0 :: (0, x) :: ls) st M Q ↔ wp X d 53 2 (v0 :: (0, x) :: ls) ((0, x) :: st) M Q := q_iload_n (show mj_ins 53 1 = some (.iload_n 1, 1) from rfl) rfl
theorem w53_2 {a0 a1 : Int} : wp X (d + 1) 53 2 ls ((0, a1) :: (26, a0) :: st) M Q ↔ (a0 ≠ 0 ∧ mj_cs st ≤ 8) ∧ wc X d 54 [(26, a0), (0, a1)] M (fun r M => wp X (d + 1) 53 5 ls (r.toList ++ st) M Q) := q_callV ⟨rfl, rfl⟩ (show mj_ins 53 2 = some (.invokevirtual 150, 3) from rfl) rfl rfl rfl (Nat.le_of_ble_eq_true rfl)
theorem w53_5 : wp X d 53 5 ls st M Q ↔ wp X d 53 6 ls ((0, 0) :: st) M Q := q_iconst (show mj_ins 53 5 = some (.iconst 0, 1) from rfl) (by decide)
theorem w53_6 {v0 w : mj_V} {x y : Int} : wp X d 53 6 (v0 :: (0, y) :: w :: ls) ((0, x) :: st) M Q ↔ wp X d 53 7 (v0 :: (0, y) :: (0, x) :: ls) st M Q := q_istore_n (show mj_ins 53 6 = some (.istore_n 2, 1) from rfl) (Nat.le_add_left 3 _) (mj_set_s (fun z hz => by cases hz; exact (show (0 : Nat) ≠ 1 by decide)))
theorem w53_7 {v0 v1 : mj_V} {x : Int} : wp X d 53 7 (v0 :: v1 :: (0, x) :: ls) st M Q ↔ wp X d 53 8 (v0 :: v1 :: (0, x) :: ls) ((0, x) :: st) M Q := q_iload_n (show mj_ins 53 7 = some (.iload_n 2, 1) from rfl) rfl
theorem w53_8 : wp X d 53 8 ls st M Q ↔ wp X d 53 11 ls ((0, 300) :: st) M Q := q_sipush (show mj_ins 53 8 = some (.sipush 300, 3) from rfl) (by decide)
theorem w53_11 {x y : Int} : wp X d 53 11 ls ((0, y) :: (0, x) :: st) M Q ↔ if x < y then wp X d 53 14 ls st M Q else wp X d 53 59 ls st M Q := q_icmp_ge (show mj_ins 53 11 = some (.if_icmp .ge 48, 3) from rfl) rfl
theorem w53_14 {x : Int} : wp X d 53 14 ((26, x) :: ls) st M Q ↔ wp X d 53 15 ((26, x) :: ls) ((26, x) :: st) M Q := q_aload_n (show mj_ins 53 14 = some (.aload_n 0, 1) from rfl) rfl rfl
theorem w53_15 {x : Int} : wp X d 53 15 ls ((26, x) :: st) M Q ↔ x ≠ 0 ∧ wp X d 53 18 ls ((0, hh M x 6) :: st) M Q := q_getfield (show mj_ins 53 15 = some (.getfield 27, 3) from rfl) rfl rfl rfl
theorem w53_18 : wp X d 53 18 ls st M Q ↔ wp X d 53 20 ls ((0, 30) :: st) M Q := q_bipush (show mj_ins 53 18 = some (.bipush 30, 2) from rfl) (by decide)
theorem w53_20 {x y : Int} : wp X d 53 20 ls ((0, y) :: (0, x) :: st) M Q ↔ if x = y then wp X d 53 32 ls st M Q else wp X d 53 23 ls st M Q := q_icmp_eq (show mj_ins 53 20 = some (.if_icmp .eq 12, 3) from rfl) rfl
theorem w53_23 {x : Int} : wp X d 53 23 ((26, x) :: ls) st M Q ↔ wp X d 53 24 ((26, x) :: ls) ((26, x) :: st) M Q := q_aload_n (show mj_ins 53 23 = some (.aload_n 0, 1) from rfl) rfl rfl
theorem w53_24 {x : Int} : wp X d 53 24 ls ((26, x) :: st) M Q ↔ x ≠ 0 ∧ wp X d 53 27 ls ((0, hh M x 6) :: st) M Q := q_getfield (show mj_ins 53 24 = some (.getfield 27, 3) from rfl) rfl rfl rfl
theorem w53_27 : wp X d 53 27 ls st M Q ↔ wp X d 53 29 ls ((0, 31) :: st) M Q := q_bipush (show mj_ins 53 27 = some (.bipush 31, 2) from rfl) (by decide)
theorem w53_29 {x y : Int} : wp X d 53 29 ls ((0, y) :: (0, x) :: st) M Q ↔ if x = y then wp X d 53 32 ls st M Q else wp X d 53 59 ls st M Q := q_icmp_ne (show mj_ins 53 29 = some (.if_icmp .ne 30, 3) from rfl) rfl
theorem w53_32 {x : Int} : wp X d 53 32 ((26, x) :: ls) st M Q ↔ wp X d 53 33 ((26, x) :: ls) ((26, x) :: st) M Q := q_aload_n (show mj_ins 53 32 = some (.aload_n 0, 1) from rfl) rfl rfl
theorem w53_33 {x : Int} : wp X d 53 33 ls ((26, x) :: st) M Q ↔ x ≠ 0 ∧ wp X d 53 36 ls ((0, hh M x 6) :: st) M Q := q_getfield (show mj_ins 53 33 = some (.getfield 27, 3) from rfl) rfl rfl rfl
theorem w53_36 {v0 v1 w : mj_V} {x y : Int} : wp X d 53 36 (v0 :: v1 :: (0, y) :: w :: ls) ((0, x) :: st) M Q ↔ wp X d 53 37 (v0 :: v1 :: (0, y) :: (0, x) :: ls) st M Q := q_istore_n (show mj_ins 53 36 = some (.istore_n 3, 1) from rfl) (Nat.le_add_left 4 _) (mj_set_s (fun z hz => by cases hz; exact (show (0 : Nat) ≠ 1 by decide)))
theorem w53_37 {x : Int} : wp X d 53 37 ((26, x) :: ls) st M Q ↔ wp X d 53 38 ((26, x) :: ls) ((26, x) :: st) M Q := q_aload_n (show mj_ins 53 37 = some (.aload_n 0, 1) from rfl) rfl rfl
theorem w53_38 {a0 : Int} : wp X (d + 1) 53 38 ls ((26, a0) :: st) M Q ↔ (a0 ≠ 0 ∧ mj_cs st ≤ 8) ∧ wc X d 29 [(26, a0)] M (fun r M => wp X (d + 1) 53 41 ls (r.toList ++ st) M Q) := q_callV ⟨rfl, rfl⟩ (show mj_ins 53 38 = some (.invokevirtual 69, 3) from rfl) rfl rfl rfl (Nat.le_of_ble_eq_true rfl)
theorem w53_41 {x : Int} : wp X d 53 41 ((26, x) :: ls) st M Q ↔ wp X d 53 42 ((26, x) :: ls) ((26, x) :: st) M Q := q_aload_n (show mj_ins 53 41 = some (.aload_n 0, 1) from rfl) rfl rfl
theorem w53_42 {v0 : mj_V} {x : Int} : wp X d 53 42 (v0 :: (0, x) :: ls) st M Q ↔ wp X d 53 43 (v0 :: (0, x) :: ls) ((0, x) :: st) M Q := q_iload_n (show mj_ins 53 42 = some (.iload_n 1, 1) from rfl) rfl
theorem w53_43 {a0 a1 : Int} : wp X (d + 1) 53 43 ls ((0, a1) :: (26, a0) :: st) M Q ↔ (a0 ≠ 0 ∧ mj_cs st ≤ 8) ∧ wc X d 54 [(26, a0), (0, a1)] M (fun r M => wp X (d + 1) 53 46 ls (r.toList ++ st) M Q) := q_callV ⟨rfl, rfl⟩ (show mj_ins 53 43 = some (.invokevirtual 150, 3) from rfl) rfl rfl rfl (Nat.le_of_ble_eq_true rfl)
theorem w53_46 {x : Int} : wp X d 53 46 ((26, x) :: ls) st M Q ↔ wp X d 53 47 ((26, x) :: ls) ((26, x) :: st) M Q := q_aload_n (show mj_ins 53 46 = some (.aload_n 0, 1) from rfl) rfl rfl
theorem w53_47 {v0 v1 v2 : mj_V} {x : Int} : wp X d 53 47 (v0 :: v1 :: v2 :: (0, x) :: ls) st M Q ↔ wp X d 53 48 (v0 :: v1 :: v2 :: (0, x) :: ls) ((0, x) :: st) M Q := q_iload_n (show mj_ins 53 47 = some (.iload_n 3, 1) from rfl) rfl
theorem w53_48 : wp X d 53 48 ls st M Q ↔ wp X d 53 49 ls ((0, 0) :: st) M Q := q_iconst (show mj_ins 53 48 = some (.iconst 0, 1) from rfl) (by decide)
theorem w53_49 {a0 a1 a2 : Int} : wp X (d + 1) 53 49 ls ((0, a2) :: (0, a1) :: (26, a0) :: st) M Q ↔ (a0 ≠ 0 ∧ mj_cs st ≤ 8) ∧ wc X d 57 [(26, a0), (0, a1), (0, a2)] M (fun r M => wp X (d + 1) 53 52 ls (r.toList ++ st) M Q) := q_callV ⟨rfl, rfl⟩ (show mj_ins 53 49 = some (.invokevirtual 153, 3) from rfl) rfl rfl rfl (Nat.le_of_ble_eq_true rfl)
theorem w53_52 {x : Int} : wp X d 53 52 ls ((0, x) :: st) M Q ↔ wp X d 53 53 ls st M Q := q_pop (show mj_ins 53 52 = some (.pop, 1) from rfl) (show ¬ ((0 : Nat) = 1 ∨ (0 : Nat) = 9) by decide)
theorem w53_53 {v0 : mj_V} {x y : Int} : wp X d 53 53 (v0 :: (0, y) :: (0, x) :: ls) st M Q ↔ wp X d 53 56 (v0 :: (0, y) :: (0, ji_add x 1) :: ls) st M Q := q_iinc (show mj_ins 53 53 = some (.iinc 2 1, 3) from rfl) rfl (mj_set_s (fun z hz => by cases hz; exact (show (0 : Nat) ≠ 1 by decide)))
theorem w53_56 : wp X d 53 56 ls st M Q ↔ wp X d 53 7 ls st M Q := q_goto (show mj_ins 53 56 = some (.goto (-49), 3) from rfl) rfl
theorem w53_59 : wp X d 53 59 ls [] M Q ↔ Q none M := q_return (show mj_ins 53 59 = some (.return_, 1) from rfl) rfl
-- 54: PerfectFerried$Reader.readProduct(I)V
theorem w54_0 {x : Int} : wp X d 54 0 ((26, x) :: ls) st M Q ↔ wp X d 54 1 ((26, x) :: ls) ((26, x) :: st) M Q := q_aload_n (show mj_ins 54 0 = some (.aload_n 0, 1) from rfl) rfl rfl
theorem w54_1 {v0 : mj_V} {x : Int} : wp X d 54 1 (v0 :: (0, x) :: ls) st M Q ↔ wp X d 54 2 (v0 :: (0, x) :: ls) ((0, x) :: st) M Q := q_iload_n (show mj_ins 54 1 = some (.iload_n 1, 1) from rfl) rfl
theorem w54_2 {a0 a1 : Int} : wp X (d + 1) 54 2 ls ((0, a1) :: (26, a0) :: st) M Q ↔ (a0 ≠ 0 ∧ mj_cs st ≤ 8) ∧ wc X d 55 [(26, a0), (0, a1)] M (fun r M => wp X (d + 1) 54 5 ls (r.toList ++ st) M Q) := q_callV ⟨rfl, rfl⟩ (show mj_ins 54 2 = some (.invokevirtual 156, 3) from rfl) rfl rfl rfl (Nat.le_of_ble_eq_true rfl)
theorem w54_5 : wp X d 54 5 ls st M Q ↔ wp X d 54 6 ls ((0, 0) :: st) M Q := q_iconst (show mj_ins 54 5 = some (.iconst 0, 1) from rfl) (by decide)
theorem w54_6 {v0 w : mj_V} {x y : Int} : wp X d 54 6 (v0 :: (0, y) :: w :: ls) ((0, x) :: st) M Q ↔ wp X d 54 7 (v0 :: (0, y) :: (0, x) :: ls) st M Q := q_istore_n (show mj_ins 54 6 = some (.istore_n 2, 1) from rfl) (Nat.le_add_left 3 _) (mj_set_s (fun z hz => by cases hz; exact (show (0 : Nat) ≠ 1 by decide)))
theorem w54_7 {v0 v1 : mj_V} {x : Int} : wp X d 54 7 (v0 :: v1 :: (0, x) :: ls) st M Q ↔ wp X d 54 8 (v0 :: v1 :: (0, x) :: ls) ((0, x) :: st) M Q := q_iload_n (show mj_ins 54 7 = some (.iload_n 2, 1) from rfl) rfl
theorem w54_8 : wp X d 54 8 ls st M Q ↔ wp X d 54 11 ls ((0, 300) :: st) M Q := q_sipush (show mj_ins 54 8 = some (.sipush 300, 3) from rfl) (by decide)
theorem w54_11 {x y : Int} : wp X d 54 11 ls ((0, y) :: (0, x) :: st) M Q ↔ if x < y then wp X d 54 14 ls st M Q else wp X d 54 59 ls st M Q := q_icmp_ge (show mj_ins 54 11 = some (.if_icmp .ge 48, 3) from rfl) rfl
theorem w54_14 {x : Int} : wp X d 54 14 ((26, x) :: ls) st M Q ↔ wp X d 54 15 ((26, x) :: ls) ((26, x) :: st) M Q := q_aload_n (show mj_ins 54 14 = some (.aload_n 0, 1) from rfl) rfl rfl
theorem w54_15 {x : Int} : wp X d 54 15 ls ((26, x) :: st) M Q ↔ x ≠ 0 ∧ wp X d 54 18 ls ((0, hh M x 6) :: st) M Q := q_getfield (show mj_ins 54 15 = some (.getfield 27, 3) from rfl) rfl rfl rfl
theorem w54_18 : wp X d 54 18 ls st M Q ↔ wp X d 54 20 ls ((0, 32) :: st) M Q := q_bipush (show mj_ins 54 18 = some (.bipush 32, 2) from rfl) (by decide)
theorem w54_20 {x y : Int} : wp X d 54 20 ls ((0, y) :: (0, x) :: st) M Q ↔ if x = y then wp X d 54 32 ls st M Q else wp X d 54 23 ls st M Q := q_icmp_eq (show mj_ins 54 20 = some (.if_icmp .eq 12, 3) from rfl) rfl
theorem w54_23 {x : Int} : wp X d 54 23 ((26, x) :: ls) st M Q ↔ wp X d 54 24 ((26, x) :: ls) ((26, x) :: st) M Q := q_aload_n (show mj_ins 54 23 = some (.aload_n 0, 1) from rfl) rfl rfl
theorem w54_24 {x : Int} : wp X d 54 24 ls ((26, x) :: st) M Q ↔ x ≠ 0 ∧ wp X d 54 27 ls ((0, hh M x 6) :: st) M Q := q_getfield (show mj_ins 54 24 = some (.getfield 27, 3) from rfl) rfl rfl rfl
theorem w54_27 : wp X d 54 27 ls st M Q ↔ wp X d 54 29 ls ((0, 33) :: st) M Q := q_bipush (show mj_ins 54 27 = some (.bipush 33, 2) from rfl) (by decide)
theorem w54_29 {x y : Int} : wp X d 54 29 ls ((0, y) :: (0, x) :: st) M Q ↔ if x = y then wp X d 54 32 ls st M Q else wp X d 54 59 ls st M Q := q_icmp_ne (show mj_ins 54 29 = some (.if_icmp .ne 30, 3) from rfl) rfl
theorem w54_32 {x : Int} : wp X d 54 32 ((26, x) :: ls) st M Q ↔ wp X d 54 33 ((26, x) :: ls) ((26, x) :: st) M Q := q_aload_n (show mj_ins 54 32 = some (.aload_n 0, 1) from rfl) rfl rfl
theorem w54_33 {x : Int} : wp X d 54 33 ls ((26, x) :: st) M Q ↔ x ≠ 0 ∧ wp X d 54 36 ls ((0, hh M x 6) :: st) M Q := q_getfield (show mj_ins 54 33 = some (.getfield 27, 3) from rfl) rfl rfl rfl
theorem w54_36 {v0 v1 w : mj_V} {x y : Int} : wp X d 54 36 (v0 :: v1 :: (0, y) :: w :: ls) ((0, x) :: st) M Q ↔ wp X d 54 37 (v0 :: v1 :: (0, y) :: (0, x) :: ls) st M Q := q_istore_n (show mj_ins 54 36 = some (.istore_n 3, 1) from rfl) (Nat.le_add_left 4 _) (mj_set_s (fun z hz => by cases hz; exact (show (0 : Nat) ≠ 1 by decide)))
theorem w54_37 {x : Int} : wp X d 54 37 ((26, x) :: ls) st M Q ↔ wp X d 54 38 ((26, x) :: ls) ((26, x) :: st) M Q := q_aload_n (show mj_ins 54 37 = some (.aload_n 0, 1) from rfl) rfl rfl
theorem w54_38 {a0 : Int} : wp X (d + 1) 54 38 ls ((26, a0) :: st) M Q ↔ (a0 ≠ 0 ∧ mj_cs st ≤ 8) ∧ wc X d 29 [(26, a0)] M (fun r M => wp X (d + 1) 54 41 ls (r.toList ++ st) M Q) := q_callV ⟨rfl, rfl⟩ (show mj_ins 54 38 = some (.invokevirtual 69, 3) from rfl) rfl rfl rfl (Nat.le_of_ble_eq_true rfl)
theorem w54_41 {x : Int} : wp X d 54 41 ((26, x) :: ls) st M Q ↔ wp X d 54 42 ((26, x) :: ls) ((26, x) :: st) M Q := q_aload_n (show mj_ins 54 41 = some (.aload_n 0, 1) from rfl) rfl rfl
theorem w54_42 {v0 : mj_V} {x : Int} : wp X d 54 42 (v0 :: (0, x) :: ls) st M Q ↔ wp X d 54 43 (v0 :: (0, x) :: ls) ((0, x) :: st) M Q := q_iload_n (show mj_ins 54 42 = some (.iload_n 1, 1) from rfl) rfl
theorem w54_43 {a0 a1 : Int} : wp X (d + 1) 54 43 ls ((0, a1) :: (26, a0) :: st) M Q ↔ (a0 ≠ 0 ∧ mj_cs st ≤ 8) ∧ wc X d 55 [(26, a0), (0, a1)] M (fun r M => wp X (d + 1) 54 46 ls (r.toList ++ st) M Q) := q_callV ⟨rfl, rfl⟩ (show mj_ins 54 43 = some (.invokevirtual 156, 3) from rfl) rfl rfl rfl (Nat.le_of_ble_eq_true rfl)
theorem w54_46 {x : Int} : wp X d 54 46 ((26, x) :: ls) st M Q ↔ wp X d 54 47 ((26, x) :: ls) ((26, x) :: st) M Q := q_aload_n (show mj_ins 54 46 = some (.aload_n 0, 1) from rfl) rfl rfl
theorem w54_47 {v0 v1 v2 : mj_V} {x : Int} : wp X d 54 47 (v0 :: v1 :: v2 :: (0, x) :: ls) st M Q ↔ wp X d 54 48 (v0 :: v1 :: v2 :: (0, x) :: ls) ((0, x) :: st) M Q := q_iload_n (show mj_ins 54 47 = some (.iload_n 3, 1) from rfl) rfl
theorem w54_48 : wp X d 54 48 ls st M Q ↔ wp X d 54 49 ls ((0, 0) :: st) M Q := q_iconst (show mj_ins 54 48 = some (.iconst 0, 1) from rfl) (by decide)
theorem w54_49 {a0 a1 a2 : Int} : wp X (d + 1) 54 49 ls ((0, a2) :: (0, a1) :: (26, a0) :: st) M Q ↔ (a0 ≠ 0 ∧ mj_cs st ≤ 8) ∧ wc X d 57 [(26, a0), (0, a1), (0, a2)] M (fun r M => wp X (d + 1) 54 52 ls (r.toList ++ st) M Q) := q_callV ⟨rfl, rfl⟩ (show mj_ins 54 49 = some (.invokevirtual 153, 3) from rfl) rfl rfl rfl (Nat.le_of_ble_eq_true rfl)
theorem w54_52 {x : Int} : wp X d 54 52 ls ((0, x) :: st) M Q ↔ wp X d 54 53 ls st M Q := q_pop (show mj_ins 54 52 = some (.pop, 1) from rfl) (show ¬ ((0 : Nat) = 1 ∨ (0 : Nat) = 9) by decide)
theorem w54_53 {v0 : mj_V} {x y : Int} : wp X d 54 53 (v0 :: (0, y) :: (0, x) :: ls) st M Q ↔ wp X d 54 56 (v0 :: (0, y) :: (0, ji_add x 1) :: ls) st M Q := q_iinc (show mj_ins 54 53 = some (.iinc 2 1, 3) from rfl) rfl (mj_set_s (fun z hz => by cases hz; exact (show (0 : Nat) ≠ 1 by decide)))
theorem w54_56 : wp X d 54 56 ls st M Q ↔ wp X d 54 7 ls st M Q := q_goto (show mj_ins 54 56 = some (.goto (-49), 3) from rfl) rfl
theorem w54_59 : wp X d 54 59 ls [] M Q ↔ Q none M := q_return (show mj_ins 54 59 = some (.return_, 1) from rfl) rfl
-- 55: PerfectFerried$Reader.readOne(I)V
theorem w55_0 {x : Int} : wp X d 55 0 ((26, x) :: ls) st M Q ↔ wp X d 55 1 ((26, x) :: ls) ((26, x) :: st) M Q := q_aload_n (show mj_ins 55 0 = some (.aload_n 0, 1) from rfl) rfl rfl
theorem w55_1 {x : Int} : wp X d 55 1 ls ((26, x) :: st) M Q ↔ x ≠ 0 ∧ wp X d 55 4 ls ((0, hh M x 6) :: st) M Q := q_getfield (show mj_ins 55 1 = some (.getfield 27, 3) from rfl) rfl rfl rfl
theorem w55_4 : wp X d 55 4 ls st M Q ↔ wp X d 55 6 ls ((0, 39) :: st) M Q := q_bipush (show mj_ins 55 4 = some (.bipush 39, 2) from rfl) (by decide)
theorem w55_6 {x y : Int} : wp X d 55 6 ls ((0, y) :: (0, x) :: st) M Q ↔ if x = y then wp X d 55 9 ls st M Q else wp X d 55 27 ls st M Q := q_icmp_ne (show mj_ins 55 6 = some (.if_icmp .ne 21, 3) from rfl) rfl
theorem w55_9 {x : Int} : wp X d 55 9 ((26, x) :: ls) st M Q ↔ wp X d 55 10 ((26, x) :: ls) ((26, x) :: st) M Q := q_aload_n (show mj_ins 55 9 = some (.aload_n 0, 1) from rfl) rfl rfl
theorem w55_10 : wp X d 55 10 ls st M Q ↔ wp X d 55 12 ls ((0, 39) :: st) M Q := q_bipush (show mj_ins 55 10 = some (.bipush 39, 2) from rfl) (by decide)
theorem w55_12 {x : Int} : wp X d 55 12 ((26, x) :: ls) st M Q ↔ wp X d 55 13 ((26, x) :: ls) ((26, x) :: st) M Q := q_aload_n (show mj_ins 55 12 = some (.aload_n 0, 1) from rfl) rfl rfl
theorem w55_13 : wp X d 55 13 ls st M Q ↔ wp X d 55 14 ls ((0, 0) :: st) M Q := q_iconst (show mj_ins 55 13 = some (.iconst 0, 1) from rfl) (by decide)
theorem w55_14 : wp X d 55 14 ls st M Q ↔ wp X d 55 17 ls ((0, 9999) :: st) M Q := q_sipush (show mj_ins 55 14 = some (.sipush 9999, 3) from rfl) (by decide)
theorem w55_17 {a0 a1 a2 : Int} : wp X (d + 1) 55 17 ls ((0, a2) :: (0, a1) :: (26, a0) :: st) M Q ↔ (a0 ≠ 0 ∧ mj_cs st ≤ 8) ∧ wc X d 56 [(26, a0), (0, a1), (0, a2)] M (fun r M => wp X (d + 1) 55 20 ls (r.toList ++ st) M Q) := q_callV ⟨rfl, rfl⟩ (show mj_ins 55 17 = some (.invokevirtual 137, 3) from rfl) rfl rfl rfl (Nat.le_of_ble_eq_true rfl)
theorem w55_20 {a0 a1 a2 : Int} : wp X (d + 1) 55 20 ls ((0, a2) :: (0, a1) :: (26, a0) :: st) M Q ↔ (a0 ≠ 0 ∧ mj_cs st ≤ 8) ∧ wc X d 57 [(26, a0), (0, a1), (0, a2)] M (fun r M => wp X (d + 1) 55 23 ls (r.toList ++ st) M Q) := q_callV ⟨rfl, rfl⟩ (show mj_ins 55 20 = some (.invokevirtual 153, 3) from rfl) rfl rfl rfl (Nat.le_of_ble_eq_true rfl)
theorem w55_23 {x : Int} : wp X d 55 23 ls ((0, x) :: st) M Q ↔ wp X d 55 24 ls st M Q := q_pop (show mj_ins 55 23 = some (.pop, 1) from rfl) (show ¬ ((0 : Nat) = 1 ∨ (0 : Nat) = 9) by decide)
theorem w55_24 : wp X d 55 24 ls st M Q ↔ wp X d 55 136 ls st M Q := q_goto (show mj_ins 55 24 = some (.goto 112, 3) from rfl) rfl
theorem w55_27 {x : Int} : wp X d 55 27 ((26, x) :: ls) st M Q ↔ wp X d 55 28 ((26, x) :: ls) ((26, x) :: st) M Q := q_aload_n (show mj_ins 55 27 = some (.aload_n 0, 1) from rfl) rfl rfl
theorem w55_28 {x : Int} : wp X d 55 28 ls ((26, x) :: st) M Q ↔ x ≠ 0 ∧ wp X d 55 31 ls ((0, hh M x 6) :: st) M Q := q_getfield (show mj_ins 55 28 = some (.getfield 27, 3) from rfl) rfl rfl rfl
theorem w55_31 : wp X d 55 31 ls st M Q ↔ wp X d 55 33 ls ((0, 16) :: st) M Q := q_bipush (show mj_ins 55 31 = some (.bipush 16, 2) from rfl) (by decide)
theorem w55_33 {x y : Int} : wp X d 55 33 ls ((0, y) :: (0, x) :: st) M Q ↔ if x = y then wp X d 55 36 ls st M Q else wp X d 55 51 ls st M Q := q_icmp_ne (show mj_ins 55 33 = some (.if_icmp .ne 18, 3) from rfl) rfl
theorem w55_36 {x : Int} : wp X d 55 36 ((26, x) :: ls) st M Q ↔ wp X d 55 37 ((26, x) :: ls) ((26, x) :: st) M Q := q_aload_n (show mj_ins 55 36 = some (.aload_n 0, 1) from rfl) rfl rfl
theorem w55_37 {x : Int} : wp X d 55 37 ls ((26, x) :: st) M Q ↔ x ≠ 0 ∧ wp X d 55 40 ls ((0, hh M x 8) :: st) M Q := q_getfield (show mj_ins 55 37 = some (.getfield 33, 3) from rfl) rfl rfl rfl
theorem w55_40 {x : Int} : wp X d 55 40 ls ((0, x) :: st) M Q ↔ if x = 0 then wp X d 55 51 ls st M Q else wp X d 55 43 ls st M Q := q_if_eq (show mj_ins 55 40 = some (.ifCond .eq 11, 3) from rfl) rfl
theorem w55_43 {x : Int} : wp X d 55 43 ((26, x) :: ls) st M Q ↔ wp X d 55 44 ((26, x) :: ls) ((26, x) :: st) M Q := q_aload_n (show mj_ins 55 43 = some (.aload_n 0, 1) from rfl) rfl rfl
theorem w55_44 : wp X d 55 44 ls st M Q ↔ wp X d 55 45 ls ((0, 5) :: st) M Q := q_iconst (show mj_ins 55 44 = some (.iconst 5, 1) from rfl) (by decide)
theorem w55_45 {a0 a1 : Int} : wp X (d + 1) 55 45 ls ((0, a1) :: (26, a0) :: st) M Q ↔ (a0 ≠ 0 ∧ mj_cs st ≤ 8) ∧ wc X d 51 [(26, a0), (0, a1)] M (fun r M => wp X (d + 1) 55 48 ls (r.toList ++ st) M Q) := q_callV ⟨rfl, rfl⟩ (show mj_ins 55 45 = some (.invokevirtual 76, 3) from rfl) rfl rfl rfl (Nat.le_of_ble_eq_true rfl)
theorem w55_48 : wp X d 55 48 ls st M Q ↔ wp X d 55 136 ls st M Q := q_goto (show mj_ins 55 48 = some (.goto 88, 3) from rfl) rfl
theorem w55_51 {x : Int} : wp X d 55 51 ((26, x) :: ls) st M Q ↔ wp X d 55 52 ((26, x) :: ls) ((26, x) :: st) M Q := q_aload_n (show mj_ins 55 51 = some (.aload_n 0, 1) from rfl) rfl rfl
theorem w55_52 {x : Int} : wp X d 55 52 ls ((26, x) :: st) M Q ↔ x ≠ 0 ∧ wp X d 55 55 ls ((0, hh M x 6) :: st) M Q := q_getfield (show mj_ins 55 52 = some (.getfield 27, 3) from rfl) rfl rfl rfl
theorem w55_55 {a0 : Int} : wp X (d + 1) 55 55 ls ((0, a0) :: st) M Q ↔ (mj_cs st ≤ 8) ∧ wc X d 58 [(0, a0)] M (fun r M => wp X (d + 1) 55 58 ls (r.toList ++ st) M Q) := q_callS (show mj_ins 55 55 = some (.invokestatic 159, 3) from rfl) rfl rfl rfl (Nat.le_of_ble_eq_true rfl)
theorem w55_58 {x : Int} : wp X d 55 58 ls ((0, x) :: st) M Q ↔ if x = 0 then wp X d 55 78 ls st M Q else wp X d 55 61 ls st M Q := q_if_eq (show mj_ins 55 58 = some (.ifCond .eq 20, 3) from rfl) rfl
theorem w55_61 {x : Int} : wp X d 55 61 ((26, x) :: ls) st M Q ↔ wp X d 55 62 ((26, x) :: ls) ((26, x) :: st) M Q := q_aload_n (show mj_ins 55 61 = some (.aload_n 0, 1) from rfl) rfl rfl
theorem w55_62 {x : Int} : wp X d 55 62 ((26, x) :: ls) st M Q ↔ wp X d 55 63 ((26, x) :: ls) ((26, x) :: st) M Q := q_aload_n (show mj_ins 55 62 = some (.aload_n 0, 1) from rfl) rfl rfl
theorem w55_63 {x : Int} : wp X d 55 63 ls ((26, x) :: st) M Q ↔ x ≠ 0 ∧ wp X d 55 66 ls ((0, hh M x 6) :: st) M Q := q_getfield (show mj_ins 55 63 = some (.getfield 27, 3) from rfl) rfl rfl rfl
theorem w55_66 : wp X d 55 66 ls st M Q ↔ wp X d 55 67 ls ((0, 0) :: st) M Q := q_iconst (show mj_ins 55 66 = some (.iconst 0, 1) from rfl) (by decide)
theorem w55_67 {a0 a1 a2 : Int} : wp X (d + 1) 55 67 ls ((0, a2) :: (0, a1) :: (26, a0) :: st) M Q ↔ (a0 ≠ 0 ∧ mj_cs st ≤ 8) ∧ wc X d 57 [(26, a0), (0, a1), (0, a2)] M (fun r M => wp X (d + 1) 55 70 ls (r.toList ++ st) M Q) := q_callV ⟨rfl, rfl⟩ (show mj_ins 55 67 = some (.invokevirtual 153, 3) from rfl) rfl rfl rfl (Nat.le_of_ble_eq_true rfl)
theorem w55_70 {x : Int} : wp X d 55 70 ls ((0, x) :: st) M Q ↔ wp X d 55 71 ls st M Q := q_pop (show mj_ins 55 70 = some (.pop, 1) from rfl) (show ¬ ((0 : Nat) = 1 ∨ (0 : Nat) = 9) by decide)
theorem w55_71 {x : Int} : wp X d 55 71 ((26, x) :: ls) st M Q ↔ wp X d 55 72 ((26, x) :: ls) ((26, x) :: st) M Q := q_aload_n (show mj_ins 55 71 = some (.aload_n 0, 1) from rfl) rfl rfl
theorem w55_72 {a0 : Int} : wp X (d + 1) 55 72 ls ((26, a0) :: st) M Q ↔ (a0 ≠ 0 ∧ mj_cs st ≤ 8) ∧ wc X d 29 [(26, a0)] M (fun r M => wp X (d + 1) 55 75 ls (r.toList ++ st) M Q) := q_callV ⟨rfl, rfl⟩ (show mj_ins 55 72 = some (.invokevirtual 69, 3) from rfl) rfl rfl rfl (Nat.le_of_ble_eq_true rfl)
theorem w55_75 : wp X d 55 75 ls st M Q ↔ wp X d 55 136 ls st M Q := q_goto (show mj_ins 55 75 = some (.goto 61, 3) from rfl) rfl
theorem w55_78 {x : Int} : wp X d 55 78 ((26, x) :: ls) st M Q ↔ wp X d 55 79 ((26, x) :: ls) ((26, x) :: st) M Q := q_aload_n (show mj_ins 55 78 = some (.aload_n 0, 1) from rfl) rfl rfl
theorem w55_79 {x : Int} : wp X d 55 79 ls ((26, x) :: st) M Q ↔ x ≠ 0 ∧ wp X d 55 82 ls ((0, hh M x 6) :: st) M Q := q_getfield (show mj_ins 55 79 = some (.getfield 27, 3) from rfl) rfl rfl rfl
theorem w55_82 : wp X d 55 82 ls st M Q ↔ wp X d 55 84 ls ((0, 34) :: st) M Q := q_bipush (show mj_ins 55 82 = some (.bipush 34, 2) from rfl) (by decide)
theorem w55_84 {x y : Int} : wp X d 55 84 ls ((0, y) :: (0, x) :: st) M Q ↔ if x = y then wp X d 55 123 ls st M Q else wp X d 55 87 ls st M Q := q_icmp_eq (show mj_ins 55 84 = some (.if_icmp .eq 39, 3) from rfl) rfl
theorem w55_87 {x : Int} : wp X d 55 87 ((26, x) :: ls) st M Q ↔ wp X d 55 88 ((26, x) :: ls) ((26, x) :: st) M Q := q_aload_n (show mj_ins 55 87 = some (.aload_n 0, 1) from rfl) rfl rfl
theorem w55_88 {x : Int} : wp X d 55 88 ls ((26, x) :: st) M Q ↔ x ≠ 0 ∧ wp X d 55 91 ls ((0, hh M x 6) :: st) M Q := q_getfield (show mj_ins 55 88 = some (.getfield 27, 3) from rfl) rfl rfl rfl
theorem w55_91 : wp X d 55 91 ls st M Q ↔ wp X d 55 93 ls ((0, 31) :: st) M Q := q_bipush (show mj_ins 55 91 = some (.bipush 31, 2) from rfl) (by decide)
theorem w55_93 {x y : Int} : wp X d 55 93 ls ((0, y) :: (0, x) :: st) M Q ↔ if x = y then wp X d 55 123 ls st M Q else wp X d 55 96 ls st M Q := q_icmp_eq (show mj_ins 55 93 = some (.if_icmp .eq 30, 3) from rfl) rfl
theorem w55_96 {x : Int} : wp X d 55 96 ((26, x) :: ls) st M Q ↔ wp X d 55 97 ((26, x) :: ls) ((26, x) :: st) M Q := q_aload_n (show mj_ins 55 96 = some (.aload_n 0, 1) from rfl) rfl rfl
theorem w55_97 {x : Int} : wp X d 55 97 ls ((26, x) :: st) M Q ↔ x ≠ 0 ∧ wp X d 55 100 ls ((0, hh M x 6) :: st) M Q := q_getfield (show mj_ins 55 97 = some (.getfield 27, 3) from rfl) rfl rfl rfl
theorem w55_100 : wp X d 55 100 ls st M Q ↔ wp X d 55 102 ls ((0, 17) :: st) M Q := q_bipush (show mj_ins 55 100 = some (.bipush 17, 2) from rfl) (by decide)
theorem w55_102 {x y : Int} : wp X d 55 102 ls ((0, y) :: (0, x) :: st) M Q ↔ if x = y then wp X d 55 123 ls st M Q else wp X d 55 105 ls st M Q := q_icmp_eq (show mj_ins 55 102 = some (.if_icmp .eq 21, 3) from rfl) rfl
theorem w55_105 {x : Int} : wp X d 55 105 ((26, x) :: ls) st M Q ↔ wp X d 55 106 ((26, x) :: ls) ((26, x) :: st) M Q := q_aload_n (show mj_ins 55 105 = some (.aload_n 0, 1) from rfl) rfl rfl
theorem w55_106 {x : Int} : wp X d 55 106 ls ((26, x) :: st) M Q ↔ x ≠ 0 ∧ wp X d 55 109 ls ((0, hh M x 6) :: st) M Q := q_getfield (show mj_ins 55 106 = some (.getfield 27, 3) from rfl) rfl rfl rfl
theorem w55_109 : wp X d 55 109 ls st M Q ↔ wp X d 55 111 ls ((0, 18) :: st) M Q := q_bipush (show mj_ins 55 109 = some (.bipush 18, 2) from rfl) (by decide)
theorem w55_111 {x y : Int} : wp X d 55 111 ls ((0, y) :: (0, x) :: st) M Q ↔ if x = y then wp X d 55 123 ls st M Q else wp X d 55 114 ls st M Q := q_icmp_eq (show mj_ins 55 111 = some (.if_icmp .eq 12, 3) from rfl) rfl
theorem w55_114 {x : Int} : wp X d 55 114 ((26, x) :: ls) st M Q ↔ wp X d 55 115 ((26, x) :: ls) ((26, x) :: st) M Q := q_aload_n (show mj_ins 55 114 = some (.aload_n 0, 1) from rfl) rfl rfl
theorem w55_115 {x : Int} : wp X d 55 115 ls ((26, x) :: st) M Q ↔ x ≠ 0 ∧ wp X d 55 118 ls ((0, hh M x 6) :: st) M Q := q_getfield (show mj_ins 55 115 = some (.getfield 27, 3) from rfl) rfl rfl rfl
theorem w55_118 : wp X d 55 118 ls st M Q ↔ wp X d 55 120 ls ((0, 19) :: st) M Q := q_bipush (show mj_ins 55 118 = some (.bipush 19, 2) from rfl) (by decide)
theorem w55_120 {x y : Int} : wp X d 55 120 ls ((0, y) :: (0, x) :: st) M Q ↔ if x = y then wp X d 55 123 ls st M Q else wp X d 55 131 ls st M Q := q_icmp_ne (show mj_ins 55 120 = some (.if_icmp .ne 11, 3) from rfl) rfl
theorem w55_123 {x : Int} : wp X d 55 123 ((26, x) :: ls) st M Q ↔ wp X d 55 124 ((26, x) :: ls) ((26, x) :: st) M Q := q_aload_n (show mj_ins 55 123 = some (.aload_n 0, 1) from rfl) rfl rfl
theorem w55_124 {v0 : mj_V} {x : Int} : wp X d 55 124 (v0 :: (0, x) :: ls) st M Q ↔ wp X d 55 125 (v0 :: (0, x) :: ls) ((0, x) :: st) M Q := q_iload_n (show mj_ins 55 124 = some (.iload_n 1, 1) from rfl) rfl
theorem w55_125 {a0 a1 : Int} : wp X (d + 1) 55 125 ls ((0, a1) :: (26, a0) :: st) M Q ↔ (a0 ≠ 0 ∧ mj_cs st ≤ 8) ∧ wc X d 59 [(26, a0), (0, a1)] M (fun r M => wp X (d + 1) 55 128 ls (r.toList ++ st) M Q) := q_callV ⟨rfl, rfl⟩ (show mj_ins 55 125 = some (.invokevirtual 164, 3) from rfl) rfl rfl rfl (Nat.le_of_ble_eq_true rfl)
theorem w55_128 : wp X d 55 128 ls st M Q ↔ wp X d 55 136 ls st M Q := q_goto (show mj_ins 55 128 = some (.goto 8, 3) from rfl) rfl
theorem w55_131 {x : Int} : wp X d 55 131 ((26, x) :: ls) st M Q ↔ wp X d 55 132 ((26, x) :: ls) ((26, x) :: st) M Q := q_aload_n (show mj_ins 55 131 = some (.aload_n 0, 1) from rfl) rfl rfl
theorem w55_132 : wp X d 55 132 ls st M Q ↔ wp X d 55 133 ls ((0, 1) :: st) M Q := q_iconst (show mj_ins 55 132 = some (.iconst 1, 1) from rfl) (by decide)
theorem w55_133 {a0 a1 : Int} : wp X (d + 1) 55 133 ls ((0, a1) :: (26, a0) :: st) M Q ↔ (a0 ≠ 0 ∧ mj_cs st ≤ 8) ∧ wc X d 51 [(26, a0), (0, a1)] M (fun r M => wp X (d + 1) 55 136 ls (r.toList ++ st) M Q) := q_callV ⟨rfl, rfl⟩ (show mj_ins 55 133 = some (.invokevirtual 76, 3) from rfl) rfl rfl rfl (Nat.le_of_ble_eq_true rfl)
theorem w55_136 : wp X d 55 136 ls [] M Q ↔ Q none M := q_return (show mj_ins 55 136 = some (.return_, 1) from rfl) rfl
-- 56: PerfectFerried$Reader.expectNumber(II)I
theorem w56_0 {x : Int} : wp X d 56 0 ((26, x) :: ls) st M Q ↔ wp X d 56 1 ((26, x) :: ls) ((26, x) :: st) M Q := q_aload_n (show mj_ins 56 0 = some (.aload_n 0, 1) from rfl) rfl rfl
theorem w56_1 {x : Int} : wp X d 56 1 ls ((26, x) :: st) M Q ↔ x ≠ 0 ∧ wp X d 56 4 ls ((0, hh M x 6) :: st) M Q := q_getfield (show mj_ins 56 1 = some (.getfield 27, 3) from rfl) rfl rfl rfl
theorem w56_4 : wp X d 56 4 ls st M Q ↔ wp X d 56 6 ls ((0, 39) :: st) M Q := q_bipush (show mj_ins 56 4 = some (.bipush 39, 2) from rfl) (by decide)
theorem w56_6 {x y : Int} : wp X d 56 6 ls ((0, y) :: (0, x) :: st) M Q ↔ if x = y then wp X d 56 16 ls st M Q else wp X d 56 9 ls st M Q := q_icmp_eq (show mj_ins 56 6 = some (.if_icmp .eq 10, 3) from rfl) rfl
theorem w56_9 {x : Int} : wp X d 56 9 ((26, x) :: ls) st M Q ↔ wp X d 56 10 ((26, x) :: ls) ((26, x) :: st) M Q := q_aload_n (show mj_ins 56 9 = some (.aload_n 0, 1) from rfl) rfl rfl
theorem w56_10 : wp X d 56 10 ls st M Q ↔ wp X d 56 11 ls ((0, 1) :: st) M Q := q_iconst (show mj_ins 56 10 = some (.iconst 1, 1) from rfl) (by decide)
theorem w56_11 {a0 a1 : Int} : wp X (d + 1) 56 11 ls ((0, a1) :: (26, a0) :: st) M Q ↔ (a0 ≠ 0 ∧ mj_cs st ≤ 8) ∧ wc X d 51 [(26, a0), (0, a1)] M (fun r M => wp X (d + 1) 56 14 ls (r.toList ++ st) M Q) := q_callV ⟨rfl, rfl⟩ (show mj_ins 56 11 = some (.invokevirtual 76, 3) from rfl) rfl rfl rfl (Nat.le_of_ble_eq_true rfl)
theorem w56_14 : wp X d 56 14 ls st M Q ↔ wp X d 56 15 ls ((0, 0) :: st) M Q := q_iconst (show mj_ins 56 14 = some (.iconst 0, 1) from rfl) (by decide)
theorem w56_15 {x : Int} : wp X d 56 15 ls [(0, x)] M Q ↔ Q (some (0, x)) M := q_ireturn (show mj_ins 56 15 = some (.ireturn, 1) from rfl) rfl
theorem w56_16 {x : Int} : wp X d 56 16 ((26, x) :: ls) st M Q ↔ wp X d 56 17 ((26, x) :: ls) ((26, x) :: st) M Q := q_aload_n (show mj_ins 56 16 = some (.aload_n 0, 1) from rfl) rfl rfl
theorem w56_17 {x : Int} : wp X d 56 17 ls ((26, x) :: st) M Q ↔ x ≠ 0 ∧ wp X d 56 20 ls ((0, hh M x 7) :: st) M Q := q_getfield (show mj_ins 56 17 = some (.getfield 30, 3) from rfl) rfl rfl rfl
theorem w56_20 {v0 : mj_V} {x : Int} : wp X d 56 20 (v0 :: (0, x) :: ls) st M Q ↔ wp X d 56 21 (v0 :: (0, x) :: ls) ((0, x) :: st) M Q := q_iload_n (show mj_ins 56 20 = some (.iload_n 1, 1) from rfl) rfl
theorem w56_21 {x y : Int} : wp X d 56 21 ls ((0, y) :: (0, x) :: st) M Q ↔ if x < y then wp X d 56 32 ls st M Q else wp X d 56 24 ls st M Q := q_icmp_lt (show mj_ins 56 21 = some (.if_icmp .lt 11, 3) from rfl) rfl
theorem w56_24 {x : Int} : wp X d 56 24 ((26, x) :: ls) st M Q ↔ wp X d 56 25 ((26, x) :: ls) ((26, x) :: st) M Q := q_aload_n (show mj_ins 56 24 = some (.aload_n 0, 1) from rfl) rfl rfl
theorem w56_25 {x : Int} : wp X d 56 25 ls ((26, x) :: st) M Q ↔ x ≠ 0 ∧ wp X d 56 28 ls ((0, hh M x 7) :: st) M Q := q_getfield (show mj_ins 56 25 = some (.getfield 30, 3) from rfl) rfl rfl rfl
theorem w56_28 {v0 v1 : mj_V} {x : Int} : wp X d 56 28 (v0 :: v1 :: (0, x) :: ls) st M Q ↔ wp X d 56 29 (v0 :: v1 :: (0, x) :: ls) ((0, x) :: st) M Q := q_iload_n (show mj_ins 56 28 = some (.iload_n 2, 1) from rfl) rfl
theorem w56_29 {x y : Int} : wp X d 56 29 ls ((0, y) :: (0, x) :: st) M Q ↔ if x ≤ y then wp X d 56 39 ls st M Q else wp X d 56 32 ls st M Q := q_icmp_le (show mj_ins 56 29 = some (.if_icmp .le 10, 3) from rfl) rfl
theorem w56_32 {x : Int} : wp X d 56 32 ((26, x) :: ls) st M Q ↔ wp X d 56 33 ((26, x) :: ls) ((26, x) :: st) M Q := q_aload_n (show mj_ins 56 32 = some (.aload_n 0, 1) from rfl) rfl rfl
theorem w56_33 : wp X d 56 33 ls st M Q ↔ wp X d 56 34 ls ((0, 2) :: st) M Q := q_iconst (show mj_ins 56 33 = some (.iconst 2, 1) from rfl) (by decide)
theorem w56_34 {a0 a1 : Int} : wp X (d + 1) 56 34 ls ((0, a1) :: (26, a0) :: st) M Q ↔ (a0 ≠ 0 ∧ mj_cs st ≤ 8) ∧ wc X d 51 [(26, a0), (0, a1)] M (fun r M => wp X (d + 1) 56 37 ls (r.toList ++ st) M Q) := q_callV ⟨rfl, rfl⟩ (show mj_ins 56 34 = some (.invokevirtual 76, 3) from rfl) rfl rfl rfl (Nat.le_of_ble_eq_true rfl)
theorem w56_37 : wp X d 56 37 ls st M Q ↔ wp X d 56 38 ls ((0, 0) :: st) M Q := q_iconst (show mj_ins 56 37 = some (.iconst 0, 1) from rfl) (by decide)
theorem w56_38 {x : Int} : wp X d 56 38 ls [(0, x)] M Q ↔ Q (some (0, x)) M := q_ireturn (show mj_ins 56 38 = some (.ireturn, 1) from rfl) rfl
theorem w56_39 {x : Int} : wp X d 56 39 ((26, x) :: ls) st M Q ↔ wp X d 56 40 ((26, x) :: ls) ((26, x) :: st) M Q := q_aload_n (show mj_ins 56 39 = some (.aload_n 0, 1) from rfl) rfl rfl
theorem w56_40 {x : Int} : wp X d 56 40 ls ((26, x) :: st) M Q ↔ x ≠ 0 ∧ wp X d 56 43 ls ((0, hh M x 7) :: st) M Q := q_getfield (show mj_ins 56 40 = some (.getfield 30, 3) from rfl) rfl rfl rfl
theorem w56_43 {v0 v1 w : mj_V} {x y : Int} : wp X d 56 43 (v0 :: v1 :: (0, y) :: w :: ls) ((0, x) :: st) M Q ↔ wp X d 56 44 (v0 :: v1 :: (0, y) :: (0, x) :: ls) st M Q := q_istore_n (show mj_ins 56 43 = some (.istore_n 3, 1) from rfl) (Nat.le_add_left 4 _) (mj_set_s (fun z hz => by cases hz; exact (show (0 : Nat) ≠ 1 by decide)))
theorem w56_44 {x : Int} : wp X d 56 44 ((26, x) :: ls) st M Q ↔ wp X d 56 45 ((26, x) :: ls) ((26, x) :: st) M Q := q_aload_n (show mj_ins 56 44 = some (.aload_n 0, 1) from rfl) rfl rfl
theorem w56_45 {a0 : Int} : wp X (d + 1) 56 45 ls ((26, a0) :: st) M Q ↔ (a0 ≠ 0 ∧ mj_cs st ≤ 8) ∧ wc X d 29 [(26, a0)] M (fun r M => wp X (d + 1) 56 48 ls (r.toList ++ st) M Q) := q_callV ⟨rfl, rfl⟩ (show mj_ins 56 45 = some (.invokevirtual 69, 3) from rfl) rfl rfl rfl (Nat.le_of_ble_eq_true rfl)
theorem w56_48 {v0 v1 v2 : mj_V} {x : Int} : wp X d 56 48 (v0 :: v1 :: v2 :: (0, x) :: ls) st M Q ↔ wp X d 56 49 (v0 :: v1 :: v2 :: (0, x) :: ls) ((0, x) :: st) M Q := q_iload_n (show mj_ins 56 48 = some (.iload_n 3, 1) from rfl) rfl
theorem w56_49 {x : Int} : wp X d 56 49 ls [(0, x)] M Q ↔ Q (some (0, x)) M := q_ireturn (show mj_ins 56 49 = some (.ireturn, 1) from rfl) rfl
-- 57: PerfectFerried$Reader.put(II)I
theorem w57_0 {x : Int} : wp X d 57 0 ((26, x) :: ls) st M Q ↔ wp X d 57 1 ((26, x) :: ls) ((26, x) :: st) M Q := q_aload_n (show mj_ins 57 0 = some (.aload_n 0, 1) from rfl) rfl rfl
theorem w57_1 {x : Int} : wp X d 57 1 ls ((26, x) :: st) M Q ↔ x ≠ 0 ∧ wp X d 57 4 ls ((0, hh M x 11) :: st) M Q := q_getfield (show mj_ins 57 1 = some (.getfield 44, 3) from rfl) rfl rfl rfl
theorem w57_4 {v0 v1 w : mj_V} {x y : Int} : wp X d 57 4 (v0 :: v1 :: (0, y) :: w :: ls) ((0, x) :: st) M Q ↔ wp X d 57 5 (v0 :: v1 :: (0, y) :: (0, x) :: ls) st M Q := q_istore_n (show mj_ins 57 4 = some (.istore_n 3, 1) from rfl) (Nat.le_add_left 4 _) (mj_set_s (fun z hz => by cases hz; exact (show (0 : Nat) ≠ 1 by decide)))
theorem w57_5 {v0 v1 v2 : mj_V} {x : Int} : wp X d 57 5 (v0 :: v1 :: v2 :: (0, x) :: ls) st M Q ↔ wp X d 57 6 (v0 :: v1 :: v2 :: (0, x) :: ls) ((0, x) :: st) M Q := q_iload_n (show mj_ins 57 5 = some (.iload_n 3, 1) from rfl) rfl
theorem w57_6 : wp X d 57 6 ls st M Q ↔ wp X d 57 9 ls ((0, 300) :: st) M Q := q_sipush (show mj_ins 57 6 = some (.sipush 300, 3) from rfl) (by decide)
theorem w57_9 {x y : Int} : wp X d 57 9 ls ((0, y) :: (0, x) :: st) M Q ↔ if x < y then wp X d 57 12 ls st M Q else wp X d 57 34 ls st M Q := q_icmp_ge (show mj_ins 57 9 = some (.if_icmp .ge 25, 3) from rfl) rfl
theorem w57_12 {x : Int} : wp X d 57 12 ((26, x) :: ls) st M Q ↔ wp X d 57 13 ((26, x) :: ls) ((26, x) :: st) M Q := q_aload_n (show mj_ins 57 12 = some (.aload_n 0, 1) from rfl) rfl rfl
theorem w57_13 {x : Int} : wp X d 57 13 ls ((26, x) :: st) M Q ↔ x ≠ 0 ∧ wp X d 57 16 ls ((3, hh M x 12) :: st) M Q := q_getfield (show mj_ins 57 13 = some (.getfield 47, 3) from rfl) rfl rfl rfl
theorem w57_16 {v0 v1 v2 : mj_V} {x : Int} : wp X d 57 16 (v0 :: v1 :: v2 :: (0, x) :: ls) st M Q ↔ wp X d 57 17 (v0 :: v1 :: v2 :: (0, x) :: ls) ((0, x) :: st) M Q := q_iload_n (show mj_ins 57 16 = some (.iload_n 3, 1) from rfl) rfl
theorem w57_17 {v0 : mj_V} {x : Int} : wp X d 57 17 (v0 :: (0, x) :: ls) st M Q ↔ wp X d 57 18 (v0 :: (0, x) :: ls) ((0, x) :: st) M Q := q_iload_n (show mj_ins 57 17 = some (.iload_n 1, 1) from rfl) rfl
theorem w57_18 {v0 v1 : mj_V} {x : Int} : wp X d 57 18 (v0 :: v1 :: (0, x) :: ls) st M Q ↔ wp X d 57 19 (v0 :: v1 :: (0, x) :: ls) ((0, x) :: st) M Q := q_iload_n (show mj_ins 57 18 = some (.iload_n 2, 1) from rfl) rfl
theorem w57_19 : wp X d 57 19 ls st M Q ↔ wp X d 57 21 ls ((0, 6) :: st) M Q := q_bipush (show mj_ins 57 19 = some (.bipush 6, 2) from rfl) (by decide)
theorem w57_21 {x y : Int} : wp X d 57 21 ls ((0, y) :: (0, x) :: st) M Q ↔ wp X d 57 22 ls ((0, ji_shl x y) :: st) M Q := q_ishl (show mj_ins 57 21 = some (.ishl, 1) from rfl)
theorem w57_22 {x y : Int} : wp X d 57 22 ls ((0, y) :: (0, x) :: st) M Q ↔ wp X d 57 23 ls ((0, ji_or x y) :: st) M Q := q_ior (show mj_ins 57 22 = some (.ior, 1) from rfl)
theorem w57_23 {i x v : Int} : wp X d 57 23 ls ((0, v) :: (0, i) :: (3, x) :: st) M Q ↔ (x ≠ 0 ∧ 0 ≤ i ∧ i < hl M x) ∧ wp X d 57 24 ls st (mj_wr M x i v) Q := q_iastore (show mj_ins 57 23 = some (.iastore, 1) from rfl)
theorem w57_24 {x : Int} : wp X d 57 24 ((26, x) :: ls) st M Q ↔ wp X d 57 25 ((26, x) :: ls) ((26, x) :: st) M Q := q_aload_n (show mj_ins 57 24 = some (.aload_n 0, 1) from rfl) rfl rfl
theorem w57_25 {x : Int} : wp X d 57 25 ls ((26, x) :: st) M Q ↔ wp X d 57 26 ls ((26, x) :: (26, x) :: st) M Q := q_dup (show mj_ins 57 25 = some (.dup, 1) from rfl) (show ¬ ((26 : Nat) = 1 ∨ (26 : Nat) = 9) by decide)
theorem w57_26 {x : Int} : wp X d 57 26 ls ((26, x) :: st) M Q ↔ x ≠ 0 ∧ wp X d 57 29 ls ((0, hh M x 11) :: st) M Q := q_getfield (show mj_ins 57 26 = some (.getfield 44, 3) from rfl) rfl rfl rfl
theorem w57_29 : wp X d 57 29 ls st M Q ↔ wp X d 57 30 ls ((0, 1) :: st) M Q := q_iconst (show mj_ins 57 29 = some (.iconst 1, 1) from rfl) (by decide)
theorem w57_30 {x y : Int} : wp X d 57 30 ls ((0, y) :: (0, x) :: st) M Q ↔ wp X d 57 31 ls ((0, ji_add x y) :: st) M Q := q_iadd (show mj_ins 57 30 = some (.iadd, 1) from rfl)
theorem w57_31 {x w : Int} : wp X d 57 31 ls ((0, w) :: (26, x) :: st) M Q ↔ x ≠ 0 ∧ wp X d 57 34 ls st (mj_wr M x 11 w) Q := q_putfield (show mj_ins 57 31 = some (.putfield 44, 3) from rfl) rfl rfl (Or.inl rfl) rfl
theorem w57_34 {v0 v1 v2 : mj_V} {x : Int} : wp X d 57 34 (v0 :: v1 :: v2 :: (0, x) :: ls) st M Q ↔ wp X d 57 35 (v0 :: v1 :: v2 :: (0, x) :: ls) ((0, x) :: st) M Q := q_iload_n (show mj_ins 57 34 = some (.iload_n 3, 1) from rfl) rfl
theorem w57_35 {x : Int} : wp X d 57 35 ls [(0, x)] M Q ↔ Q (some (0, x)) M := q_ireturn (show mj_ins 57 35 = some (.ireturn, 1) from rfl) rfl
-- 59: PerfectFerried$Reader.readInside(I)V
theorem w59_0 {x : Int} : wp X d 59 0 ((26, x) :: ls) st M Q ↔ wp X d 59 1 ((26, x) :: ls) ((26, x) :: st) M Q := q_aload_n (show mj_ins 59 0 = some (.aload_n 0, 1) from rfl) rfl rfl
theorem w59_1 {x : Int} : wp X d 59 1 ls ((26, x) :: st) M Q ↔ x ≠ 0 ∧ wp X d 59 4 ls ((0, hh M x 6) :: st) M Q := q_getfield (show mj_ins 59 1 = some (.getfield 27, 3) from rfl) rfl rfl rfl
theorem w59_4 {v0 w : mj_V} {x y : Int} : wp X d 59 4 (v0 :: (0, y) :: w :: ls) ((0, x) :: st) M Q ↔ wp X d 59 5 (v0 :: (0, y) :: (0, x) :: ls) st M Q := q_istore_n (show mj_ins 59 4 = some (.istore_n 2, 1) from rfl) (Nat.le_add_left 3 _) (mj_set_s (fun z hz => by cases hz; exact (show (0 : Nat) ≠ 1 by decide)))
theorem w59_5 {v0 : mj_V} {x : Int} : wp X d 59 5 (v0 :: (0, x) :: ls) st M Q ↔ wp X d 59 6 (v0 :: (0, x) :: ls) ((0, x) :: st) M Q := q_iload_n (show mj_ins 59 5 = some (.iload_n 1, 1) from rfl) rfl
theorem w59_6 : wp X d 59 6 ls st M Q ↔ wp X d 59 8 ls ((0, 8) :: st) M Q := q_bipush (show mj_ins 59 6 = some (.bipush 8, 2) from rfl) (by decide)
theorem w59_8 {x y : Int} : wp X d 59 8 ls ((0, y) :: (0, x) :: st) M Q ↔ if x < y then wp X d 59 17 ls st M Q else wp X d 59 11 ls st M Q := q_icmp_lt (show mj_ins 59 8 = some (.if_icmp .lt 9, 3) from rfl) rfl
theorem w59_11 {x : Int} : wp X d 59 11 ((26, x) :: ls) st M Q ↔ wp X d 59 12 ((26, x) :: ls) ((26, x) :: st) M Q := q_aload_n (show mj_ins 59 11 = some (.aload_n 0, 1) from rfl) rfl rfl
theorem w59_12 : wp X d 59 12 ls st M Q ↔ wp X d 59 13 ls ((0, 3) :: st) M Q := q_iconst (show mj_ins 59 12 = some (.iconst 3, 1) from rfl) (by decide)
theorem w59_13 {a0 a1 : Int} : wp X (d + 1) 59 13 ls ((0, a1) :: (26, a0) :: st) M Q ↔ (a0 ≠ 0 ∧ mj_cs st ≤ 8) ∧ wc X d 51 [(26, a0), (0, a1)] M (fun r M => wp X (d + 1) 59 16 ls (r.toList ++ st) M Q) := q_callV ⟨rfl, rfl⟩ (show mj_ins 59 13 = some (.invokevirtual 76, 3) from rfl) rfl rfl rfl (Nat.le_of_ble_eq_true rfl)
theorem w59_16 : wp X d 59 16 ls [] M Q ↔ Q none M := q_return (show mj_ins 59 16 = some (.return_, 1) from rfl) rfl
theorem w59_17 {x : Int} : wp X d 59 17 ((26, x) :: ls) st M Q ↔ wp X d 59 18 ((26, x) :: ls) ((26, x) :: st) M Q := q_aload_n (show mj_ins 59 17 = some (.aload_n 0, 1) from rfl) rfl rfl
theorem w59_18 {a0 : Int} : wp X (d + 1) 59 18 ls ((26, a0) :: st) M Q ↔ (a0 ≠ 0 ∧ mj_cs st ≤ 8) ∧ wc X d 29 [(26, a0)] M (fun r M => wp X (d + 1) 59 21 ls (r.toList ++ st) M Q) := q_callV ⟨rfl, rfl⟩ (show mj_ins 59 18 = some (.invokevirtual 69, 3) from rfl) rfl rfl rfl (Nat.le_of_ble_eq_true rfl)
theorem w59_21 {v0 v1 : mj_V} {x : Int} : wp X d 59 21 (v0 :: v1 :: (0, x) :: ls) st M Q ↔ wp X d 59 22 (v0 :: v1 :: (0, x) :: ls) ((0, x) :: st) M Q := q_iload_n (show mj_ins 59 21 = some (.iload_n 2, 1) from rfl) rfl
theorem w59_22 : wp X d 59 22 ls st M Q ↔ wp X d 59 24 ls ((0, 34) :: st) M Q := q_bipush (show mj_ins 59 22 = some (.bipush 34, 2) from rfl) (by decide)
theorem w59_24 {x y : Int} : wp X d 59 24 ls ((0, y) :: (0, x) :: st) M Q ↔ if x = y then wp X d 59 27 ls st M Q else wp X d 59 43 ls st M Q := q_icmp_ne (show mj_ins 59 24 = some (.if_icmp .ne 19, 3) from rfl) rfl
theorem w59_27 {x : Int} : wp X d 59 27 ((26, x) :: ls) st M Q ↔ wp X d 59 28 ((26, x) :: ls) ((26, x) :: st) M Q := q_aload_n (show mj_ins 59 27 = some (.aload_n 0, 1) from rfl) rfl rfl
theorem w59_28 {v0 : mj_V} {x : Int} : wp X d 59 28 (v0 :: (0, x) :: ls) st M Q ↔ wp X d 59 29 (v0 :: (0, x) :: ls) ((0, x) :: st) M Q := q_iload_n (show mj_ins 59 28 = some (.iload_n 1, 1) from rfl) rfl
theorem w59_29 : wp X d 59 29 ls st M Q ↔ wp X d 59 30 ls ((0, 1) :: st) M Q := q_iconst (show mj_ins 59 29 = some (.iconst 1, 1) from rfl) (by decide)
theorem w59_30 {x y : Int} : wp X d 59 30 ls ((0, y) :: (0, x) :: st) M Q ↔ wp X d 59 31 ls ((0, ji_add x y) :: st) M Q := q_iadd (show mj_ins 59 30 = some (.iadd, 1) from rfl)
theorem w59_31 {a0 a1 : Int} : wp X (d + 1) 59 31 ls ((0, a1) :: (26, a0) :: st) M Q ↔ (a0 ≠ 0 ∧ mj_cs st ≤ 8) ∧ wc X d 53 [(26, a0), (0, a1)] M (fun r M => wp X (d + 1) 59 34 ls (r.toList ++ st) M Q) := q_callV ⟨rfl, rfl⟩ (show mj_ins 59 31 = some (.invokevirtual 147, 3) from rfl) rfl rfl rfl (Nat.le_of_ble_eq_true rfl)
theorem w59_34 {x : Int} : wp X d 59 34 ((26, x) :: ls) st M Q ↔ wp X d 59 35 ((26, x) :: ls) ((26, x) :: st) M Q := q_aload_n (show mj_ins 59 34 = some (.aload_n 0, 1) from rfl) rfl rfl
theorem w59_35 : wp X d 59 35 ls st M Q ↔ wp X d 59 37 ls ((0, 35) :: st) M Q := q_bipush (show mj_ins 59 35 = some (.bipush 35, 2) from rfl) (by decide)
theorem w59_37 {a0 a1 : Int} : wp X (d + 1) 59 37 ls ((0, a1) :: (26, a0) :: st) M Q ↔ (a0 ≠ 0 ∧ mj_cs st ≤ 8) ∧ wc X d 60 [(26, a0), (0, a1)] M (fun r M => wp X (d + 1) 59 40 ls (r.toList ++ st) M Q) := q_callV ⟨rfl, rfl⟩ (show mj_ins 59 37 = some (.invokevirtual 140, 3) from rfl) rfl rfl rfl (Nat.le_of_ble_eq_true rfl)
theorem w59_40 : wp X d 59 40 ls st M Q ↔ wp X d 59 84 ls st M Q := q_goto (show mj_ins 59 40 = some (.goto 44, 3) from rfl) rfl
theorem w59_43 {v0 v1 : mj_V} {x : Int} : wp X d 59 43 (v0 :: v1 :: (0, x) :: ls) st M Q ↔ wp X d 59 44 (v0 :: v1 :: (0, x) :: ls) ((0, x) :: st) M Q := q_iload_n (show mj_ins 59 43 = some (.iload_n 2, 1) from rfl) rfl
theorem w59_44 : wp X d 59 44 ls st M Q ↔ wp X d 59 46 ls ((0, 19) :: st) M Q := q_bipush (show mj_ins 59 44 = some (.bipush 19, 2) from rfl) (by decide)
theorem w59_46 {x y : Int} : wp X d 59 46 ls ((0, y) :: (0, x) :: st) M Q ↔ if x = y then wp X d 59 49 ls st M Q else wp X d 59 59 ls st M Q := q_icmp_ne (show mj_ins 59 46 = some (.if_icmp .ne 13, 3) from rfl) rfl
theorem w59_49 {x : Int} : wp X d 59 49 ((26, x) :: ls) st M Q ↔ wp X d 59 50 ((26, x) :: ls) ((26, x) :: st) M Q := q_aload_n (show mj_ins 59 49 = some (.aload_n 0, 1) from rfl) rfl rfl
theorem w59_50 {v0 : mj_V} {x : Int} : wp X d 59 50 (v0 :: (0, x) :: ls) st M Q ↔ wp X d 59 51 (v0 :: (0, x) :: ls) ((0, x) :: st) M Q := q_iload_n (show mj_ins 59 50 = some (.iload_n 1, 1) from rfl) rfl
theorem w59_51 : wp X d 59 51 ls st M Q ↔ wp X d 59 52 ls ((0, 1) :: st) M Q := q_iconst (show mj_ins 59 51 = some (.iconst 1, 1) from rfl) (by decide)
theorem w59_52 {x y : Int} : wp X d 59 52 ls ((0, y) :: (0, x) :: st) M Q ↔ wp X d 59 53 ls ((0, ji_add x y) :: st) M Q := q_iadd (show mj_ins 59 52 = some (.iadd, 1) from rfl)
theorem w59_53 {a0 a1 : Int} : wp X (d + 1) 59 53 ls ((0, a1) :: (26, a0) :: st) M Q ↔ (a0 ≠ 0 ∧ mj_cs st ≤ 8) ∧ wc X d 61 [(26, a0), (0, a1)] M (fun r M => wp X (d + 1) 59 56 ls (r.toList ++ st) M Q) := q_callV ⟨rfl, rfl⟩ (show mj_ins 59 53 = some (.invokevirtual 167, 3) from rfl) rfl rfl rfl (Nat.le_of_ble_eq_true rfl)
theorem w59_56 : wp X d 59 56 ls st M Q ↔ wp X d 59 84 ls st M Q := q_goto (show mj_ins 59 56 = some (.goto 28, 3) from rfl) rfl
theorem w59_59 {x : Int} : wp X d 59 59 ((26, x) :: ls) st M Q ↔ wp X d 59 60 ((26, x) :: ls) ((26, x) :: st) M Q := q_aload_n (show mj_ins 59 59 = some (.aload_n 0, 1) from rfl) rfl rfl
theorem w59_60 {v0 : mj_V} {x : Int} : wp X d 59 60 (v0 :: (0, x) :: ls) st M Q ↔ wp X d 59 61 (v0 :: (0, x) :: ls) ((0, x) :: st) M Q := q_iload_n (show mj_ins 59 60 = some (.iload_n 1, 1) from rfl) rfl
theorem w59_61 : wp X d 59 61 ls st M Q ↔ wp X d 59 62 ls ((0, 1) :: st) M Q := q_iconst (show mj_ins 59 61 = some (.iconst 1, 1) from rfl) (by decide)
theorem w59_62 {x y : Int} : wp X d 59 62 ls ((0, y) :: (0, x) :: st) M Q ↔ wp X d 59 63 ls ((0, ji_add x y) :: st) M Q := q_iadd (show mj_ins 59 62 = some (.iadd, 1) from rfl)
theorem w59_63 {a0 a1 : Int} : wp X (d + 1) 59 63 ls ((0, a1) :: (26, a0) :: st) M Q ↔ (a0 ≠ 0 ∧ mj_cs st ≤ 8) ∧ wc X d 55 [(26, a0), (0, a1)] M (fun r M => wp X (d + 1) 59 66 ls (r.toList ++ st) M Q) := q_callV ⟨rfl, rfl⟩ (show mj_ins 59 63 = some (.invokevirtual 156, 3) from rfl) rfl rfl rfl (Nat.le_of_ble_eq_true rfl)
theorem w59_66 {x : Int} : wp X d 59 66 ((26, x) :: ls) st M Q ↔ wp X d 59 67 ((26, x) :: ls) ((26, x) :: st) M Q := q_aload_n (show mj_ins 59 66 = some (.aload_n 0, 1) from rfl) rfl rfl
theorem w59_67 {v0 v1 : mj_V} {x : Int} : wp X d 59 67 (v0 :: v1 :: (0, x) :: ls) st M Q ↔ wp X d 59 68 (v0 :: v1 :: (0, x) :: ls) ((0, x) :: st) M Q := q_iload_n (show mj_ins 59 67 = some (.iload_n 2, 1) from rfl) rfl
theorem w59_68 : wp X d 59 68 ls st M Q ↔ wp X d 59 70 ls ((0, 31) :: st) M Q := q_bipush (show mj_ins 59 68 = some (.bipush 31, 2) from rfl) (by decide)
theorem w59_70 {x y : Int} : wp X d 59 70 ls ((0, y) :: (0, x) :: st) M Q ↔ if x = y then wp X d 59 73 ls st M Q else wp X d 59 78 ls st M Q := q_icmp_ne (show mj_ins 59 70 = some (.if_icmp .ne 8, 3) from rfl) rfl
theorem w59_73 : wp X d 59 73 ls st M Q ↔ wp X d 59 75 ls ((0, 42) :: st) M Q := q_bipush (show mj_ins 59 73 = some (.bipush 42, 2) from rfl) (by decide)
theorem w59_75 : wp X d 59 75 ls st M Q ↔ wp X d 59 79 ls st M Q := q_goto (show mj_ins 59 75 = some (.goto 4, 3) from rfl) rfl
theorem w59_78 {v0 v1 : mj_V} {x : Int} : wp X d 59 78 (v0 :: v1 :: (0, x) :: ls) st M Q ↔ wp X d 59 79 (v0 :: v1 :: (0, x) :: ls) ((0, x) :: st) M Q := q_iload_n (show mj_ins 59 78 = some (.iload_n 2, 1) from rfl) rfl
theorem w59_79 : wp X d 59 79 ls st M Q ↔ wp X d 59 80 ls ((0, 0) :: st) M Q := q_iconst (show mj_ins 59 79 = some (.iconst 0, 1) from rfl) (by decide)
theorem w59_80 {a0 a1 a2 : Int} : wp X (d + 1) 59 80 ls ((0, a2) :: (0, a1) :: (26, a0) :: st) M Q ↔ (a0 ≠ 0 ∧ mj_cs st ≤ 8) ∧ wc X d 57 [(26, a0), (0, a1), (0, a2)] M (fun r M => wp X (d + 1) 59 83 ls (r.toList ++ st) M Q) := q_callV ⟨rfl, rfl⟩ (show mj_ins 59 80 = some (.invokevirtual 153, 3) from rfl) rfl rfl rfl (Nat.le_of_ble_eq_true rfl)
theorem w59_83 {x : Int} : wp X d 59 83 ls ((0, x) :: st) M Q ↔ wp X d 59 84 ls st M Q := q_pop (show mj_ins 59 83 = some (.pop, 1) from rfl) (show ¬ ((0 : Nat) = 1 ∨ (0 : Nat) = 9) by decide)
theorem w59_84 : wp X d 59 84 ls [] M Q ↔ Q none M := q_return (show mj_ins 59 84 = some (.return_, 1) from rfl) rfl
-- 60: PerfectFerried$Reader.expect(I)V
theorem w60_0 {x : Int} : wp X d 60 0 ((26, x) :: ls) st M Q ↔ wp X d 60 1 ((26, x) :: ls) ((26, x) :: st) M Q := q_aload_n (show mj_ins 60 0 = some (.aload_n 0, 1) from rfl) rfl rfl
theorem w60_1 {x : Int} : wp X d 60 1 ls ((26, x) :: st) M Q ↔ x ≠ 0 ∧ wp X d 60 4 ls ((0, hh M x 6) :: st) M Q := q_getfield (show mj_ins 60 1 = some (.getfield 27, 3) from rfl) rfl rfl rfl
theorem w60_4 {v0 : mj_V} {x : Int} : wp X d 60 4 (v0 :: (0, x) :: ls) st M Q ↔ wp X d 60 5 (v0 :: (0, x) :: ls) ((0, x) :: st) M Q := q_iload_n (show mj_ins 60 4 = some (.iload_n 1, 1) from rfl) rfl
theorem w60_5 {x y : Int} : wp X d 60 5 ls ((0, y) :: (0, x) :: st) M Q ↔ if x = y then wp X d 60 8 ls st M Q else wp X d 60 15 ls st M Q := q_icmp_ne (show mj_ins 60 5 = some (.if_icmp .ne 10, 3) from rfl) rfl
theorem w60_8 {x : Int} : wp X d 60 8 ((26, x) :: ls) st M Q ↔ wp X d 60 9 ((26, x) :: ls) ((26, x) :: st) M Q := q_aload_n (show mj_ins 60 8 = some (.aload_n 0, 1) from rfl) rfl rfl
theorem w60_9 {a0 : Int} : wp X (d + 1) 60 9 ls ((26, a0) :: st) M Q ↔ (a0 ≠ 0 ∧ mj_cs st ≤ 8) ∧ wc X d 29 [(26, a0)] M (fun r M => wp X (d + 1) 60 12 ls (r.toList ++ st) M Q) := q_callV ⟨rfl, rfl⟩ (show mj_ins 60 9 = some (.invokevirtual 69, 3) from rfl) rfl rfl rfl (Nat.le_of_ble_eq_true rfl)
theorem w60_12 : wp X d 60 12 ls st M Q ↔ wp X d 60 20 ls st M Q := q_goto (show mj_ins 60 12 = some (.goto 8, 3) from rfl) rfl
theorem w60_15 {x : Int} : wp X d 60 15 ((26, x) :: ls) st M Q ↔ wp X d 60 16 ((26, x) :: ls) ((26, x) :: st) M Q := q_aload_n (show mj_ins 60 15 = some (.aload_n 0, 1) from rfl) rfl rfl
theorem w60_16 : wp X d 60 16 ls st M Q ↔ wp X d 60 17 ls ((0, 1) :: st) M Q := q_iconst (show mj_ins 60 16 = some (.iconst 1, 1) from rfl) (by decide)
theorem w60_17 {a0 a1 : Int} : wp X (d + 1) 60 17 ls ((0, a1) :: (26, a0) :: st) M Q ↔ (a0 ≠ 0 ∧ mj_cs st ≤ 8) ∧ wc X d 51 [(26, a0), (0, a1)] M (fun r M => wp X (d + 1) 60 20 ls (r.toList ++ st) M Q) := q_callV ⟨rfl, rfl⟩ (show mj_ins 60 17 = some (.invokevirtual 76, 3) from rfl) rfl rfl rfl (Nat.le_of_ble_eq_true rfl)
theorem w60_20 : wp X d 60 20 ls [] M Q ↔ Q none M := q_return (show mj_ins 60 20 = some (.return_, 1) from rfl) rfl
-- 61: PerfectFerried$Reader.readIf(I)V
theorem w61_0 {x : Int} : wp X d 61 0 ((26, x) :: ls) st M Q ↔ wp X d 61 1 ((26, x) :: ls) ((26, x) :: st) M Q := q_aload_n (show mj_ins 61 0 = some (.aload_n 0, 1) from rfl) rfl rfl
theorem w61_1 {v0 : mj_V} {x : Int} : wp X d 61 1 (v0 :: (0, x) :: ls) st M Q ↔ wp X d 61 2 (v0 :: (0, x) :: ls) ((0, x) :: st) M Q := q_iload_n (show mj_ins 61 1 = some (.iload_n 1, 1) from rfl) rfl
theorem w61_2 {a0 a1 : Int} : wp X (d + 1) 61 2 ls ((0, a1) :: (26, a0) :: st) M Q ↔ (a0 ≠ 0 ∧ mj_cs st ≤ 8) ∧ wc X d 62 [(26, a0), (0, a1)] M (fun r M => wp X (d + 1) 61 5 ls (r.toList ++ st) M Q) := q_callV ⟨rfl, rfl⟩ (show mj_ins 61 2 = some (.invokevirtual 170, 3) from rfl) rfl rfl rfl (Nat.le_of_ble_eq_true rfl)
theorem w61_5 {x : Int} : wp X d 61 5 ((26, x) :: ls) st M Q ↔ wp X d 61 6 ((26, x) :: ls) ((26, x) :: st) M Q := q_aload_n (show mj_ins 61 5 = some (.aload_n 0, 1) from rfl) rfl rfl
theorem w61_6 : wp X d 61 6 ls st M Q ↔ wp X d 61 8 ls ((0, 20) :: st) M Q := q_bipush (show mj_ins 61 6 = some (.bipush 20, 2) from rfl) (by decide)
theorem w61_8 {a0 a1 : Int} : wp X (d + 1) 61 8 ls ((0, a1) :: (26, a0) :: st) M Q ↔ (a0 ≠ 0 ∧ mj_cs st ≤ 8) ∧ wc X d 60 [(26, a0), (0, a1)] M (fun r M => wp X (d + 1) 61 11 ls (r.toList ++ st) M Q) := q_callV ⟨rfl, rfl⟩ (show mj_ins 61 8 = some (.invokevirtual 140, 3) from rfl) rfl rfl rfl (Nat.le_of_ble_eq_true rfl)
theorem w61_11 {x : Int} : wp X d 61 11 ((26, x) :: ls) st M Q ↔ wp X d 61 12 ((26, x) :: ls) ((26, x) :: st) M Q := q_aload_n (show mj_ins 61 11 = some (.aload_n 0, 1) from rfl) rfl rfl
theorem w61_12 : wp X d 61 12 ls st M Q ↔ wp X d 61 14 ls ((0, 20) :: st) M Q := q_bipush (show mj_ins 61 12 = some (.bipush 20, 2) from rfl) (by decide)
theorem w61_14 : wp X d 61 14 ls st M Q ↔ wp X d 61 15 ls ((0, 0) :: st) M Q := q_iconst (show mj_ins 61 14 = some (.iconst 0, 1) from rfl) (by decide)
theorem w61_15 {a0 a1 a2 : Int} : wp X (d + 1) 61 15 ls ((0, a2) :: (0, a1) :: (26, a0) :: st) M Q ↔ (a0 ≠ 0 ∧ mj_cs st ≤ 8) ∧ wc X d 57 [(26, a0), (0, a1), (0, a2)] M (fun r M => wp X (d + 1) 61 18 ls (r.toList ++ st) M Q) := q_callV ⟨rfl, rfl⟩ (show mj_ins 61 15 = some (.invokevirtual 153, 3) from rfl) rfl rfl rfl (Nat.le_of_ble_eq_true rfl)
theorem w61_18 {v0 w : mj_V} {x y : Int} : wp X d 61 18 (v0 :: (0, y) :: w :: ls) ((0, x) :: st) M Q ↔ wp X d 61 19 (v0 :: (0, y) :: (0, x) :: ls) st M Q := q_istore_n (show mj_ins 61 18 = some (.istore_n 2, 1) from rfl) (Nat.le_add_left 3 _) (mj_set_s (fun z hz => by cases hz; exact (show (0 : Nat) ≠ 1 by decide)))
theorem w61_19 {x : Int} : wp X d 61 19 ((26, x) :: ls) st M Q ↔ wp X d 61 20 ((26, x) :: ls) ((26, x) :: st) M Q := q_aload_n (show mj_ins 61 19 = some (.aload_n 0, 1) from rfl) rfl rfl
theorem w61_20 {v0 : mj_V} {x : Int} : wp X d 61 20 (v0 :: (0, x) :: ls) st M Q ↔ wp X d 61 21 (v0 :: (0, x) :: ls) ((0, x) :: st) M Q := q_iload_n (show mj_ins 61 20 = some (.iload_n 1, 1) from rfl) rfl
theorem w61_21 {a0 a1 : Int} : wp X (d + 1) 61 21 ls ((0, a1) :: (26, a0) :: st) M Q ↔ (a0 ≠ 0 ∧ mj_cs st ≤ 8) ∧ wc X d 53 [(26, a0), (0, a1)] M (fun r M => wp X (d + 1) 61 24 ls (r.toList ++ st) M Q) := q_callV ⟨rfl, rfl⟩ (show mj_ins 61 21 = some (.invokevirtual 147, 3) from rfl) rfl rfl rfl (Nat.le_of_ble_eq_true rfl)
theorem w61_24 {x : Int} : wp X d 61 24 ((26, x) :: ls) st M Q ↔ wp X d 61 25 ((26, x) :: ls) ((26, x) :: st) M Q := q_aload_n (show mj_ins 61 24 = some (.aload_n 0, 1) from rfl) rfl rfl
theorem w61_25 : wp X d 61 25 ls st M Q ↔ wp X d 61 27 ls ((0, 21) :: st) M Q := q_bipush (show mj_ins 61 25 = some (.bipush 21, 2) from rfl) (by decide)
theorem w61_27 {a0 a1 : Int} : wp X (d + 1) 61 27 ls ((0, a1) :: (26, a0) :: st) M Q ↔ (a0 ≠ 0 ∧ mj_cs st ≤ 8) ∧ wc X d 60 [(26, a0), (0, a1)] M (fun r M => wp X (d + 1) 61 30 ls (r.toList ++ st) M Q) := q_callV ⟨rfl, rfl⟩ (show mj_ins 61 27 = some (.invokevirtual 140, 3) from rfl) rfl rfl rfl (Nat.le_of_ble_eq_true rfl)
theorem w61_30 {x : Int} : wp X d 61 30 ((26, x) :: ls) st M Q ↔ wp X d 61 31 ((26, x) :: ls) ((26, x) :: st) M Q := q_aload_n (show mj_ins 61 30 = some (.aload_n 0, 1) from rfl) rfl rfl
theorem w61_31 : wp X d 61 31 ls st M Q ↔ wp X d 61 33 ls ((0, 21) :: st) M Q := q_bipush (show mj_ins 61 31 = some (.bipush 21, 2) from rfl) (by decide)
theorem w61_33 : wp X d 61 33 ls st M Q ↔ wp X d 61 34 ls ((0, 0) :: st) M Q := q_iconst (show mj_ins 61 33 = some (.iconst 0, 1) from rfl) (by decide)
theorem w61_34 {a0 a1 a2 : Int} : wp X (d + 1) 61 34 ls ((0, a2) :: (0, a1) :: (26, a0) :: st) M Q ↔ (a0 ≠ 0 ∧ mj_cs st ≤ 8) ∧ wc X d 57 [(26, a0), (0, a1), (0, a2)] M (fun r M => wp X (d + 1) 61 37 ls (r.toList ++ st) M Q) := q_callV ⟨rfl, rfl⟩ (show mj_ins 61 34 = some (.invokevirtual 153, 3) from rfl) rfl rfl rfl (Nat.le_of_ble_eq_true rfl)
theorem w61_37 {v0 v1 w : mj_V} {x y : Int} : wp X d 61 37 (v0 :: v1 :: (0, y) :: w :: ls) ((0, x) :: st) M Q ↔ wp X d 61 38 (v0 :: v1 :: (0, y) :: (0, x) :: ls) st M Q := q_istore_n (show mj_ins 61 37 = some (.istore_n 3, 1) from rfl) (Nat.le_add_left 4 _) (mj_set_s (fun z hz => by cases hz; exact (show (0 : Nat) ≠ 1 by decide)))
theorem w61_38 {x : Int} : wp X d 61 38 ((26, x) :: ls) st M Q ↔ wp X d 61 39 ((26, x) :: ls) ((26, x) :: st) M Q := q_aload_n (show mj_ins 61 38 = some (.aload_n 0, 1) from rfl) rfl rfl
theorem w61_39 {v0 v1 : mj_V} {x : Int} : wp X d 61 39 (v0 :: v1 :: (0, x) :: ls) st M Q ↔ wp X d 61 40 (v0 :: v1 :: (0, x) :: ls) ((0, x) :: st) M Q := q_iload_n (show mj_ins 61 39 = some (.iload_n 2, 1) from rfl) rfl
theorem w61_40 {a0 a1 : Int} : wp X (d + 1) 61 40 ls ((0, a1) :: (26, a0) :: st) M Q ↔ (a0 ≠ 0 ∧ mj_cs st ≤ 8) ∧ wc X d 65 [(26, a0), (0, a1)] M (fun r M => wp X (d + 1) 61 43 ls (r.toList ++ st) M Q) := q_callV ⟨rfl, rfl⟩ (show mj_ins 61 40 = some (.invokevirtual 173, 3) from rfl) rfl rfl rfl (Nat.le_of_ble_eq_true rfl)
theorem w61_43 {x : Int} : wp X d 61 43 ((26, x) :: ls) st M Q ↔ wp X d 61 44 ((26, x) :: ls) ((26, x) :: st) M Q := q_aload_n (show mj_ins 61 43 = some (.aload_n 0, 1) from rfl) rfl rfl
theorem w61_44 {v0 : mj_V} {x : Int} : wp X d 61 44 (v0 :: (0, x) :: ls) st M Q ↔ wp X d 61 45 (v0 :: (0, x) :: ls) ((0, x) :: st) M Q := q_iload_n (show mj_ins 61 44 = some (.iload_n 1, 1) from rfl) rfl
theorem w61_45 {a0 a1 : Int} : wp X (d + 1) 61 45 ls ((0, a1) :: (26, a0) :: st) M Q ↔ (a0 ≠ 0 ∧ mj_cs st ≤ 8) ∧ wc X d 53 [(26, a0), (0, a1)] M (fun r M => wp X (d + 1) 61 48 ls (r.toList ++ st) M Q) := q_callV ⟨rfl, rfl⟩ (show mj_ins 61 45 = some (.invokevirtual 147, 3) from rfl) rfl rfl rfl (Nat.le_of_ble_eq_true rfl)
theorem w61_48 {x : Int} : wp X d 61 48 ((26, x) :: ls) st M Q ↔ wp X d 61 49 ((26, x) :: ls) ((26, x) :: st) M Q := q_aload_n (show mj_ins 61 48 = some (.aload_n 0, 1) from rfl) rfl rfl
theorem w61_49 : wp X d 61 49 ls st M Q ↔ wp X d 61 51 ls ((0, 22) :: st) M Q := q_bipush (show mj_ins 61 49 = some (.bipush 22, 2) from rfl) (by decide)
theorem w61_51 {a0 a1 : Int} : wp X (d + 1) 61 51 ls ((0, a1) :: (26, a0) :: st) M Q ↔ (a0 ≠ 0 ∧ mj_cs st ≤ 8) ∧ wc X d 60 [(26, a0), (0, a1)] M (fun r M => wp X (d + 1) 61 54 ls (r.toList ++ st) M Q) := q_callV ⟨rfl, rfl⟩ (show mj_ins 61 51 = some (.invokevirtual 140, 3) from rfl) rfl rfl rfl (Nat.le_of_ble_eq_true rfl)
theorem w61_54 {x : Int} : wp X d 61 54 ((26, x) :: ls) st M Q ↔ wp X d 61 55 ((26, x) :: ls) ((26, x) :: st) M Q := q_aload_n (show mj_ins 61 54 = some (.aload_n 0, 1) from rfl) rfl rfl
theorem w61_55 {v0 v1 v2 : mj_V} {x : Int} : wp X d 61 55 (v0 :: v1 :: v2 :: (0, x) :: ls) st M Q ↔ wp X d 61 56 (v0 :: v1 :: v2 :: (0, x) :: ls) ((0, x) :: st) M Q := q_iload_n (show mj_ins 61 55 = some (.iload_n 3, 1) from rfl) rfl
theorem w61_56 {a0 a1 : Int} : wp X (d + 1) 61 56 ls ((0, a1) :: (26, a0) :: st) M Q ↔ (a0 ≠ 0 ∧ mj_cs st ≤ 8) ∧ wc X d 65 [(26, a0), (0, a1)] M (fun r M => wp X (d + 1) 61 59 ls (r.toList ++ st) M Q) := q_callV ⟨rfl, rfl⟩ (show mj_ins 61 56 = some (.invokevirtual 173, 3) from rfl) rfl rfl rfl (Nat.le_of_ble_eq_true rfl)
theorem w61_59 : wp X d 61 59 ls [] M Q ↔ Q none M := q_return (show mj_ins 61 59 = some (.return_, 1) from rfl) rfl
-- 62: PerfectFerried$Reader.readEither(I)V
theorem w62_0 {x : Int} : wp X d 62 0 ((26, x) :: ls) st M Q ↔ wp X d 62 1 ((26, x) :: ls) ((26, x) :: st) M Q := q_aload_n (show mj_ins 62 0 = some (.aload_n 0, 1) from rfl) rfl rfl
theorem w62_1 {v0 : mj_V} {x : Int} : wp X d 62 1 (v0 :: (0, x) :: ls) st M Q ↔ wp X d 62 2 (v0 :: (0, x) :: ls) ((0, x) :: st) M Q := q_iload_n (show mj_ins 62 1 = some (.iload_n 1, 1) from rfl) rfl
theorem w62_2 {a0 a1 : Int} : wp X (d + 1) 62 2 ls ((0, a1) :: (26, a0) :: st) M Q ↔ (a0 ≠ 0 ∧ mj_cs st ≤ 8) ∧ wc X d 63 [(26, a0), (0, a1)] M (fun r M => wp X (d + 1) 62 5 ls (r.toList ++ st) M Q) := q_callV ⟨rfl, rfl⟩ (show mj_ins 62 2 = some (.invokevirtual 176, 3) from rfl) rfl rfl rfl (Nat.le_of_ble_eq_true rfl)
theorem w62_5 : wp X d 62 5 ls st M Q ↔ wp X d 62 6 ls ((0, 0) :: st) M Q := q_iconst (show mj_ins 62 5 = some (.iconst 0, 1) from rfl) (by decide)
theorem w62_6 {v0 w : mj_V} {x y : Int} : wp X d 62 6 (v0 :: (0, y) :: w :: ls) ((0, x) :: st) M Q ↔ wp X d 62 7 (v0 :: (0, y) :: (0, x) :: ls) st M Q := q_istore_n (show mj_ins 62 6 = some (.istore_n 2, 1) from rfl) (Nat.le_add_left 3 _) (mj_set_s (fun z hz => by cases hz; exact (show (0 : Nat) ≠ 1 by decide)))
theorem w62_7 {v0 v1 : mj_V} {x : Int} : wp X d 62 7 (v0 :: v1 :: (0, x) :: ls) st M Q ↔ wp X d 62 8 (v0 :: v1 :: (0, x) :: ls) ((0, x) :: st) M Q := q_iload_n (show mj_ins 62 7 = some (.iload_n 2, 1) from rfl) rfl
theorem w62_8 : wp X d 62 8 ls st M Q ↔ wp X d 62 11 ls ((0, 300) :: st) M Q := q_sipush (show mj_ins 62 8 = some (.sipush 300, 3) from rfl) (by decide)
theorem w62_11 {x y : Int} : wp X d 62 11 ls ((0, y) :: (0, x) :: st) M Q ↔ if x < y then wp X d 62 14 ls st M Q else wp X d 62 46 ls st M Q := q_icmp_ge (show mj_ins 62 11 = some (.if_icmp .ge 35, 3) from rfl) rfl
theorem w62_14 {x : Int} : wp X d 62 14 ((26, x) :: ls) st M Q ↔ wp X d 62 15 ((26, x) :: ls) ((26, x) :: st) M Q := q_aload_n (show mj_ins 62 14 = some (.aload_n 0, 1) from rfl) rfl rfl
theorem w62_15 {x : Int} : wp X d 62 15 ls ((26, x) :: st) M Q ↔ x ≠ 0 ∧ wp X d 62 18 ls ((0, hh M x 6) :: st) M Q := q_getfield (show mj_ins 62 15 = some (.getfield 27, 3) from rfl) rfl rfl rfl
theorem w62_18 : wp X d 62 18 ls st M Q ↔ wp X d 62 20 ls ((0, 23) :: st) M Q := q_bipush (show mj_ins 62 18 = some (.bipush 23, 2) from rfl) (by decide)
theorem w62_20 {x y : Int} : wp X d 62 20 ls ((0, y) :: (0, x) :: st) M Q ↔ if x = y then wp X d 62 23 ls st M Q else wp X d 62 46 ls st M Q := q_icmp_ne (show mj_ins 62 20 = some (.if_icmp .ne 26, 3) from rfl) rfl
theorem w62_23 {x : Int} : wp X d 62 23 ((26, x) :: ls) st M Q ↔ wp X d 62 24 ((26, x) :: ls) ((26, x) :: st) M Q := q_aload_n (show mj_ins 62 23 = some (.aload_n 0, 1) from rfl) rfl rfl
theorem w62_24 {a0 : Int} : wp X (d + 1) 62 24 ls ((26, a0) :: st) M Q ↔ (a0 ≠ 0 ∧ mj_cs st ≤ 8) ∧ wc X d 29 [(26, a0)] M (fun r M => wp X (d + 1) 62 27 ls (r.toList ++ st) M Q) := q_callV ⟨rfl, rfl⟩ (show mj_ins 62 24 = some (.invokevirtual 69, 3) from rfl) rfl rfl rfl (Nat.le_of_ble_eq_true rfl)
theorem w62_27 {x : Int} : wp X d 62 27 ((26, x) :: ls) st M Q ↔ wp X d 62 28 ((26, x) :: ls) ((26, x) :: st) M Q := q_aload_n (show mj_ins 62 27 = some (.aload_n 0, 1) from rfl) rfl rfl
theorem w62_28 {v0 : mj_V} {x : Int} : wp X d 62 28 (v0 :: (0, x) :: ls) st M Q ↔ wp X d 62 29 (v0 :: (0, x) :: ls) ((0, x) :: st) M Q := q_iload_n (show mj_ins 62 28 = some (.iload_n 1, 1) from rfl) rfl
theorem w62_29 {a0 a1 : Int} : wp X (d + 1) 62 29 ls ((0, a1) :: (26, a0) :: st) M Q ↔ (a0 ≠ 0 ∧ mj_cs st ≤ 8) ∧ wc X d 63 [(26, a0), (0, a1)] M (fun r M => wp X (d + 1) 62 32 ls (r.toList ++ st) M Q) := q_callV ⟨rfl, rfl⟩ (show mj_ins 62 29 = some (.invokevirtual 176, 3) from rfl) rfl rfl rfl (Nat.le_of_ble_eq_true rfl)
theorem w62_32 {x : Int} : wp X d 62 32 ((26, x) :: ls) st M Q ↔ wp X d 62 33 ((26, x) :: ls) ((26, x) :: st) M Q := q_aload_n (show mj_ins 62 32 = some (.aload_n 0, 1) from rfl) rfl rfl
theorem w62_33 : wp X d 62 33 ls st M Q ↔ wp X d 62 35 ls ((0, 23) :: st) M Q := q_bipush (show mj_ins 62 33 = some (.bipush 23, 2) from rfl) (by decide)
theorem w62_35 : wp X d 62 35 ls st M Q ↔ wp X d 62 36 ls ((0, 0) :: st) M Q := q_iconst (show mj_ins 62 35 = some (.iconst 0, 1) from rfl) (by decide)
theorem w62_36 {a0 a1 a2 : Int} : wp X (d + 1) 62 36 ls ((0, a2) :: (0, a1) :: (26, a0) :: st) M Q ↔ (a0 ≠ 0 ∧ mj_cs st ≤ 8) ∧ wc X d 57 [(26, a0), (0, a1), (0, a2)] M (fun r M => wp X (d + 1) 62 39 ls (r.toList ++ st) M Q) := q_callV ⟨rfl, rfl⟩ (show mj_ins 62 36 = some (.invokevirtual 153, 3) from rfl) rfl rfl rfl (Nat.le_of_ble_eq_true rfl)
theorem w62_39 {x : Int} : wp X d 62 39 ls ((0, x) :: st) M Q ↔ wp X d 62 40 ls st M Q := q_pop (show mj_ins 62 39 = some (.pop, 1) from rfl) (show ¬ ((0 : Nat) = 1 ∨ (0 : Nat) = 9) by decide)
theorem w62_40 {v0 : mj_V} {x y : Int} : wp X d 62 40 (v0 :: (0, y) :: (0, x) :: ls) st M Q ↔ wp X d 62 43 (v0 :: (0, y) :: (0, ji_add x 1) :: ls) st M Q := q_iinc (show mj_ins 62 40 = some (.iinc 2 1, 3) from rfl) rfl (mj_set_s (fun z hz => by cases hz; exact (show (0 : Nat) ≠ 1 by decide)))
theorem w62_43 : wp X d 62 43 ls st M Q ↔ wp X d 62 7 ls st M Q := q_goto (show mj_ins 62 43 = some (.goto (-36), 3) from rfl) rfl
theorem w62_46 : wp X d 62 46 ls [] M Q ↔ Q none M := q_return (show mj_ins 62 46 = some (.return_, 1) from rfl) rfl
-- 63: PerfectFerried$Reader.readBoth(I)V
theorem w63_0 {x : Int} : wp X d 63 0 ((26, x) :: ls) st M Q ↔ wp X d 63 1 ((26, x) :: ls) ((26, x) :: st) M Q := q_aload_n (show mj_ins 63 0 = some (.aload_n 0, 1) from rfl) rfl rfl
theorem w63_1 {v0 : mj_V} {x : Int} : wp X d 63 1 (v0 :: (0, x) :: ls) st M Q ↔ wp X d 63 2 (v0 :: (0, x) :: ls) ((0, x) :: st) M Q := q_iload_n (show mj_ins 63 1 = some (.iload_n 1, 1) from rfl) rfl
theorem w63_2 {a0 a1 : Int} : wp X (d + 1) 63 2 ls ((0, a1) :: (26, a0) :: st) M Q ↔ (a0 ≠ 0 ∧ mj_cs st ≤ 8) ∧ wc X d 64 [(26, a0), (0, a1)] M (fun r M => wp X (d + 1) 63 5 ls (r.toList ++ st) M Q) := q_callV ⟨rfl, rfl⟩ (show mj_ins 63 2 = some (.invokevirtual 179, 3) from rfl) rfl rfl rfl (Nat.le_of_ble_eq_true rfl)
theorem w63_5 : wp X d 63 5 ls st M Q ↔ wp X d 63 6 ls ((0, 0) :: st) M Q := q_iconst (show mj_ins 63 5 = some (.iconst 0, 1) from rfl) (by decide)
theorem w63_6 {v0 w : mj_V} {x y : Int} : wp X d 63 6 (v0 :: (0, y) :: w :: ls) ((0, x) :: st) M Q ↔ wp X d 63 7 (v0 :: (0, y) :: (0, x) :: ls) st M Q := q_istore_n (show mj_ins 63 6 = some (.istore_n 2, 1) from rfl) (Nat.le_add_left 3 _) (mj_set_s (fun z hz => by cases hz; exact (show (0 : Nat) ≠ 1 by decide)))
theorem w63_7 {v0 v1 : mj_V} {x : Int} : wp X d 63 7 (v0 :: v1 :: (0, x) :: ls) st M Q ↔ wp X d 63 8 (v0 :: v1 :: (0, x) :: ls) ((0, x) :: st) M Q := q_iload_n (show mj_ins 63 7 = some (.iload_n 2, 1) from rfl) rfl
theorem w63_8 : wp X d 63 8 ls st M Q ↔ wp X d 63 11 ls ((0, 300) :: st) M Q := q_sipush (show mj_ins 63 8 = some (.sipush 300, 3) from rfl) (by decide)
theorem w63_11 {x y : Int} : wp X d 63 11 ls ((0, y) :: (0, x) :: st) M Q ↔ if x < y then wp X d 63 14 ls st M Q else wp X d 63 46 ls st M Q := q_icmp_ge (show mj_ins 63 11 = some (.if_icmp .ge 35, 3) from rfl) rfl
theorem w63_14 {x : Int} : wp X d 63 14 ((26, x) :: ls) st M Q ↔ wp X d 63 15 ((26, x) :: ls) ((26, x) :: st) M Q := q_aload_n (show mj_ins 63 14 = some (.aload_n 0, 1) from rfl) rfl rfl
theorem w63_15 {x : Int} : wp X d 63 15 ls ((26, x) :: st) M Q ↔ x ≠ 0 ∧ wp X d 63 18 ls ((0, hh M x 6) :: st) M Q := q_getfield (show mj_ins 63 15 = some (.getfield 27, 3) from rfl) rfl rfl rfl
theorem w63_18 : wp X d 63 18 ls st M Q ↔ wp X d 63 20 ls ((0, 24) :: st) M Q := q_bipush (show mj_ins 63 18 = some (.bipush 24, 2) from rfl) (by decide)
theorem w63_20 {x y : Int} : wp X d 63 20 ls ((0, y) :: (0, x) :: st) M Q ↔ if x = y then wp X d 63 23 ls st M Q else wp X d 63 46 ls st M Q := q_icmp_ne (show mj_ins 63 20 = some (.if_icmp .ne 26, 3) from rfl) rfl
theorem w63_23 {x : Int} : wp X d 63 23 ((26, x) :: ls) st M Q ↔ wp X d 63 24 ((26, x) :: ls) ((26, x) :: st) M Q := q_aload_n (show mj_ins 63 23 = some (.aload_n 0, 1) from rfl) rfl rfl
theorem w63_24 {a0 : Int} : wp X (d + 1) 63 24 ls ((26, a0) :: st) M Q ↔ (a0 ≠ 0 ∧ mj_cs st ≤ 8) ∧ wc X d 29 [(26, a0)] M (fun r M => wp X (d + 1) 63 27 ls (r.toList ++ st) M Q) := q_callV ⟨rfl, rfl⟩ (show mj_ins 63 24 = some (.invokevirtual 69, 3) from rfl) rfl rfl rfl (Nat.le_of_ble_eq_true rfl)
theorem w63_27 {x : Int} : wp X d 63 27 ((26, x) :: ls) st M Q ↔ wp X d 63 28 ((26, x) :: ls) ((26, x) :: st) M Q := q_aload_n (show mj_ins 63 27 = some (.aload_n 0, 1) from rfl) rfl rfl
theorem w63_28 {v0 : mj_V} {x : Int} : wp X d 63 28 (v0 :: (0, x) :: ls) st M Q ↔ wp X d 63 29 (v0 :: (0, x) :: ls) ((0, x) :: st) M Q := q_iload_n (show mj_ins 63 28 = some (.iload_n 1, 1) from rfl) rfl
theorem w63_29 {a0 a1 : Int} : wp X (d + 1) 63 29 ls ((0, a1) :: (26, a0) :: st) M Q ↔ (a0 ≠ 0 ∧ mj_cs st ≤ 8) ∧ wc X d 64 [(26, a0), (0, a1)] M (fun r M => wp X (d + 1) 63 32 ls (r.toList ++ st) M Q) := q_callV ⟨rfl, rfl⟩ (show mj_ins 63 29 = some (.invokevirtual 179, 3) from rfl) rfl rfl rfl (Nat.le_of_ble_eq_true rfl)
theorem w63_32 {x : Int} : wp X d 63 32 ((26, x) :: ls) st M Q ↔ wp X d 63 33 ((26, x) :: ls) ((26, x) :: st) M Q := q_aload_n (show mj_ins 63 32 = some (.aload_n 0, 1) from rfl) rfl rfl
theorem w63_33 : wp X d 63 33 ls st M Q ↔ wp X d 63 35 ls ((0, 24) :: st) M Q := q_bipush (show mj_ins 63 33 = some (.bipush 24, 2) from rfl) (by decide)
theorem w63_35 : wp X d 63 35 ls st M Q ↔ wp X d 63 36 ls ((0, 0) :: st) M Q := q_iconst (show mj_ins 63 35 = some (.iconst 0, 1) from rfl) (by decide)
theorem w63_36 {a0 a1 a2 : Int} : wp X (d + 1) 63 36 ls ((0, a2) :: (0, a1) :: (26, a0) :: st) M Q ↔ (a0 ≠ 0 ∧ mj_cs st ≤ 8) ∧ wc X d 57 [(26, a0), (0, a1), (0, a2)] M (fun r M => wp X (d + 1) 63 39 ls (r.toList ++ st) M Q) := q_callV ⟨rfl, rfl⟩ (show mj_ins 63 36 = some (.invokevirtual 153, 3) from rfl) rfl rfl rfl (Nat.le_of_ble_eq_true rfl)
theorem w63_39 {x : Int} : wp X d 63 39 ls ((0, x) :: st) M Q ↔ wp X d 63 40 ls st M Q := q_pop (show mj_ins 63 39 = some (.pop, 1) from rfl) (show ¬ ((0 : Nat) = 1 ∨ (0 : Nat) = 9) by decide)
theorem w63_40 {v0 : mj_V} {x y : Int} : wp X d 63 40 (v0 :: (0, y) :: (0, x) :: ls) st M Q ↔ wp X d 63 43 (v0 :: (0, y) :: (0, ji_add x 1) :: ls) st M Q := q_iinc (show mj_ins 63 40 = some (.iinc 2 1, 3) from rfl) rfl (mj_set_s (fun z hz => by cases hz; exact (show (0 : Nat) ≠ 1 by decide)))
theorem w63_43 : wp X d 63 43 ls st M Q ↔ wp X d 63 7 ls st M Q := q_goto (show mj_ins 63 43 = some (.goto (-36), 3) from rfl) rfl
theorem w63_46 : wp X d 63 46 ls [] M Q ↔ Q none M := q_return (show mj_ins 63 46 = some (.return_, 1) from rfl) rfl
-- 64: PerfectFerried$Reader.readAsk(I)V
theorem w64_0 {x : Int} : wp X d 64 0 ((26, x) :: ls) st M Q ↔ wp X d 64 1 ((26, x) :: ls) ((26, x) :: st) M Q := q_aload_n (show mj_ins 64 0 = some (.aload_n 0, 1) from rfl) rfl rfl
theorem w64_1 {x : Int} : wp X d 64 1 ls ((26, x) :: st) M Q ↔ x ≠ 0 ∧ wp X d 64 4 ls ((0, hh M x 6) :: st) M Q := q_getfield (show mj_ins 64 1 = some (.getfield 27, 3) from rfl) rfl rfl rfl
theorem w64_4 : wp X d 64 4 ls st M Q ↔ wp X d 64 6 ls ((0, 25) :: st) M Q := q_bipush (show mj_ins 64 4 = some (.bipush 25, 2) from rfl) (by decide)
theorem w64_6 {x y : Int} : wp X d 64 6 ls ((0, y) :: (0, x) :: st) M Q ↔ if x = y then wp X d 64 9 ls st M Q else wp X d 64 41 ls st M Q := q_icmp_ne (show mj_ins 64 6 = some (.if_icmp .ne 35, 3) from rfl) rfl
theorem w64_9 {v0 : mj_V} {x : Int} : wp X d 64 9 (v0 :: (0, x) :: ls) st M Q ↔ wp X d 64 10 (v0 :: (0, x) :: ls) ((0, x) :: st) M Q := q_iload_n (show mj_ins 64 9 = some (.iload_n 1, 1) from rfl) rfl
theorem w64_10 : wp X d 64 10 ls st M Q ↔ wp X d 64 12 ls ((0, 8) :: st) M Q := q_bipush (show mj_ins 64 10 = some (.bipush 8, 2) from rfl) (by decide)
theorem w64_12 {x y : Int} : wp X d 64 12 ls ((0, y) :: (0, x) :: st) M Q ↔ if x < y then wp X d 64 21 ls st M Q else wp X d 64 15 ls st M Q := q_icmp_lt (show mj_ins 64 12 = some (.if_icmp .lt 9, 3) from rfl) rfl
theorem w64_15 {x : Int} : wp X d 64 15 ((26, x) :: ls) st M Q ↔ wp X d 64 16 ((26, x) :: ls) ((26, x) :: st) M Q := q_aload_n (show mj_ins 64 15 = some (.aload_n 0, 1) from rfl) rfl rfl
theorem w64_16 : wp X d 64 16 ls st M Q ↔ wp X d 64 17 ls ((0, 3) :: st) M Q := q_iconst (show mj_ins 64 16 = some (.iconst 3, 1) from rfl) (by decide)
theorem w64_17 {a0 a1 : Int} : wp X (d + 1) 64 17 ls ((0, a1) :: (26, a0) :: st) M Q ↔ (a0 ≠ 0 ∧ mj_cs st ≤ 8) ∧ wc X d 51 [(26, a0), (0, a1)] M (fun r M => wp X (d + 1) 64 20 ls (r.toList ++ st) M Q) := q_callV ⟨rfl, rfl⟩ (show mj_ins 64 17 = some (.invokevirtual 76, 3) from rfl) rfl rfl rfl (Nat.le_of_ble_eq_true rfl)
theorem w64_20 : wp X d 64 20 ls [] M Q ↔ Q none M := q_return (show mj_ins 64 20 = some (.return_, 1) from rfl) rfl
theorem w64_21 {x : Int} : wp X d 64 21 ((26, x) :: ls) st M Q ↔ wp X d 64 22 ((26, x) :: ls) ((26, x) :: st) M Q := q_aload_n (show mj_ins 64 21 = some (.aload_n 0, 1) from rfl) rfl rfl
theorem w64_22 {a0 : Int} : wp X (d + 1) 64 22 ls ((26, a0) :: st) M Q ↔ (a0 ≠ 0 ∧ mj_cs st ≤ 8) ∧ wc X d 29 [(26, a0)] M (fun r M => wp X (d + 1) 64 25 ls (r.toList ++ st) M Q) := q_callV ⟨rfl, rfl⟩ (show mj_ins 64 22 = some (.invokevirtual 69, 3) from rfl) rfl rfl rfl (Nat.le_of_ble_eq_true rfl)
theorem w64_25 {x : Int} : wp X d 64 25 ((26, x) :: ls) st M Q ↔ wp X d 64 26 ((26, x) :: ls) ((26, x) :: st) M Q := q_aload_n (show mj_ins 64 25 = some (.aload_n 0, 1) from rfl) rfl rfl
theorem w64_26 {v0 : mj_V} {x : Int} : wp X d 64 26 (v0 :: (0, x) :: ls) st M Q ↔ wp X d 64 27 (v0 :: (0, x) :: ls) ((0, x) :: st) M Q := q_iload_n (show mj_ins 64 26 = some (.iload_n 1, 1) from rfl) rfl
theorem w64_27 : wp X d 64 27 ls st M Q ↔ wp X d 64 28 ls ((0, 1) :: st) M Q := q_iconst (show mj_ins 64 27 = some (.iconst 1, 1) from rfl) (by decide)
theorem w64_28 {x y : Int} : wp X d 64 28 ls ((0, y) :: (0, x) :: st) M Q ↔ wp X d 64 29 ls ((0, ji_add x y) :: st) M Q := q_iadd (show mj_ins 64 28 = some (.iadd, 1) from rfl)
theorem w64_29 {a0 a1 : Int} : wp X (d + 1) 64 29 ls ((0, a1) :: (26, a0) :: st) M Q ↔ (a0 ≠ 0 ∧ mj_cs st ≤ 8) ∧ wc X d 64 [(26, a0), (0, a1)] M (fun r M => wp X (d + 1) 64 32 ls (r.toList ++ st) M Q) := q_callV ⟨rfl, rfl⟩ (show mj_ins 64 29 = some (.invokevirtual 179, 3) from rfl) rfl rfl rfl (Nat.le_of_ble_eq_true rfl)
theorem w64_32 {x : Int} : wp X d 64 32 ((26, x) :: ls) st M Q ↔ wp X d 64 33 ((26, x) :: ls) ((26, x) :: st) M Q := q_aload_n (show mj_ins 64 32 = some (.aload_n 0, 1) from rfl) rfl rfl
theorem w64_33 : wp X d 64 33 ls st M Q ↔ wp X d 64 35 ls ((0, 25) :: st) M Q := q_bipush (show mj_ins 64 33 = some (.bipush 25, 2) from rfl) (by decide)
theorem w64_35 : wp X d 64 35 ls st M Q ↔ wp X d 64 36 ls ((0, 0) :: st) M Q := q_iconst (show mj_ins 64 35 = some (.iconst 0, 1) from rfl) (by decide)
theorem w64_36 {a0 a1 a2 : Int} : wp X (d + 1) 64 36 ls ((0, a2) :: (0, a1) :: (26, a0) :: st) M Q ↔ (a0 ≠ 0 ∧ mj_cs st ≤ 8) ∧ wc X d 57 [(26, a0), (0, a1), (0, a2)] M (fun r M => wp X (d + 1) 64 39 ls (r.toList ++ st) M Q) := q_callV ⟨rfl, rfl⟩ (show mj_ins 64 36 = some (.invokevirtual 153, 3) from rfl) rfl rfl rfl (Nat.le_of_ble_eq_true rfl)
theorem w64_39 {x : Int} : wp X d 64 39 ls ((0, x) :: st) M Q ↔ wp X d 64 40 ls st M Q := q_pop (show mj_ins 64 39 = some (.pop, 1) from rfl) (show ¬ ((0 : Nat) = 1 ∨ (0 : Nat) = 9) by decide)
theorem w64_40 : wp X d 64 40 ls [] M Q ↔ Q none M := q_return (show mj_ins 64 40 = some (.return_, 1) from rfl) rfl
theorem w64_41 {x : Int} : wp X d 64 41 ((26, x) :: ls) st M Q ↔ wp X d 64 42 ((26, x) :: ls) ((26, x) :: st) M Q := q_aload_n (show mj_ins 64 41 = some (.aload_n 0, 1) from rfl) rfl rfl
theorem w64_42 {v0 : mj_V} {x : Int} : wp X d 64 42 (v0 :: (0, x) :: ls) st M Q ↔ wp X d 64 43 (v0 :: (0, x) :: ls) ((0, x) :: st) M Q := q_iload_n (show mj_ins 64 42 = some (.iload_n 1, 1) from rfl) rfl
theorem w64_43 {a0 a1 : Int} : wp X (d + 1) 64 43 ls ((0, a1) :: (26, a0) :: st) M Q ↔ (a0 ≠ 0 ∧ mj_cs st ≤ 8) ∧ wc X d 53 [(26, a0), (0, a1)] M (fun r M => wp X (d + 1) 64 46 ls (r.toList ++ st) M Q) := q_callV ⟨rfl, rfl⟩ (show mj_ins 64 43 = some (.invokevirtual 147, 3) from rfl) rfl rfl rfl (Nat.le_of_ble_eq_true rfl)
theorem w64_46 {x : Int} : wp X d 64 46 ((26, x) :: ls) st M Q ↔ wp X d 64 47 ((26, x) :: ls) ((26, x) :: st) M Q := q_aload_n (show mj_ins 64 46 = some (.aload_n 0, 1) from rfl) rfl rfl
theorem w64_47 {x : Int} : wp X d 64 47 ls ((26, x) :: st) M Q ↔ x ≠ 0 ∧ wp X d 64 50 ls ((0, hh M x 6) :: st) M Q := q_getfield (show mj_ins 64 47 = some (.getfield 27, 3) from rfl) rfl rfl rfl
theorem w64_50 {v0 w : mj_V} {x y : Int} : wp X d 64 50 (v0 :: (0, y) :: w :: ls) ((0, x) :: st) M Q ↔ wp X d 64 51 (v0 :: (0, y) :: (0, x) :: ls) st M Q := q_istore_n (show mj_ins 64 50 = some (.istore_n 2, 1) from rfl) (Nat.le_add_left 3 _) (mj_set_s (fun z hz => by cases hz; exact (show (0 : Nat) ≠ 1 by decide)))
theorem w64_51 {v0 v1 : mj_V} {x : Int} : wp X d 64 51 (v0 :: v1 :: (0, x) :: ls) st M Q ↔ wp X d 64 52 (v0 :: v1 :: (0, x) :: ls) ((0, x) :: st) M Q := q_iload_n (show mj_ins 64 51 = some (.iload_n 2, 1) from rfl) rfl
theorem w64_52 : wp X d 64 52 ls st M Q ↔ wp X d 64 54 ls ((0, 26) :: st) M Q := q_bipush (show mj_ins 64 52 = some (.bipush 26, 2) from rfl) (by decide)
theorem w64_54 {x y : Int} : wp X d 64 54 ls ((0, y) :: (0, x) :: st) M Q ↔ if x = y then wp X d 64 93 ls st M Q else wp X d 64 57 ls st M Q := q_icmp_eq (show mj_ins 64 54 = some (.if_icmp .eq 39, 3) from rfl) rfl
theorem w64_57 {v0 v1 : mj_V} {x : Int} : wp X d 64 57 (v0 :: v1 :: (0, x) :: ls) st M Q ↔ wp X d 64 58 (v0 :: v1 :: (0, x) :: ls) ((0, x) :: st) M Q := q_iload_n (show mj_ins 64 57 = some (.iload_n 2, 1) from rfl) rfl
theorem w64_58 : wp X d 64 58 ls st M Q ↔ wp X d 64 60 ls ((0, 27) :: st) M Q := q_bipush (show mj_ins 64 58 = some (.bipush 27, 2) from rfl) (by decide)
theorem w64_60 {x y : Int} : wp X d 64 60 ls ((0, y) :: (0, x) :: st) M Q ↔ if x = y then wp X d 64 93 ls st M Q else wp X d 64 63 ls st M Q := q_icmp_eq (show mj_ins 64 60 = some (.if_icmp .eq 33, 3) from rfl) rfl
theorem w64_63 {v0 v1 : mj_V} {x : Int} : wp X d 64 63 (v0 :: v1 :: (0, x) :: ls) st M Q ↔ wp X d 64 64 (v0 :: v1 :: (0, x) :: ls) ((0, x) :: st) M Q := q_iload_n (show mj_ins 64 63 = some (.iload_n 2, 1) from rfl) rfl
theorem w64_64 : wp X d 64 64 ls st M Q ↔ wp X d 64 66 ls ((0, 37) :: st) M Q := q_bipush (show mj_ins 64 64 = some (.bipush 37, 2) from rfl) (by decide)
theorem w64_66 {x y : Int} : wp X d 64 66 ls ((0, y) :: (0, x) :: st) M Q ↔ if x = y then wp X d 64 93 ls st M Q else wp X d 64 69 ls st M Q := q_icmp_eq (show mj_ins 64 66 = some (.if_icmp .eq 27, 3) from rfl) rfl
theorem w64_69 {v0 v1 : mj_V} {x : Int} : wp X d 64 69 (v0 :: v1 :: (0, x) :: ls) st M Q ↔ wp X d 64 70 (v0 :: v1 :: (0, x) :: ls) ((0, x) :: st) M Q := q_iload_n (show mj_ins 64 69 = some (.iload_n 2, 1) from rfl) rfl
theorem w64_70 : wp X d 64 70 ls st M Q ↔ wp X d 64 72 ls ((0, 38) :: st) M Q := q_bipush (show mj_ins 64 70 = some (.bipush 38, 2) from rfl) (by decide)
theorem w64_72 {x y : Int} : wp X d 64 72 ls ((0, y) :: (0, x) :: st) M Q ↔ if x = y then wp X d 64 93 ls st M Q else wp X d 64 75 ls st M Q := q_icmp_eq (show mj_ins 64 72 = some (.if_icmp .eq 21, 3) from rfl) rfl
theorem w64_75 {v0 v1 : mj_V} {x : Int} : wp X d 64 75 (v0 :: v1 :: (0, x) :: ls) st M Q ↔ wp X d 64 76 (v0 :: v1 :: (0, x) :: ls) ((0, x) :: st) M Q := q_iload_n (show mj_ins 64 75 = some (.iload_n 2, 1) from rfl) rfl
theorem w64_76 : wp X d 64 76 ls st M Q ↔ wp X d 64 78 ls ((0, 28) :: st) M Q := q_bipush (show mj_ins 64 76 = some (.bipush 28, 2) from rfl) (by decide)
theorem w64_78 {x y : Int} : wp X d 64 78 ls ((0, y) :: (0, x) :: st) M Q ↔ if x = y then wp X d 64 93 ls st M Q else wp X d 64 81 ls st M Q := q_icmp_eq (show mj_ins 64 78 = some (.if_icmp .eq 15, 3) from rfl) rfl
theorem w64_81 {v0 v1 : mj_V} {x : Int} : wp X d 64 81 (v0 :: v1 :: (0, x) :: ls) st M Q ↔ wp X d 64 82 (v0 :: v1 :: (0, x) :: ls) ((0, x) :: st) M Q := q_iload_n (show mj_ins 64 81 = some (.iload_n 2, 1) from rfl) rfl
theorem w64_82 : wp X d 64 82 ls st M Q ↔ wp X d 64 84 ls ((0, 29) :: st) M Q := q_bipush (show mj_ins 64 82 = some (.bipush 29, 2) from rfl) (by decide)
theorem w64_84 {x y : Int} : wp X d 64 84 ls ((0, y) :: (0, x) :: st) M Q ↔ if x = y then wp X d 64 93 ls st M Q else wp X d 64 87 ls st M Q := q_icmp_eq (show mj_ins 64 84 = some (.if_icmp .eq 9, 3) from rfl) rfl
theorem w64_87 {x : Int} : wp X d 64 87 ((26, x) :: ls) st M Q ↔ wp X d 64 88 ((26, x) :: ls) ((26, x) :: st) M Q := q_aload_n (show mj_ins 64 87 = some (.aload_n 0, 1) from rfl) rfl rfl
theorem w64_88 : wp X d 64 88 ls st M Q ↔ wp X d 64 89 ls ((0, 1) :: st) M Q := q_iconst (show mj_ins 64 88 = some (.iconst 1, 1) from rfl) (by decide)
theorem w64_89 {a0 a1 : Int} : wp X (d + 1) 64 89 ls ((0, a1) :: (26, a0) :: st) M Q ↔ (a0 ≠ 0 ∧ mj_cs st ≤ 8) ∧ wc X d 51 [(26, a0), (0, a1)] M (fun r M => wp X (d + 1) 64 92 ls (r.toList ++ st) M Q) := q_callV ⟨rfl, rfl⟩ (show mj_ins 64 89 = some (.invokevirtual 76, 3) from rfl) rfl rfl rfl (Nat.le_of_ble_eq_true rfl)
theorem w64_92 : wp X d 64 92 ls [] M Q ↔ Q none M := q_return (show mj_ins 64 92 = some (.return_, 1) from rfl) rfl
theorem w64_93 {x : Int} : wp X d 64 93 ((26, x) :: ls) st M Q ↔ wp X d 64 94 ((26, x) :: ls) ((26, x) :: st) M Q := q_aload_n (show mj_ins 64 93 = some (.aload_n 0, 1) from rfl) rfl rfl
theorem w64_94 {a0 : Int} : wp X (d + 1) 64 94 ls ((26, a0) :: st) M Q ↔ (a0 ≠ 0 ∧ mj_cs st ≤ 8) ∧ wc X d 29 [(26, a0)] M (fun r M => wp X (d + 1) 64 97 ls (r.toList ++ st) M Q) := q_callV ⟨rfl, rfl⟩ (show mj_ins 64 94 = some (.invokevirtual 69, 3) from rfl) rfl rfl rfl (Nat.le_of_ble_eq_true rfl)
theorem w64_97 {x : Int} : wp X d 64 97 ((26, x) :: ls) st M Q ↔ wp X d 64 98 ((26, x) :: ls) ((26, x) :: st) M Q := q_aload_n (show mj_ins 64 97 = some (.aload_n 0, 1) from rfl) rfl rfl
theorem w64_98 {v0 : mj_V} {x : Int} : wp X d 64 98 (v0 :: (0, x) :: ls) st M Q ↔ wp X d 64 99 (v0 :: (0, x) :: ls) ((0, x) :: st) M Q := q_iload_n (show mj_ins 64 98 = some (.iload_n 1, 1) from rfl) rfl
theorem w64_99 {a0 a1 : Int} : wp X (d + 1) 64 99 ls ((0, a1) :: (26, a0) :: st) M Q ↔ (a0 ≠ 0 ∧ mj_cs st ≤ 8) ∧ wc X d 53 [(26, a0), (0, a1)] M (fun r M => wp X (d + 1) 64 102 ls (r.toList ++ st) M Q) := q_callV ⟨rfl, rfl⟩ (show mj_ins 64 99 = some (.invokevirtual 147, 3) from rfl) rfl rfl rfl (Nat.le_of_ble_eq_true rfl)
theorem w64_102 {x : Int} : wp X d 64 102 ((26, x) :: ls) st M Q ↔ wp X d 64 103 ((26, x) :: ls) ((26, x) :: st) M Q := q_aload_n (show mj_ins 64 102 = some (.aload_n 0, 1) from rfl) rfl rfl
theorem w64_103 {v0 v1 : mj_V} {x : Int} : wp X d 64 103 (v0 :: v1 :: (0, x) :: ls) st M Q ↔ wp X d 64 104 (v0 :: v1 :: (0, x) :: ls) ((0, x) :: st) M Q := q_iload_n (show mj_ins 64 103 = some (.iload_n 2, 1) from rfl) rfl
theorem w64_104 : wp X d 64 104 ls st M Q ↔ wp X d 64 105 ls ((0, 0) :: st) M Q := q_iconst (show mj_ins 64 104 = some (.iconst 0, 1) from rfl) (by decide)
theorem w64_105 {a0 a1 a2 : Int} : wp X (d + 1) 64 105 ls ((0, a2) :: (0, a1) :: (26, a0) :: st) M Q ↔ (a0 ≠ 0 ∧ mj_cs st ≤ 8) ∧ wc X d 57 [(26, a0), (0, a1), (0, a2)] M (fun r M => wp X (d + 1) 64 108 ls (r.toList ++ st) M Q) := q_callV ⟨rfl, rfl⟩ (show mj_ins 64 105 = some (.invokevirtual 153, 3) from rfl) rfl rfl rfl (Nat.le_of_ble_eq_true rfl)
theorem w64_108 {x : Int} : wp X d 64 108 ls ((0, x) :: st) M Q ↔ wp X d 64 109 ls st M Q := q_pop (show mj_ins 64 108 = some (.pop, 1) from rfl) (show ¬ ((0 : Nat) = 1 ∨ (0 : Nat) = 9) by decide)
theorem w64_109 : wp X d 64 109 ls [] M Q ↔ Q none M := q_return (show mj_ins 64 109 = some (.return_, 1) from rfl) rfl
-- 65: PerfectFerried$Reader.leapHere(I)V
theorem w65_0 {v0 : mj_V} {x : Int} : wp X d 65 0 (v0 :: (0, x) :: ls) st M Q ↔ wp X d 65 1 (v0 :: (0, x) :: ls) ((0, x) :: st) M Q := q_iload_n (show mj_ins 65 0 = some (.iload_n 1, 1) from rfl) rfl
theorem w65_1 {x : Int} : wp X d 65 1 ls ((0, x) :: st) M Q ↔ if x < 0 then wp X d 65 35 ls st M Q else wp X d 65 4 ls st M Q := q_if_lt (show mj_ins 65 1 = some (.ifCond .lt 34, 3) from rfl) rfl
theorem w65_4 {v0 : mj_V} {x : Int} : wp X d 65 4 (v0 :: (0, x) :: ls) st M Q ↔ wp X d 65 5 (v0 :: (0, x) :: ls) ((0, x) :: st) M Q := q_iload_n (show mj_ins 65 4 = some (.iload_n 1, 1) from rfl) rfl
theorem w65_5 {x : Int} : wp X d 65 5 ((26, x) :: ls) st M Q ↔ wp X d 65 6 ((26, x) :: ls) ((26, x) :: st) M Q := q_aload_n (show mj_ins 65 5 = some (.aload_n 0, 1) from rfl) rfl rfl
theorem w65_6 {x : Int} : wp X d 65 6 ls ((26, x) :: st) M Q ↔ x ≠ 0 ∧ wp X d 65 9 ls ((0, hh M x 11) :: st) M Q := q_getfield (show mj_ins 65 6 = some (.getfield 44, 3) from rfl) rfl rfl rfl
theorem w65_9 {x y : Int} : wp X d 65 9 ls ((0, y) :: (0, x) :: st) M Q ↔ if x < y then wp X d 65 12 ls st M Q else wp X d 65 35 ls st M Q := q_icmp_ge (show mj_ins 65 9 = some (.if_icmp .ge 26, 3) from rfl) rfl
theorem w65_12 {x : Int} : wp X d 65 12 ((26, x) :: ls) st M Q ↔ wp X d 65 13 ((26, x) :: ls) ((26, x) :: st) M Q := q_aload_n (show mj_ins 65 12 = some (.aload_n 0, 1) from rfl) rfl rfl
theorem w65_13 {x : Int} : wp X d 65 13 ls ((26, x) :: st) M Q ↔ x ≠ 0 ∧ wp X d 65 16 ls ((3, hh M x 12) :: st) M Q := q_getfield (show mj_ins 65 13 = some (.getfield 47, 3) from rfl) rfl rfl rfl
theorem w65_16 {v0 : mj_V} {x : Int} : wp X d 65 16 (v0 :: (0, x) :: ls) st M Q ↔ wp X d 65 17 (v0 :: (0, x) :: ls) ((0, x) :: st) M Q := q_iload_n (show mj_ins 65 16 = some (.iload_n 1, 1) from rfl) rfl
theorem w65_17 {x : Int} : wp X d 65 17 ((26, x) :: ls) st M Q ↔ wp X d 65 18 ((26, x) :: ls) ((26, x) :: st) M Q := q_aload_n (show mj_ins 65 17 = some (.aload_n 0, 1) from rfl) rfl rfl
theorem w65_18 {x : Int} : wp X d 65 18 ls ((26, x) :: st) M Q ↔ x ≠ 0 ∧ wp X d 65 21 ls ((3, hh M x 12) :: st) M Q := q_getfield (show mj_ins 65 18 = some (.getfield 47, 3) from rfl) rfl rfl rfl
theorem w65_21 {v0 : mj_V} {x : Int} : wp X d 65 21 (v0 :: (0, x) :: ls) st M Q ↔ wp X d 65 22 (v0 :: (0, x) :: ls) ((0, x) :: st) M Q := q_iload_n (show mj_ins 65 21 = some (.iload_n 1, 1) from rfl) rfl
theorem w65_22 {i x : Int} : wp X d 65 22 ls ((0, i) :: (3, x) :: st) M Q ↔ (x ≠ 0 ∧ 0 ≤ i ∧ i < hl M x) ∧ wp X d 65 23 ls ((0, hh M x i) :: st) M Q := q_iaload (show mj_ins 65 22 = some (.iaload, 1) from rfl)
theorem w65_23 : wp X d 65 23 ls st M Q ↔ wp X d 65 25 ls ((0, 63) :: st) M Q := q_bipush (show mj_ins 65 23 = some (.bipush 63, 2) from rfl) (by decide)
theorem w65_25 {x y : Int} : wp X d 65 25 ls ((0, y) :: (0, x) :: st) M Q ↔ wp X d 65 26 ls ((0, ji_and x y) :: st) M Q := q_iand (show mj_ins 65 25 = some (.iand, 1) from rfl)
theorem w65_26 {x : Int} : wp X d 65 26 ((26, x) :: ls) st M Q ↔ wp X d 65 27 ((26, x) :: ls) ((26, x) :: st) M Q := q_aload_n (show mj_ins 65 26 = some (.aload_n 0, 1) from rfl) rfl rfl
theorem w65_27 {x : Int} : wp X d 65 27 ls ((26, x) :: st) M Q ↔ x ≠ 0 ∧ wp X d 65 30 ls ((0, hh M x 11) :: st) M Q := q_getfield (show mj_ins 65 27 = some (.getfield 44, 3) from rfl) rfl rfl rfl
theorem w65_30 : wp X d 65 30 ls st M Q ↔ wp X d 65 32 ls ((0, 6) :: st) M Q := q_bipush (show mj_ins 65 30 = some (.bipush 6, 2) from rfl) (by decide)
theorem w65_32 {x y : Int} : wp X d 65 32 ls ((0, y) :: (0, x) :: st) M Q ↔ wp X d 65 33 ls ((0, ji_shl x y) :: st) M Q := q_ishl (show mj_ins 65 32 = some (.ishl, 1) from rfl)
theorem w65_33 {x y : Int} : wp X d 65 33 ls ((0, y) :: (0, x) :: st) M Q ↔ wp X d 65 34 ls ((0, ji_or x y) :: st) M Q := q_ior (show mj_ins 65 33 = some (.ior, 1) from rfl)
theorem w65_34 {i x v : Int} : wp X d 65 34 ls ((0, v) :: (0, i) :: (3, x) :: st) M Q ↔ (x ≠ 0 ∧ 0 ≤ i ∧ i < hl M x) ∧ wp X d 65 35 ls st (mj_wr M x i v) Q := q_iastore (show mj_ins 65 34 = some (.iastore, 1) from rfl)
theorem w65_35 : wp X d 65 35 ls [] M Q ↔ Q none M := q_return (show mj_ins 65 35 = some (.return_, 1) from rfl) rfl
-- 66: PerfectFerried$Reader.keepClause(IIII)V
theorem w66_0 {x : Int} : wp X d 66 0 ((26, x) :: ls) st M Q ↔ wp X d 66 1 ((26, x) :: ls) ((26, x) :: st) M Q := q_aload_n (show mj_ins 66 0 = some (.aload_n 0, 1) from rfl) rfl rfl
theorem w66_1 {x : Int} : wp X d 66 1 ls ((26, x) :: st) M Q ↔ x ≠ 0 ∧ wp X d 66 4 ls ((0, hh M x 9) :: st) M Q := q_getfield (show mj_ins 66 1 = some (.getfield 37, 3) from rfl) rfl rfl rfl
theorem w66_4 : wp X d 66 4 ls st M Q ↔ wp X d 66 6 ls ((0, 24) :: st) M Q := q_bipush (show mj_ins 66 4 = some (.bipush 24, 2) from rfl) (by decide)
theorem w66_6 {x y : Int} : wp X d 66 6 ls ((0, y) :: (0, x) :: st) M Q ↔ if x < y then wp X d 66 9 ls st M Q else wp X d 66 66 ls st M Q := q_icmp_ge (show mj_ins 66 6 = some (.if_icmp .ge 60, 3) from rfl) rfl
theorem w66_9 {x : Int} : wp X d 66 9 ((26, x) :: ls) st M Q ↔ wp X d 66 10 ((26, x) :: ls) ((26, x) :: st) M Q := q_aload_n (show mj_ins 66 9 = some (.aload_n 0, 1) from rfl) rfl rfl
theorem w66_10 {x : Int} : wp X d 66 10 ls ((26, x) :: st) M Q ↔ x ≠ 0 ∧ wp X d 66 13 ls ((0, hh M x 9) :: st) M Q := q_getfield (show mj_ins 66 10 = some (.getfield 37, 3) from rfl) rfl rfl rfl
theorem w66_13 : wp X d 66 13 ls st M Q ↔ wp X d 66 14 ls ((0, 4) :: st) M Q := q_iconst (show mj_ins 66 13 = some (.iconst 4, 1) from rfl) (by decide)
theorem w66_14 {x y : Int} : wp X d 66 14 ls ((0, y) :: (0, x) :: st) M Q ↔ wp X d 66 15 ls ((0, ji_mul x y) :: st) M Q := q_imul (show mj_ins 66 14 = some (.imul, 1) from rfl)
theorem w66_15 {v0 v1 v2 v3 w : mj_V} {x y : Int} : wp X d 66 15 (v0 :: v1 :: v2 :: v3 :: (0, y) :: w :: ls) ((0, x) :: st) M Q ↔ wp X d 66 17 (v0 :: v1 :: v2 :: v3 :: (0, y) :: (0, x) :: ls) st M Q := q_istore (show mj_ins 66 15 = some (.istore 5, 2) from rfl) (Nat.le_add_left 6 _) (mj_set_s (fun z hz => by cases hz; exact (show (0 : Nat) ≠ 1 by decide)))
theorem w66_17 {x : Int} : wp X d 66 17 ((26, x) :: ls) st M Q ↔ wp X d 66 18 ((26, x) :: ls) ((26, x) :: st) M Q := q_aload_n (show mj_ins 66 17 = some (.aload_n 0, 1) from rfl) rfl rfl
theorem w66_18 {x : Int} : wp X d 66 18 ls ((26, x) :: st) M Q ↔ x ≠ 0 ∧ wp X d 66 21 ls ((3, hh M x 10) :: st) M Q := q_getfield (show mj_ins 66 18 = some (.getfield 40, 3) from rfl) rfl rfl rfl
theorem w66_21 {v0 v1 v2 v3 v4 : mj_V} {x : Int} : wp X d 66 21 (v0 :: v1 :: v2 :: v3 :: v4 :: (0, x) :: ls) st M Q ↔ wp X d 66 23 (v0 :: v1 :: v2 :: v3 :: v4 :: (0, x) :: ls) ((0, x) :: st) M Q := q_iload (show mj_ins 66 21 = some (.iload 5, 2) from rfl) rfl
theorem w66_23 {v0 : mj_V} {x : Int} : wp X d 66 23 (v0 :: (0, x) :: ls) st M Q ↔ wp X d 66 24 (v0 :: (0, x) :: ls) ((0, x) :: st) M Q := q_iload_n (show mj_ins 66 23 = some (.iload_n 1, 1) from rfl) rfl
theorem w66_24 {i x v : Int} : wp X d 66 24 ls ((0, v) :: (0, i) :: (3, x) :: st) M Q ↔ (x ≠ 0 ∧ 0 ≤ i ∧ i < hl M x) ∧ wp X d 66 25 ls st (mj_wr M x i v) Q := q_iastore (show mj_ins 66 24 = some (.iastore, 1) from rfl)
theorem w66_25 {x : Int} : wp X d 66 25 ((26, x) :: ls) st M Q ↔ wp X d 66 26 ((26, x) :: ls) ((26, x) :: st) M Q := q_aload_n (show mj_ins 66 25 = some (.aload_n 0, 1) from rfl) rfl rfl
theorem w66_26 {x : Int} : wp X d 66 26 ls ((26, x) :: st) M Q ↔ x ≠ 0 ∧ wp X d 66 29 ls ((3, hh M x 10) :: st) M Q := q_getfield (show mj_ins 66 26 = some (.getfield 40, 3) from rfl) rfl rfl rfl
theorem w66_29 {v0 v1 v2 v3 v4 : mj_V} {x : Int} : wp X d 66 29 (v0 :: v1 :: v2 :: v3 :: v4 :: (0, x) :: ls) st M Q ↔ wp X d 66 31 (v0 :: v1 :: v2 :: v3 :: v4 :: (0, x) :: ls) ((0, x) :: st) M Q := q_iload (show mj_ins 66 29 = some (.iload 5, 2) from rfl) rfl
theorem w66_31 : wp X d 66 31 ls st M Q ↔ wp X d 66 32 ls ((0, 1) :: st) M Q := q_iconst (show mj_ins 66 31 = some (.iconst 1, 1) from rfl) (by decide)
theorem w66_32 {x y : Int} : wp X d 66 32 ls ((0, y) :: (0, x) :: st) M Q ↔ wp X d 66 33 ls ((0, ji_add x y) :: st) M Q := q_iadd (show mj_ins 66 32 = some (.iadd, 1) from rfl)
theorem w66_33 {v0 v1 : mj_V} {x : Int} : wp X d 66 33 (v0 :: v1 :: (0, x) :: ls) st M Q ↔ wp X d 66 34 (v0 :: v1 :: (0, x) :: ls) ((0, x) :: st) M Q := q_iload_n (show mj_ins 66 33 = some (.iload_n 2, 1) from rfl) rfl
theorem w66_34 {i x v : Int} : wp X d 66 34 ls ((0, v) :: (0, i) :: (3, x) :: st) M Q ↔ (x ≠ 0 ∧ 0 ≤ i ∧ i < hl M x) ∧ wp X d 66 35 ls st (mj_wr M x i v) Q := q_iastore (show mj_ins 66 34 = some (.iastore, 1) from rfl)
theorem w66_35 {x : Int} : wp X d 66 35 ((26, x) :: ls) st M Q ↔ wp X d 66 36 ((26, x) :: ls) ((26, x) :: st) M Q := q_aload_n (show mj_ins 66 35 = some (.aload_n 0, 1) from rfl) rfl rfl
theorem w66_36 {x : Int} : wp X d 66 36 ls ((26, x) :: st) M Q ↔ x ≠ 0 ∧ wp X d 66 39 ls ((3, hh M x 10) :: st) M Q := q_getfield (show mj_ins 66 36 = some (.getfield 40, 3) from rfl) rfl rfl rfl
theorem w66_39 {v0 v1 v2 v3 v4 : mj_V} {x : Int} : wp X d 66 39 (v0 :: v1 :: v2 :: v3 :: v4 :: (0, x) :: ls) st M Q ↔ wp X d 66 41 (v0 :: v1 :: v2 :: v3 :: v4 :: (0, x) :: ls) ((0, x) :: st) M Q := q_iload (show mj_ins 66 39 = some (.iload 5, 2) from rfl) rfl
theorem w66_41 : wp X d 66 41 ls st M Q ↔ wp X d 66 42 ls ((0, 2) :: st) M Q := q_iconst (show mj_ins 66 41 = some (.iconst 2, 1) from rfl) (by decide)
theorem w66_42 {x y : Int} : wp X d 66 42 ls ((0, y) :: (0, x) :: st) M Q ↔ wp X d 66 43 ls ((0, ji_add x y) :: st) M Q := q_iadd (show mj_ins 66 42 = some (.iadd, 1) from rfl)
theorem w66_43 {v0 v1 v2 : mj_V} {x : Int} : wp X d 66 43 (v0 :: v1 :: v2 :: (0, x) :: ls) st M Q ↔ wp X d 66 44 (v0 :: v1 :: v2 :: (0, x) :: ls) ((0, x) :: st) M Q := q_iload_n (show mj_ins 66 43 = some (.iload_n 3, 1) from rfl) rfl
theorem w66_44 {i x v : Int} : wp X d 66 44 ls ((0, v) :: (0, i) :: (3, x) :: st) M Q ↔ (x ≠ 0 ∧ 0 ≤ i ∧ i < hl M x) ∧ wp X d 66 45 ls st (mj_wr M x i v) Q := q_iastore (show mj_ins 66 44 = some (.iastore, 1) from rfl)
theorem w66_45 {x : Int} : wp X d 66 45 ((26, x) :: ls) st M Q ↔ wp X d 66 46 ((26, x) :: ls) ((26, x) :: st) M Q := q_aload_n (show mj_ins 66 45 = some (.aload_n 0, 1) from rfl) rfl rfl
theorem w66_46 {x : Int} : wp X d 66 46 ls ((26, x) :: st) M Q ↔ x ≠ 0 ∧ wp X d 66 49 ls ((3, hh M x 10) :: st) M Q := q_getfield (show mj_ins 66 46 = some (.getfield 40, 3) from rfl) rfl rfl rfl
theorem w66_49 {v0 v1 v2 v3 v4 : mj_V} {x : Int} : wp X d 66 49 (v0 :: v1 :: v2 :: v3 :: v4 :: (0, x) :: ls) st M Q ↔ wp X d 66 51 (v0 :: v1 :: v2 :: v3 :: v4 :: (0, x) :: ls) ((0, x) :: st) M Q := q_iload (show mj_ins 66 49 = some (.iload 5, 2) from rfl) rfl
theorem w66_51 : wp X d 66 51 ls st M Q ↔ wp X d 66 52 ls ((0, 3) :: st) M Q := q_iconst (show mj_ins 66 51 = some (.iconst 3, 1) from rfl) (by decide)
theorem w66_52 {x y : Int} : wp X d 66 52 ls ((0, y) :: (0, x) :: st) M Q ↔ wp X d 66 53 ls ((0, ji_add x y) :: st) M Q := q_iadd (show mj_ins 66 52 = some (.iadd, 1) from rfl)
theorem w66_53 {v0 v1 v2 v3 : mj_V} {x : Int} : wp X d 66 53 (v0 :: v1 :: v2 :: v3 :: (0, x) :: ls) st M Q ↔ wp X d 66 55 (v0 :: v1 :: v2 :: v3 :: (0, x) :: ls) ((0, x) :: st) M Q := q_iload (show mj_ins 66 53 = some (.iload 4, 2) from rfl) rfl
theorem w66_55 {i x v : Int} : wp X d 66 55 ls ((0, v) :: (0, i) :: (3, x) :: st) M Q ↔ (x ≠ 0 ∧ 0 ≤ i ∧ i < hl M x) ∧ wp X d 66 56 ls st (mj_wr M x i v) Q := q_iastore (show mj_ins 66 55 = some (.iastore, 1) from rfl)
theorem w66_56 {x : Int} : wp X d 66 56 ((26, x) :: ls) st M Q ↔ wp X d 66 57 ((26, x) :: ls) ((26, x) :: st) M Q := q_aload_n (show mj_ins 66 56 = some (.aload_n 0, 1) from rfl) rfl rfl
theorem w66_57 {x : Int} : wp X d 66 57 ls ((26, x) :: st) M Q ↔ wp X d 66 58 ls ((26, x) :: (26, x) :: st) M Q := q_dup (show mj_ins 66 57 = some (.dup, 1) from rfl) (show ¬ ((26 : Nat) = 1 ∨ (26 : Nat) = 9) by decide)
theorem w66_58 {x : Int} : wp X d 66 58 ls ((26, x) :: st) M Q ↔ x ≠ 0 ∧ wp X d 66 61 ls ((0, hh M x 9) :: st) M Q := q_getfield (show mj_ins 66 58 = some (.getfield 37, 3) from rfl) rfl rfl rfl
theorem w66_61 : wp X d 66 61 ls st M Q ↔ wp X d 66 62 ls ((0, 1) :: st) M Q := q_iconst (show mj_ins 66 61 = some (.iconst 1, 1) from rfl) (by decide)
theorem w66_62 {x y : Int} : wp X d 66 62 ls ((0, y) :: (0, x) :: st) M Q ↔ wp X d 66 63 ls ((0, ji_add x y) :: st) M Q := q_iadd (show mj_ins 66 62 = some (.iadd, 1) from rfl)
theorem w66_63 {x w : Int} : wp X d 66 63 ls ((0, w) :: (26, x) :: st) M Q ↔ x ≠ 0 ∧ wp X d 66 66 ls st (mj_wr M x 9 w) Q := q_putfield (show mj_ins 66 63 = some (.putfield 37, 3) from rfl) rfl rfl (Or.inl rfl) rfl
theorem w66_66 : wp X d 66 66 ls [] M Q ↔ Q none M := q_return (show mj_ins 66 66 = some (.return_, 1) from rfl) rfl
-- 67: PerfectFerried$Reader.readDeed(I)V
theorem w67_0 : wp X d 67 0 ls st M Q ↔ wp X d 67 1 ls ((0, 0) :: st) M Q := q_iconst (show mj_ins 67 0 = some (.iconst 0, 1) from rfl) (by decide)
theorem w67_1 {v0 w : mj_V} {x y : Int} : wp X d 67 1 (v0 :: (0, y) :: w :: ls) ((0, x) :: st) M Q ↔ wp X d 67 2 (v0 :: (0, y) :: (0, x) :: ls) st M Q := q_istore_n (show mj_ins 67 1 = some (.istore_n 2, 1) from rfl) (Nat.le_add_left 3 _) (mj_set_s (fun z hz => by cases hz; exact (show (0 : Nat) ≠ 1 by decide)))
theorem w67_2 : wp X d 67 2 ls st M Q ↔ wp X d 67 3 ls ((0, 0) :: st) M Q := q_iconst (show mj_ins 67 2 = some (.iconst 0, 1) from rfl) (by decide)
theorem w67_3 {v0 v1 w : mj_V} {x y : Int} : wp X d 67 3 (v0 :: v1 :: (0, y) :: w :: ls) ((0, x) :: st) M Q ↔ wp X d 67 4 (v0 :: v1 :: (0, y) :: (0, x) :: ls) st M Q := q_istore_n (show mj_ins 67 3 = some (.istore_n 3, 1) from rfl) (Nat.le_add_left 4 _) (mj_set_s (fun z hz => by cases hz; exact (show (0 : Nat) ≠ 1 by decide)))
theorem w67_4 : wp X d 67 4 ls st M Q ↔ wp X d 67 5 ls ((0, 0) :: st) M Q := q_iconst (show mj_ins 67 4 = some (.iconst 0, 1) from rfl) (by decide)
theorem w67_5 {v0 v1 v2 w : mj_V} {x y : Int} : wp X d 67 5 (v0 :: v1 :: v2 :: (0, y) :: w :: ls) ((0, x) :: st) M Q ↔ wp X d 67 7 (v0 :: v1 :: v2 :: (0, y) :: (0, x) :: ls) st M Q := q_istore (show mj_ins 67 5 = some (.istore 4, 2) from rfl) (Nat.le_add_left 5 _) (mj_set_s (fun z hz => by cases hz; exact (show (0 : Nat) ≠ 1 by decide)))
theorem w67_7 {x : Int} : wp X d 67 7 ((26, x) :: ls) st M Q ↔ wp X d 67 8 ((26, x) :: ls) ((26, x) :: st) M Q := q_aload_n (show mj_ins 67 7 = some (.aload_n 0, 1) from rfl) rfl rfl
theorem w67_8 {a0 : Int} : wp X (d + 1) 67 8 ls ((26, a0) :: st) M Q ↔ (a0 ≠ 0 ∧ mj_cs st ≤ 8) ∧ wc X d 29 [(26, a0)] M (fun r M => wp X (d + 1) 67 11 ls (r.toList ++ st) M Q) := q_callV ⟨rfl, rfl⟩ (show mj_ins 67 8 = some (.invokevirtual 69, 3) from rfl) rfl rfl rfl (Nat.le_of_ble_eq_true rfl)
theorem w67_11 {v0 : mj_V} {x : Int} : wp X d 67 11 (v0 :: (0, x) :: ls) st M Q ↔ wp X d 67 12 (v0 :: (0, x) :: ls) ((0, x) :: st) M Q := q_iload_n (show mj_ins 67 11 = some (.iload_n 1, 1) from rfl) rfl
-- lookupswitch w67_12
theorem w67_56 {x : Int} : wp X d 67 56 ((26, x) :: ls) st M Q ↔ wp X d 67 57 ((26, x) :: ls) ((26, x) :: st) M Q := q_aload_n (show mj_ins 67 56 = some (.aload_n 0, 1) from rfl) rfl rfl
theorem w67_57 : wp X d 67 57 ls st M Q ↔ wp X d 67 58 ls ((0, 0) :: st) M Q := q_iconst (show mj_ins 67 57 = some (.iconst 0, 1) from rfl) (by decide)
theorem w67_58 : wp X d 67 58 ls st M Q ↔ wp X d 67 59 ls ((0, 4) :: st) M Q := q_iconst (show mj_ins 67 58 = some (.iconst 4, 1) from rfl) (by decide)
theorem w67_59 {a0 a1 a2 : Int} : wp X (d + 1) 67 59 ls ((0, a2) :: (0, a1) :: (26, a0) :: st) M Q ↔ (a0 ≠ 0 ∧ mj_cs st ≤ 8) ∧ wc X d 56 [(26, a0), (0, a1), (0, a2)] M (fun r M => wp X (d + 1) 67 62 ls (r.toList ++ st) M Q) := q_callV ⟨rfl, rfl⟩ (show mj_ins 67 59 = some (.invokevirtual 137, 3) from rfl) rfl rfl rfl (Nat.le_of_ble_eq_true rfl)
theorem w67_62 {v0 w : mj_V} {x y : Int} : wp X d 67 62 (v0 :: (0, y) :: w :: ls) ((0, x) :: st) M Q ↔ wp X d 67 63 (v0 :: (0, y) :: (0, x) :: ls) st M Q := q_istore_n (show mj_ins 67 62 = some (.istore_n 2, 1) from rfl) (Nat.le_add_left 3 _) (mj_set_s (fun z hz => by cases hz; exact (show (0 : Nat) ≠ 1 by decide)))
theorem w67_63 {x : Int} : wp X d 67 63 ((26, x) :: ls) st M Q ↔ wp X d 67 64 ((26, x) :: ls) ((26, x) :: st) M Q := q_aload_n (show mj_ins 67 63 = some (.aload_n 0, 1) from rfl) rfl rfl
theorem w67_64 : wp X d 67 64 ls st M Q ↔ wp X d 67 65 ls ((0, 3) :: st) M Q := q_iconst (show mj_ins 67 64 = some (.iconst 3, 1) from rfl) (by decide)
theorem w67_65 {a0 a1 : Int} : wp X (d + 1) 67 65 ls ((0, a1) :: (26, a0) :: st) M Q ↔ (a0 ≠ 0 ∧ mj_cs st ≤ 8) ∧ wc X d 60 [(26, a0), (0, a1)] M (fun r M => wp X (d + 1) 67 68 ls (r.toList ++ st) M Q) := q_callV ⟨rfl, rfl⟩ (show mj_ins 67 65 = some (.invokevirtual 140, 3) from rfl) rfl rfl rfl (Nat.le_of_ble_eq_true rfl)
theorem w67_68 {x : Int} : wp X d 67 68 ((26, x) :: ls) st M Q ↔ wp X d 67 69 ((26, x) :: ls) ((26, x) :: st) M Q := q_aload_n (show mj_ins 67 68 = some (.aload_n 0, 1) from rfl) rfl rfl
theorem w67_69 : wp X d 67 69 ls st M Q ↔ wp X d 67 70 ls ((0, 1) :: st) M Q := q_iconst (show mj_ins 67 69 = some (.iconst 1, 1) from rfl) (by decide)
theorem w67_70 : wp X d 67 70 ls st M Q ↔ wp X d 67 72 ls ((0, 9) :: st) M Q := q_bipush (show mj_ins 67 70 = some (.bipush 9, 2) from rfl) (by decide)
theorem w67_72 {a0 a1 a2 : Int} : wp X (d + 1) 67 72 ls ((0, a2) :: (0, a1) :: (26, a0) :: st) M Q ↔ (a0 ≠ 0 ∧ mj_cs st ≤ 8) ∧ wc X d 56 [(26, a0), (0, a1), (0, a2)] M (fun r M => wp X (d + 1) 67 75 ls (r.toList ++ st) M Q) := q_callV ⟨rfl, rfl⟩ (show mj_ins 67 72 = some (.invokevirtual 137, 3) from rfl) rfl rfl rfl (Nat.le_of_ble_eq_true rfl)
theorem w67_75 {v0 v1 w : mj_V} {x y : Int} : wp X d 67 75 (v0 :: v1 :: (0, y) :: w :: ls) ((0, x) :: st) M Q ↔ wp X d 67 76 (v0 :: v1 :: (0, y) :: (0, x) :: ls) st M Q := q_istore_n (show mj_ins 67 75 = some (.istore_n 3, 1) from rfl) (Nat.le_add_left 4 _) (mj_set_s (fun z hz => by cases hz; exact (show (0 : Nat) ≠ 1 by decide)))
theorem w67_76 : wp X d 67 76 ls st M Q ↔ wp X d 67 179 ls st M Q := q_goto (show mj_ins 67 76 = some (.goto 103, 3) from rfl) rfl
theorem w67_79 {x : Int} : wp X d 67 79 ((26, x) :: ls) st M Q ↔ wp X d 67 80 ((26, x) :: ls) ((26, x) :: st) M Q := q_aload_n (show mj_ins 67 79 = some (.aload_n 0, 1) from rfl) rfl rfl
theorem w67_80 : wp X d 67 80 ls st M Q ↔ wp X d 67 81 ls ((0, 0) :: st) M Q := q_iconst (show mj_ins 67 80 = some (.iconst 0, 1) from rfl) (by decide)
theorem w67_81 : wp X d 67 81 ls st M Q ↔ wp X d 67 83 ls ((0, 99) :: st) M Q := q_bipush (show mj_ins 67 81 = some (.bipush 99, 2) from rfl) (by decide)
theorem w67_83 {a0 a1 a2 : Int} : wp X (d + 1) 67 83 ls ((0, a2) :: (0, a1) :: (26, a0) :: st) M Q ↔ (a0 ≠ 0 ∧ mj_cs st ≤ 8) ∧ wc X d 56 [(26, a0), (0, a1), (0, a2)] M (fun r M => wp X (d + 1) 67 86 ls (r.toList ++ st) M Q) := q_callV ⟨rfl, rfl⟩ (show mj_ins 67 83 = some (.invokevirtual 137, 3) from rfl) rfl rfl rfl (Nat.le_of_ble_eq_true rfl)
theorem w67_86 {v0 w : mj_V} {x y : Int} : wp X d 67 86 (v0 :: (0, y) :: w :: ls) ((0, x) :: st) M Q ↔ wp X d 67 87 (v0 :: (0, y) :: (0, x) :: ls) st M Q := q_istore_n (show mj_ins 67 86 = some (.istore_n 2, 1) from rfl) (Nat.le_add_left 3 _) (mj_set_s (fun z hz => by cases hz; exact (show (0 : Nat) ≠ 1 by decide)))
theorem w67_87 {x : Int} : wp X d 67 87 ((26, x) :: ls) st M Q ↔ wp X d 67 88 ((26, x) :: ls) ((26, x) :: st) M Q := q_aload_n (show mj_ins 67 87 = some (.aload_n 0, 1) from rfl) rfl rfl
theorem w67_88 : wp X d 67 88 ls st M Q ↔ wp X d 67 89 ls ((0, 5) :: st) M Q := q_iconst (show mj_ins 67 88 = some (.iconst 5, 1) from rfl) (by decide)
theorem w67_89 {a0 a1 : Int} : wp X (d + 1) 67 89 ls ((0, a1) :: (26, a0) :: st) M Q ↔ (a0 ≠ 0 ∧ mj_cs st ≤ 8) ∧ wc X d 60 [(26, a0), (0, a1)] M (fun r M => wp X (d + 1) 67 92 ls (r.toList ++ st) M Q) := q_callV ⟨rfl, rfl⟩ (show mj_ins 67 89 = some (.invokevirtual 140, 3) from rfl) rfl rfl rfl (Nat.le_of_ble_eq_true rfl)
theorem w67_92 {x : Int} : wp X d 67 92 ((26, x) :: ls) st M Q ↔ wp X d 67 93 ((26, x) :: ls) ((26, x) :: st) M Q := q_aload_n (show mj_ins 67 92 = some (.aload_n 0, 1) from rfl) rfl rfl
theorem w67_93 : wp X d 67 93 ls st M Q ↔ wp X d 67 94 ls ((0, 0) :: st) M Q := q_iconst (show mj_ins 67 93 = some (.iconst 0, 1) from rfl) (by decide)
theorem w67_94 : wp X d 67 94 ls st M Q ↔ wp X d 67 97 ls ((0, 255) :: st) M Q := q_sipush (show mj_ins 67 94 = some (.sipush 255, 3) from rfl) (by decide)
theorem w67_97 {a0 a1 a2 : Int} : wp X (d + 1) 67 97 ls ((0, a2) :: (0, a1) :: (26, a0) :: st) M Q ↔ (a0 ≠ 0 ∧ mj_cs st ≤ 8) ∧ wc X d 56 [(26, a0), (0, a1), (0, a2)] M (fun r M => wp X (d + 1) 67 100 ls (r.toList ++ st) M Q) := q_callV ⟨rfl, rfl⟩ (show mj_ins 67 97 = some (.invokevirtual 137, 3) from rfl) rfl rfl rfl (Nat.le_of_ble_eq_true rfl)
theorem w67_100 {v0 v1 w : mj_V} {x y : Int} : wp X d 67 100 (v0 :: v1 :: (0, y) :: w :: ls) ((0, x) :: st) M Q ↔ wp X d 67 101 (v0 :: v1 :: (0, y) :: (0, x) :: ls) st M Q := q_istore_n (show mj_ins 67 100 = some (.istore_n 3, 1) from rfl) (Nat.le_add_left 4 _) (mj_set_s (fun z hz => by cases hz; exact (show (0 : Nat) ≠ 1 by decide)))
theorem w67_101 : wp X d 67 101 ls st M Q ↔ wp X d 67 179 ls st M Q := q_goto (show mj_ins 67 101 = some (.goto 78, 3) from rfl) rfl
theorem w67_104 {x : Int} : wp X d 67 104 ((26, x) :: ls) st M Q ↔ wp X d 67 105 ((26, x) :: ls) ((26, x) :: st) M Q := q_aload_n (show mj_ins 67 104 = some (.aload_n 0, 1) from rfl) rfl rfl
theorem w67_105 : wp X d 67 105 ls st M Q ↔ wp X d 67 106 ls ((0, 0) :: st) M Q := q_iconst (show mj_ins 67 105 = some (.iconst 0, 1) from rfl) (by decide)
theorem w67_106 : wp X d 67 106 ls st M Q ↔ wp X d 67 108 ls ((0, 119) :: st) M Q := q_bipush (show mj_ins 67 106 = some (.bipush 119, 2) from rfl) (by decide)
theorem w67_108 {a0 a1 a2 : Int} : wp X (d + 1) 67 108 ls ((0, a2) :: (0, a1) :: (26, a0) :: st) M Q ↔ (a0 ≠ 0 ∧ mj_cs st ≤ 8) ∧ wc X d 56 [(26, a0), (0, a1), (0, a2)] M (fun r M => wp X (d + 1) 67 111 ls (r.toList ++ st) M Q) := q_callV ⟨rfl, rfl⟩ (show mj_ins 67 108 = some (.invokevirtual 137, 3) from rfl) rfl rfl rfl (Nat.le_of_ble_eq_true rfl)
theorem w67_111 {v0 w : mj_V} {x y : Int} : wp X d 67 111 (v0 :: (0, y) :: w :: ls) ((0, x) :: st) M Q ↔ wp X d 67 112 (v0 :: (0, y) :: (0, x) :: ls) st M Q := q_istore_n (show mj_ins 67 111 = some (.istore_n 2, 1) from rfl) (Nat.le_add_left 3 _) (mj_set_s (fun z hz => by cases hz; exact (show (0 : Nat) ≠ 1 by decide)))
theorem w67_112 : wp X d 67 112 ls st M Q ↔ wp X d 67 179 ls st M Q := q_goto (show mj_ins 67 112 = some (.goto 67, 3) from rfl) rfl
theorem w67_115 {x : Int} : wp X d 67 115 ((26, x) :: ls) st M Q ↔ wp X d 67 116 ((26, x) :: ls) ((26, x) :: st) M Q := q_aload_n (show mj_ins 67 115 = some (.aload_n 0, 1) from rfl) rfl rfl
theorem w67_116 : wp X d 67 116 ls st M Q ↔ wp X d 67 117 ls ((0, 1) :: st) M Q := q_iconst (show mj_ins 67 116 = some (.iconst 1, 1) from rfl) (by decide)
theorem w67_117 : wp X d 67 117 ls st M Q ↔ wp X d 67 119 ls ((0, 60) :: st) M Q := q_bipush (show mj_ins 67 117 = some (.bipush 60, 2) from rfl) (by decide)
theorem w67_119 {a0 a1 a2 : Int} : wp X (d + 1) 67 119 ls ((0, a2) :: (0, a1) :: (26, a0) :: st) M Q ↔ (a0 ≠ 0 ∧ mj_cs st ≤ 8) ∧ wc X d 56 [(26, a0), (0, a1), (0, a2)] M (fun r M => wp X (d + 1) 67 122 ls (r.toList ++ st) M Q) := q_callV ⟨rfl, rfl⟩ (show mj_ins 67 119 = some (.invokevirtual 137, 3) from rfl) rfl rfl rfl (Nat.le_of_ble_eq_true rfl)
theorem w67_122 {v0 w : mj_V} {x y : Int} : wp X d 67 122 (v0 :: (0, y) :: w :: ls) ((0, x) :: st) M Q ↔ wp X d 67 123 (v0 :: (0, y) :: (0, x) :: ls) st M Q := q_istore_n (show mj_ins 67 122 = some (.istore_n 2, 1) from rfl) (Nat.le_add_left 3 _) (mj_set_s (fun z hz => by cases hz; exact (show (0 : Nat) ≠ 1 by decide)))
theorem w67_123 : wp X d 67 123 ls st M Q ↔ wp X d 67 179 ls st M Q := q_goto (show mj_ins 67 123 = some (.goto 56, 3) from rfl) rfl
theorem w67_126 {x : Int} : wp X d 67 126 ((26, x) :: ls) st M Q ↔ wp X d 67 127 ((26, x) :: ls) ((26, x) :: st) M Q := q_aload_n (show mj_ins 67 126 = some (.aload_n 0, 1) from rfl) rfl rfl
theorem w67_127 : wp X d 67 127 ls st M Q ↔ wp X d 67 128 ls ((0, 0) :: st) M Q := q_iconst (show mj_ins 67 127 = some (.iconst 0, 1) from rfl) (by decide)
theorem w67_128 {v0 : mj_V} {x : Int} : wp X d 67 128 (v0 :: (0, x) :: ls) st M Q ↔ wp X d 67 129 (v0 :: (0, x) :: ls) ((0, x) :: st) M Q := q_iload_n (show mj_ins 67 128 = some (.iload_n 1, 1) from rfl) rfl
theorem w67_129 : wp X d 67 129 ls st M Q ↔ wp X d 67 131 ls ((0, 11) :: st) M Q := q_bipush (show mj_ins 67 129 = some (.bipush 11, 2) from rfl) (by decide)
theorem w67_131 {x y : Int} : wp X d 67 131 ls ((0, y) :: (0, x) :: st) M Q ↔ if x = y then wp X d 67 134 ls st M Q else wp X d 67 138 ls st M Q := q_icmp_ne (show mj_ins 67 131 = some (.if_icmp .ne 7, 3) from rfl) rfl
theorem w67_134 : wp X d 67 134 ls st M Q ↔ wp X d 67 135 ls ((0, 4) :: st) M Q := q_iconst (show mj_ins 67 134 = some (.iconst 4, 1) from rfl) (by decide)
theorem w67_135 : wp X d 67 135 ls st M Q ↔ wp X d 67 140 ls st M Q := q_goto (show mj_ins 67 135 = some (.goto 5, 3) from rfl) rfl
theorem w67_138 : wp X d 67 138 ls st M Q ↔ wp X d 67 140 ls ((0, 8) :: st) M Q := q_bipush (show mj_ins 67 138 = some (.bipush 8, 2) from rfl) (by decide)
theorem w67_140 : wp X d 67 140 ls st M Q ↔ wp X d 67 141 ls ((0, 1) :: st) M Q := q_iconst (show mj_ins 67 140 = some (.iconst 1, 1) from rfl) (by decide)
theorem w67_141 {x y : Int} : wp X d 67 141 ls ((0, y) :: (0, x) :: st) M Q ↔ wp X d 67 142 ls ((0, ji_sub x y) :: st) M Q := q_isub (show mj_ins 67 141 = some (.isub, 1) from rfl)
theorem w67_142 {a0 a1 a2 : Int} : wp X (d + 1) 67 142 ls ((0, a2) :: (0, a1) :: (26, a0) :: st) M Q ↔ (a0 ≠ 0 ∧ mj_cs st ≤ 8) ∧ wc X d 56 [(26, a0), (0, a1), (0, a2)] M (fun r M => wp X (d + 1) 67 145 ls (r.toList ++ st) M Q) := q_callV ⟨rfl, rfl⟩ (show mj_ins 67 142 = some (.invokevirtual 137, 3) from rfl) rfl rfl rfl (Nat.le_of_ble_eq_true rfl)
theorem w67_145 {v0 w : mj_V} {x y : Int} : wp X d 67 145 (v0 :: (0, y) :: w :: ls) ((0, x) :: st) M Q ↔ wp X d 67 146 (v0 :: (0, y) :: (0, x) :: ls) st M Q := q_istore_n (show mj_ins 67 145 = some (.istore_n 2, 1) from rfl) (Nat.le_add_left 3 _) (mj_set_s (fun z hz => by cases hz; exact (show (0 : Nat) ≠ 1 by decide)))
theorem w67_146 {x : Int} : wp X d 67 146 ((26, x) :: ls) st M Q ↔ wp X d 67 147 ((26, x) :: ls) ((26, x) :: st) M Q := q_aload_n (show mj_ins 67 146 = some (.aload_n 0, 1) from rfl) rfl rfl
theorem w67_147 : wp X d 67 147 ls st M Q ↔ wp X d 67 149 ls ((0, 8) :: st) M Q := q_bipush (show mj_ins 67 147 = some (.bipush 8, 2) from rfl) (by decide)
theorem w67_149 {a0 a1 : Int} : wp X (d + 1) 67 149 ls ((0, a1) :: (26, a0) :: st) M Q ↔ (a0 ≠ 0 ∧ mj_cs st ≤ 8) ∧ wc X d 60 [(26, a0), (0, a1)] M (fun r M => wp X (d + 1) 67 152 ls (r.toList ++ st) M Q) := q_callV ⟨rfl, rfl⟩ (show mj_ins 67 149 = some (.invokevirtual 140, 3) from rfl) rfl rfl rfl (Nat.le_of_ble_eq_true rfl)
theorem w67_152 {x : Int} : wp X d 67 152 ((26, x) :: ls) st M Q ↔ wp X d 67 153 ((26, x) :: ls) ((26, x) :: st) M Q := q_aload_n (show mj_ins 67 152 = some (.aload_n 0, 1) from rfl) rfl rfl
theorem w67_153 : wp X d 67 153 ls st M Q ↔ wp X d 67 154 ls ((0, 0) :: st) M Q := q_iconst (show mj_ins 67 153 = some (.iconst 0, 1) from rfl) (by decide)
theorem w67_154 : wp X d 67 154 ls st M Q ↔ wp X d 67 155 ls ((0, 5) :: st) M Q := q_iconst (show mj_ins 67 154 = some (.iconst 5, 1) from rfl) (by decide)
theorem w67_155 {a0 a1 a2 : Int} : wp X (d + 1) 67 155 ls ((0, a2) :: (0, a1) :: (26, a0) :: st) M Q ↔ (a0 ≠ 0 ∧ mj_cs st ≤ 8) ∧ wc X d 56 [(26, a0), (0, a1), (0, a2)] M (fun r M => wp X (d + 1) 67 158 ls (r.toList ++ st) M Q) := q_callV ⟨rfl, rfl⟩ (show mj_ins 67 155 = some (.invokevirtual 137, 3) from rfl) rfl rfl rfl (Nat.le_of_ble_eq_true rfl)
theorem w67_158 {v0 v1 w : mj_V} {x y : Int} : wp X d 67 158 (v0 :: v1 :: (0, y) :: w :: ls) ((0, x) :: st) M Q ↔ wp X d 67 159 (v0 :: v1 :: (0, y) :: (0, x) :: ls) st M Q := q_istore_n (show mj_ins 67 158 = some (.istore_n 3, 1) from rfl) (Nat.le_add_left 4 _) (mj_set_s (fun z hz => by cases hz; exact (show (0 : Nat) ≠ 1 by decide)))
theorem w67_159 {v0 : mj_V} {x : Int} : wp X d 67 159 (v0 :: (0, x) :: ls) st M Q ↔ wp X d 67 160 (v0 :: (0, x) :: ls) ((0, x) :: st) M Q := q_iload_n (show mj_ins 67 159 = some (.iload_n 1, 1) from rfl) rfl
theorem w67_160 : wp X d 67 160 ls st M Q ↔ wp X d 67 162 ls ((0, 7) :: st) M Q := q_bipush (show mj_ins 67 160 = some (.bipush 7, 2) from rfl) (by decide)
theorem w67_162 {x y : Int} : wp X d 67 162 ls ((0, y) :: (0, x) :: st) M Q ↔ if x = y then wp X d 67 165 ls st M Q else wp X d 67 179 ls st M Q := q_icmp_ne (show mj_ins 67 162 = some (.if_icmp .ne 17, 3) from rfl) rfl
theorem w67_165 {x : Int} : wp X d 67 165 ((26, x) :: ls) st M Q ↔ wp X d 67 166 ((26, x) :: ls) ((26, x) :: st) M Q := q_aload_n (show mj_ins 67 165 = some (.aload_n 0, 1) from rfl) rfl rfl
theorem w67_166 : wp X d 67 166 ls st M Q ↔ wp X d 67 168 ls ((0, 9) :: st) M Q := q_bipush (show mj_ins 67 166 = some (.bipush 9, 2) from rfl) (by decide)
theorem w67_168 {a0 a1 : Int} : wp X (d + 1) 67 168 ls ((0, a1) :: (26, a0) :: st) M Q ↔ (a0 ≠ 0 ∧ mj_cs st ≤ 8) ∧ wc X d 60 [(26, a0), (0, a1)] M (fun r M => wp X (d + 1) 67 171 ls (r.toList ++ st) M Q) := q_callV ⟨rfl, rfl⟩ (show mj_ins 67 168 = some (.invokevirtual 140, 3) from rfl) rfl rfl rfl (Nat.le_of_ble_eq_true rfl)
theorem w67_171 {x : Int} : wp X d 67 171 ((26, x) :: ls) st M Q ↔ wp X d 67 172 ((26, x) :: ls) ((26, x) :: st) M Q := q_aload_n (show mj_ins 67 171 = some (.aload_n 0, 1) from rfl) rfl rfl
theorem w67_172 : wp X d 67 172 ls st M Q ↔ wp X d 67 173 ls ((0, 0) :: st) M Q := q_iconst (show mj_ins 67 172 = some (.iconst 0, 1) from rfl) (by decide)
theorem w67_173 : wp X d 67 173 ls st M Q ↔ wp X d 67 174 ls ((0, 5) :: st) M Q := q_iconst (show mj_ins 67 173 = some (.iconst 5, 1) from rfl) (by decide)
theorem w67_174 {a0 a1 a2 : Int} : wp X (d + 1) 67 174 ls ((0, a2) :: (0, a1) :: (26, a0) :: st) M Q ↔ (a0 ≠ 0 ∧ mj_cs st ≤ 8) ∧ wc X d 56 [(26, a0), (0, a1), (0, a2)] M (fun r M => wp X (d + 1) 67 177 ls (r.toList ++ st) M Q) := q_callV ⟨rfl, rfl⟩ (show mj_ins 67 174 = some (.invokevirtual 137, 3) from rfl) rfl rfl rfl (Nat.le_of_ble_eq_true rfl)
theorem w67_177 {v0 v1 v2 w : mj_V} {x y : Int} : wp X d 67 177 (v0 :: v1 :: v2 :: (0, y) :: w :: ls) ((0, x) :: st) M Q ↔ wp X d 67 179 (v0 :: v1 :: v2 :: (0, y) :: (0, x) :: ls) st M Q := q_istore (show mj_ins 67 177 = some (.istore 4, 2) from rfl) (Nat.le_add_left 5 _) (mj_set_s (fun z hz => by cases hz; exact (show (0 : Nat) ≠ 1 by decide)))
theorem w67_179 {x : Int} : wp X d 67 179 ((26, x) :: ls) st M Q ↔ wp X d 67 180 ((26, x) :: ls) ((26, x) :: st) M Q := q_aload_n (show mj_ins 67 179 = some (.aload_n 0, 1) from rfl) rfl rfl
theorem w67_180 : wp X d 67 180 ls st M Q ↔ wp X d 67 182 ls ((0, 36) :: st) M Q := q_bipush (show mj_ins 67 180 = some (.bipush 36, 2) from rfl) (by decide)
theorem w67_182 {a0 a1 : Int} : wp X (d + 1) 67 182 ls ((0, a1) :: (26, a0) :: st) M Q ↔ (a0 ≠ 0 ∧ mj_cs st ≤ 8) ∧ wc X d 60 [(26, a0), (0, a1)] M (fun r M => wp X (d + 1) 67 185 ls (r.toList ++ st) M Q) := q_callV ⟨rfl, rfl⟩ (show mj_ins 67 182 = some (.invokevirtual 140, 3) from rfl) rfl rfl rfl (Nat.le_of_ble_eq_true rfl)
theorem w67_185 {x : Int} : wp X d 67 185 ((26, x) :: ls) st M Q ↔ wp X d 67 186 ((26, x) :: ls) ((26, x) :: st) M Q := q_aload_n (show mj_ins 67 185 = some (.aload_n 0, 1) from rfl) rfl rfl
theorem w67_186 {v0 : mj_V} {x : Int} : wp X d 67 186 (v0 :: (0, x) :: ls) st M Q ↔ wp X d 67 187 (v0 :: (0, x) :: ls) ((0, x) :: st) M Q := q_iload_n (show mj_ins 67 186 = some (.iload_n 1, 1) from rfl) rfl
theorem w67_187 {v0 v1 : mj_V} {x : Int} : wp X d 67 187 (v0 :: v1 :: (0, x) :: ls) st M Q ↔ wp X d 67 188 (v0 :: v1 :: (0, x) :: ls) ((0, x) :: st) M Q := q_iload_n (show mj_ins 67 187 = some (.iload_n 2, 1) from rfl) rfl
theorem w67_188 {v0 v1 v2 : mj_V} {x : Int} : wp X d 67 188 (v0 :: v1 :: v2 :: (0, x) :: ls) st M Q ↔ wp X d 67 189 (v0 :: v1 :: v2 :: (0, x) :: ls) ((0, x) :: st) M Q := q_iload_n (show mj_ins 67 188 = some (.iload_n 3, 1) from rfl) rfl
theorem w67_189 {v0 v1 v2 v3 : mj_V} {x : Int} : wp X d 67 189 (v0 :: v1 :: v2 :: v3 :: (0, x) :: ls) st M Q ↔ wp X d 67 191 (v0 :: v1 :: v2 :: v3 :: (0, x) :: ls) ((0, x) :: st) M Q := q_iload (show mj_ins 67 189 = some (.iload 4, 2) from rfl) rfl
theorem w67_191 {a0 a1 a2 a3 a4 : Int} : wp X (d + 1) 67 191 ls ((0, a4) :: (0, a3) :: (0, a2) :: (0, a1) :: (26, a0) :: st) M Q ↔ (a0 ≠ 0 ∧ mj_cs st ≤ 8) ∧ wc X d 66 [(26, a0), (0, a1), (0, a2), (0, a3), (0, a4)] M (fun r M => wp X (d + 1) 67 194 ls (r.toList ++ st) M Q) := q_callV ⟨rfl, rfl⟩ (show mj_ins 67 191 = some (.invokevirtual 143, 3) from rfl) rfl rfl rfl (Nat.le_of_ble_eq_true rfl)
theorem w67_194 : wp X d 67 194 ls [] M Q ↔ Q none M := q_return (show mj_ins 67 194 = some (.return_, 1) from rfl) rfl
-- 71: PerfectFerried.fault(I)I
theorem w71_0 {x : Int} : wp X d 71 0 ((31, x) :: ls) st M Q ↔ wp X d 71 1 ((31, x) :: ls) ((31, x) :: st) M Q := q_aload_n (show mj_ins 71 0 = some (.aload_n 0, 1) from rfl) rfl rfl
theorem w71_1 {x : Int} : wp X d 71 1 ls ((31, x) :: st) M Q ↔ x ≠ 0 ∧ wp X d 71 4 ls ((0, hh M x 10) :: st) M Q := q_getfield (show mj_ins 71 1 = some (.getfield 81, 3) from rfl) rfl rfl rfl
theorem w71_4 {x : Int} : wp X d 71 4 ls ((0, x) :: st) M Q ↔ if x = 0 then wp X d 71 7 ls st M Q else wp X d 71 9 ls st M Q := q_if_ne (show mj_ins 71 4 = some (.ifCond .ne 5, 3) from rfl) rfl
theorem w71_7 : wp X d 71 7 ls st M Q ↔ wp X d 71 8 ls ((0, (-1)) :: st) M Q := q_iconst (show mj_ins 71 7 = some (.iconst (-1), 1) from rfl) (by decide)
theorem w71_8 {x : Int} : wp X d 71 8 ls [(0, x)] M Q ↔ Q (some (0, x)) M := q_ireturn (show mj_ins 71 8 = some (.ireturn, 1) from rfl) rfl
theorem w71_9 {v0 : mj_V} {x : Int} : wp X d 71 9 (v0 :: (0, x) :: ls) st M Q ↔ wp X d 71 10 (v0 :: (0, x) :: ls) ((0, x) :: st) M Q := q_iload_n (show mj_ins 71 9 = some (.iload_n 1, 1) from rfl) rfl
theorem w71_10 {x : Int} : wp X d 71 10 ls ((0, x) :: st) M Q ↔ if x = 0 then wp X d 71 13 ls st M Q else wp X d 71 18 ls st M Q := q_if_ne (show mj_ins 71 10 = some (.ifCond .ne 8, 3) from rfl) rfl
theorem w71_13 {x : Int} : wp X d 71 13 ((31, x) :: ls) st M Q ↔ wp X d 71 14 ((31, x) :: ls) ((31, x) :: st) M Q := q_aload_n (show mj_ins 71 13 = some (.aload_n 0, 1) from rfl) rfl rfl
theorem w71_14 {x : Int} : wp X d 71 14 ls ((31, x) :: st) M Q ↔ x ≠ 0 ∧ wp X d 71 17 ls ((0, hh M x 11) :: st) M Q := q_getfield (show mj_ins 71 14 = some (.getfield 85, 3) from rfl) rfl rfl rfl
theorem w71_17 {x : Int} : wp X d 71 17 ls [(0, x)] M Q ↔ Q (some (0, x)) M := q_ireturn (show mj_ins 71 17 = some (.ireturn, 1) from rfl) rfl
theorem w71_18 {v0 : mj_V} {x : Int} : wp X d 71 18 (v0 :: (0, x) :: ls) st M Q ↔ wp X d 71 19 (v0 :: (0, x) :: ls) ((0, x) :: st) M Q := q_iload_n (show mj_ins 71 18 = some (.iload_n 1, 1) from rfl) rfl
theorem w71_19 : wp X d 71 19 ls st M Q ↔ wp X d 71 20 ls ((0, 1) :: st) M Q := q_iconst (show mj_ins 71 19 = some (.iconst 1, 1) from rfl) (by decide)
theorem w71_20 {x y : Int} : wp X d 71 20 ls ((0, y) :: (0, x) :: st) M Q ↔ if x = y then wp X d 71 23 ls st M Q else wp X d 71 30 ls st M Q := q_icmp_ne (show mj_ins 71 20 = some (.if_icmp .ne 10, 3) from rfl) rfl
theorem w71_23 {x : Int} : wp X d 71 23 ((31, x) :: ls) st M Q ↔ wp X d 71 24 ((31, x) :: ls) ((31, x) :: st) M Q := q_aload_n (show mj_ins 71 23 = some (.aload_n 0, 1) from rfl) rfl rfl
theorem w71_24 {x : Int} : wp X d 71 24 ls ((31, x) :: st) M Q ↔ x ≠ 0 ∧ wp X d 71 27 ls ((0, hh M x 12) :: st) M Q := q_getfield (show mj_ins 71 24 = some (.getfield 88, 3) from rfl) rfl rfl rfl
theorem w71_27 : wp X d 71 27 ls st M Q ↔ wp X d 71 31 ls st M Q := q_goto (show mj_ins 71 27 = some (.goto 4, 3) from rfl) rfl
theorem w71_30 : wp X d 71 30 ls st M Q ↔ wp X d 71 31 ls ((0, (-1)) :: st) M Q := q_iconst (show mj_ins 71 30 = some (.iconst (-1), 1) from rfl) (by decide)
theorem w71_31 {x : Int} : wp X d 71 31 ls [(0, x)] M Q ↔ Q (some (0, x)) M := q_ireturn (show mj_ins 71 31 = some (.ireturn, 1) from rfl) rfl
-- 72: PerfectFerried.by(I)Z
theorem w72_0 {v0 : mj_V} {x : Int} : wp X d 72 0 (v0 :: (0, x) :: ls) st M Q ↔ wp X d 72 1 (v0 :: (0, x) :: ls) ((0, x) :: st) M Q := q_iload_n (show mj_ins 72 0 = some (.iload_n 1, 1) from rfl) rfl
theorem w72_1 : wp X d 72 1 ls st M Q ↔ wp X d 72 2 ls ((0, (-1)) :: st) M Q := q_iconst (show mj_ins 72 1 = some (.iconst (-1), 1) from rfl) (by decide)
theorem w72_2 {x y : Int} : wp X d 72 2 ls ((0, y) :: (0, x) :: st) M Q ↔ if x = y then wp X d 72 18 ls st M Q else wp X d 72 5 ls st M Q := q_icmp_eq (show mj_ins 72 2 = some (.if_icmp .eq 16, 3) from rfl) rfl
theorem w72_5 {x : Int} : wp X d 72 5 ((31, x) :: ls) st M Q ↔ wp X d 72 6 ((31, x) :: ls) ((31, x) :: st) M Q := q_aload_n (show mj_ins 72 5 = some (.aload_n 0, 1) from rfl) rfl rfl
theorem w72_6 {x : Int} : wp X d 72 6 ls ((31, x) :: st) M Q ↔ x ≠ 0 ∧ wp X d 72 9 ls ((30, hh M x 1) :: st) M Q := q_getfield (show mj_ins 72 6 = some (.getfield 19, 3) from rfl) rfl rfl rfl
theorem w72_9 {v0 : mj_V} {x : Int} : wp X d 72 9 (v0 :: (0, x) :: ls) st M Q ↔ wp X d 72 10 (v0 :: (0, x) :: ls) ((0, x) :: st) M Q := q_iload_n (show mj_ins 72 9 = some (.iload_n 1, 1) from rfl) rfl
theorem w72_10 {a0 a1 : Int} : wp X (d + 1) 72 10 ls ((0, a1) :: (30, a0) :: st) M Q ↔ (a0 ≠ 0 ∧ mj_cs st ≤ 8) ∧ wc X d 73 [(30, a0), (0, a1)] M (fun r M => wp X (d + 1) 72 13 ls (r.toList ++ st) M Q) := q_callV ⟨rfl, rfl⟩ (show mj_ins 72 10 = some (.invokevirtual 129, 3) from rfl) rfl rfl rfl (Nat.le_of_ble_eq_true rfl)
theorem w72_13 {x : Int} : wp X d 72 13 ls ((0, x) :: st) M Q ↔ if x = 0 then wp X d 72 16 ls st M Q else wp X d 72 18 ls st M Q := q_if_ne (show mj_ins 72 13 = some (.ifCond .ne 5, 3) from rfl) rfl
theorem w72_16 : wp X d 72 16 ls st M Q ↔ wp X d 72 17 ls ((0, 0) :: st) M Q := q_iconst (show mj_ins 72 16 = some (.iconst 0, 1) from rfl) (by decide)
theorem w72_17_i {P : Prop} {hP : Decidable P} : wp X d 72 17 ls [(0, @ite Int P hP 1 0)] M Q ↔ Q (some (0, @ite Int P hP 1 0)) M := q_zreturn (show mj_ins 72 17 = some (.ireturn, 1) from rfl) rfl (by by_cases h : P <;> simp [h])
theorem w72_17_0 : wp X d 72 17 ls [(0, 0)] M Q ↔ Q (some (0, 0)) M := q_zreturn (show mj_ins 72 17 = some (.ireturn, 1) from rfl) rfl (by decide)
theorem w72_17_1 : wp X d 72 17 ls [(0, 1)] M Q ↔ Q (some (0, 1)) M := q_zreturn (show mj_ins 72 17 = some (.ireturn, 1) from rfl) rfl (by decide)
theorem w72_18 {x : Int} : wp X d 72 18 ((31, x) :: ls) st M Q ↔ wp X d 72 19 ((31, x) :: ls) ((31, x) :: st) M Q := q_aload_n (show mj_ins 72 18 = some (.aload_n 0, 1) from rfl) rfl rfl
theorem w72_19 {x : Int} : wp X d 72 19 ls ((31, x) :: st) M Q ↔ x ≠ 0 ∧ wp X d 72 22 ls ((30, hh M x 1) :: st) M Q := q_getfield (show mj_ins 72 19 = some (.getfield 19, 3) from rfl) rfl rfl rfl
theorem w72_22 {v0 : mj_V} {x : Int} : wp X d 72 22 (v0 :: (0, x) :: ls) st M Q ↔ wp X d 72 23 (v0 :: (0, x) :: ls) ((0, x) :: st) M Q := q_iload_n (show mj_ins 72 22 = some (.iload_n 1, 1) from rfl) rfl
theorem w72_23 {x w : Int} : wp X d 72 23 ls ((0, w) :: (30, x) :: st) M Q ↔ x ≠ 0 ∧ wp X d 72 26 ls st (mj_wr M x 7 w) Q := q_putfield (show mj_ins 72 23 = some (.putfield 133, 3) from rfl) rfl rfl (Or.inl rfl) rfl
theorem w72_26 : wp X d 72 26 ls st M Q ↔ wp X d 72 27 ls ((0, 1) :: st) M Q := q_iconst (show mj_ins 72 26 = some (.iconst 1, 1) from rfl) (by decide)
theorem w72_27_i {P : Prop} {hP : Decidable P} : wp X d 72 27 ls [(0, @ite Int P hP 1 0)] M Q ↔ Q (some (0, @ite Int P hP 1 0)) M := q_zreturn (show mj_ins 72 27 = some (.ireturn, 1) from rfl) rfl (by by_cases h : P <;> simp [h])
theorem w72_27_0 : wp X d 72 27 ls [(0, 0)] M Q ↔ Q (some (0, 0)) M := q_zreturn (show mj_ins 72 27 = some (.ireturn, 1) from rfl) rfl (by decide)
theorem w72_27_1 : wp X d 72 27 ls [(0, 1)] M Q ↔ Q (some (0, 1)) M := q_zreturn (show mj_ins 72 27 = some (.ireturn, 1) from rfl) rfl (by decide)
-- 74: PerfectFerried.teach(III)Z
theorem w74_0 {x : Int} : wp X d 74 0 ((31, x) :: ls) st M Q ↔ wp X d 74 1 ((31, x) :: ls) ((31, x) :: st) M Q := q_aload_n (show mj_ins 74 0 = some (.aload_n 0, 1) from rfl) rfl rfl
theorem w74_1 {x : Int} : wp X d 74 1 ls ((31, x) :: st) M Q ↔ x ≠ 0 ∧ wp X d 74 4 ls ((22, hh M x 4) :: st) M Q := q_getfield (show mj_ins 74 1 = some (.getfield 38, 3) from rfl) rfl rfl rfl
theorem w74_4 {v0 : mj_V} {x : Int} : wp X d 74 4 (v0 :: (0, x) :: ls) st M Q ↔ wp X d 74 5 (v0 :: (0, x) :: ls) ((0, x) :: st) M Q := q_iload_n (show mj_ins 74 4 = some (.iload_n 1, 1) from rfl) rfl
theorem w74_5 {v0 v1 : mj_V} {x : Int} : wp X d 74 5 (v0 :: v1 :: (0, x) :: ls) st M Q ↔ wp X d 74 6 (v0 :: v1 :: (0, x) :: ls) ((0, x) :: st) M Q := q_iload_n (show mj_ins 74 5 = some (.iload_n 2, 1) from rfl) rfl
theorem w74_6 {v0 v1 v2 : mj_V} {x : Int} : wp X d 74 6 (v0 :: v1 :: v2 :: (0, x) :: ls) st M Q ↔ wp X d 74 7 (v0 :: v1 :: v2 :: (0, x) :: ls) ((0, x) :: st) M Q := q_iload_n (show mj_ins 74 6 = some (.iload_n 3, 1) from rfl) rfl
theorem w74_7 : wp X d 74 7 ls st M Q ↔ wp X d 74 8 ls ((0, 1) :: st) M Q := q_iconst (show mj_ins 74 7 = some (.iconst 1, 1) from rfl) (by decide)
theorem w74_8 {a0 a1 a2 a3 a4 : Int} : wp X (d + 1) 74 8 ls ((0, a4) :: (0, a3) :: (0, a2) :: (0, a1) :: (22, a0) :: st) M Q ↔ (a0 ≠ 0 ∧ mj_cs st ≤ 8) ∧ wc X d 75 [(22, a0), (0, a1), (0, a2), (0, a3), (0, a4)] M (fun r M => wp X (d + 1) 74 11 ls (r.toList ++ st) M Q) := q_callV ⟨rfl, rfl⟩ (show mj_ins 74 8 = some (.invokevirtual 136, 3) from rfl) rfl rfl rfl (Nat.le_of_ble_eq_true rfl)
theorem w74_11_i {P : Prop} {hP : Decidable P} : wp X d 74 11 ls [(0, @ite Int P hP 1 0)] M Q ↔ Q (some (0, @ite Int P hP 1 0)) M := q_zreturn (show mj_ins 74 11 = some (.ireturn, 1) from rfl) rfl (by by_cases h : P <;> simp [h])
theorem w74_11_0 : wp X d 74 11 ls [(0, 0)] M Q ↔ Q (some (0, 0)) M := q_zreturn (show mj_ins 74 11 = some (.ireturn, 1) from rfl) rfl (by decide)
theorem w74_11_1 : wp X d 74 11 ls [(0, 1)] M Q ↔ Q (some (0, 1)) M := q_zreturn (show mj_ins 74 11 = some (.ireturn, 1) from rfl) rfl (by decide)
-- 92: PerfectFerried.forget(II)Z
theorem w92_0 {x : Int} : wp X d 92 0 ((31, x) :: ls) st M Q ↔ wp X d 92 1 ((31, x) :: ls) ((31, x) :: st) M Q := q_aload_n (show mj_ins 92 0 = some (.aload_n 0, 1) from rfl) rfl rfl
theorem w92_1 {x : Int} : wp X d 92 1 ls ((31, x) :: st) M Q ↔ x ≠ 0 ∧ wp X d 92 4 ls ((22, hh M x 4) :: st) M Q := q_getfield (show mj_ins 92 1 = some (.getfield 38, 3) from rfl) rfl rfl rfl
theorem w92_4 {v0 : mj_V} {x : Int} : wp X d 92 4 (v0 :: (0, x) :: ls) st M Q ↔ wp X d 92 5 (v0 :: (0, x) :: ls) ((0, x) :: st) M Q := q_iload_n (show mj_ins 92 4 = some (.iload_n 1, 1) from rfl) rfl
theorem w92_5 {v0 v1 : mj_V} {x : Int} : wp X d 92 5 (v0 :: v1 :: (0, x) :: ls) st M Q ↔ wp X d 92 6 (v0 :: v1 :: (0, x) :: ls) ((0, x) :: st) M Q := q_iload_n (show mj_ins 92 5 = some (.iload_n 2, 1) from rfl) rfl
theorem w92_6 : wp X d 92 6 ls st M Q ↔ wp X d 92 7 ls ((0, 1) :: st) M Q := q_iconst (show mj_ins 92 6 = some (.iconst 1, 1) from rfl) (by decide)
theorem w92_7 {a0 a1 a2 a3 : Int} : wp X (d + 1) 92 7 ls ((0, a3) :: (0, a2) :: (0, a1) :: (22, a0) :: st) M Q ↔ (a0 ≠ 0 ∧ mj_cs st ≤ 8) ∧ wc X d 93 [(22, a0), (0, a1), (0, a2), (0, a3)] M (fun r M => wp X (d + 1) 92 10 ls (r.toList ++ st) M Q) := q_callV ⟨rfl, rfl⟩ (show mj_ins 92 7 = some (.invokevirtual 140, 3) from rfl) rfl rfl rfl (Nat.le_of_ble_eq_true rfl)
theorem w92_10_i {P : Prop} {hP : Decidable P} : wp X d 92 10 ls [(0, @ite Int P hP 1 0)] M Q ↔ Q (some (0, @ite Int P hP 1 0)) M := q_zreturn (show mj_ins 92 10 = some (.ireturn, 1) from rfl) rfl (by by_cases h : P <;> simp [h])
theorem w92_10_0 : wp X d 92 10 ls [(0, 0)] M Q ↔ Q (some (0, 0)) M := q_zreturn (show mj_ins 92 10 = some (.ireturn, 1) from rfl) rfl (by decide)
theorem w92_10_1 : wp X d 92 10 ls [(0, 1)] M Q ↔ Q (some (0, 1)) M := q_zreturn (show mj_ins 92 10 = some (.ireturn, 1) from rfl) rfl (by decide)
-- 94: PerfectFerried.tell(II)I
theorem w94_0 {x : Int} : wp X d 94 0 ((31, x) :: ls) st M Q ↔ wp X d 94 1 ((31, x) :: ls) ((31, x) :: st) M Q := q_aload_n (show mj_ins 94 0 = some (.aload_n 0, 1) from rfl) rfl rfl
theorem w94_1 {x : Int} : wp X d 94 1 ls ((31, x) :: st) M Q ↔ x ≠ 0 ∧ wp X d 94 4 ls ((22, hh M x 4) :: st) M Q := q_getfield (show mj_ins 94 1 = some (.getfield 38, 3) from rfl) rfl rfl rfl
theorem w94_4 {v0 : mj_V} {x : Int} : wp X d 94 4 (v0 :: (0, x) :: ls) st M Q ↔ wp X d 94 5 (v0 :: (0, x) :: ls) ((0, x) :: st) M Q := q_iload_n (show mj_ins 94 4 = some (.iload_n 1, 1) from rfl) rfl
theorem w94_5 {v0 v1 : mj_V} {x : Int} : wp X d 94 5 (v0 :: v1 :: (0, x) :: ls) st M Q ↔ wp X d 94 6 (v0 :: v1 :: (0, x) :: ls) ((0, x) :: st) M Q := q_iload_n (show mj_ins 94 5 = some (.iload_n 2, 1) from rfl) rfl
theorem w94_6 : wp X d 94 6 ls st M Q ↔ wp X d 94 7 ls ((0, 1) :: st) M Q := q_iconst (show mj_ins 94 6 = some (.iconst 1, 1) from rfl) (by decide)
theorem w94_7 {a0 a1 a2 a3 : Int} : wp X (d + 1) 94 7 ls ((0, a3) :: (0, a2) :: (0, a1) :: (22, a0) :: st) M Q ↔ (a0 ≠ 0 ∧ mj_cs st ≤ 8) ∧ wc X d 95 [(22, a0), (0, a1), (0, a2), (0, a3)] M (fun r M => wp X (d + 1) 94 10 ls (r.toList ++ st) M Q) := q_callV ⟨rfl, rfl⟩ (show mj_ins 94 7 = some (.invokevirtual 144, 3) from rfl) rfl rfl rfl (Nat.le_of_ble_eq_true rfl)
theorem w94_10 {x : Int} : wp X d 94 10 ls [(0, x)] M Q ↔ Q (some (0, x)) M := q_ireturn (show mj_ins 94 10 = some (.ireturn, 1) from rfl) rfl
-- 103: PerfectFerried.year(I)I
theorem w103_0 {v0 : mj_V} {x : Int} : wp X d 103 0 (v0 :: (0, x) :: ls) st M Q ↔ wp X d 103 1 (v0 :: (0, x) :: ls) ((0, x) :: st) M Q := q_iload_n (show mj_ins 103 0 = some (.iload_n 1, 1) from rfl) rfl
theorem w103_1 : wp X d 103 1 ls st M Q ↔ wp X d 103 2 ls ((0, 1) :: st) M Q := q_iconst (show mj_ins 103 1 = some (.iconst 1, 1) from rfl) (by decide)
theorem w103_2 {x y : Int} : wp X d 103 2 ls ((0, y) :: (0, x) :: st) M Q ↔ if x < y then wp X d 103 29 ls st M Q else wp X d 103 5 ls st M Q := q_icmp_lt (show mj_ins 103 2 = some (.if_icmp .lt 27, 3) from rfl) rfl
theorem w103_5 {v0 : mj_V} {x : Int} : wp X d 103 5 (v0 :: (0, x) :: ls) st M Q ↔ wp X d 103 6 (v0 :: (0, x) :: ls) ((0, x) :: st) M Q := q_iload_n (show mj_ins 103 5 = some (.iload_n 1, 1) from rfl) rfl
theorem w103_6 : wp X d 103 6 ls st M Q ↔ wp X d 103 8 ls ((0, 60) :: st) M Q := q_bipush (show mj_ins 103 6 = some (.bipush 60, 2) from rfl) (by decide)
theorem w103_8 {x y : Int} : wp X d 103 8 ls ((0, y) :: (0, x) :: st) M Q ↔ if x ≤ y then wp X d 103 11 ls st M Q else wp X d 103 29 ls st M Q := q_icmp_gt (show mj_ins 103 8 = some (.if_icmp .gt 21, 3) from rfl) rfl
theorem w103_11 {x : Int} : wp X d 103 11 ((31, x) :: ls) st M Q ↔ wp X d 103 12 ((31, x) :: ls) ((31, x) :: st) M Q := q_aload_n (show mj_ins 103 11 = some (.aload_n 0, 1) from rfl) rfl rfl
theorem w103_12 {x : Int} : wp X d 103 12 ls ((31, x) :: st) M Q ↔ x ≠ 0 ∧ wp X d 103 15 ls ((30, hh M x 1) :: st) M Q := q_getfield (show mj_ins 103 12 = some (.getfield 19, 3) from rfl) rfl rfl rfl
theorem w103_15 {x : Int} : wp X d 103 15 ls ((30, x) :: st) M Q ↔ x ≠ 0 ∧ wp X d 103 18 ls ((24, hh M x 1) :: st) M Q := q_getfield (show mj_ins 103 15 = some (.getfield 148, 3) from rfl) rfl rfl rfl
theorem w103_18 {x : Int} : wp X d 103 18 ls ((24, x) :: st) M Q ↔ x ≠ 0 ∧ wp X d 103 21 ls ((0, hh M x 0) :: st) M Q := q_getfield (show mj_ins 103 18 = some (.getfield 152, 3) from rfl) rfl rfl rfl
theorem w103_21 {v0 : mj_V} {x : Int} : wp X d 103 21 (v0 :: (0, x) :: ls) st M Q ↔ wp X d 103 22 (v0 :: (0, x) :: ls) ((0, x) :: st) M Q := q_iload_n (show mj_ins 103 21 = some (.iload_n 1, 1) from rfl) rfl
theorem w103_22 {x y : Int} : wp X d 103 22 ls ((0, y) :: (0, x) :: st) M Q ↔ wp X d 103 23 ls ((0, ji_add x y) :: st) M Q := q_iadd (show mj_ins 103 22 = some (.iadd, 1) from rfl)
theorem w103_23 : wp X d 103 23 ls st M Q ↔ wp X d 103 26 ls ((0, 9999) :: st) M Q := q_sipush (show mj_ins 103 23 = some (.sipush 9999, 3) from rfl) (by decide)
theorem w103_26 {x y : Int} : wp X d 103 26 ls ((0, y) :: (0, x) :: st) M Q ↔ if x ≤ y then wp X d 103 31 ls st M Q else wp X d 103 29 ls st M Q := q_icmp_le (show mj_ins 103 26 = some (.if_icmp .le 5, 3) from rfl) rfl
theorem w103_29 : wp X d 103 29 ls st M Q ↔ wp X d 103 30 ls ((0, (-1)) :: st) M Q := q_iconst (show mj_ins 103 29 = some (.iconst (-1), 1) from rfl) (by decide)
theorem w103_30 {x : Int} : wp X d 103 30 ls [(0, x)] M Q ↔ Q (some (0, x)) M := q_ireturn (show mj_ins 103 30 = some (.ireturn, 1) from rfl) rfl
theorem w103_31 {x : Int} : wp X d 103 31 ((31, x) :: ls) st M Q ↔ wp X d 103 32 ((31, x) :: ls) ((31, x) :: st) M Q := q_aload_n (show mj_ins 103 31 = some (.aload_n 0, 1) from rfl) rfl rfl
theorem w103_32 {x : Int} : wp X d 103 32 ls ((31, x) :: st) M Q ↔ x ≠ 0 ∧ wp X d 103 35 ls ((22, hh M x 4) :: st) M Q := q_getfield (show mj_ins 103 32 = some (.getfield 38, 3) from rfl) rfl rfl rfl
theorem w103_35 {v0 : mj_V} {x : Int} : wp X d 103 35 (v0 :: (0, x) :: ls) st M Q ↔ wp X d 103 36 (v0 :: (0, x) :: ls) ((0, x) :: st) M Q := q_iload_n (show mj_ins 103 35 = some (.iload_n 1, 1) from rfl) rfl
theorem w103_36 {a0 a1 : Int} : wp X (d + 1) 103 36 ls ((0, a1) :: (22, a0) :: st) M Q ↔ (a0 ≠ 0 ∧ mj_cs st ≤ 8) ∧ wc X d 104 [(22, a0), (0, a1)] M (fun r M => wp X (d + 1) 103 39 ls (r.toList ++ st) M Q) := q_callV ⟨rfl, rfl⟩ (show mj_ins 103 36 = some (.invokevirtual 157, 3) from rfl) rfl rfl rfl (Nat.le_of_ble_eq_true rfl)
theorem w103_39 {x : Int} : wp X d 103 39 ls [(0, x)] M Q ↔ Q (some (0, x)) M := q_ireturn (show mj_ins 103 39 = some (.ireturn, 1) from rfl) rfl
-- 108: PerfectFerried.played(I)I
theorem w108_0 {x : Int} : wp X d 108 0 ((31, x) :: ls) st M Q ↔ wp X d 108 1 ((31, x) :: ls) ((31, x) :: st) M Q := q_aload_n (show mj_ins 108 0 = some (.aload_n 0, 1) from rfl) rfl rfl
theorem w108_1 {x : Int} : wp X d 108 1 ls ((31, x) :: st) M Q ↔ x ≠ 0 ∧ wp X d 108 4 ls ((30, hh M x 1) :: st) M Q := q_getfield (show mj_ins 108 1 = some (.getfield 19, 3) from rfl) rfl rfl rfl
theorem w108_4 {v0 : mj_V} {x : Int} : wp X d 108 4 (v0 :: (0, x) :: ls) st M Q ↔ wp X d 108 5 (v0 :: (0, x) :: ls) ((0, x) :: st) M Q := q_iload_n (show mj_ins 108 4 = some (.iload_n 1, 1) from rfl) rfl
theorem w108_5 {a0 a1 : Int} : wp X (d + 1) 108 5 ls ((0, a1) :: (30, a0) :: st) M Q ↔ (a0 ≠ 0 ∧ mj_cs st ≤ 8) ∧ wc X d 81 [(30, a0), (0, a1)] M (fun r M => wp X (d + 1) 108 8 ls (r.toList ++ st) M Q) := q_callV ⟨rfl, rfl⟩ (show mj_ins 108 5 = some (.invokevirtual 160, 3) from rfl) rfl rfl rfl (Nat.le_of_ble_eq_true rfl)
theorem w108_8 {v0 w : mj_V} {x y : Int} : wp X d 108 8 (v0 :: (0, y) :: w :: ls) ((28, x) :: st) M Q ↔ wp X d 108 9 (v0 :: (0, y) :: (28, x) :: ls) st M Q := q_astore_n (show mj_ins 108 8 = some (.astore_n 2, 1) from rfl) rfl (Nat.le_add_left 3 _) (mj_set_s (fun z hz => by cases hz; exact (show (0 : Nat) ≠ 1 by decide)))
theorem w108_9 {v0 v1 : mj_V} {x : Int} : wp X d 108 9 (v0 :: v1 :: (28, x) :: ls) st M Q ↔ wp X d 108 10 (v0 :: v1 :: (28, x) :: ls) ((28, x) :: st) M Q := q_aload_n (show mj_ins 108 9 = some (.aload_n 2, 1) from rfl) rfl rfl
theorem w108_10 {x : Int} : wp X d 108 10 ls ((28, x) :: st) M Q ↔ if x = 0 then wp X d 108 13 ls st M Q else wp X d 108 16 ls st M Q := q_ifnonnull (show mj_ins 108 10 = some (.ifnonnull 6, 3) from rfl) rfl rfl
theorem w108_13 : wp X d 108 13 ls st M Q ↔ wp X d 108 15 ls ((0, (-2)) :: st) M Q := q_bipush (show mj_ins 108 13 = some (.bipush (-2), 2) from rfl) (by decide)
theorem w108_15 {x : Int} : wp X d 108 15 ls [(0, x)] M Q ↔ Q (some (0, x)) M := q_ireturn (show mj_ins 108 15 = some (.ireturn, 1) from rfl) rfl
theorem w108_16 : wp X d 108 16 ls st M Q ↔ wp X d 108 17 ls ((0, 0) :: st) M Q := q_iconst (show mj_ins 108 16 = some (.iconst 0, 1) from rfl) (by decide)
theorem w108_17 {v0 v1 w : mj_V} {x y : Int} : wp X d 108 17 (v0 :: v1 :: (28, y) :: w :: ls) ((0, x) :: st) M Q ↔ wp X d 108 18 (v0 :: v1 :: (28, y) :: (0, x) :: ls) st M Q := q_istore_n (show mj_ins 108 17 = some (.istore_n 3, 1) from rfl) (Nat.le_add_left 4 _) (mj_set_s (fun z hz => by cases hz; exact (show (28 : Nat) ≠ 1 by decide)))
theorem w108_18 {v0 v1 v2 : mj_V} {x : Int} : wp X d 108 18 (v0 :: v1 :: v2 :: (0, x) :: ls) st M Q ↔ wp X d 108 19 (v0 :: v1 :: v2 :: (0, x) :: ls) ((0, x) :: st) M Q := q_iload_n (show mj_ins 108 18 = some (.iload_n 3, 1) from rfl) rfl
theorem w108_19 {v0 v1 : mj_V} {x : Int} : wp X d 108 19 (v0 :: v1 :: (28, x) :: ls) st M Q ↔ wp X d 108 20 (v0 :: v1 :: (28, x) :: ls) ((28, x) :: st) M Q := q_aload_n (show mj_ins 108 19 = some (.aload_n 2, 1) from rfl) rfl rfl
theorem w108_20 {x : Int} : wp X d 108 20 ls ((28, x) :: st) M Q ↔ x ≠ 0 ∧ wp X d 108 23 ls ((0, hh M x 0) :: st) M Q := q_getfield (show mj_ins 108 20 = some (.getfield 163, 3) from rfl) rfl rfl rfl
theorem w108_23 {x y : Int} : wp X d 108 23 ls ((0, y) :: (0, x) :: st) M Q ↔ if x < y then wp X d 108 26 ls st M Q else wp X d 108 46 ls st M Q := q_icmp_ge (show mj_ins 108 23 = some (.if_icmp .ge 23, 3) from rfl) rfl
theorem w108_26 {x : Int} : wp X d 108 26 ((31, x) :: ls) st M Q ↔ wp X d 108 27 ((31, x) :: ls) ((31, x) :: st) M Q := q_aload_n (show mj_ins 108 26 = some (.aload_n 0, 1) from rfl) rfl rfl
theorem w108_27 {x : Int} : wp X d 108 27 ls ((31, x) :: st) M Q ↔ x ≠ 0 ∧ wp X d 108 30 ls ((22, hh M x 4) :: st) M Q := q_getfield (show mj_ins 108 27 = some (.getfield 38, 3) from rfl) rfl rfl rfl
theorem w108_30 {v0 v1 : mj_V} {x : Int} : wp X d 108 30 (v0 :: v1 :: (28, x) :: ls) st M Q ↔ wp X d 108 31 (v0 :: v1 :: (28, x) :: ls) ((28, x) :: st) M Q := q_aload_n (show mj_ins 108 30 = some (.aload_n 2, 1) from rfl) rfl rfl
theorem w108_31 {v0 v1 v2 : mj_V} {x : Int} : wp X d 108 31 (v0 :: v1 :: v2 :: (0, x) :: ls) st M Q ↔ wp X d 108 32 (v0 :: v1 :: v2 :: (0, x) :: ls) ((0, x) :: st) M Q := q_iload_n (show mj_ins 108 31 = some (.iload_n 3, 1) from rfl) rfl
theorem w108_32 {a0 a1 a2 : Int} : wp X (d + 1) 108 32 ls ((0, a2) :: (28, a1) :: (22, a0) :: st) M Q ↔ (a0 ≠ 0 ∧ mj_cs st ≤ 8) ∧ wc X d 109 [(22, a0), (28, a1), (0, a2)] M (fun r M => wp X (d + 1) 108 35 ls (r.toList ++ st) M Q) := q_callV ⟨rfl, rfl⟩ (show mj_ins 108 32 = some (.invokevirtual 168, 3) from rfl) rfl rfl rfl (Nat.le_of_ble_eq_true rfl)
theorem w108_35 {x : Int} : wp X d 108 35 ls ((0, x) :: st) M Q ↔ if x = 0 then wp X d 108 38 ls st M Q else wp X d 108 40 ls st M Q := q_if_ne (show mj_ins 108 35 = some (.ifCond .ne 5, 3) from rfl) rfl
theorem w108_38 {v0 v1 v2 : mj_V} {x : Int} : wp X d 108 38 (v0 :: v1 :: v2 :: (0, x) :: ls) st M Q ↔ wp X d 108 39 (v0 :: v1 :: v2 :: (0, x) :: ls) ((0, x) :: st) M Q := q_iload_n (show mj_ins 108 38 = some (.iload_n 3, 1) from rfl) rfl
theorem w108_39 {x : Int} : wp X d 108 39 ls [(0, x)] M Q ↔ Q (some (0, x)) M := q_ireturn (show mj_ins 108 39 = some (.ireturn, 1) from rfl) rfl
theorem w108_40 {v0 v1 : mj_V} {x y : Int} : wp X d 108 40 (v0 :: v1 :: (28, y) :: (0, x) :: ls) st M Q ↔ wp X d 108 43 (v0 :: v1 :: (28, y) :: (0, ji_add x 1) :: ls) st M Q := q_iinc (show mj_ins 108 40 = some (.iinc 3 1, 3) from rfl) rfl (mj_set_s (fun z hz => by cases hz; exact (show (28 : Nat) ≠ 1 by decide)))
theorem w108_43 : wp X d 108 43 ls st M Q ↔ wp X d 108 18 ls st M Q := q_goto (show mj_ins 108 43 = some (.goto (-25), 3) from rfl) rfl
theorem w108_46 : wp X d 108 46 ls st M Q ↔ wp X d 108 47 ls ((0, (-1)) :: st) M Q := q_iconst (show mj_ins 108 46 = some (.iconst (-1), 1) from rfl) (by decide)
theorem w108_47 {x : Int} : wp X d 108 47 ls [(0, x)] M Q ↔ Q (some (0, x)) M := q_ireturn (show mj_ins 108 47 = some (.ireturn, 1) from rfl) rfl
-- 111: PerfectFerried.ages(II)I
theorem w111_0 {v0 : mj_V} {x : Int} : wp X d 111 0 (v0 :: (0, x) :: ls) st M Q ↔ wp X d 111 1 (v0 :: (0, x) :: ls) ((0, x) :: st) M Q := q_iload_n (show mj_ins 111 0 = some (.iload_n 1, 1) from rfl) rfl
theorem w111_1 {x : Int} : wp X d 111 1 ls ((0, x) :: st) M Q ↔ if x < 0 then wp X d 111 22 ls st M Q else wp X d 111 4 ls st M Q := q_if_lt (show mj_ins 111 1 = some (.ifCond .lt 21, 3) from rfl) rfl
theorem w111_4 {v0 : mj_V} {x : Int} : wp X d 111 4 (v0 :: (0, x) :: ls) st M Q ↔ wp X d 111 5 (v0 :: (0, x) :: ls) ((0, x) :: st) M Q := q_iload_n (show mj_ins 111 4 = some (.iload_n 1, 1) from rfl) rfl
theorem w111_5 : wp X d 111 5 ls st M Q ↔ wp X d 111 8 ls ((0, 9999) :: st) M Q := q_sipush (show mj_ins 111 5 = some (.sipush 9999, 3) from rfl) (by decide)
theorem w111_8 {x y : Int} : wp X d 111 8 ls ((0, y) :: (0, x) :: st) M Q ↔ if x ≤ y then wp X d 111 11 ls st M Q else wp X d 111 22 ls st M Q := q_icmp_gt (show mj_ins 111 8 = some (.if_icmp .gt 14, 3) from rfl) rfl
theorem w111_11 {v0 v1 : mj_V} {x : Int} : wp X d 111 11 (v0 :: v1 :: (0, x) :: ls) st M Q ↔ wp X d 111 12 (v0 :: v1 :: (0, x) :: ls) ((0, x) :: st) M Q := q_iload_n (show mj_ins 111 11 = some (.iload_n 2, 1) from rfl) rfl
theorem w111_12 : wp X d 111 12 ls st M Q ↔ wp X d 111 13 ls ((0, 1) :: st) M Q := q_iconst (show mj_ins 111 12 = some (.iconst 1, 1) from rfl) (by decide)
theorem w111_13 {x y : Int} : wp X d 111 13 ls ((0, y) :: (0, x) :: st) M Q ↔ if x < y then wp X d 111 22 ls st M Q else wp X d 111 16 ls st M Q := q_icmp_lt (show mj_ins 111 13 = some (.if_icmp .lt 9, 3) from rfl) rfl
theorem w111_16 {v0 v1 : mj_V} {x : Int} : wp X d 111 16 (v0 :: v1 :: (0, x) :: ls) st M Q ↔ wp X d 111 17 (v0 :: v1 :: (0, x) :: ls) ((0, x) :: st) M Q := q_iload_n (show mj_ins 111 16 = some (.iload_n 2, 1) from rfl) rfl
theorem w111_17 : wp X d 111 17 ls st M Q ↔ wp X d 111 19 ls ((0, 40) :: st) M Q := q_bipush (show mj_ins 111 17 = some (.bipush 40, 2) from rfl) (by decide)
theorem w111_19 {x y : Int} : wp X d 111 19 ls ((0, y) :: (0, x) :: st) M Q ↔ if x ≤ y then wp X d 111 24 ls st M Q else wp X d 111 22 ls st M Q := q_icmp_le (show mj_ins 111 19 = some (.if_icmp .le 5, 3) from rfl) rfl
theorem w111_22 : wp X d 111 22 ls st M Q ↔ wp X d 111 23 ls ((0, (-1)) :: st) M Q := q_iconst (show mj_ins 111 22 = some (.iconst (-1), 1) from rfl) (by decide)
theorem w111_23 {x : Int} : wp X d 111 23 ls [(0, x)] M Q ↔ Q (some (0, x)) M := q_ireturn (show mj_ins 111 23 = some (.ireturn, 1) from rfl) rfl
theorem w111_24 {x : Int} : wp X d 111 24 ((31, x) :: ls) st M Q ↔ wp X d 111 25 ((31, x) :: ls) ((31, x) :: st) M Q := q_aload_n (show mj_ins 111 24 = some (.aload_n 0, 1) from rfl) rfl rfl
theorem w111_25 {x : Int} : wp X d 111 25 ls ((31, x) :: st) M Q ↔ x ≠ 0 ∧ wp X d 111 28 ls ((30, hh M x 1) :: st) M Q := q_getfield (show mj_ins 111 25 = some (.getfield 19, 3) from rfl) rfl rfl rfl
theorem w111_28 {a0 : Int} : wp X (d + 1) 111 28 ls ((30, a0) :: st) M Q ↔ (a0 ≠ 0 ∧ mj_cs st ≤ 8) ∧ wc X d 89 [(30, a0)] M (fun r M => wp X (d + 1) 111 31 ls (r.toList ++ st) M Q) := q_callV ⟨rfl, rfl⟩ (show mj_ins 111 28 = some (.invokevirtual 172, 3) from rfl) rfl rfl rfl (Nat.le_of_ble_eq_true rfl)
theorem w111_31 {x : Int} : wp X d 111 31 ((31, x) :: ls) st M Q ↔ wp X d 111 32 ((31, x) :: ls) ((31, x) :: st) M Q := q_aload_n (show mj_ins 111 31 = some (.aload_n 0, 1) from rfl) rfl rfl
theorem w111_32 {x : Int} : wp X d 111 32 ls ((31, x) :: st) M Q ↔ x ≠ 0 ∧ wp X d 111 35 ls ((30, hh M x 1) :: st) M Q := q_getfield (show mj_ins 111 32 = some (.getfield 19, 3) from rfl) rfl rfl rfl
theorem w111_35 {x : Int} : wp X d 111 35 ls ((30, x) :: st) M Q ↔ x ≠ 0 ∧ wp X d 111 38 ls ((24, hh M x 1) :: st) M Q := q_getfield (show mj_ins 111 35 = some (.getfield 148, 3) from rfl) rfl rfl rfl
theorem w111_38 {v0 : mj_V} {x : Int} : wp X d 111 38 (v0 :: (0, x) :: ls) st M Q ↔ wp X d 111 39 (v0 :: (0, x) :: ls) ((0, x) :: st) M Q := q_iload_n (show mj_ins 111 38 = some (.iload_n 1, 1) from rfl) rfl
theorem w111_39 : wp X d 111 39 ls st M Q ↔ wp X d 111 40 ls ((0, 2) :: st) M Q := q_iconst (show mj_ins 111 39 = some (.iconst 2, 1) from rfl) (by decide)
theorem w111_40 {x y : Int} : wp X d 111 40 ls ((0, y) :: (0, x) :: st) M Q ↔ wp X d 111 41 ls ((0, ji_mul x y) :: st) M Q := q_imul (show mj_ins 111 40 = some (.imul, 1) from rfl)
theorem w111_41 : wp X d 111 41 ls st M Q ↔ wp X d 111 44 ls ((0, 271) :: st) M Q := q_sipush (show mj_ins 111 41 = some (.sipush 271, 3) from rfl) (by decide)
theorem w111_44 {x y : Int} : wp X d 111 44 ls ((0, y) :: (0, x) :: st) M Q ↔ wp X d 111 45 ls ((0, ji_add x y) :: st) M Q := q_iadd (show mj_ins 111 44 = some (.iadd, 1) from rfl)
theorem w111_45 {x w : Int} : wp X d 111 45 ls ((0, w) :: (24, x) :: st) M Q ↔ x ≠ 0 ∧ wp X d 111 48 ls st (mj_wr M x 1 w) Q := q_putfield (show mj_ins 111 45 = some (.putfield 175, 3) from rfl) rfl rfl (Or.inl rfl) rfl
theorem w111_48 : wp X d 111 48 ls st M Q ↔ wp X d 111 49 ls ((0, 0) :: st) M Q := q_iconst (show mj_ins 111 48 = some (.iconst 0, 1) from rfl) (by decide)
theorem w111_49 {v0 v1 w : mj_V} {x y : Int} : wp X d 111 49 (v0 :: v1 :: (0, y) :: w :: ls) ((0, x) :: st) M Q ↔ wp X d 111 50 (v0 :: v1 :: (0, y) :: (0, x) :: ls) st M Q := q_istore_n (show mj_ins 111 49 = some (.istore_n 3, 1) from rfl) (Nat.le_add_left 4 _) (mj_set_s (fun z hz => by cases hz; exact (show (0 : Nat) ≠ 1 by decide)))
theorem w111_50 {v0 v1 v2 : mj_V} {x : Int} : wp X d 111 50 (v0 :: v1 :: v2 :: (0, x) :: ls) st M Q ↔ wp X d 111 51 (v0 :: v1 :: v2 :: (0, x) :: ls) ((0, x) :: st) M Q := q_iload_n (show mj_ins 111 50 = some (.iload_n 3, 1) from rfl) rfl
theorem w111_51 {v0 v1 : mj_V} {x : Int} : wp X d 111 51 (v0 :: v1 :: (0, x) :: ls) st M Q ↔ wp X d 111 52 (v0 :: v1 :: (0, x) :: ls) ((0, x) :: st) M Q := q_iload_n (show mj_ins 111 51 = some (.iload_n 2, 1) from rfl) rfl
theorem w111_52 {x y : Int} : wp X d 111 52 ls ((0, y) :: (0, x) :: st) M Q ↔ if x < y then wp X d 111 55 ls st M Q else wp X d 111 78 ls st M Q := q_icmp_ge (show mj_ins 111 52 = some (.if_icmp .ge 26, 3) from rfl) rfl
theorem w111_55 {x : Int} : wp X d 111 55 ((31, x) :: ls) st M Q ↔ wp X d 111 56 ((31, x) :: ls) ((31, x) :: st) M Q := q_aload_n (show mj_ins 111 55 = some (.aload_n 0, 1) from rfl) rfl rfl
theorem w111_56 {x : Int} : wp X d 111 56 ls ((31, x) :: st) M Q ↔ x ≠ 0 ∧ wp X d 111 59 ls ((22, hh M x 4) :: st) M Q := q_getfield (show mj_ins 111 56 = some (.getfield 38, 3) from rfl) rfl rfl rfl
theorem w111_59 {x : Int} : wp X d 111 59 ((31, x) :: ls) st M Q ↔ wp X d 111 60 ((31, x) :: ls) ((31, x) :: st) M Q := q_aload_n (show mj_ins 111 59 = some (.aload_n 0, 1) from rfl) rfl rfl
theorem w111_60 {x : Int} : wp X d 111 60 ls ((31, x) :: st) M Q ↔ x ≠ 0 ∧ wp X d 111 63 ls ((30, hh M x 1) :: st) M Q := q_getfield (show mj_ins 111 60 = some (.getfield 19, 3) from rfl) rfl rfl rfl
theorem w111_63 {x : Int} : wp X d 111 63 ls ((30, x) :: st) M Q ↔ x ≠ 0 ∧ wp X d 111 66 ls ((24, hh M x 1) :: st) M Q := q_getfield (show mj_ins 111 63 = some (.getfield 148, 3) from rfl) rfl rfl rfl
theorem w111_66 {a0 : Int} : wp X (d + 1) 111 66 ls ((24, a0) :: st) M Q ↔ (a0 ≠ 0 ∧ mj_cs st ≤ 8) ∧ wc X d 106 [(24, a0)] M (fun r M => wp X (d + 1) 111 69 ls (r.toList ++ st) M Q) := q_callV ⟨rfl, rfl⟩ (show mj_ins 111 66 = some (.invokevirtual 178, 3) from rfl) rfl rfl rfl (Nat.le_of_ble_eq_true rfl)
theorem w111_69 {a0 a1 : Int} : wp X (d + 1) 111 69 ls ((0, a1) :: (22, a0) :: st) M Q ↔ (a0 ≠ 0 ∧ mj_cs st ≤ 8) ∧ wc X d 112 [(22, a0), (0, a1)] M (fun r M => wp X (d + 1) 111 72 ls (r.toList ++ st) M Q) := q_callV ⟨rfl, rfl⟩ (show mj_ins 111 69 = some (.invokevirtual 182, 3) from rfl) rfl rfl rfl (Nat.le_of_ble_eq_true rfl)
theorem w111_72 {v0 v1 : mj_V} {x y : Int} : wp X d 111 72 (v0 :: v1 :: (0, y) :: (0, x) :: ls) st M Q ↔ wp X d 111 75 (v0 :: v1 :: (0, y) :: (0, ji_add x 1) :: ls) st M Q := q_iinc (show mj_ins 111 72 = some (.iinc 3 1, 3) from rfl) rfl (mj_set_s (fun z hz => by cases hz; exact (show (0 : Nat) ≠ 1 by decide)))
theorem w111_75 : wp X d 111 75 ls st M Q ↔ wp X d 111 50 ls st M Q := q_goto (show mj_ins 111 75 = some (.goto (-25), 3) from rfl) rfl
theorem w111_78 {x : Int} : wp X d 111 78 ((31, x) :: ls) st M Q ↔ wp X d 111 79 ((31, x) :: ls) ((31, x) :: st) M Q := q_aload_n (show mj_ins 111 78 = some (.aload_n 0, 1) from rfl) rfl rfl
theorem w111_79 {x : Int} : wp X d 111 79 ls ((31, x) :: st) M Q ↔ x ≠ 0 ∧ wp X d 111 82 ls ((30, hh M x 1) :: st) M Q := q_getfield (show mj_ins 111 79 = some (.getfield 19, 3) from rfl) rfl rfl rfl
theorem w111_82 {x : Int} : wp X d 111 82 ls ((30, x) :: st) M Q ↔ x ≠ 0 ∧ wp X d 111 85 ls ((24, hh M x 1) :: st) M Q := q_getfield (show mj_ins 111 82 = some (.getfield 148, 3) from rfl) rfl rfl rfl
theorem w111_85 {x : Int} : wp X d 111 85 ls ((24, x) :: st) M Q ↔ x ≠ 0 ∧ wp X d 111 88 ls ((0, hh M x 0) :: st) M Q := q_getfield (show mj_ins 111 85 = some (.getfield 152, 3) from rfl) rfl rfl rfl
theorem w111_88 {x : Int} : wp X d 111 88 ls [(0, x)] M Q ↔ Q (some (0, x)) M := q_ireturn (show mj_ins 111 88 = some (.ireturn, 1) from rfl) rfl
-- 113: PerfectFerried.undo()I
theorem w113_0 {x : Int} : wp X d 113 0 ((31, x) :: ls) st M Q ↔ wp X d 113 1 ((31, x) :: ls) ((31, x) :: st) M Q := q_aload_n (show mj_ins 113 0 = some (.aload_n 0, 1) from rfl) rfl rfl
theorem w113_1 {x : Int} : wp X d 113 1 ls ((31, x) :: st) M Q ↔ x ≠ 0 ∧ wp X d 113 4 ls ((30, hh M x 1) :: st) M Q := q_getfield (show mj_ins 113 1 = some (.getfield 19, 3) from rfl) rfl rfl rfl
theorem w113_4 {a0 : Int} : wp X (d + 1) 113 4 ls ((30, a0) :: st) M Q ↔ (a0 ≠ 0 ∧ mj_cs st ≤ 8) ∧ wc X d 114 [(30, a0)] M (fun r M => wp X (d + 1) 113 7 ls (r.toList ++ st) M Q) := q_callV ⟨rfl, rfl⟩ (show mj_ins 113 4 = some (.invokevirtual 185, 3) from rfl) rfl rfl rfl (Nat.le_of_ble_eq_true rfl)
theorem w113_7 {x : Int} : wp X d 113 7 ls [(0, x)] M Q ↔ Q (some (0, x)) M := q_ireturn (show mj_ins 113 7 = some (.ireturn, 1) from rfl) rfl
-- 115: PerfectFerried.of(II)I
theorem w115_0 {x : Int} : wp X d 115 0 ((31, x) :: ls) st M Q ↔ wp X d 115 1 ((31, x) :: ls) ((31, x) :: st) M Q := q_aload_n (show mj_ins 115 0 = some (.aload_n 0, 1) from rfl) rfl rfl
theorem w115_1 {x : Int} : wp X d 115 1 ls ((31, x) :: st) M Q ↔ x ≠ 0 ∧ wp X d 115 4 ls ((30, hh M x 1) :: st) M Q := q_getfield (show mj_ins 115 1 = some (.getfield 19, 3) from rfl) rfl rfl rfl
theorem w115_4 {x : Int} : wp X d 115 4 ls ((30, x) :: st) M Q ↔ x ≠ 0 ∧ wp X d 115 7 ls ((24, hh M x 1) :: st) M Q := q_getfield (show mj_ins 115 4 = some (.getfield 148, 3) from rfl) rfl rfl rfl
theorem w115_7 {v0 v1 w : mj_V} {x y : Int} : wp X d 115 7 (v0 :: v1 :: (0, y) :: w :: ls) ((24, x) :: st) M Q ↔ wp X d 115 8 (v0 :: v1 :: (0, y) :: (24, x) :: ls) st M Q := q_astore_n (show mj_ins 115 7 = some (.astore_n 3, 1) from rfl) rfl (Nat.le_add_left 4 _) (mj_set_s (fun z hz => by cases hz; exact (show (0 : Nat) ≠ 1 by decide)))
theorem w115_8 {v0 v1 v2 : mj_V} {x : Int} : wp X d 115 8 (v0 :: v1 :: v2 :: (24, x) :: ls) st M Q ↔ wp X d 115 9 (v0 :: v1 :: v2 :: (24, x) :: ls) ((24, x) :: st) M Q := q_aload_n (show mj_ins 115 8 = some (.aload_n 3, 1) from rfl) rfl rfl
theorem w115_9 {v0 : mj_V} {x : Int} : wp X d 115 9 (v0 :: (0, x) :: ls) st M Q ↔ wp X d 115 10 (v0 :: (0, x) :: ls) ((0, x) :: st) M Q := q_iload_n (show mj_ins 115 9 = some (.iload_n 1, 1) from rfl) rfl
theorem w115_10 {a0 a1 : Int} : wp X (d + 1) 115 10 ls ((0, a1) :: (24, a0) :: st) M Q ↔ (a0 ≠ 0 ∧ mj_cs st ≤ 8) ∧ wc X d 77 [(24, a0), (0, a1)] M (fun r M => wp X (d + 1) 115 13 ls (r.toList ++ st) M Q) := q_callV ⟨rfl, rfl⟩ (show mj_ins 115 10 = some (.invokevirtual 188, 3) from rfl) rfl rfl rfl (Nat.le_of_ble_eq_true rfl)
theorem w115_13 {x : Int} : wp X d 115 13 ls ((0, x) :: st) M Q ↔ if x = 0 then wp X d 115 16 ls st M Q else wp X d 115 18 ls st M Q := q_if_ne (show mj_ins 115 13 = some (.ifCond .ne 5, 3) from rfl) rfl
theorem w115_16 : wp X d 115 16 ls st M Q ↔ wp X d 115 17 ls ((0, (-1)) :: st) M Q := q_iconst (show mj_ins 115 16 = some (.iconst (-1), 1) from rfl) (by decide)
theorem w115_17 {x : Int} : wp X d 115 17 ls [(0, x)] M Q ↔ Q (some (0, x)) M := q_ireturn (show mj_ins 115 17 = some (.ireturn, 1) from rfl) rfl
theorem w115_18 {v0 v1 : mj_V} {x : Int} : wp X d 115 18 (v0 :: v1 :: (0, x) :: ls) st M Q ↔ wp X d 115 19 (v0 :: v1 :: (0, x) :: ls) ((0, x) :: st) M Q := q_iload_n (show mj_ins 115 18 = some (.iload_n 2, 1) from rfl) rfl
theorem w115_19 {x : Int} : wp X d 115 19 ls ((0, x) :: st) M Q ↔ if x = 0 then wp X d 115 48 ls st M Q else (if x = 1 then wp X d 115 55 ls st M Q else (if x = 2 then wp X d 115 62 ls st M Q else (if x = 3 then wp X d 115 69 ls st M Q else (wp X d 115 83 ls st M Q)))) := q_tsw (L := [(0, 48), (1, 55), (2, 62), (3, 69)]) (show mj_ins 115 19 = some (.tableswitch 64 0 3 #[29, 36, 43, 50], 29) from rfl) rfl rfl (by decide) (by decide)
theorem w115_48 {v0 v1 v2 : mj_V} {x : Int} : wp X d 115 48 (v0 :: v1 :: v2 :: (24, x) :: ls) st M Q ↔ wp X d 115 49 (v0 :: v1 :: v2 :: (24, x) :: ls) ((24, x) :: st) M Q := q_aload_n (show mj_ins 115 48 = some (.aload_n 3, 1) from rfl) rfl rfl
theorem w115_49 {x : Int} : wp X d 115 49 ls ((24, x) :: st) M Q ↔ x ≠ 0 ∧ wp X d 115 52 ls ((3, hh M x 4) :: st) M Q := q_getfield (show mj_ins 115 49 = some (.getfield 191, 3) from rfl) rfl rfl rfl
theorem w115_52 {v0 : mj_V} {x : Int} : wp X d 115 52 (v0 :: (0, x) :: ls) st M Q ↔ wp X d 115 53 (v0 :: (0, x) :: ls) ((0, x) :: st) M Q := q_iload_n (show mj_ins 115 52 = some (.iload_n 1, 1) from rfl) rfl
theorem w115_53 {i x : Int} : wp X d 115 53 ls ((0, i) :: (3, x) :: st) M Q ↔ (x ≠ 0 ∧ 0 ≤ i ∧ i < hl M x) ∧ wp X d 115 54 ls ((0, hh M x i) :: st) M Q := q_iaload (show mj_ins 115 53 = some (.iaload, 1) from rfl)
theorem w115_54 {x : Int} : wp X d 115 54 ls [(0, x)] M Q ↔ Q (some (0, x)) M := q_ireturn (show mj_ins 115 54 = some (.ireturn, 1) from rfl) rfl
theorem w115_55 {v0 v1 v2 : mj_V} {x : Int} : wp X d 115 55 (v0 :: v1 :: v2 :: (24, x) :: ls) st M Q ↔ wp X d 115 56 (v0 :: v1 :: v2 :: (24, x) :: ls) ((24, x) :: st) M Q := q_aload_n (show mj_ins 115 55 = some (.aload_n 3, 1) from rfl) rfl rfl
theorem w115_56 {x : Int} : wp X d 115 56 ls ((24, x) :: st) M Q ↔ x ≠ 0 ∧ wp X d 115 59 ls ((3, hh M x 5) :: st) M Q := q_getfield (show mj_ins 115 56 = some (.getfield 194, 3) from rfl) rfl rfl rfl
theorem w115_59 {v0 : mj_V} {x : Int} : wp X d 115 59 (v0 :: (0, x) :: ls) st M Q ↔ wp X d 115 60 (v0 :: (0, x) :: ls) ((0, x) :: st) M Q := q_iload_n (show mj_ins 115 59 = some (.iload_n 1, 1) from rfl) rfl
theorem w115_60 {i x : Int} : wp X d 115 60 ls ((0, i) :: (3, x) :: st) M Q ↔ (x ≠ 0 ∧ 0 ≤ i ∧ i < hl M x) ∧ wp X d 115 61 ls ((0, hh M x i) :: st) M Q := q_iaload (show mj_ins 115 60 = some (.iaload, 1) from rfl)
theorem w115_61 {x : Int} : wp X d 115 61 ls [(0, x)] M Q ↔ Q (some (0, x)) M := q_ireturn (show mj_ins 115 61 = some (.ireturn, 1) from rfl) rfl
theorem w115_62 {v0 v1 v2 : mj_V} {x : Int} : wp X d 115 62 (v0 :: v1 :: v2 :: (24, x) :: ls) st M Q ↔ wp X d 115 63 (v0 :: v1 :: v2 :: (24, x) :: ls) ((24, x) :: st) M Q := q_aload_n (show mj_ins 115 62 = some (.aload_n 3, 1) from rfl) rfl rfl
theorem w115_63 {x : Int} : wp X d 115 63 ls ((24, x) :: st) M Q ↔ x ≠ 0 ∧ wp X d 115 66 ls ((3, hh M x 6) :: st) M Q := q_getfield (show mj_ins 115 63 = some (.getfield 197, 3) from rfl) rfl rfl rfl
theorem w115_66 {v0 : mj_V} {x : Int} : wp X d 115 66 (v0 :: (0, x) :: ls) st M Q ↔ wp X d 115 67 (v0 :: (0, x) :: ls) ((0, x) :: st) M Q := q_iload_n (show mj_ins 115 66 = some (.iload_n 1, 1) from rfl) rfl
theorem w115_67 {i x : Int} : wp X d 115 67 ls ((0, i) :: (3, x) :: st) M Q ↔ (x ≠ 0 ∧ 0 ≤ i ∧ i < hl M x) ∧ wp X d 115 68 ls ((0, hh M x i) :: st) M Q := q_iaload (show mj_ins 115 67 = some (.iaload, 1) from rfl)
theorem w115_68 {x : Int} : wp X d 115 68 ls [(0, x)] M Q ↔ Q (some (0, x)) M := q_ireturn (show mj_ins 115 68 = some (.ireturn, 1) from rfl) rfl
theorem w115_69 {x : Int} : wp X d 115 69 ((31, x) :: ls) st M Q ↔ wp X d 115 70 ((31, x) :: ls) ((31, x) :: st) M Q := q_aload_n (show mj_ins 115 69 = some (.aload_n 0, 1) from rfl) rfl rfl
theorem w115_70 {x : Int} : wp X d 115 70 ls ((31, x) :: st) M Q ↔ x ≠ 0 ∧ wp X d 115 73 ls ((30, hh M x 1) :: st) M Q := q_getfield (show mj_ins 115 70 = some (.getfield 19, 3) from rfl) rfl rfl rfl
theorem w115_73 {v0 v1 v2 : mj_V} {x : Int} : wp X d 115 73 (v0 :: v1 :: v2 :: (24, x) :: ls) st M Q ↔ wp X d 115 74 (v0 :: v1 :: v2 :: (24, x) :: ls) ((24, x) :: st) M Q := q_aload_n (show mj_ins 115 73 = some (.aload_n 3, 1) from rfl) rfl rfl
theorem w115_74 {x : Int} : wp X d 115 74 ls ((24, x) :: st) M Q ↔ x ≠ 0 ∧ wp X d 115 77 ls ((3, hh M x 5) :: st) M Q := q_getfield (show mj_ins 115 74 = some (.getfield 194, 3) from rfl) rfl rfl rfl
theorem w115_77 {v0 : mj_V} {x : Int} : wp X d 115 77 (v0 :: (0, x) :: ls) st M Q ↔ wp X d 115 78 (v0 :: (0, x) :: ls) ((0, x) :: st) M Q := q_iload_n (show mj_ins 115 77 = some (.iload_n 1, 1) from rfl) rfl
theorem w115_78 {i x : Int} : wp X d 115 78 ls ((0, i) :: (3, x) :: st) M Q ↔ (x ≠ 0 ∧ 0 ≤ i ∧ i < hl M x) ∧ wp X d 115 79 ls ((0, hh M x i) :: st) M Q := q_iaload (show mj_ins 115 78 = some (.iaload, 1) from rfl)
theorem w115_79 {a0 a1 : Int} : wp X (d + 1) 115 79 ls ((0, a1) :: (30, a0) :: st) M Q ↔ (a0 ≠ 0 ∧ mj_cs st ≤ 8) ∧ wc X d 116 [(30, a0), (0, a1)] M (fun r M => wp X (d + 1) 115 82 ls (r.toList ++ st) M Q) := q_callV ⟨rfl, rfl⟩ (show mj_ins 115 79 = some (.invokevirtual 200, 3) from rfl) rfl rfl rfl (Nat.le_of_ble_eq_true rfl)
theorem w115_82 {x : Int} : wp X d 115 82 ls [(0, x)] M Q ↔ Q (some (0, x)) M := q_ireturn (show mj_ins 115 82 = some (.ireturn, 1) from rfl) rfl
theorem w115_83 : wp X d 115 83 ls st M Q ↔ wp X d 115 84 ls ((0, (-1)) :: st) M Q := q_iconst (show mj_ins 115 83 = some (.iconst (-1), 1) from rfl) (by decide)
theorem w115_84 {x : Int} : wp X d 115 84 ls [(0, x)] M Q ↔ Q (some (0, x)) M := q_ireturn (show mj_ins 115 84 = some (.ireturn, 1) from rfl) rfl
-- 120: PerfectFerried.ofForm(II)I
theorem w120_0 {x : Int} : wp X d 120 0 ((31, x) :: ls) st M Q ↔ wp X d 120 1 ((31, x) :: ls) ((31, x) :: st) M Q := q_aload_n (show mj_ins 120 0 = some (.aload_n 0, 1) from rfl) rfl rfl
theorem w120_1 {x : Int} : wp X d 120 1 ls ((31, x) :: st) M Q ↔ x ≠ 0 ∧ wp X d 120 4 ls ((30, hh M x 1) :: st) M Q := q_getfield (show mj_ins 120 1 = some (.getfield 19, 3) from rfl) rfl rfl rfl
theorem w120_4 {x : Int} : wp X d 120 4 ls ((30, x) :: st) M Q ↔ x ≠ 0 ∧ wp X d 120 7 ls ((29, hh M x 0) :: st) M Q := q_getfield (show mj_ins 120 4 = some (.getfield 91, 3) from rfl) rfl rfl rfl
theorem w120_7 {v0 : mj_V} {x : Int} : wp X d 120 7 (v0 :: (0, x) :: ls) st M Q ↔ wp X d 120 8 (v0 :: (0, x) :: ls) ((0, x) :: st) M Q := q_iload_n (show mj_ins 120 7 = some (.iload_n 1, 1) from rfl) rfl
theorem w120_8 {a0 a1 : Int} : wp X (d + 1) 120 8 ls ((0, a1) :: (29, a0) :: st) M Q ↔ (a0 ≠ 0 ∧ mj_cs st ≤ 8) ∧ wc X d 76 [(29, a0), (0, a1)] M (fun r M => wp X (d + 1) 120 11 ls (r.toList ++ st) M Q) := q_callV ⟨rfl, rfl⟩ (show mj_ins 120 8 = some (.invokevirtual 203, 3) from rfl) rfl rfl rfl (Nat.le_of_ble_eq_true rfl)
theorem w120_11 {x : Int} : wp X d 120 11 ls ((0, x) :: st) M Q ↔ if x = 0 then wp X d 120 14 ls st M Q else wp X d 120 16 ls st M Q := q_if_ne (show mj_ins 120 11 = some (.ifCond .ne 5, 3) from rfl) rfl
theorem w120_14 : wp X d 120 14 ls st M Q ↔ wp X d 120 15 ls ((0, (-1)) :: st) M Q := q_iconst (show mj_ins 120 14 = some (.iconst (-1), 1) from rfl) (by decide)
theorem w120_15 {x : Int} : wp X d 120 15 ls [(0, x)] M Q ↔ Q (some (0, x)) M := q_ireturn (show mj_ins 120 15 = some (.ireturn, 1) from rfl) rfl
theorem w120_16 {v0 v1 : mj_V} {x : Int} : wp X d 120 16 (v0 :: v1 :: (0, x) :: ls) st M Q ↔ wp X d 120 17 (v0 :: v1 :: (0, x) :: ls) ((0, x) :: st) M Q := q_iload_n (show mj_ins 120 16 = some (.iload_n 2, 1) from rfl) rfl
theorem w120_17 {x : Int} : wp X d 120 17 ls ((0, x) :: st) M Q ↔ if x = 0 then wp X d 120 44 ls st M Q else (if x = 1 then wp X d 120 57 ls st M Q else (if x = 2 then wp X d 120 70 ls st M Q else (wp X d 120 82 ls st M Q))) := q_tsw (L := [(0, 44), (1, 57), (2, 70)]) (show mj_ins 120 17 = some (.tableswitch 65 0 2 #[27, 40, 53], 27) from rfl) rfl rfl (by decide) (by decide)
theorem w120_44 {x : Int} : wp X d 120 44 ((31, x) :: ls) st M Q ↔ wp X d 120 45 ((31, x) :: ls) ((31, x) :: st) M Q := q_aload_n (show mj_ins 120 44 = some (.aload_n 0, 1) from rfl) rfl rfl
theorem w120_45 {x : Int} : wp X d 120 45 ls ((31, x) :: st) M Q ↔ x ≠ 0 ∧ wp X d 120 48 ls ((30, hh M x 1) :: st) M Q := q_getfield (show mj_ins 120 45 = some (.getfield 19, 3) from rfl) rfl rfl rfl
theorem w120_48 {x : Int} : wp X d 120 48 ls ((30, x) :: st) M Q ↔ x ≠ 0 ∧ wp X d 120 51 ls ((29, hh M x 0) :: st) M Q := q_getfield (show mj_ins 120 48 = some (.getfield 91, 3) from rfl) rfl rfl rfl
theorem w120_51 {x : Int} : wp X d 120 51 ls ((29, x) :: st) M Q ↔ x ≠ 0 ∧ wp X d 120 54 ls ((3, hh M x 1) :: st) M Q := q_getfield (show mj_ins 120 51 = some (.getfield 206, 3) from rfl) rfl rfl rfl
theorem w120_54 {v0 : mj_V} {x : Int} : wp X d 120 54 (v0 :: (0, x) :: ls) st M Q ↔ wp X d 120 55 (v0 :: (0, x) :: ls) ((0, x) :: st) M Q := q_iload_n (show mj_ins 120 54 = some (.iload_n 1, 1) from rfl) rfl
theorem w120_55 {i x : Int} : wp X d 120 55 ls ((0, i) :: (3, x) :: st) M Q ↔ (x ≠ 0 ∧ 0 ≤ i ∧ i < hl M x) ∧ wp X d 120 56 ls ((0, hh M x i) :: st) M Q := q_iaload (show mj_ins 120 55 = some (.iaload, 1) from rfl)
theorem w120_56 {x : Int} : wp X d 120 56 ls [(0, x)] M Q ↔ Q (some (0, x)) M := q_ireturn (show mj_ins 120 56 = some (.ireturn, 1) from rfl) rfl
theorem w120_57 {x : Int} : wp X d 120 57 ((31, x) :: ls) st M Q ↔ wp X d 120 58 ((31, x) :: ls) ((31, x) :: st) M Q := q_aload_n (show mj_ins 120 57 = some (.aload_n 0, 1) from rfl) rfl rfl
theorem w120_58 {x : Int} : wp X d 120 58 ls ((31, x) :: st) M Q ↔ x ≠ 0 ∧ wp X d 120 61 ls ((30, hh M x 1) :: st) M Q := q_getfield (show mj_ins 120 58 = some (.getfield 19, 3) from rfl) rfl rfl rfl
theorem w120_61 {x : Int} : wp X d 120 61 ls ((30, x) :: st) M Q ↔ x ≠ 0 ∧ wp X d 120 64 ls ((29, hh M x 0) :: st) M Q := q_getfield (show mj_ins 120 61 = some (.getfield 91, 3) from rfl) rfl rfl rfl
theorem w120_64 {x : Int} : wp X d 120 64 ls ((29, x) :: st) M Q ↔ x ≠ 0 ∧ wp X d 120 67 ls ((3, hh M x 2) :: st) M Q := q_getfield (show mj_ins 120 64 = some (.getfield 209, 3) from rfl) rfl rfl rfl
theorem w120_67 {v0 : mj_V} {x : Int} : wp X d 120 67 (v0 :: (0, x) :: ls) st M Q ↔ wp X d 120 68 (v0 :: (0, x) :: ls) ((0, x) :: st) M Q := q_iload_n (show mj_ins 120 67 = some (.iload_n 1, 1) from rfl) rfl
theorem w120_68 {i x : Int} : wp X d 120 68 ls ((0, i) :: (3, x) :: st) M Q ↔ (x ≠ 0 ∧ 0 ≤ i ∧ i < hl M x) ∧ wp X d 120 69 ls ((0, hh M x i) :: st) M Q := q_iaload (show mj_ins 120 68 = some (.iaload, 1) from rfl)
theorem w120_69 {x : Int} : wp X d 120 69 ls [(0, x)] M Q ↔ Q (some (0, x)) M := q_ireturn (show mj_ins 120 69 = some (.ireturn, 1) from rfl) rfl
theorem w120_70 {x : Int} : wp X d 120 70 ((31, x) :: ls) st M Q ↔ wp X d 120 71 ((31, x) :: ls) ((31, x) :: st) M Q := q_aload_n (show mj_ins 120 70 = some (.aload_n 0, 1) from rfl) rfl rfl
theorem w120_71 {x : Int} : wp X d 120 71 ls ((31, x) :: st) M Q ↔ x ≠ 0 ∧ wp X d 120 74 ls ((30, hh M x 1) :: st) M Q := q_getfield (show mj_ins 120 71 = some (.getfield 19, 3) from rfl) rfl rfl rfl
theorem w120_74 {x : Int} : wp X d 120 74 ls ((30, x) :: st) M Q ↔ x ≠ 0 ∧ wp X d 120 77 ls ((24, hh M x 1) :: st) M Q := q_getfield (show mj_ins 120 74 = some (.getfield 148, 3) from rfl) rfl rfl rfl
theorem w120_77 {v0 : mj_V} {x : Int} : wp X d 120 77 (v0 :: (0, x) :: ls) st M Q ↔ wp X d 120 78 (v0 :: (0, x) :: ls) ((0, x) :: st) M Q := q_iload_n (show mj_ins 120 77 = some (.iload_n 1, 1) from rfl) rfl
theorem w120_78 {a0 a1 : Int} : wp X (d + 1) 120 78 ls ((0, a1) :: (24, a0) :: st) M Q ↔ (a0 ≠ 0 ∧ mj_cs st ≤ 8) ∧ wc X d 86 [(24, a0), (0, a1)] M (fun r M => wp X (d + 1) 120 81 ls (r.toList ++ st) M Q) := q_callV ⟨rfl, rfl⟩ (show mj_ins 120 78 = some (.invokevirtual 212, 3) from rfl) rfl rfl rfl (Nat.le_of_ble_eq_true rfl)
theorem w120_81 {x : Int} : wp X d 120 81 ls [(0, x)] M Q ↔ Q (some (0, x)) M := q_ireturn (show mj_ins 120 81 = some (.ireturn, 1) from rfl) rfl
theorem w120_82 : wp X d 120 82 ls st M Q ↔ wp X d 120 83 ls ((0, (-1)) :: st) M Q := q_iconst (show mj_ins 120 82 = some (.iconst (-1), 1) from rfl) (by decide)
theorem w120_83 {x : Int} : wp X d 120 83 ls [(0, x)] M Q ↔ Q (some (0, x)) M := q_ireturn (show mj_ins 120 83 = some (.ireturn, 1) from rfl) rfl
-- 121: PerfectFerried.law(IIZ)I
theorem w121_0 {x : Int} : wp X d 121 0 ((31, x) :: ls) st M Q ↔ wp X d 121 1 ((31, x) :: ls) ((31, x) :: st) M Q := q_aload_n (show mj_ins 121 0 = some (.aload_n 0, 1) from rfl) rfl rfl
theorem w121_1 {x : Int} : wp X d 121 1 ls ((31, x) :: st) M Q ↔ x ≠ 0 ∧ wp X d 121 4 ls ((30, hh M x 1) :: st) M Q := q_getfield (show mj_ins 121 1 = some (.getfield 19, 3) from rfl) rfl rfl rfl
theorem w121_4 {x : Int} : wp X d 121 4 ls ((30, x) :: st) M Q ↔ x ≠ 0 ∧ wp X d 121 7 ls ((24, hh M x 1) :: st) M Q := q_getfield (show mj_ins 121 4 = some (.getfield 148, 3) from rfl) rfl rfl rfl
theorem w121_7 {v0 : mj_V} {x : Int} : wp X d 121 7 (v0 :: (0, x) :: ls) st M Q ↔ wp X d 121 8 (v0 :: (0, x) :: ls) ((0, x) :: st) M Q := q_iload_n (show mj_ins 121 7 = some (.iload_n 1, 1) from rfl) rfl
theorem w121_8 {a0 a1 : Int} : wp X (d + 1) 121 8 ls ((0, a1) :: (24, a0) :: st) M Q ↔ (a0 ≠ 0 ∧ mj_cs st ≤ 8) ∧ wc X d 77 [(24, a0), (0, a1)] M (fun r M => wp X (d + 1) 121 11 ls (r.toList ++ st) M Q) := q_callV ⟨rfl, rfl⟩ (show mj_ins 121 8 = some (.invokevirtual 188, 3) from rfl) rfl rfl rfl (Nat.le_of_ble_eq_true rfl)
theorem w121_11 {x : Int} : wp X d 121 11 ls ((0, x) :: st) M Q ↔ if x = 0 then wp X d 121 28 ls st M Q else wp X d 121 14 ls st M Q := q_if_eq (show mj_ins 121 11 = some (.ifCond .eq 17, 3) from rfl) rfl
theorem w121_14 {x : Int} : wp X d 121 14 ((31, x) :: ls) st M Q ↔ wp X d 121 15 ((31, x) :: ls) ((31, x) :: st) M Q := q_aload_n (show mj_ins 121 14 = some (.aload_n 0, 1) from rfl) rfl rfl
theorem w121_15 {x : Int} : wp X d 121 15 ls ((31, x) :: st) M Q ↔ x ≠ 0 ∧ wp X d 121 18 ls ((30, hh M x 1) :: st) M Q := q_getfield (show mj_ins 121 15 = some (.getfield 19, 3) from rfl) rfl rfl rfl
theorem w121_18 {x : Int} : wp X d 121 18 ls ((30, x) :: st) M Q ↔ x ≠ 0 ∧ wp X d 121 21 ls ((29, hh M x 0) :: st) M Q := q_getfield (show mj_ins 121 18 = some (.getfield 91, 3) from rfl) rfl rfl rfl
theorem w121_21 {v0 v1 : mj_V} {x : Int} : wp X d 121 21 (v0 :: v1 :: (0, x) :: ls) st M Q ↔ wp X d 121 22 (v0 :: v1 :: (0, x) :: ls) ((0, x) :: st) M Q := q_iload_n (show mj_ins 121 21 = some (.iload_n 2, 1) from rfl) rfl
theorem w121_22 {a0 a1 : Int} : wp X (d + 1) 121 22 ls ((0, a1) :: (29, a0) :: st) M Q ↔ (a0 ≠ 0 ∧ mj_cs st ≤ 8) ∧ wc X d 76 [(29, a0), (0, a1)] M (fun r M => wp X (d + 1) 121 25 ls (r.toList ++ st) M Q) := q_callV ⟨rfl, rfl⟩ (show mj_ins 121 22 = some (.invokevirtual 203, 3) from rfl) rfl rfl rfl (Nat.le_of_ble_eq_true rfl)
theorem w121_25 {x : Int} : wp X d 121 25 ls ((0, x) :: st) M Q ↔ if x = 0 then wp X d 121 28 ls st M Q else wp X d 121 31 ls st M Q := q_if_ne (show mj_ins 121 25 = some (.ifCond .ne 6, 3) from rfl) rfl
theorem w121_28 : wp X d 121 28 ls st M Q ↔ wp X d 121 30 ls ((0, (-100)) :: st) M Q := q_bipush (show mj_ins 121 28 = some (.bipush (-100), 2) from rfl) (by decide)
theorem w121_30 {x : Int} : wp X d 121 30 ls [(0, x)] M Q ↔ Q (some (0, x)) M := q_ireturn (show mj_ins 121 30 = some (.ireturn, 1) from rfl) rfl
theorem w121_31 {x : Int} : wp X d 121 31 ((31, x) :: ls) st M Q ↔ wp X d 121 32 ((31, x) :: ls) ((31, x) :: st) M Q := q_aload_n (show mj_ins 121 31 = some (.aload_n 0, 1) from rfl) rfl rfl
theorem w121_32 {x : Int} : wp X d 121 32 ls ((31, x) :: st) M Q ↔ x ≠ 0 ∧ wp X d 121 35 ls ((30, hh M x 1) :: st) M Q := q_getfield (show mj_ins 121 32 = some (.getfield 19, 3) from rfl) rfl rfl rfl
theorem w121_35 {x : Int} : wp X d 121 35 ((31, x) :: ls) st M Q ↔ wp X d 121 36 ((31, x) :: ls) ((31, x) :: st) M Q := q_aload_n (show mj_ins 121 35 = some (.aload_n 0, 1) from rfl) rfl rfl
theorem w121_36 {x : Int} : wp X d 121 36 ls ((31, x) :: st) M Q ↔ x ≠ 0 ∧ wp X d 121 39 ls ((30, hh M x 1) :: st) M Q := q_getfield (show mj_ins 121 36 = some (.getfield 19, 3) from rfl) rfl rfl rfl
theorem w121_39 {x : Int} : wp X d 121 39 ls ((30, x) :: st) M Q ↔ x ≠ 0 ∧ wp X d 121 42 ls ((0, hh M x 7) :: st) M Q := q_getfield (show mj_ins 121 39 = some (.getfield 133, 3) from rfl) rfl rfl rfl
theorem w121_42 {a0 a1 : Int} : wp X (d + 1) 121 42 ls ((0, a1) :: (30, a0) :: st) M Q ↔ (a0 ≠ 0 ∧ mj_cs st ≤ 8) ∧ wc X d 81 [(30, a0), (0, a1)] M (fun r M => wp X (d + 1) 121 45 ls (r.toList ++ st) M Q) := q_callV ⟨rfl, rfl⟩ (show mj_ins 121 42 = some (.invokevirtual 160, 3) from rfl) rfl rfl rfl (Nat.le_of_ble_eq_true rfl)
theorem w121_45 {v0 v1 v2 w : mj_V} {x y : Int} : wp X d 121 45 (v0 :: v1 :: v2 :: (0, y) :: w :: ls) ((28, x) :: st) M Q ↔ wp X d 121 47 (v0 :: v1 :: v2 :: (0, y) :: (28, x) :: ls) st M Q := q_astore (show mj_ins 121 45 = some (.astore 4, 2) from rfl) rfl (Nat.le_add_left 5 _) (mj_set_s (fun z hz => by cases hz; exact (show (0 : Nat) ≠ 1 by decide)))
theorem w121_47 {v0 v1 v2 : mj_V} {x : Int} : wp X d 121 47 (v0 :: v1 :: v2 :: (0, x) :: ls) st M Q ↔ wp X d 121 48 (v0 :: v1 :: v2 :: (0, x) :: ls) ((0, x) :: st) M Q := q_iload_n (show mj_ins 121 47 = some (.iload_n 3, 1) from rfl) rfl
theorem w121_48 {x : Int} : wp X d 121 48 ls ((0, x) :: st) M Q ↔ if x = 0 then wp X d 121 79 ls st M Q else wp X d 121 51 ls st M Q := q_if_eq (show mj_ins 121 48 = some (.ifCond .eq 31, 3) from rfl) rfl
theorem w121_51 {x : Int} : wp X d 121 51 ((31, x) :: ls) st M Q ↔ wp X d 121 52 ((31, x) :: ls) ((31, x) :: st) M Q := q_aload_n (show mj_ins 121 51 = some (.aload_n 0, 1) from rfl) rfl rfl
theorem w121_52 {x : Int} : wp X d 121 52 ls ((31, x) :: st) M Q ↔ x ≠ 0 ∧ wp X d 121 55 ls ((23, hh M x 3) :: st) M Q := q_getfield (show mj_ins 121 52 = some (.getfield 29, 3) from rfl) rfl rfl rfl
theorem w121_55 {v0 v1 v2 v3 : mj_V} {x : Int} : wp X d 121 55 (v0 :: v1 :: v2 :: v3 :: (28, x) :: ls) st M Q ↔ wp X d 121 57 (v0 :: v1 :: v2 :: v3 :: (28, x) :: ls) ((28, x) :: st) M Q := q_aload (show mj_ins 121 55 = some (.aload 4, 2) from rfl) rfl rfl
theorem w121_57 {x : Int} : wp X d 121 57 ((31, x) :: ls) st M Q ↔ wp X d 121 58 ((31, x) :: ls) ((31, x) :: st) M Q := q_aload_n (show mj_ins 121 57 = some (.aload_n 0, 1) from rfl) rfl rfl
theorem w121_58 {x : Int} : wp X d 121 58 ls ((31, x) :: st) M Q ↔ x ≠ 0 ∧ wp X d 121 61 ls ((30, hh M x 1) :: st) M Q := q_getfield (show mj_ins 121 58 = some (.getfield 19, 3) from rfl) rfl rfl rfl
theorem w121_61 {x : Int} : wp X d 121 61 ls ((30, x) :: st) M Q ↔ x ≠ 0 ∧ wp X d 121 64 ls ((29, hh M x 0) :: st) M Q := q_getfield (show mj_ins 121 61 = some (.getfield 91, 3) from rfl) rfl rfl rfl
theorem w121_64 {x : Int} : wp X d 121 64 ((31, x) :: ls) st M Q ↔ wp X d 121 65 ((31, x) :: ls) ((31, x) :: st) M Q := q_aload_n (show mj_ins 121 64 = some (.aload_n 0, 1) from rfl) rfl rfl
theorem w121_65 {x : Int} : wp X d 121 65 ls ((31, x) :: st) M Q ↔ x ≠ 0 ∧ wp X d 121 68 ls ((30, hh M x 1) :: st) M Q := q_getfield (show mj_ins 121 65 = some (.getfield 19, 3) from rfl) rfl rfl rfl
theorem w121_68 {x : Int} : wp X d 121 68 ls ((30, x) :: st) M Q ↔ x ≠ 0 ∧ wp X d 121 71 ls ((24, hh M x 1) :: st) M Q := q_getfield (show mj_ins 121 68 = some (.getfield 148, 3) from rfl) rfl rfl rfl
theorem w121_71 {v0 : mj_V} {x : Int} : wp X d 121 71 (v0 :: (0, x) :: ls) st M Q ↔ wp X d 121 72 (v0 :: (0, x) :: ls) ((0, x) :: st) M Q := q_iload_n (show mj_ins 121 71 = some (.iload_n 1, 1) from rfl) rfl
theorem w121_72 {v0 v1 : mj_V} {x : Int} : wp X d 121 72 (v0 :: v1 :: (0, x) :: ls) st M Q ↔ wp X d 121 73 (v0 :: v1 :: (0, x) :: ls) ((0, x) :: st) M Q := q_iload_n (show mj_ins 121 72 = some (.iload_n 2, 1) from rfl) rfl
theorem w121_73 {a0 a1 a2 a3 a4 a5 : Int} : wp X (d + 1) 121 73 ls ((0, a5) :: (0, a4) :: (24, a3) :: (29, a2) :: (28, a1) :: (23, a0) :: st) M Q ↔ (a0 ≠ 0 ∧ mj_cs st ≤ 8) ∧ wc X d 107 [(23, a0), (28, a1), (29, a2), (24, a3), (0, a4), (0, a5)] M (fun r M => wp X (d + 1) 121 76 ls (r.toList ++ st) M Q) := q_callV ⟨rfl, rfl⟩ (show mj_ins 121 73 = some (.invokevirtual 215, 3) from rfl) rfl rfl rfl (Nat.le_of_ble_eq_true rfl)
theorem w121_76 : wp X d 121 76 ls st M Q ↔ wp X d 121 104 ls st M Q := q_goto (show mj_ins 121 76 = some (.goto 28, 3) from rfl) rfl
theorem w121_79 {x : Int} : wp X d 121 79 ((31, x) :: ls) st M Q ↔ wp X d 121 80 ((31, x) :: ls) ((31, x) :: st) M Q := q_aload_n (show mj_ins 121 79 = some (.aload_n 0, 1) from rfl) rfl rfl
theorem w121_80 {x : Int} : wp X d 121 80 ls ((31, x) :: st) M Q ↔ x ≠ 0 ∧ wp X d 121 83 ls ((23, hh M x 3) :: st) M Q := q_getfield (show mj_ins 121 80 = some (.getfield 29, 3) from rfl) rfl rfl rfl
theorem w121_83 {v0 v1 v2 v3 : mj_V} {x : Int} : wp X d 121 83 (v0 :: v1 :: v2 :: v3 :: (28, x) :: ls) st M Q ↔ wp X d 121 85 (v0 :: v1 :: v2 :: v3 :: (28, x) :: ls) ((28, x) :: st) M Q := q_aload (show mj_ins 121 83 = some (.aload 4, 2) from rfl) rfl rfl
theorem w121_85 {x : Int} : wp X d 121 85 ((31, x) :: ls) st M Q ↔ wp X d 121 86 ((31, x) :: ls) ((31, x) :: st) M Q := q_aload_n (show mj_ins 121 85 = some (.aload_n 0, 1) from rfl) rfl rfl
theorem w121_86 {x : Int} : wp X d 121 86 ls ((31, x) :: st) M Q ↔ x ≠ 0 ∧ wp X d 121 89 ls ((30, hh M x 1) :: st) M Q := q_getfield (show mj_ins 121 86 = some (.getfield 19, 3) from rfl) rfl rfl rfl
theorem w121_89 {x : Int} : wp X d 121 89 ls ((30, x) :: st) M Q ↔ x ≠ 0 ∧ wp X d 121 92 ls ((29, hh M x 0) :: st) M Q := q_getfield (show mj_ins 121 89 = some (.getfield 91, 3) from rfl) rfl rfl rfl
theorem w121_92 {x : Int} : wp X d 121 92 ((31, x) :: ls) st M Q ↔ wp X d 121 93 ((31, x) :: ls) ((31, x) :: st) M Q := q_aload_n (show mj_ins 121 92 = some (.aload_n 0, 1) from rfl) rfl rfl
theorem w121_93 {x : Int} : wp X d 121 93 ls ((31, x) :: st) M Q ↔ x ≠ 0 ∧ wp X d 121 96 ls ((30, hh M x 1) :: st) M Q := q_getfield (show mj_ins 121 93 = some (.getfield 19, 3) from rfl) rfl rfl rfl
theorem w121_96 {x : Int} : wp X d 121 96 ls ((30, x) :: st) M Q ↔ x ≠ 0 ∧ wp X d 121 99 ls ((24, hh M x 1) :: st) M Q := q_getfield (show mj_ins 121 96 = some (.getfield 148, 3) from rfl) rfl rfl rfl
theorem w121_99 {v0 : mj_V} {x : Int} : wp X d 121 99 (v0 :: (0, x) :: ls) st M Q ↔ wp X d 121 100 (v0 :: (0, x) :: ls) ((0, x) :: st) M Q := q_iload_n (show mj_ins 121 99 = some (.iload_n 1, 1) from rfl) rfl
theorem w121_100 {v0 v1 : mj_V} {x : Int} : wp X d 121 100 (v0 :: v1 :: (0, x) :: ls) st M Q ↔ wp X d 121 101 (v0 :: v1 :: (0, x) :: ls) ((0, x) :: st) M Q := q_iload_n (show mj_ins 121 100 = some (.iload_n 2, 1) from rfl) rfl
theorem w121_101 {a0 a1 a2 a3 a4 a5 : Int} : wp X (d + 1) 121 101 ls ((0, a5) :: (0, a4) :: (24, a3) :: (29, a2) :: (28, a1) :: (23, a0) :: st) M Q ↔ (a0 ≠ 0 ∧ mj_cs st ≤ 8) ∧ wc X d 82 [(23, a0), (28, a1), (29, a2), (24, a3), (0, a4), (0, a5)] M (fun r M => wp X (d + 1) 121 104 ls (r.toList ++ st) M Q) := q_callV ⟨rfl, rfl⟩ (show mj_ins 121 101 = some (.invokevirtual 219, 3) from rfl) rfl rfl rfl (Nat.le_of_ble_eq_true rfl)
theorem w121_104 {x : Int} : wp X d 121 104 ls [(0, x)] M Q ↔ Q (some (0, x)) M := q_ireturn (show mj_ins 121 104 = some (.ireturn, 1) from rfl) rfl
-- 122: PerfectFerried.is(I)I
theorem w122_0 {v0 : mj_V} {x : Int} : wp X d 122 0 (v0 :: (0, x) :: ls) st M Q ↔ wp X d 122 1 (v0 :: (0, x) :: ls) ((0, x) :: st) M Q := q_iload_n (show mj_ins 122 0 = some (.iload_n 1, 1) from rfl) rfl
theorem w122_1 {x : Int} : wp X d 122 1 ls ((0, x) :: st) M Q ↔ if x = 0 then wp X d 122 32 ls st M Q else (if x = 1 then wp X d 122 43 ls st M Q else (if x = 2 then wp X d 122 54 ls st M Q else (if x = 3 then wp X d 122 65 ls st M Q else (wp X d 122 73 ls st M Q)))) := q_tsw (L := [(0, 32), (1, 43), (2, 54), (3, 65)]) (show mj_ins 122 1 = some (.tableswitch 72 0 3 #[31, 42, 53, 64], 31) from rfl) rfl rfl (by decide) (by decide)
theorem w122_32 {x : Int} : wp X d 122 32 ((31, x) :: ls) st M Q ↔ wp X d 122 33 ((31, x) :: ls) ((31, x) :: st) M Q := q_aload_n (show mj_ins 122 32 = some (.aload_n 0, 1) from rfl) rfl rfl
theorem w122_33 {x : Int} : wp X d 122 33 ls ((31, x) :: st) M Q ↔ x ≠ 0 ∧ wp X d 122 36 ls ((30, hh M x 1) :: st) M Q := q_getfield (show mj_ins 122 33 = some (.getfield 19, 3) from rfl) rfl rfl rfl
theorem w122_36 {x : Int} : wp X d 122 36 ls ((30, x) :: st) M Q ↔ x ≠ 0 ∧ wp X d 122 39 ls ((24, hh M x 1) :: st) M Q := q_getfield (show mj_ins 122 36 = some (.getfield 148, 3) from rfl) rfl rfl rfl
theorem w122_39 {x : Int} : wp X d 122 39 ls ((24, x) :: st) M Q ↔ x ≠ 0 ∧ wp X d 122 42 ls ((0, hh M x 0) :: st) M Q := q_getfield (show mj_ins 122 39 = some (.getfield 152, 3) from rfl) rfl rfl rfl
theorem w122_42 {x : Int} : wp X d 122 42 ls [(0, x)] M Q ↔ Q (some (0, x)) M := q_ireturn (show mj_ins 122 42 = some (.ireturn, 1) from rfl) rfl
theorem w122_43 {x : Int} : wp X d 122 43 ((31, x) :: ls) st M Q ↔ wp X d 122 44 ((31, x) :: ls) ((31, x) :: st) M Q := q_aload_n (show mj_ins 122 43 = some (.aload_n 0, 1) from rfl) rfl rfl
theorem w122_44 {x : Int} : wp X d 122 44 ls ((31, x) :: st) M Q ↔ x ≠ 0 ∧ wp X d 122 47 ls ((30, hh M x 1) :: st) M Q := q_getfield (show mj_ins 122 44 = some (.getfield 19, 3) from rfl) rfl rfl rfl
theorem w122_47 {x : Int} : wp X d 122 47 ls ((30, x) :: st) M Q ↔ x ≠ 0 ∧ wp X d 122 50 ls ((24, hh M x 1) :: st) M Q := q_getfield (show mj_ins 122 47 = some (.getfield 148, 3) from rfl) rfl rfl rfl
theorem w122_50 {x : Int} : wp X d 122 50 ls ((24, x) :: st) M Q ↔ x ≠ 0 ∧ wp X d 122 53 ls ((0, hh M x 1) :: st) M Q := q_getfield (show mj_ins 122 50 = some (.getfield 175, 3) from rfl) rfl rfl rfl
theorem w122_53 {x : Int} : wp X d 122 53 ls [(0, x)] M Q ↔ Q (some (0, x)) M := q_ireturn (show mj_ins 122 53 = some (.ireturn, 1) from rfl) rfl
theorem w122_54 {x : Int} : wp X d 122 54 ((31, x) :: ls) st M Q ↔ wp X d 122 55 ((31, x) :: ls) ((31, x) :: st) M Q := q_aload_n (show mj_ins 122 54 = some (.aload_n 0, 1) from rfl) rfl rfl
theorem w122_55 {x : Int} : wp X d 122 55 ls ((31, x) :: st) M Q ↔ x ≠ 0 ∧ wp X d 122 58 ls ((30, hh M x 1) :: st) M Q := q_getfield (show mj_ins 122 55 = some (.getfield 19, 3) from rfl) rfl rfl rfl
theorem w122_58 {x : Int} : wp X d 122 58 ls ((30, x) :: st) M Q ↔ x ≠ 0 ∧ wp X d 122 61 ls ((24, hh M x 1) :: st) M Q := q_getfield (show mj_ins 122 58 = some (.getfield 148, 3) from rfl) rfl rfl rfl
theorem w122_61 {a0 : Int} : wp X (d + 1) 122 61 ls ((24, a0) :: st) M Q ↔ (a0 ≠ 0 ∧ mj_cs st ≤ 8) ∧ wc X d 123 [(24, a0)] M (fun r M => wp X (d + 1) 122 64 ls (r.toList ++ st) M Q) := q_callV ⟨rfl, rfl⟩ (show mj_ins 122 61 = some (.invokevirtual 222, 3) from rfl) rfl rfl rfl (Nat.le_of_ble_eq_true rfl)
theorem w122_64 {x : Int} : wp X d 122 64 ls [(0, x)] M Q ↔ Q (some (0, x)) M := q_ireturn (show mj_ins 122 64 = some (.ireturn, 1) from rfl) rfl
theorem w122_65 {x : Int} : wp X d 122 65 ((31, x) :: ls) st M Q ↔ wp X d 122 66 ((31, x) :: ls) ((31, x) :: st) M Q := q_aload_n (show mj_ins 122 65 = some (.aload_n 0, 1) from rfl) rfl rfl
theorem w122_66 {x : Int} : wp X d 122 66 ls ((31, x) :: st) M Q ↔ x ≠ 0 ∧ wp X d 122 69 ls ((30, hh M x 1) :: st) M Q := q_getfield (show mj_ins 122 66 = some (.getfield 19, 3) from rfl) rfl rfl rfl
theorem w122_69 {x : Int} : wp X d 122 69 ls ((30, x) :: st) M Q ↔ x ≠ 0 ∧ wp X d 122 72 ls ((0, hh M x 4) :: st) M Q := q_getfield (show mj_ins 122 69 = some (.getfield 225, 3) from rfl) rfl rfl rfl
theorem w122_72 {x : Int} : wp X d 122 72 ls [(0, x)] M Q ↔ Q (some (0, x)) M := q_ireturn (show mj_ins 122 72 = some (.ireturn, 1) from rfl) rfl
theorem w122_73 : wp X d 122 73 ls st M Q ↔ wp X d 122 75 ls ((0, (-2)) :: st) M Q := q_bipush (show mj_ins 122 73 = some (.bipush (-2), 2) from rfl) (by decide)
theorem w122_75 {x : Int} : wp X d 122 75 ls [(0, x)] M Q ↔ Q (some (0, x)) M := q_ireturn (show mj_ins 122 75 = some (.ireturn, 1) from rfl) rfl
-- 124: PerfectFerried.book(II)I
theorem w124_0 {v0 : mj_V} {x : Int} : wp X d 124 0 (v0 :: (0, x) :: ls) st M Q ↔ wp X d 124 1 (v0 :: (0, x) :: ls) ((0, x) :: st) M Q := q_iload_n (show mj_ins 124 0 = some (.iload_n 1, 1) from rfl) rfl
theorem w124_1 : wp X d 124 1 ls st M Q ↔ wp X d 124 2 ls ((0, (-1)) :: st) M Q := q_iconst (show mj_ins 124 1 = some (.iconst (-1), 1) from rfl) (by decide)
theorem w124_2 {x y : Int} : wp X d 124 2 ls ((0, y) :: (0, x) :: st) M Q ↔ if x = y then wp X d 124 5 ls st M Q else wp X d 124 16 ls st M Q := q_icmp_ne (show mj_ins 124 2 = some (.if_icmp .ne 14, 3) from rfl) rfl
theorem w124_5 {x : Int} : wp X d 124 5 ((31, x) :: ls) st M Q ↔ wp X d 124 6 ((31, x) :: ls) ((31, x) :: st) M Q := q_aload_n (show mj_ins 124 5 = some (.aload_n 0, 1) from rfl) rfl rfl
theorem w124_6 {x : Int} : wp X d 124 6 ls ((31, x) :: st) M Q ↔ x ≠ 0 ∧ wp X d 124 9 ls ((30, hh M x 1) :: st) M Q := q_getfield (show mj_ins 124 6 = some (.getfield 19, 3) from rfl) rfl rfl rfl
theorem w124_9 {x : Int} : wp X d 124 9 ls ((30, x) :: st) M Q ↔ x ≠ 0 ∧ wp X d 124 12 ls ((24, hh M x 1) :: st) M Q := q_getfield (show mj_ins 124 9 = some (.getfield 148, 3) from rfl) rfl rfl rfl
theorem w124_12 {x : Int} : wp X d 124 12 ls ((24, x) :: st) M Q ↔ x ≠ 0 ∧ wp X d 124 15 ls ((0, hh M x 3) :: st) M Q := q_getfield (show mj_ins 124 12 = some (.getfield 228, 3) from rfl) rfl rfl rfl
theorem w124_15 {x : Int} : wp X d 124 15 ls [(0, x)] M Q ↔ Q (some (0, x)) M := q_ireturn (show mj_ins 124 15 = some (.ireturn, 1) from rfl) rfl
theorem w124_16 {x : Int} : wp X d 124 16 ((31, x) :: ls) st M Q ↔ wp X d 124 17 ((31, x) :: ls) ((31, x) :: st) M Q := q_aload_n (show mj_ins 124 16 = some (.aload_n 0, 1) from rfl) rfl rfl
theorem w124_17 {x : Int} : wp X d 124 17 ls ((31, x) :: st) M Q ↔ x ≠ 0 ∧ wp X d 124 20 ls ((30, hh M x 1) :: st) M Q := q_getfield (show mj_ins 124 17 = some (.getfield 19, 3) from rfl) rfl rfl rfl
theorem w124_20 {x : Int} : wp X d 124 20 ls ((30, x) :: st) M Q ↔ x ≠ 0 ∧ wp X d 124 23 ls ((24, hh M x 1) :: st) M Q := q_getfield (show mj_ins 124 20 = some (.getfield 148, 3) from rfl) rfl rfl rfl
theorem w124_23 {v0 : mj_V} {x : Int} : wp X d 124 23 (v0 :: (0, x) :: ls) st M Q ↔ wp X d 124 24 (v0 :: (0, x) :: ls) ((0, x) :: st) M Q := q_iload_n (show mj_ins 124 23 = some (.iload_n 1, 1) from rfl) rfl
theorem w124_24 {v0 v1 : mj_V} {x : Int} : wp X d 124 24 (v0 :: v1 :: (0, x) :: ls) st M Q ↔ wp X d 124 25 (v0 :: v1 :: (0, x) :: ls) ((0, x) :: st) M Q := q_iload_n (show mj_ins 124 24 = some (.iload_n 2, 1) from rfl) rfl
theorem w124_25 {a0 a1 a2 : Int} : wp X (d + 1) 124 25 ls ((0, a2) :: (0, a1) :: (24, a0) :: st) M Q ↔ (a0 ≠ 0 ∧ mj_cs st ≤ 8) ∧ wc X d 125 [(24, a0), (0, a1), (0, a2)] M (fun r M => wp X (d + 1) 124 28 ls (r.toList ++ st) M Q) := q_callV ⟨rfl, rfl⟩ (show mj_ins 124 25 = some (.invokevirtual 231, 3) from rfl) rfl rfl rfl (Nat.le_of_ble_eq_true rfl)
theorem w124_28 {x : Int} : wp X d 124 28 ls [(0, x)] M Q ↔ Q (some (0, x)) M := q_ireturn (show mj_ins 124 28 = some (.ireturn, 1) from rfl) rfl
-- 126: PerfectFerried.foretold(III)I
theorem w126_0 {v0 : mj_V} {x : Int} : wp X d 126 0 (v0 :: (0, x) :: ls) st M Q ↔ wp X d 126 1 (v0 :: (0, x) :: ls) ((0, x) :: st) M Q := q_iload_n (show mj_ins 126 0 = some (.iload_n 1, 1) from rfl) rfl
theorem w126_1 : wp X d 126 1 ls st M Q ↔ wp X d 126 2 ls ((0, 1) :: st) M Q := q_iconst (show mj_ins 126 1 = some (.iconst 1, 1) from rfl) (by decide)
theorem w126_2 {x y : Int} : wp X d 126 2 ls ((0, y) :: (0, x) :: st) M Q ↔ if x < y then wp X d 126 34 ls st M Q else wp X d 126 5 ls st M Q := q_icmp_lt (show mj_ins 126 2 = some (.if_icmp .lt 32, 3) from rfl) rfl
theorem w126_5 {v0 : mj_V} {x : Int} : wp X d 126 5 (v0 :: (0, x) :: ls) st M Q ↔ wp X d 126 6 (v0 :: (0, x) :: ls) ((0, x) :: st) M Q := q_iload_n (show mj_ins 126 5 = some (.iload_n 1, 1) from rfl) rfl
theorem w126_6 : wp X d 126 6 ls st M Q ↔ wp X d 126 8 ls ((0, 60) :: st) M Q := q_bipush (show mj_ins 126 6 = some (.bipush 60, 2) from rfl) (by decide)
theorem w126_8 {x y : Int} : wp X d 126 8 ls ((0, y) :: (0, x) :: st) M Q ↔ if x ≤ y then wp X d 126 11 ls st M Q else wp X d 126 34 ls st M Q := q_icmp_gt (show mj_ins 126 8 = some (.if_icmp .gt 26, 3) from rfl) rfl
theorem w126_11 {x : Int} : wp X d 126 11 ((31, x) :: ls) st M Q ↔ wp X d 126 12 ((31, x) :: ls) ((31, x) :: st) M Q := q_aload_n (show mj_ins 126 11 = some (.aload_n 0, 1) from rfl) rfl rfl
theorem w126_12 {x : Int} : wp X d 126 12 ls ((31, x) :: st) M Q ↔ x ≠ 0 ∧ wp X d 126 15 ls ((30, hh M x 1) :: st) M Q := q_getfield (show mj_ins 126 12 = some (.getfield 19, 3) from rfl) rfl rfl rfl
theorem w126_15 {x : Int} : wp X d 126 15 ls ((30, x) :: st) M Q ↔ x ≠ 0 ∧ wp X d 126 18 ls ((24, hh M x 1) :: st) M Q := q_getfield (show mj_ins 126 15 = some (.getfield 148, 3) from rfl) rfl rfl rfl
theorem w126_18 {v0 v1 : mj_V} {x : Int} : wp X d 126 18 (v0 :: v1 :: (0, x) :: ls) st M Q ↔ wp X d 126 19 (v0 :: v1 :: (0, x) :: ls) ((0, x) :: st) M Q := q_iload_n (show mj_ins 126 18 = some (.iload_n 2, 1) from rfl) rfl
theorem w126_19 {a0 a1 : Int} : wp X (d + 1) 126 19 ls ((0, a1) :: (24, a0) :: st) M Q ↔ (a0 ≠ 0 ∧ mj_cs st ≤ 8) ∧ wc X d 77 [(24, a0), (0, a1)] M (fun r M => wp X (d + 1) 126 22 ls (r.toList ++ st) M Q) := q_callV ⟨rfl, rfl⟩ (show mj_ins 126 19 = some (.invokevirtual 188, 3) from rfl) rfl rfl rfl (Nat.le_of_ble_eq_true rfl)
theorem w126_22 {x : Int} : wp X d 126 22 ls ((0, x) :: st) M Q ↔ if x = 0 then wp X d 126 34 ls st M Q else wp X d 126 25 ls st M Q := q_if_eq (show mj_ins 126 22 = some (.ifCond .eq 12, 3) from rfl) rfl
theorem w126_25 {v0 v1 v2 : mj_V} {x : Int} : wp X d 126 25 (v0 :: v1 :: v2 :: (0, x) :: ls) st M Q ↔ wp X d 126 26 (v0 :: v1 :: v2 :: (0, x) :: ls) ((0, x) :: st) M Q := q_iload_n (show mj_ins 126 25 = some (.iload_n 3, 1) from rfl) rfl
theorem w126_26 {x : Int} : wp X d 126 26 ls ((0, x) :: st) M Q ↔ if x < 0 then wp X d 126 34 ls st M Q else wp X d 126 29 ls st M Q := q_if_lt (show mj_ins 126 26 = some (.ifCond .lt 8, 3) from rfl) rfl
theorem w126_29 {v0 v1 v2 : mj_V} {x : Int} : wp X d 126 29 (v0 :: v1 :: v2 :: (0, x) :: ls) st M Q ↔ wp X d 126 30 (v0 :: v1 :: v2 :: (0, x) :: ls) ((0, x) :: st) M Q := q_iload_n (show mj_ins 126 29 = some (.iload_n 3, 1) from rfl) rfl
theorem w126_30 : wp X d 126 30 ls st M Q ↔ wp X d 126 31 ls ((0, 1) :: st) M Q := q_iconst (show mj_ins 126 30 = some (.iconst 1, 1) from rfl) (by decide)
theorem w126_31 {x y : Int} : wp X d 126 31 ls ((0, y) :: (0, x) :: st) M Q ↔ if x ≤ y then wp X d 126 36 ls st M Q else wp X d 126 34 ls st M Q := q_icmp_le (show mj_ins 126 31 = some (.if_icmp .le 5, 3) from rfl) rfl
theorem w126_34 : wp X d 126 34 ls st M Q ↔ wp X d 126 35 ls ((0, (-1)) :: st) M Q := q_iconst (show mj_ins 126 34 = some (.iconst (-1), 1) from rfl) (by decide)
theorem w126_35 {x : Int} : wp X d 126 35 ls [(0, x)] M Q ↔ Q (some (0, x)) M := q_ireturn (show mj_ins 126 35 = some (.ireturn, 1) from rfl) rfl
theorem w126_36 {x : Int} : wp X d 126 36 ((31, x) :: ls) st M Q ↔ wp X d 126 37 ((31, x) :: ls) ((31, x) :: st) M Q := q_aload_n (show mj_ins 126 36 = some (.aload_n 0, 1) from rfl) rfl rfl
theorem w126_37 {x : Int} : wp X d 126 37 ls ((31, x) :: st) M Q ↔ x ≠ 0 ∧ wp X d 126 40 ls ((22, hh M x 4) :: st) M Q := q_getfield (show mj_ins 126 37 = some (.getfield 38, 3) from rfl) rfl rfl rfl
theorem w126_40 {v0 : mj_V} {x : Int} : wp X d 126 40 (v0 :: (0, x) :: ls) st M Q ↔ wp X d 126 41 (v0 :: (0, x) :: ls) ((0, x) :: st) M Q := q_iload_n (show mj_ins 126 40 = some (.iload_n 1, 1) from rfl) rfl
theorem w126_41 {a0 a1 : Int} : wp X (d + 1) 126 41 ls ((0, a1) :: (22, a0) :: st) M Q ↔ (a0 ≠ 0 ∧ mj_cs st ≤ 8) ∧ wc X d 127 [(22, a0), (0, a1)] M (fun r M => wp X (d + 1) 126 44 ls (r.toList ++ st) M Q) := q_callV ⟨rfl, rfl⟩ (show mj_ins 126 41 = some (.invokevirtual 234, 3) from rfl) rfl rfl rfl (Nat.le_of_ble_eq_true rfl)
theorem w126_44 {v0 v1 v2 w : mj_V} {x y : Int} : wp X d 126 44 (v0 :: v1 :: v2 :: (0, y) :: w :: ls) ((24, x) :: st) M Q ↔ wp X d 126 46 (v0 :: v1 :: v2 :: (0, y) :: (24, x) :: ls) st M Q := q_astore (show mj_ins 126 44 = some (.astore 4, 2) from rfl) rfl (Nat.le_add_left 5 _) (mj_set_s (fun z hz => by cases hz; exact (show (0 : Nat) ≠ 1 by decide)))
theorem w126_46 {v0 v1 v2 : mj_V} {x : Int} : wp X d 126 46 (v0 :: v1 :: v2 :: (0, x) :: ls) st M Q ↔ wp X d 126 47 (v0 :: v1 :: v2 :: (0, x) :: ls) ((0, x) :: st) M Q := q_iload_n (show mj_ins 126 46 = some (.iload_n 3, 1) from rfl) rfl
theorem w126_47 {x : Int} : wp X d 126 47 ls ((0, x) :: st) M Q ↔ if x = 0 then wp X d 126 50 ls st M Q else wp X d 126 60 ls st M Q := q_if_ne (show mj_ins 126 47 = some (.ifCond .ne 13, 3) from rfl) rfl
theorem w126_50 {v0 v1 v2 v3 : mj_V} {x : Int} : wp X d 126 50 (v0 :: v1 :: v2 :: v3 :: (24, x) :: ls) st M Q ↔ wp X d 126 52 (v0 :: v1 :: v2 :: v3 :: (24, x) :: ls) ((24, x) :: st) M Q := q_aload (show mj_ins 126 50 = some (.aload 4, 2) from rfl) rfl rfl
theorem w126_52 {x : Int} : wp X d 126 52 ls ((24, x) :: st) M Q ↔ x ≠ 0 ∧ wp X d 126 55 ls ((3, hh M x 5) :: st) M Q := q_getfield (show mj_ins 126 52 = some (.getfield 194, 3) from rfl) rfl rfl rfl
theorem w126_55 {v0 v1 : mj_V} {x : Int} : wp X d 126 55 (v0 :: v1 :: (0, x) :: ls) st M Q ↔ wp X d 126 56 (v0 :: v1 :: (0, x) :: ls) ((0, x) :: st) M Q := q_iload_n (show mj_ins 126 55 = some (.iload_n 2, 1) from rfl) rfl
theorem w126_56 {i x : Int} : wp X d 126 56 ls ((0, i) :: (3, x) :: st) M Q ↔ (x ≠ 0 ∧ 0 ≤ i ∧ i < hl M x) ∧ wp X d 126 57 ls ((0, hh M x i) :: st) M Q := q_iaload (show mj_ins 126 56 = some (.iaload, 1) from rfl)
theorem w126_57 : wp X d 126 57 ls st M Q ↔ wp X d 126 67 ls st M Q := q_goto (show mj_ins 126 57 = some (.goto 10, 3) from rfl) rfl
theorem w126_60 {v0 v1 v2 v3 : mj_V} {x : Int} : wp X d 126 60 (v0 :: v1 :: v2 :: v3 :: (24, x) :: ls) st M Q ↔ wp X d 126 62 (v0 :: v1 :: v2 :: v3 :: (24, x) :: ls) ((24, x) :: st) M Q := q_aload (show mj_ins 126 60 = some (.aload 4, 2) from rfl) rfl rfl
theorem w126_62 {x : Int} : wp X d 126 62 ls ((24, x) :: st) M Q ↔ x ≠ 0 ∧ wp X d 126 65 ls ((3, hh M x 4) :: st) M Q := q_getfield (show mj_ins 126 62 = some (.getfield 191, 3) from rfl) rfl rfl rfl
theorem w126_65 {v0 v1 : mj_V} {x : Int} : wp X d 126 65 (v0 :: v1 :: (0, x) :: ls) st M Q ↔ wp X d 126 66 (v0 :: v1 :: (0, x) :: ls) ((0, x) :: st) M Q := q_iload_n (show mj_ins 126 65 = some (.iload_n 2, 1) from rfl) rfl
theorem w126_66 {i x : Int} : wp X d 126 66 ls ((0, i) :: (3, x) :: st) M Q ↔ (x ≠ 0 ∧ 0 ≤ i ∧ i < hl M x) ∧ wp X d 126 67 ls ((0, hh M x i) :: st) M Q := q_iaload (show mj_ins 126 66 = some (.iaload, 1) from rfl)
theorem w126_67 {x : Int} : wp X d 126 67 ls [(0, x)] M Q ↔ Q (some (0, x)) M := q_ireturn (show mj_ins 126 67 = some (.ireturn, 1) from rfl) rfl
-- 128: PerfectFerried.order(II)I
theorem w128_0 {x : Int} : wp X d 128 0 ((31, x) :: ls) st M Q ↔ wp X d 128 1 ((31, x) :: ls) ((31, x) :: st) M Q := q_aload_n (show mj_ins 128 0 = some (.aload_n 0, 1) from rfl) rfl rfl
theorem w128_1 {x : Int} : wp X d 128 1 ls ((31, x) :: st) M Q ↔ x ≠ 0 ∧ wp X d 128 4 ls ((25, hh M x 0) :: st) M Q := q_getfield (show mj_ins 128 1 = some (.getfield 10, 3) from rfl) rfl rfl rfl
theorem w128_4 {v0 : mj_V} {x : Int} : wp X d 128 4 (v0 :: (0, x) :: ls) st M Q ↔ wp X d 128 5 (v0 :: (0, x) :: ls) ((0, x) :: st) M Q := q_iload_n (show mj_ins 128 4 = some (.iload_n 1, 1) from rfl) rfl
theorem w128_5 {v0 v1 : mj_V} {x : Int} : wp X d 128 5 (v0 :: v1 :: (0, x) :: ls) st M Q ↔ wp X d 128 6 (v0 :: v1 :: (0, x) :: ls) ((0, x) :: st) M Q := q_iload_n (show mj_ins 128 5 = some (.iload_n 2, 1) from rfl) rfl
theorem w128_6 {a0 a1 a2 : Int} : wp X (d + 1) 128 6 ls ((0, a2) :: (0, a1) :: (25, a0) :: st) M Q ↔ (a0 ≠ 0 ∧ mj_cs st ≤ 8) ∧ wc X d 129 [(25, a0), (0, a1), (0, a2)] M (fun r M => wp X (d + 1) 128 9 ls (r.toList ++ st) M Q) := q_callV ⟨rfl, rfl⟩ (show mj_ins 128 6 = some (.invokevirtual 238, 3) from rfl) rfl rfl rfl (Nat.le_of_ble_eq_true rfl)
theorem w128_9 {x : Int} : wp X d 128 9 ls [(0, x)] M Q ↔ Q (some (0, x)) M := q_ireturn (show mj_ins 128 9 = some (.ireturn, 1) from rfl) rfl
-- 130: PerfectFerried.number(IIIII)I
theorem w130_0 {x : Int} : wp X d 130 0 ((31, x) :: ls) st M Q ↔ wp X d 130 1 ((31, x) :: ls) ((31, x) :: st) M Q := q_aload_n (show mj_ins 130 0 = some (.aload_n 0, 1) from rfl) rfl rfl
theorem w130_1 {x : Int} : wp X d 130 1 ls ((31, x) :: st) M Q ↔ x ≠ 0 ∧ wp X d 130 4 ls ((25, hh M x 0) :: st) M Q := q_getfield (show mj_ins 130 1 = some (.getfield 10, 3) from rfl) rfl rfl rfl
theorem w130_4 {v0 : mj_V} {x : Int} : wp X d 130 4 (v0 :: (0, x) :: ls) st M Q ↔ wp X d 130 5 (v0 :: (0, x) :: ls) ((0, x) :: st) M Q := q_iload_n (show mj_ins 130 4 = some (.iload_n 1, 1) from rfl) rfl
theorem w130_5 {v0 v1 : mj_V} {x : Int} : wp X d 130 5 (v0 :: v1 :: (0, x) :: ls) st M Q ↔ wp X d 130 6 (v0 :: v1 :: (0, x) :: ls) ((0, x) :: st) M Q := q_iload_n (show mj_ins 130 5 = some (.iload_n 2, 1) from rfl) rfl
theorem w130_6 {v0 v1 v2 : mj_V} {x : Int} : wp X d 130 6 (v0 :: v1 :: v2 :: (0, x) :: ls) st M Q ↔ wp X d 130 7 (v0 :: v1 :: v2 :: (0, x) :: ls) ((0, x) :: st) M Q := q_iload_n (show mj_ins 130 6 = some (.iload_n 3, 1) from rfl) rfl
theorem w130_7 {v0 v1 v2 v3 : mj_V} {x : Int} : wp X d 130 7 (v0 :: v1 :: v2 :: v3 :: (0, x) :: ls) st M Q ↔ wp X d 130 9 (v0 :: v1 :: v2 :: v3 :: (0, x) :: ls) ((0, x) :: st) M Q := q_iload (show mj_ins 130 7 = some (.iload 4, 2) from rfl) rfl
theorem w130_9 {v0 v1 v2 v3 v4 : mj_V} {x : Int} : wp X d 130 9 (v0 :: v1 :: v2 :: v3 :: v4 :: (0, x) :: ls) st M Q ↔ wp X d 130 11 (v0 :: v1 :: v2 :: v3 :: v4 :: (0, x) :: ls) ((0, x) :: st) M Q := q_iload (show mj_ins 130 9 = some (.iload 5, 2) from rfl) rfl
theorem w130_11 {a0 a1 a2 a3 a4 a5 : Int} : wp X (d + 1) 130 11 ls ((0, a5) :: (0, a4) :: (0, a3) :: (0, a2) :: (0, a1) :: (25, a0) :: st) M Q ↔ (a0 ≠ 0 ∧ mj_cs st ≤ 8) ∧ wc X d 131 [(25, a0), (0, a1), (0, a2), (0, a3), (0, a4), (0, a5)] M (fun r M => wp X (d + 1) 130 14 ls (r.toList ++ st) M Q) := q_callV ⟨rfl, rfl⟩ (show mj_ins 130 11 = some (.invokevirtual 241, 3) from rfl) rfl rfl rfl (Nat.le_of_ble_eq_true rfl)
theorem w130_14 {x : Int} : wp X d 130 14 ls [(0, x)] M Q ↔ Q (some (0, x)) M := q_ireturn (show mj_ins 130 14 = some (.ireturn, 1) from rfl) rfl
-- 132: PerfectFerried.holds(IIII)Z
theorem w132_0 {v0 : mj_V} {x : Int} : wp X d 132 0 (v0 :: (0, x) :: ls) st M Q ↔ wp X d 132 1 (v0 :: (0, x) :: ls) ((0, x) :: st) M Q := q_iload_n (show mj_ins 132 0 = some (.iload_n 1, 1) from rfl) rfl
theorem w132_1 {a0 : Int} : wp X (d + 1) 132 1 ls ((0, a0) :: st) M Q ↔ (mj_cs st ≤ 8) ∧ wc X d 21 [(0, a0)] M (fun r M => wp X (d + 1) 132 4 ls (r.toList ++ st) M Q) := q_callS (show mj_ins 132 1 = some (.invokestatic 245, 3) from rfl) rfl rfl rfl (Nat.le_of_ble_eq_true rfl)
theorem w132_4 {x : Int} : wp X d 132 4 ls ((0, x) :: st) M Q ↔ if x = 0 then wp X d 132 36 ls st M Q else wp X d 132 7 ls st M Q := q_if_eq (show mj_ins 132 4 = some (.ifCond .eq 32, 3) from rfl) rfl
theorem w132_7 {v0 v1 : mj_V} {x : Int} : wp X d 132 7 (v0 :: v1 :: (0, x) :: ls) st M Q ↔ wp X d 132 8 (v0 :: v1 :: (0, x) :: ls) ((0, x) :: st) M Q := q_iload_n (show mj_ins 132 7 = some (.iload_n 2, 1) from rfl) rfl
theorem w132_8 {v0 v1 v2 : mj_V} {x : Int} : wp X d 132 8 (v0 :: v1 :: v2 :: (0, x) :: ls) st M Q ↔ wp X d 132 9 (v0 :: v1 :: v2 :: (0, x) :: ls) ((0, x) :: st) M Q := q_iload_n (show mj_ins 132 8 = some (.iload_n 3, 1) from rfl) rfl
theorem w132_9 {v0 v1 v2 v3 : mj_V} {x : Int} : wp X d 132 9 (v0 :: v1 :: v2 :: v3 :: (0, x) :: ls) st M Q ↔ wp X d 132 11 (v0 :: v1 :: v2 :: v3 :: (0, x) :: ls) ((0, x) :: st) M Q := q_iload (show mj_ins 132 9 = some (.iload 4, 2) from rfl) rfl
theorem w132_11 {a0 a1 a2 : Int} : wp X (d + 1) 132 11 ls ((0, a2) :: (0, a1) :: (0, a0) :: st) M Q ↔ (mj_cs st ≤ 8) ∧ wc X d 133 [(0, a0), (0, a1), (0, a2)] M (fun r M => wp X (d + 1) 132 14 ls (r.toList ++ st) M Q) := q_callS (show mj_ins 132 11 = some (.invokestatic 248, 3) from rfl) rfl rfl rfl (Nat.le_of_ble_eq_true rfl)
theorem w132_14 {x : Int} : wp X d 132 14 ls ((0, x) :: st) M Q ↔ if x = 0 then wp X d 132 36 ls st M Q else wp X d 132 17 ls st M Q := q_if_eq (show mj_ins 132 14 = some (.ifCond .eq 22, 3) from rfl) rfl
theorem w132_17 {x : Int} : wp X d 132 17 ((31, x) :: ls) st M Q ↔ wp X d 132 18 ((31, x) :: ls) ((31, x) :: st) M Q := q_aload_n (show mj_ins 132 17 = some (.aload_n 0, 1) from rfl) rfl rfl
theorem w132_18 {x : Int} : wp X d 132 18 ls ((31, x) :: st) M Q ↔ x ≠ 0 ∧ wp X d 132 21 ls ((25, hh M x 0) :: st) M Q := q_getfield (show mj_ins 132 18 = some (.getfield 10, 3) from rfl) rfl rfl rfl
theorem w132_21 {v0 : mj_V} {x : Int} : wp X d 132 21 (v0 :: (0, x) :: ls) st M Q ↔ wp X d 132 22 (v0 :: (0, x) :: ls) ((0, x) :: st) M Q := q_iload_n (show mj_ins 132 21 = some (.iload_n 1, 1) from rfl) rfl
theorem w132_22 {v0 v1 : mj_V} {x : Int} : wp X d 132 22 (v0 :: v1 :: (0, x) :: ls) st M Q ↔ wp X d 132 23 (v0 :: v1 :: (0, x) :: ls) ((0, x) :: st) M Q := q_iload_n (show mj_ins 132 22 = some (.iload_n 2, 1) from rfl) rfl
theorem w132_23 {v0 v1 v2 : mj_V} {x : Int} : wp X d 132 23 (v0 :: v1 :: v2 :: (0, x) :: ls) st M Q ↔ wp X d 132 24 (v0 :: v1 :: v2 :: (0, x) :: ls) ((0, x) :: st) M Q := q_iload_n (show mj_ins 132 23 = some (.iload_n 3, 1) from rfl) rfl
theorem w132_24 {v0 v1 v2 v3 : mj_V} {x : Int} : wp X d 132 24 (v0 :: v1 :: v2 :: v3 :: (0, x) :: ls) st M Q ↔ wp X d 132 26 (v0 :: v1 :: v2 :: v3 :: (0, x) :: ls) ((0, x) :: st) M Q := q_iload (show mj_ins 132 24 = some (.iload 4, 2) from rfl) rfl
theorem w132_26 {a0 a1 a2 a3 a4 : Int} : wp X (d + 1) 132 26 ls ((0, a4) :: (0, a3) :: (0, a2) :: (0, a1) :: (25, a0) :: st) M Q ↔ (a0 ≠ 0 ∧ mj_cs st ≤ 8) ∧ wc X d 135 [(25, a0), (0, a1), (0, a2), (0, a3), (0, a4)] M (fun r M => wp X (d + 1) 132 29 ls (r.toList ++ st) M Q) := q_callV ⟨rfl, rfl⟩ (show mj_ins 132 26 = some (.invokevirtual 252, 3) from rfl) rfl rfl rfl (Nat.le_of_ble_eq_true rfl)
theorem w132_29 {x : Int} : wp X d 132 29 ls ((0, x) :: st) M Q ↔ if x = 0 then wp X d 132 36 ls st M Q else wp X d 132 32 ls st M Q := q_if_eq (show mj_ins 132 29 = some (.ifCond .eq 7, 3) from rfl) rfl
theorem w132_32 : wp X d 132 32 ls st M Q ↔ wp X d 132 33 ls ((0, 1) :: st) M Q := q_iconst (show mj_ins 132 32 = some (.iconst 1, 1) from rfl) (by decide)
theorem w132_33 : wp X d 132 33 ls st M Q ↔ wp X d 132 37 ls st M Q := q_goto (show mj_ins 132 33 = some (.goto 4, 3) from rfl) rfl
theorem w132_36 : wp X d 132 36 ls st M Q ↔ wp X d 132 37 ls ((0, 0) :: st) M Q := q_iconst (show mj_ins 132 36 = some (.iconst 0, 1) from rfl) (by decide)
theorem w132_37_i {P : Prop} {hP : Decidable P} : wp X d 132 37 ls [(0, @ite Int P hP 1 0)] M Q ↔ Q (some (0, @ite Int P hP 1 0)) M := q_zreturn (show mj_ins 132 37 = some (.ireturn, 1) from rfl) rfl (by by_cases h : P <;> simp [h])
theorem w132_37_0 : wp X d 132 37 ls [(0, 0)] M Q ↔ Q (some (0, 0)) M := q_zreturn (show mj_ins 132 37 = some (.ireturn, 1) from rfl) rfl (by decide)
theorem w132_37_1 : wp X d 132 37 ls [(0, 1)] M Q ↔ Q (some (0, 1)) M := q_zreturn (show mj_ins 132 37 = some (.ireturn, 1) from rfl) rfl (by decide)
-- 133: PerfectFerried.isSaying(III)Z
theorem w133_0 {x : Int} : wp X d 133 0 ((0, x) :: ls) st M Q ↔ wp X d 133 1 ((0, x) :: ls) ((0, x) :: st) M Q := q_iload_n (show mj_ins 133 0 = some (.iload_n 0, 1) from rfl) rfl
theorem w133_1 {x : Int} : wp X d 133 1 ls ((0, x) :: st) M Q ↔ if x < 0 then wp X d 133 23 ls st M Q else wp X d 133 4 ls st M Q := q_if_lt (show mj_ins 133 1 = some (.ifCond .lt 22, 3) from rfl) rfl
theorem w133_4 {x : Int} : wp X d 133 4 ((0, x) :: ls) st M Q ↔ wp X d 133 5 ((0, x) :: ls) ((0, x) :: st) M Q := q_iload_n (show mj_ins 133 4 = some (.iload_n 0, 1) from rfl) rfl
theorem w133_5 : wp X d 133 5 ls st M Q ↔ wp X d 133 6 ls ((0, 5) :: st) M Q := q_iconst (show mj_ins 133 5 = some (.iconst 5, 1) from rfl) (by decide)
theorem w133_6 {x y : Int} : wp X d 133 6 ls ((0, y) :: (0, x) :: st) M Q ↔ if x < y then wp X d 133 9 ls st M Q else wp X d 133 23 ls st M Q := q_icmp_ge (show mj_ins 133 6 = some (.if_icmp .ge 17, 3) from rfl) rfl
theorem w133_9 {v0 : mj_V} {x : Int} : wp X d 133 9 (v0 :: (0, x) :: ls) st M Q ↔ wp X d 133 10 (v0 :: (0, x) :: ls) ((0, x) :: st) M Q := q_iload_n (show mj_ins 133 9 = some (.iload_n 1, 1) from rfl) rfl
theorem w133_10 {a0 : Int} : wp X (d + 1) 133 10 ls ((0, a0) :: st) M Q ↔ (mj_cs st ≤ 8) ∧ wc X d 134 [(0, a0)] M (fun r M => wp X (d + 1) 133 13 ls (r.toList ++ st) M Q) := q_callS (show mj_ins 133 10 = some (.invokestatic 270, 3) from rfl) rfl rfl rfl (Nat.le_of_ble_eq_true rfl)
theorem w133_13 {x : Int} : wp X d 133 13 ls ((0, x) :: st) M Q ↔ if x = 0 then wp X d 133 23 ls st M Q else wp X d 133 16 ls st M Q := q_if_eq (show mj_ins 133 13 = some (.ifCond .eq 10, 3) from rfl) rfl
theorem w133_16 {v0 v1 : mj_V} {x : Int} : wp X d 133 16 (v0 :: v1 :: (0, x) :: ls) st M Q ↔ wp X d 133 17 (v0 :: v1 :: (0, x) :: ls) ((0, x) :: st) M Q := q_iload_n (show mj_ins 133 16 = some (.iload_n 2, 1) from rfl) rfl
theorem w133_17 {a0 : Int} : wp X (d + 1) 133 17 ls ((0, a0) :: st) M Q ↔ (mj_cs st ≤ 8) ∧ wc X d 134 [(0, a0)] M (fun r M => wp X (d + 1) 133 20 ls (r.toList ++ st) M Q) := q_callS (show mj_ins 133 17 = some (.invokestatic 270, 3) from rfl) rfl rfl rfl (Nat.le_of_ble_eq_true rfl)
theorem w133_20 {x : Int} : wp X d 133 20 ls ((0, x) :: st) M Q ↔ if x = 0 then wp X d 133 23 ls st M Q else wp X d 133 25 ls st M Q := q_if_ne (show mj_ins 133 20 = some (.ifCond .ne 5, 3) from rfl) rfl
theorem w133_23 : wp X d 133 23 ls st M Q ↔ wp X d 133 24 ls ((0, 0) :: st) M Q := q_iconst (show mj_ins 133 23 = some (.iconst 0, 1) from rfl) (by decide)
theorem w133_24_i {P : Prop} {hP : Decidable P} : wp X d 133 24 ls [(0, @ite Int P hP 1 0)] M Q ↔ Q (some (0, @ite Int P hP 1 0)) M := q_zreturn (show mj_ins 133 24 = some (.ireturn, 1) from rfl) rfl (by by_cases h : P <;> simp [h])
theorem w133_24_0 : wp X d 133 24 ls [(0, 0)] M Q ↔ Q (some (0, 0)) M := q_zreturn (show mj_ins 133 24 = some (.ireturn, 1) from rfl) rfl (by decide)
theorem w133_24_1 : wp X d 133 24 ls [(0, 1)] M Q ↔ Q (some (0, 1)) M := q_zreturn (show mj_ins 133 24 = some (.ireturn, 1) from rfl) rfl (by decide)
theorem w133_25 {x : Int} : wp X d 133 25 ((0, x) :: ls) st M Q ↔ wp X d 133 26 ((0, x) :: ls) ((0, x) :: st) M Q := q_iload_n (show mj_ins 133 25 = some (.iload_n 0, 1) from rfl) rfl
theorem w133_26 : wp X d 133 26 ls st M Q ↔ wp X d 133 27 ls ((0, 2) :: st) M Q := q_iconst (show mj_ins 133 26 = some (.iconst 2, 1) from rfl) (by decide)
theorem w133_27 {x y : Int} : wp X d 133 27 ls ((0, y) :: (0, x) :: st) M Q ↔ if x = y then wp X d 133 35 ls st M Q else wp X d 133 30 ls st M Q := q_icmp_eq (show mj_ins 133 27 = some (.if_icmp .eq 8, 3) from rfl) rfl
theorem w133_30 {x : Int} : wp X d 133 30 ((0, x) :: ls) st M Q ↔ wp X d 133 31 ((0, x) :: ls) ((0, x) :: st) M Q := q_iload_n (show mj_ins 133 30 = some (.iload_n 0, 1) from rfl) rfl
theorem w133_31 : wp X d 133 31 ls st M Q ↔ wp X d 133 32 ls ((0, 3) :: st) M Q := q_iconst (show mj_ins 133 31 = some (.iconst 3, 1) from rfl) (by decide)
theorem w133_32 {x y : Int} : wp X d 133 32 ls ((0, y) :: (0, x) :: st) M Q ↔ if x = y then wp X d 133 35 ls st M Q else wp X d 133 39 ls st M Q := q_icmp_ne (show mj_ins 133 32 = some (.if_icmp .ne 7, 3) from rfl) rfl
theorem w133_35 : wp X d 133 35 ls st M Q ↔ wp X d 133 36 ls ((0, 1) :: st) M Q := q_iconst (show mj_ins 133 35 = some (.iconst 1, 1) from rfl) (by decide)
theorem w133_36 : wp X d 133 36 ls st M Q ↔ wp X d 133 40 ls st M Q := q_goto (show mj_ins 133 36 = some (.goto 4, 3) from rfl) rfl
theorem w133_39 : wp X d 133 39 ls st M Q ↔ wp X d 133 40 ls ((0, 0) :: st) M Q := q_iconst (show mj_ins 133 39 = some (.iconst 0, 1) from rfl) (by decide)
theorem w133_40 {v0 v1 w : mj_V} {x y : Int} : wp X d 133 40 (v0 :: v1 :: (0, y) :: w :: ls) ((0, x) :: st) M Q ↔ wp X d 133 41 (v0 :: v1 :: (0, y) :: (0, x) :: ls) st M Q := q_istore_n (show mj_ins 133 40 = some (.istore_n 3, 1) from rfl) (Nat.le_add_left 4 _) (mj_set_s (fun z hz => by cases hz; exact (show (0 : Nat) ≠ 1 by decide)))
theorem w133_41 {v0 v1 v2 : mj_V} {x : Int} : wp X d 133 41 (v0 :: v1 :: v2 :: (0, x) :: ls) st M Q ↔ wp X d 133 42 (v0 :: v1 :: v2 :: (0, x) :: ls) ((0, x) :: st) M Q := q_iload_n (show mj_ins 133 41 = some (.iload_n 3, 1) from rfl) rfl
theorem w133_42 {v0 : mj_V} {x : Int} : wp X d 133 42 (v0 :: (0, x) :: ls) st M Q ↔ wp X d 133 43 (v0 :: (0, x) :: ls) ((0, x) :: st) M Q := q_iload_n (show mj_ins 133 42 = some (.iload_n 1, 1) from rfl) rfl
theorem w133_43 {v0 v1 : mj_V} {x : Int} : wp X d 133 43 (v0 :: v1 :: (0, x) :: ls) st M Q ↔ wp X d 133 44 (v0 :: v1 :: (0, x) :: ls) ((0, x) :: st) M Q := q_iload_n (show mj_ins 133 43 = some (.iload_n 2, 1) from rfl) rfl
theorem w133_44 {x y : Int} : wp X d 133 44 ls ((0, y) :: (0, x) :: st) M Q ↔ if x = y then wp X d 133 47 ls st M Q else wp X d 133 51 ls st M Q := q_icmp_ne (show mj_ins 133 44 = some (.if_icmp .ne 7, 3) from rfl) rfl
theorem w133_47 : wp X d 133 47 ls st M Q ↔ wp X d 133 48 ls ((0, 1) :: st) M Q := q_iconst (show mj_ins 133 47 = some (.iconst 1, 1) from rfl) (by decide)
theorem w133_48 : wp X d 133 48 ls st M Q ↔ wp X d 133 52 ls st M Q := q_goto (show mj_ins 133 48 = some (.goto 4, 3) from rfl) rfl
theorem w133_51 : wp X d 133 51 ls st M Q ↔ wp X d 133 52 ls ((0, 0) :: st) M Q := q_iconst (show mj_ins 133 51 = some (.iconst 0, 1) from rfl) (by decide)
theorem w133_52 {x y : Int} : wp X d 133 52 ls ((0, y) :: (0, x) :: st) M Q ↔ if x = y then wp X d 133 55 ls st M Q else wp X d 133 59 ls st M Q := q_icmp_ne (show mj_ins 133 52 = some (.if_icmp .ne 7, 3) from rfl) rfl
theorem w133_55 : wp X d 133 55 ls st M Q ↔ wp X d 133 56 ls ((0, 1) :: st) M Q := q_iconst (show mj_ins 133 55 = some (.iconst 1, 1) from rfl) (by decide)
theorem w133_56 : wp X d 133 56 ls st M Q ↔ wp X d 133 60 ls st M Q := q_goto (show mj_ins 133 56 = some (.goto 4, 3) from rfl) rfl
theorem w133_59 : wp X d 133 59 ls st M Q ↔ wp X d 133 60 ls ((0, 0) :: st) M Q := q_iconst (show mj_ins 133 59 = some (.iconst 0, 1) from rfl) (by decide)
theorem w133_60_i {P : Prop} {hP : Decidable P} : wp X d 133 60 ls [(0, @ite Int P hP 1 0)] M Q ↔ Q (some (0, @ite Int P hP 1 0)) M := q_zreturn (show mj_ins 133 60 = some (.ireturn, 1) from rfl) rfl (by by_cases h : P <;> simp [h])
theorem w133_60_0 : wp X d 133 60 ls [(0, 0)] M Q ↔ Q (some (0, 0)) M := q_zreturn (show mj_ins 133 60 = some (.ireturn, 1) from rfl) rfl (by decide)
theorem w133_60_1 : wp X d 133 60 ls [(0, 1)] M Q ↔ Q (some (0, 1)) M := q_zreturn (show mj_ins 133 60 = some (.ireturn, 1) from rfl) rfl (by decide)
-- 134: PerfectFerried.isDoing(I)Z
theorem w134_0 {x : Int} : wp X d 134 0 ((0, x) :: ls) st M Q ↔ wp X d 134 1 ((0, x) :: ls) ((0, x) :: st) M Q := q_iload_n (show mj_ins 134 0 = some (.iload_n 0, 1) from rfl) rfl
theorem w134_1 {x : Int} : wp X d 134 1 ls ((0, x) :: st) M Q ↔ if x < 0 then wp X d 134 13 ls st M Q else wp X d 134 4 ls st M Q := q_if_lt (show mj_ins 134 1 = some (.ifCond .lt 12, 3) from rfl) rfl
theorem w134_4 {x : Int} : wp X d 134 4 ((0, x) :: ls) st M Q ↔ wp X d 134 5 ((0, x) :: ls) ((0, x) :: st) M Q := q_iload_n (show mj_ins 134 4 = some (.iload_n 0, 1) from rfl) rfl
theorem w134_5 : wp X d 134 5 ls st M Q ↔ wp X d 134 6 ls ((0, 5) :: st) M Q := q_iconst (show mj_ins 134 5 = some (.iconst 5, 1) from rfl) (by decide)
theorem w134_6 {x y : Int} : wp X d 134 6 ls ((0, y) :: (0, x) :: st) M Q ↔ if x < y then wp X d 134 9 ls st M Q else wp X d 134 13 ls st M Q := q_icmp_ge (show mj_ins 134 6 = some (.if_icmp .ge 7, 3) from rfl) rfl
theorem w134_9 : wp X d 134 9 ls st M Q ↔ wp X d 134 10 ls ((0, 1) :: st) M Q := q_iconst (show mj_ins 134 9 = some (.iconst 1, 1) from rfl) (by decide)
theorem w134_10 : wp X d 134 10 ls st M Q ↔ wp X d 134 14 ls st M Q := q_goto (show mj_ins 134 10 = some (.goto 4, 3) from rfl) rfl
theorem w134_13 : wp X d 134 13 ls st M Q ↔ wp X d 134 14 ls ((0, 0) :: st) M Q := q_iconst (show mj_ins 134 13 = some (.iconst 0, 1) from rfl) (by decide)
theorem w134_14_i {P : Prop} {hP : Decidable P} : wp X d 134 14 ls [(0, @ite Int P hP 1 0)] M Q ↔ Q (some (0, @ite Int P hP 1 0)) M := q_zreturn (show mj_ins 134 14 = some (.ireturn, 1) from rfl) rfl (by by_cases h : P <;> simp [h])
theorem w134_14_0 : wp X d 134 14 ls [(0, 0)] M Q ↔ Q (some (0, 0)) M := q_zreturn (show mj_ins 134 14 = some (.ireturn, 1) from rfl) rfl (by decide)
theorem w134_14_1 : wp X d 134 14 ls [(0, 1)] M Q ↔ Q (some (0, 1)) M := q_zreturn (show mj_ins 134 14 = some (.ireturn, 1) from rfl) rfl (by decide)
-- 137: PerfectFerried.say(III)I
theorem w137_0 {v0 : mj_V} {x : Int} : wp X d 137 0 (v0 :: (0, x) :: ls) st M Q ↔ wp X d 137 1 (v0 :: (0, x) :: ls) ((0, x) :: st) M Q := q_iload_n (show mj_ins 137 0 = some (.iload_n 1, 1) from rfl) rfl
theorem w137_1 : wp X d 137 1 ls st M Q ↔ wp X d 137 2 ls ((0, (-1)) :: st) M Q := q_iconst (show mj_ins 137 1 = some (.iconst (-1), 1) from rfl) (by decide)
theorem w137_2 {x y : Int} : wp X d 137 2 ls ((0, y) :: (0, x) :: st) M Q ↔ if x = y then wp X d 137 5 ls st M Q else wp X d 137 17 ls st M Q := q_icmp_ne (show mj_ins 137 2 = some (.if_icmp .ne 15, 3) from rfl) rfl
theorem w137_5 {x : Int} : wp X d 137 5 ((31, x) :: ls) st M Q ↔ wp X d 137 6 ((31, x) :: ls) ((31, x) :: st) M Q := q_aload_n (show mj_ins 137 5 = some (.aload_n 0, 1) from rfl) rfl rfl
theorem w137_6 {x : Int} : wp X d 137 6 ls ((31, x) :: st) M Q ↔ x ≠ 0 ∧ wp X d 137 9 ls ((30, hh M x 1) :: st) M Q := q_getfield (show mj_ins 137 6 = some (.getfield 19, 3) from rfl) rfl rfl rfl
theorem w137_9 {x : Int} : wp X d 137 9 ls ((30, x) :: st) M Q ↔ x ≠ 0 ∧ wp X d 137 12 ls ((27, hh M x 2) :: st) M Q := q_getfield (show mj_ins 137 9 = some (.getfield 44, 3) from rfl) rfl rfl rfl
theorem w137_12 {a0 : Int} : wp X (d + 1) 137 12 ls ((27, a0) :: st) M Q ↔ (a0 ≠ 0 ∧ mj_cs st ≤ 8) ∧ wc X d 138 [(27, a0)] M (fun r M => wp X (d + 1) 137 15 ls (r.toList ++ st) M Q) := q_callV ⟨rfl, rfl⟩ (show mj_ins 137 12 = some (.invokevirtual 256, 3) from rfl) rfl rfl rfl (Nat.le_of_ble_eq_true rfl)
theorem w137_15 : wp X d 137 15 ls st M Q ↔ wp X d 137 16 ls ((0, 0) :: st) M Q := q_iconst (show mj_ins 137 15 = some (.iconst 0, 1) from rfl) (by decide)
theorem w137_16 {x : Int} : wp X d 137 16 ls [(0, x)] M Q ↔ Q (some (0, x)) M := q_ireturn (show mj_ins 137 16 = some (.ireturn, 1) from rfl) rfl
theorem w137_17 {v0 : mj_V} {x : Int} : wp X d 137 17 (v0 :: (0, x) :: ls) st M Q ↔ wp X d 137 18 (v0 :: (0, x) :: ls) ((0, x) :: st) M Q := q_iload_n (show mj_ins 137 17 = some (.iload_n 1, 1) from rfl) rfl
theorem w137_18 {v0 v1 : mj_V} {x : Int} : wp X d 137 18 (v0 :: v1 :: (0, x) :: ls) st M Q ↔ wp X d 137 19 (v0 :: v1 :: (0, x) :: ls) ((0, x) :: st) M Q := q_iload_n (show mj_ins 137 18 = some (.iload_n 2, 1) from rfl) rfl
theorem w137_19 {v0 v1 v2 : mj_V} {x : Int} : wp X d 137 19 (v0 :: v1 :: v2 :: (0, x) :: ls) st M Q ↔ wp X d 137 20 (v0 :: v1 :: v2 :: (0, x) :: ls) ((0, x) :: st) M Q := q_iload_n (show mj_ins 137 19 = some (.iload_n 3, 1) from rfl) rfl
theorem w137_20 {a0 a1 a2 : Int} : wp X (d + 1) 137 20 ls ((0, a2) :: (0, a1) :: (0, a0) :: st) M Q ↔ (mj_cs st ≤ 8) ∧ wc X d 133 [(0, a0), (0, a1), (0, a2)] M (fun r M => wp X (d + 1) 137 23 ls (r.toList ++ st) M Q) := q_callS (show mj_ins 137 20 = some (.invokestatic 248, 3) from rfl) rfl rfl rfl (Nat.le_of_ble_eq_true rfl)
theorem w137_23 {x : Int} : wp X d 137 23 ls ((0, x) :: st) M Q ↔ if x = 0 then wp X d 137 26 ls st M Q else wp X d 137 29 ls st M Q := q_if_ne (show mj_ins 137 23 = some (.ifCond .ne 6, 3) from rfl) rfl
theorem w137_26 : wp X d 137 26 ls st M Q ↔ wp X d 137 28 ls ((0, (-2)) :: st) M Q := q_bipush (show mj_ins 137 26 = some (.bipush (-2), 2) from rfl) (by decide)
theorem w137_28 {x : Int} : wp X d 137 28 ls [(0, x)] M Q ↔ Q (some (0, x)) M := q_ireturn (show mj_ins 137 28 = some (.ireturn, 1) from rfl) rfl
theorem w137_29 {x : Int} : wp X d 137 29 ((31, x) :: ls) st M Q ↔ wp X d 137 30 ((31, x) :: ls) ((31, x) :: st) M Q := q_aload_n (show mj_ins 137 29 = some (.aload_n 0, 1) from rfl) rfl rfl
theorem w137_30 {x : Int} : wp X d 137 30 ls ((31, x) :: st) M Q ↔ x ≠ 0 ∧ wp X d 137 33 ls ((30, hh M x 1) :: st) M Q := q_getfield (show mj_ins 137 30 = some (.getfield 19, 3) from rfl) rfl rfl rfl
theorem w137_33 {x : Int} : wp X d 137 33 ls ((30, x) :: st) M Q ↔ x ≠ 0 ∧ wp X d 137 36 ls ((27, hh M x 2) :: st) M Q := q_getfield (show mj_ins 137 33 = some (.getfield 44, 3) from rfl) rfl rfl rfl
theorem w137_36 {v0 : mj_V} {x : Int} : wp X d 137 36 (v0 :: (0, x) :: ls) st M Q ↔ wp X d 137 37 (v0 :: (0, x) :: ls) ((0, x) :: st) M Q := q_iload_n (show mj_ins 137 36 = some (.iload_n 1, 1) from rfl) rfl
theorem w137_37 {v0 v1 : mj_V} {x : Int} : wp X d 137 37 (v0 :: v1 :: (0, x) :: ls) st M Q ↔ wp X d 137 38 (v0 :: v1 :: (0, x) :: ls) ((0, x) :: st) M Q := q_iload_n (show mj_ins 137 37 = some (.iload_n 2, 1) from rfl) rfl
theorem w137_38 {v0 v1 v2 : mj_V} {x : Int} : wp X d 137 38 (v0 :: v1 :: v2 :: (0, x) :: ls) st M Q ↔ wp X d 137 39 (v0 :: v1 :: v2 :: (0, x) :: ls) ((0, x) :: st) M Q := q_iload_n (show mj_ins 137 38 = some (.iload_n 3, 1) from rfl) rfl
theorem w137_39 {a0 a1 a2 a3 : Int} : wp X (d + 1) 137 39 ls ((0, a3) :: (0, a2) :: (0, a1) :: (27, a0) :: st) M Q ↔ (a0 ≠ 0 ∧ mj_cs st ≤ 8) ∧ wc X d 139 [(27, a0), (0, a1), (0, a2), (0, a3)] M (fun r M => wp X (d + 1) 137 42 ls (r.toList ++ st) M Q) := q_callV ⟨rfl, rfl⟩ (show mj_ins 137 39 = some (.invokevirtual 261, 3) from rfl) rfl rfl rfl (Nat.le_of_ble_eq_true rfl)
theorem w137_42 {x : Int} : wp X d 137 42 ls [(0, x)] M Q ↔ Q (some (0, x)) M := q_ireturn (show mj_ins 137 42 = some (.ireturn, 1) from rfl) rfl
-- 140: PerfectFerried.could(I)I
theorem w140_0 {x : Int} : wp X d 140 0 ((31, x) :: ls) st M Q ↔ wp X d 140 1 ((31, x) :: ls) ((31, x) :: st) M Q := q_aload_n (show mj_ins 140 0 = some (.aload_n 0, 1) from rfl) rfl rfl
theorem w140_1 {x : Int} : wp X d 140 1 ls ((31, x) :: st) M Q ↔ x ≠ 0 ∧ wp X d 140 4 ls ((21, hh M x 5) :: st) M Q := q_getfield (show mj_ins 140 1 = some (.getfield 51, 3) from rfl) rfl rfl rfl
theorem w140_4 {a0 : Int} : wp X (d + 1) 140 4 ls ((21, a0) :: st) M Q ↔ (a0 ≠ 0 ∧ mj_cs st ≤ 8) ∧ wc X d 141 [(21, a0)] M (fun r M => wp X (d + 1) 140 7 ls (r.toList ++ st) M Q) := q_callV ⟨rfl, rfl⟩ (show mj_ins 140 4 = some (.invokevirtual 264, 3) from rfl) rfl rfl rfl (Nat.le_of_ble_eq_true rfl)
theorem w140_7 {v0 w : mj_V} {x y : Int} : wp X d 140 7 (v0 :: (0, y) :: w :: ls) ((0, x) :: st) M Q ↔ wp X d 140 8 (v0 :: (0, y) :: (0, x) :: ls) st M Q := q_istore_n (show mj_ins 140 7 = some (.istore_n 2, 1) from rfl) (Nat.le_add_left 3 _) (mj_set_s (fun z hz => by cases hz; exact (show (0 : Nat) ≠ 1 by decide)))
theorem w140_8 {v0 : mj_V} {x : Int} : wp X d 140 8 (v0 :: (0, x) :: ls) st M Q ↔ wp X d 140 9 (v0 :: (0, x) :: ls) ((0, x) :: st) M Q := q_iload_n (show mj_ins 140 8 = some (.iload_n 1, 1) from rfl) rfl
theorem w140_9 : wp X d 140 9 ls st M Q ↔ wp X d 140 10 ls ((0, (-1)) :: st) M Q := q_iconst (show mj_ins 140 9 = some (.iconst (-1), 1) from rfl) (by decide)
theorem w140_10 {x y : Int} : wp X d 140 10 ls ((0, y) :: (0, x) :: st) M Q ↔ if x = y then wp X d 140 13 ls st M Q else wp X d 140 15 ls st M Q := q_icmp_ne (show mj_ins 140 10 = some (.if_icmp .ne 5, 3) from rfl) rfl
theorem w140_13 {v0 v1 : mj_V} {x : Int} : wp X d 140 13 (v0 :: v1 :: (0, x) :: ls) st M Q ↔ wp X d 140 14 (v0 :: v1 :: (0, x) :: ls) ((0, x) :: st) M Q := q_iload_n (show mj_ins 140 13 = some (.iload_n 2, 1) from rfl) rfl
theorem w140_14 {x : Int} : wp X d 140 14 ls [(0, x)] M Q ↔ Q (some (0, x)) M := q_ireturn (show mj_ins 140 14 = some (.ireturn, 1) from rfl) rfl
theorem w140_15 {v0 : mj_V} {x : Int} : wp X d 140 15 (v0 :: (0, x) :: ls) st M Q ↔ wp X d 140 16 (v0 :: (0, x) :: ls) ((0, x) :: st) M Q := q_iload_n (show mj_ins 140 15 = some (.iload_n 1, 1) from rfl) rfl
theorem w140_16 {x : Int} : wp X d 140 16 ls ((0, x) :: st) M Q ↔ if x < 0 then wp X d 140 24 ls st M Q else wp X d 140 19 ls st M Q := q_if_lt (show mj_ins 140 16 = some (.ifCond .lt 8, 3) from rfl) rfl
theorem w140_19 {v0 : mj_V} {x : Int} : wp X d 140 19 (v0 :: (0, x) :: ls) st M Q ↔ wp X d 140 20 (v0 :: (0, x) :: ls) ((0, x) :: st) M Q := q_iload_n (show mj_ins 140 19 = some (.iload_n 1, 1) from rfl) rfl
theorem w140_20 {v0 v1 : mj_V} {x : Int} : wp X d 140 20 (v0 :: v1 :: (0, x) :: ls) st M Q ↔ wp X d 140 21 (v0 :: v1 :: (0, x) :: ls) ((0, x) :: st) M Q := q_iload_n (show mj_ins 140 20 = some (.iload_n 2, 1) from rfl) rfl
theorem w140_21 {x y : Int} : wp X d 140 21 ls ((0, y) :: (0, x) :: st) M Q ↔ if x < y then wp X d 140 29 ls st M Q else wp X d 140 24 ls st M Q := q_icmp_lt (show mj_ins 140 21 = some (.if_icmp .lt 8, 3) from rfl) rfl
theorem w140_24 : wp X d 140 24 ls st M Q ↔ wp X d 140 26 ls ((0, (-2)) :: st) M Q := q_bipush (show mj_ins 140 24 = some (.bipush (-2), 2) from rfl) (by decide)
theorem w140_26 : wp X d 140 26 ls st M Q ↔ wp X d 140 38 ls st M Q := q_goto (show mj_ins 140 26 = some (.goto 12, 3) from rfl) rfl
theorem w140_29 {x : Int} : wp X d 140 29 ((31, x) :: ls) st M Q ↔ wp X d 140 30 ((31, x) :: ls) ((31, x) :: st) M Q := q_aload_n (show mj_ins 140 29 = some (.aload_n 0, 1) from rfl) rfl rfl
theorem w140_30 {x : Int} : wp X d 140 30 ls ((31, x) :: st) M Q ↔ x ≠ 0 ∧ wp X d 140 33 ls ((21, hh M x 5) :: st) M Q := q_getfield (show mj_ins 140 30 = some (.getfield 51, 3) from rfl) rfl rfl rfl
theorem w140_33 {x : Int} : wp X d 140 33 ls ((21, x) :: st) M Q ↔ x ≠ 0 ∧ wp X d 140 36 ls ((3, hh M x 0) :: st) M Q := q_getfield (show mj_ins 140 33 = some (.getfield 267, 3) from rfl) rfl rfl rfl
theorem w140_36 {v0 : mj_V} {x : Int} : wp X d 140 36 (v0 :: (0, x) :: ls) st M Q ↔ wp X d 140 37 (v0 :: (0, x) :: ls) ((0, x) :: st) M Q := q_iload_n (show mj_ins 140 36 = some (.iload_n 1, 1) from rfl) rfl
theorem w140_37 {i x : Int} : wp X d 140 37 ls ((0, i) :: (3, x) :: st) M Q ↔ (x ≠ 0 ∧ 0 ≤ i ∧ i < hl M x) ∧ wp X d 140 38 ls ((0, hh M x i) :: st) M Q := q_iaload (show mj_ins 140 37 = some (.iaload, 1) from rfl)
theorem w140_38 {x : Int} : wp X d 140 38 ls [(0, x)] M Q ↔ Q (some (0, x)) M := q_ireturn (show mj_ins 140 38 = some (.ireturn, 1) from rfl) rfl
-- 144: PerfectFerried.likely(IIZ)I
theorem w144_0 {v0 : mj_V} {x : Int} : wp X d 144 0 (v0 :: (0, x) :: ls) st M Q ↔ wp X d 144 1 (v0 :: (0, x) :: ls) ((0, x) :: st) M Q := q_iload_n (show mj_ins 144 0 = some (.iload_n 1, 1) from rfl) rfl
theorem w144_1 {a0 : Int} : wp X (d + 1) 144 1 ls ((0, a0) :: st) M Q ↔ (mj_cs st ≤ 8) ∧ wc X d 134 [(0, a0)] M (fun r M => wp X (d + 1) 144 4 ls (r.toList ++ st) M Q) := q_callS (show mj_ins 144 1 = some (.invokestatic 270, 3) from rfl) rfl rfl rfl (Nat.le_of_ble_eq_true rfl)
theorem w144_4 {x : Int} : wp X d 144 4 ls ((0, x) :: st) M Q ↔ if x = 0 then wp X d 144 19 ls st M Q else wp X d 144 7 ls st M Q := q_if_eq (show mj_ins 144 4 = some (.ifCond .eq 15, 3) from rfl) rfl
theorem w144_7 {v0 v1 : mj_V} {x : Int} : wp X d 144 7 (v0 :: v1 :: (0, x) :: ls) st M Q ↔ wp X d 144 8 (v0 :: v1 :: (0, x) :: ls) ((0, x) :: st) M Q := q_iload_n (show mj_ins 144 7 = some (.iload_n 2, 1) from rfl) rfl
theorem w144_8 {a0 : Int} : wp X (d + 1) 144 8 ls ((0, a0) :: st) M Q ↔ (mj_cs st ≤ 8) ∧ wc X d 134 [(0, a0)] M (fun r M => wp X (d + 1) 144 11 ls (r.toList ++ st) M Q) := q_callS (show mj_ins 144 8 = some (.invokestatic 270, 3) from rfl) rfl rfl rfl (Nat.le_of_ble_eq_true rfl)
theorem w144_11 {x : Int} : wp X d 144 11 ls ((0, x) :: st) M Q ↔ if x = 0 then wp X d 144 19 ls st M Q else wp X d 144 14 ls st M Q := q_if_eq (show mj_ins 144 11 = some (.ifCond .eq 8, 3) from rfl) rfl
theorem w144_14 {v0 : mj_V} {x : Int} : wp X d 144 14 (v0 :: (0, x) :: ls) st M Q ↔ wp X d 144 15 (v0 :: (0, x) :: ls) ((0, x) :: st) M Q := q_iload_n (show mj_ins 144 14 = some (.iload_n 1, 1) from rfl) rfl
theorem w144_15 {v0 v1 : mj_V} {x : Int} : wp X d 144 15 (v0 :: v1 :: (0, x) :: ls) st M Q ↔ wp X d 144 16 (v0 :: v1 :: (0, x) :: ls) ((0, x) :: st) M Q := q_iload_n (show mj_ins 144 15 = some (.iload_n 2, 1) from rfl) rfl
theorem w144_16 {x y : Int} : wp X d 144 16 ls ((0, y) :: (0, x) :: st) M Q ↔ if x = y then wp X d 144 19 ls st M Q else wp X d 144 21 ls st M Q := q_icmp_ne (show mj_ins 144 16 = some (.if_icmp .ne 5, 3) from rfl) rfl
theorem w144_19 : wp X d 144 19 ls st M Q ↔ wp X d 144 20 ls ((0, (-1)) :: st) M Q := q_iconst (show mj_ins 144 19 = some (.iconst (-1), 1) from rfl) (by decide)
theorem w144_20 {x : Int} : wp X d 144 20 ls [(0, x)] M Q ↔ Q (some (0, x)) M := q_ireturn (show mj_ins 144 20 = some (.ireturn, 1) from rfl) rfl
theorem w144_21 {x : Int} : wp X d 144 21 ((31, x) :: ls) st M Q ↔ wp X d 144 22 ((31, x) :: ls) ((31, x) :: st) M Q := q_aload_n (show mj_ins 144 21 = some (.aload_n 0, 1) from rfl) rfl rfl
theorem w144_22 {x : Int} : wp X d 144 22 ls ((31, x) :: st) M Q ↔ x ≠ 0 ∧ wp X d 144 25 ls ((21, hh M x 5) :: st) M Q := q_getfield (show mj_ins 144 22 = some (.getfield 51, 3) from rfl) rfl rfl rfl
theorem w144_25 {a0 : Int} : wp X (d + 1) 144 25 ls ((21, a0) :: st) M Q ↔ (a0 ≠ 0 ∧ mj_cs st ≤ 8) ∧ wc X d 141 [(21, a0)] M (fun r M => wp X (d + 1) 144 28 ls (r.toList ++ st) M Q) := q_callV ⟨rfl, rfl⟩ (show mj_ins 144 25 = some (.invokevirtual 264, 3) from rfl) rfl rfl rfl (Nat.le_of_ble_eq_true rfl)
theorem w144_28 {v0 v1 v2 w : mj_V} {x y : Int} : wp X d 144 28 (v0 :: v1 :: v2 :: (0, y) :: w :: ls) ((0, x) :: st) M Q ↔ wp X d 144 30 (v0 :: v1 :: v2 :: (0, y) :: (0, x) :: ls) st M Q := q_istore (show mj_ins 144 28 = some (.istore 4, 2) from rfl) (Nat.le_add_left 5 _) (mj_set_s (fun z hz => by cases hz; exact (show (0 : Nat) ≠ 1 by decide)))
theorem w144_30 {v0 v1 v2 v3 : mj_V} {x : Int} : wp X d 144 30 (v0 :: v1 :: v2 :: v3 :: (0, x) :: ls) st M Q ↔ wp X d 144 32 (v0 :: v1 :: v2 :: v3 :: (0, x) :: ls) ((0, x) :: st) M Q := q_iload (show mj_ins 144 30 = some (.iload 4, 2) from rfl) rfl
theorem w144_32 : wp X d 144 32 ls st M Q ↔ wp X d 144 33 ls ((0, 1) :: st) M Q := q_iconst (show mj_ins 144 32 = some (.iconst 1, 1) from rfl) (by decide)
theorem w144_33 {x y : Int} : wp X d 144 33 ls ((0, y) :: (0, x) :: st) M Q ↔ if x < y then wp X d 144 36 ls st M Q else wp X d 144 38 ls st M Q := q_icmp_ge (show mj_ins 144 33 = some (.if_icmp .ge 5, 3) from rfl) rfl
theorem w144_36 : wp X d 144 36 ls st M Q ↔ wp X d 144 37 ls ((0, (-1)) :: st) M Q := q_iconst (show mj_ins 144 36 = some (.iconst (-1), 1) from rfl) (by decide)
theorem w144_37 {x : Int} : wp X d 144 37 ls [(0, x)] M Q ↔ Q (some (0, x)) M := q_ireturn (show mj_ins 144 37 = some (.ireturn, 1) from rfl) rfl
theorem w144_38 {x : Int} : wp X d 144 38 ((31, x) :: ls) st M Q ↔ wp X d 144 39 ((31, x) :: ls) ((31, x) :: st) M Q := q_aload_n (show mj_ins 144 38 = some (.aload_n 0, 1) from rfl) rfl rfl
theorem w144_39 {x : Int} : wp X d 144 39 ls ((31, x) :: st) M Q ↔ x ≠ 0 ∧ wp X d 144 42 ls ((21, hh M x 5) :: st) M Q := q_getfield (show mj_ins 144 39 = some (.getfield 51, 3) from rfl) rfl rfl rfl
theorem w144_42 {v0 : mj_V} {x : Int} : wp X d 144 42 (v0 :: (0, x) :: ls) st M Q ↔ wp X d 144 43 (v0 :: (0, x) :: ls) ((0, x) :: st) M Q := q_iload_n (show mj_ins 144 42 = some (.iload_n 1, 1) from rfl) rfl
theorem w144_43 {v0 v1 : mj_V} {x : Int} : wp X d 144 43 (v0 :: v1 :: (0, x) :: ls) st M Q ↔ wp X d 144 44 (v0 :: v1 :: (0, x) :: ls) ((0, x) :: st) M Q := q_iload_n (show mj_ins 144 43 = some (.iload_n 2, 1) from rfl) rfl
theorem w144_44 {a0 a1 a2 : Int} : wp X (d + 1) 144 44 ls ((0, a2) :: (0, a1) :: (21, a0) :: st) M Q ↔ (a0 ≠ 0 ∧ mj_cs st ≤ 8) ∧ wc X d 145 [(21, a0), (0, a1), (0, a2)] M (fun r M => wp X (d + 1) 144 47 ls (r.toList ++ st) M Q) := q_callV ⟨rfl, rfl⟩ (show mj_ins 144 44 = some (.invokevirtual 273, 3) from rfl) rfl rfl rfl (Nat.le_of_ble_eq_true rfl)
theorem w144_47 {v0 v1 v2 v3 w : mj_V} {x y : Int} : wp X d 144 47 (v0 :: v1 :: v2 :: v3 :: (0, y) :: w :: ls) ((0, x) :: st) M Q ↔ wp X d 144 49 (v0 :: v1 :: v2 :: v3 :: (0, y) :: (0, x) :: ls) st M Q := q_istore (show mj_ins 144 47 = some (.istore 5, 2) from rfl) (Nat.le_add_left 6 _) (mj_set_s (fun z hz => by cases hz; exact (show (0 : Nat) ≠ 1 by decide)))
theorem w144_49 {v0 v1 v2 v3 v4 : mj_V} {x : Int} : wp X d 144 49 (v0 :: v1 :: v2 :: v3 :: v4 :: (0, x) :: ls) st M Q ↔ wp X d 144 51 (v0 :: v1 :: v2 :: v3 :: v4 :: (0, x) :: ls) ((0, x) :: st) M Q := q_iload (show mj_ins 144 49 = some (.iload 5, 2) from rfl) rfl
theorem w144_51 {x : Int} : wp X d 144 51 ls ((0, x) :: st) M Q ↔ wp X d 144 52 ls ((1, ji_2l x) :: st) M Q := q_i2l (show mj_ins 144 51 = some (.i2l, 1) from rfl)
theorem w144_52 {v0 v1 v2 v3 : mj_V} {x : Int} : wp X d 144 52 (v0 :: v1 :: v2 :: v3 :: (0, x) :: ls) st M Q ↔ wp X d 144 54 (v0 :: v1 :: v2 :: v3 :: (0, x) :: ls) ((0, x) :: st) M Q := q_iload (show mj_ins 144 52 = some (.iload 4, 2) from rfl) rfl
theorem w144_54 {x : Int} : wp X d 144 54 ls ((0, x) :: st) M Q ↔ wp X d 144 55 ls ((1, ji_2l x) :: st) M Q := q_i2l (show mj_ins 144 54 = some (.i2l, 1) from rfl)
theorem w144_55 {a0 a1 : Int} : wp X (d + 1) 144 55 ls ((1, a1) :: (1, a0) :: st) M Q ↔ (mj_cs st ≤ 8) ∧ wc X d 147 [(1, a0), (1, a1)] M (fun r M => wp X (d + 1) 144 58 ls (r.toList ++ st) M Q) := q_callS (show mj_ins 144 55 = some (.invokestatic 276, 3) from rfl) rfl rfl rfl (Nat.le_of_ble_eq_true rfl)
theorem w144_58 {x : Int} : wp X d 144 58 ls ((1, x) :: st) M Q ↔ wp X d 144 59 ls ((0, jl_2i x) :: st) M Q := q_l2i (show mj_ins 144 58 = some (.l2i, 1) from rfl)
theorem w144_59 {v0 v1 v2 v3 v4 w : mj_V} {x y : Int} : wp X d 144 59 (v0 :: v1 :: v2 :: v3 :: v4 :: (0, y) :: w :: ls) ((0, x) :: st) M Q ↔ wp X d 144 61 (v0 :: v1 :: v2 :: v3 :: v4 :: (0, y) :: (0, x) :: ls) st M Q := q_istore (show mj_ins 144 59 = some (.istore 6, 2) from rfl) (Nat.le_add_left 7 _) (mj_set_s (fun z hz => by cases hz; exact (show (0 : Nat) ≠ 1 by decide)))
theorem w144_61 {v0 v1 v2 v3 v4 v5 : mj_V} {x : Int} : wp X d 144 61 (v0 :: v1 :: v2 :: v3 :: v4 :: v5 :: (0, x) :: ls) st M Q ↔ wp X d 144 63 (v0 :: v1 :: v2 :: v3 :: v4 :: v5 :: (0, x) :: ls) ((0, x) :: st) M Q := q_iload (show mj_ins 144 61 = some (.iload 6, 2) from rfl) rfl
theorem w144_63 : wp X d 144 63 ls st M Q ↔ wp X d 144 64 ls ((0, 1) :: st) M Q := q_iconst (show mj_ins 144 63 = some (.iconst 1, 1) from rfl) (by decide)
theorem w144_64 {x y : Int} : wp X d 144 64 ls ((0, y) :: (0, x) :: st) M Q ↔ if x < y then wp X d 144 67 ls st M Q else wp X d 144 71 ls st M Q := q_icmp_ge (show mj_ins 144 64 = some (.if_icmp .ge 7, 3) from rfl) rfl
theorem w144_67 : wp X d 144 67 ls st M Q ↔ wp X d 144 68 ls ((0, (-1)) :: st) M Q := q_iconst (show mj_ins 144 67 = some (.iconst (-1), 1) from rfl) (by decide)
theorem w144_68 : wp X d 144 68 ls st M Q ↔ wp X d 144 85 ls st M Q := q_goto (show mj_ins 144 68 = some (.goto 17, 3) from rfl) rfl
theorem w144_71 {v0 v1 v2 : mj_V} {x : Int} : wp X d 144 71 (v0 :: v1 :: v2 :: (0, x) :: ls) st M Q ↔ wp X d 144 72 (v0 :: v1 :: v2 :: (0, x) :: ls) ((0, x) :: st) M Q := q_iload_n (show mj_ins 144 71 = some (.iload_n 3, 1) from rfl) rfl
theorem w144_72 {x : Int} : wp X d 144 72 ls ((0, x) :: st) M Q ↔ if x = 0 then wp X d 144 80 ls st M Q else wp X d 144 75 ls st M Q := q_if_eq (show mj_ins 144 72 = some (.ifCond .eq 8, 3) from rfl) rfl
theorem w144_75 {v0 v1 v2 v3 : mj_V} {x : Int} : wp X d 144 75 (v0 :: v1 :: v2 :: v3 :: (0, x) :: ls) st M Q ↔ wp X d 144 77 (v0 :: v1 :: v2 :: v3 :: (0, x) :: ls) ((0, x) :: st) M Q := q_iload (show mj_ins 144 75 = some (.iload 4, 2) from rfl) rfl
theorem w144_77 : wp X d 144 77 ls st M Q ↔ wp X d 144 82 ls st M Q := q_goto (show mj_ins 144 77 = some (.goto 5, 3) from rfl) rfl
theorem w144_80 {v0 v1 v2 v3 v4 : mj_V} {x : Int} : wp X d 144 80 (v0 :: v1 :: v2 :: v3 :: v4 :: (0, x) :: ls) st M Q ↔ wp X d 144 82 (v0 :: v1 :: v2 :: v3 :: v4 :: (0, x) :: ls) ((0, x) :: st) M Q := q_iload (show mj_ins 144 80 = some (.iload 5, 2) from rfl) rfl
theorem w144_82 {v0 v1 v2 v3 v4 v5 : mj_V} {x : Int} : wp X d 144 82 (v0 :: v1 :: v2 :: v3 :: v4 :: v5 :: (0, x) :: ls) st M Q ↔ wp X d 144 84 (v0 :: v1 :: v2 :: v3 :: v4 :: v5 :: (0, x) :: ls) ((0, x) :: st) M Q := q_iload (show mj_ins 144 82 = some (.iload 6, 2) from rfl) rfl
theorem w144_84 {x y : Int} : wp X d 144 84 ls ((0, y) :: (0, x) :: st) M Q ↔ y ≠ 0 ∧ wp X d 144 85 ls ((0, ji_div x y) :: st) M Q := q_idiv (show mj_ins 144 84 = some (.idiv, 1) from rfl)
theorem w144_85 {x : Int} : wp X d 144 85 ls [(0, x)] M Q ↔ Q (some (0, x)) M := q_ireturn (show mj_ins 144 85 = some (.ireturn, 1) from rfl) rfl
-- 147: PerfectFerried.commonPart(JJ)J
theorem w147_0 {v0 v1 : mj_V} {x : Int} : wp X d 147 0 (v0 :: v1 :: (1, x) :: ls) st M Q ↔ wp X d 147 1 (v0 :: v1 :: (1, x) :: ls) ((1, x) :: st) M Q := q_lload_n (show mj_ins 147 0 = some (.lload_n 2, 1) from rfl) rfl
theorem w147_1 {v0 v1 v2 w w2 : mj_V} {x y : Int} : wp X d 147 1 (v0 :: v1 :: v2 :: (9, y) :: w :: w2 :: ls) ((1, x) :: st) M Q ↔ wp X d 147 3 (v0 :: v1 :: v2 :: (9, y) :: (1, x) :: (9, 0) :: ls) st M Q := q_lstore (show mj_ins 147 1 = some (.lstore 4, 2) from rfl) (Nat.le_add_left 6 _) (mj_set2_s (fun z hz => by cases hz; exact (show (9 : Nat) ≠ 1 by decide)))
theorem w147_3 {x : Int} : wp X d 147 3 ((1, x) :: ls) st M Q ↔ wp X d 147 4 ((1, x) :: ls) ((1, x) :: st) M Q := q_lload_n (show mj_ins 147 3 = some (.lload_n 0, 1) from rfl) rfl
theorem w147_4 {v0 v1 v2 v3 v4 w w2 : mj_V} {x y : Int} : wp X d 147 4 (v0 :: v1 :: v2 :: v3 :: v4 :: (9, y) :: w :: w2 :: ls) ((1, x) :: st) M Q ↔ wp X d 147 6 (v0 :: v1 :: v2 :: v3 :: v4 :: (9, y) :: (1, x) :: (9, 0) :: ls) st M Q := q_lstore (show mj_ins 147 4 = some (.lstore 6, 2) from rfl) (Nat.le_add_left 8 _) (mj_set2_s (fun z hz => by cases hz; exact (show (9 : Nat) ≠ 1 by decide)))
theorem w147_6 : wp X d 147 6 ls st M Q ↔ wp X d 147 7 ls ((0, 0) :: st) M Q := q_iconst (show mj_ins 147 6 = some (.iconst 0, 1) from rfl) (by decide)
theorem w147_7 {v0 v1 v2 v3 v4 v5 v6 w : mj_V} {x y : Int} : wp X d 147 7 (v0 :: v1 :: v2 :: v3 :: v4 :: v5 :: v6 :: (9, y) :: w :: ls) ((0, x) :: st) M Q ↔ wp X d 147 9 (v0 :: v1 :: v2 :: v3 :: v4 :: v5 :: v6 :: (9, y) :: (0, x) :: ls) st M Q := q_istore (show mj_ins 147 7 = some (.istore 8, 2) from rfl) (Nat.le_add_left 9 _) (mj_set_s (fun z hz => by cases hz; exact (show (9 : Nat) ≠ 1 by decide)))
theorem w147_9 {v0 v1 v2 v3 v4 v5 v6 v7 : mj_V} {x : Int} : wp X d 147 9 (v0 :: v1 :: v2 :: v3 :: v4 :: v5 :: v6 :: v7 :: (0, x) :: ls) st M Q ↔ wp X d 147 11 (v0 :: v1 :: v2 :: v3 :: v4 :: v5 :: v6 :: v7 :: (0, x) :: ls) ((0, x) :: st) M Q := q_iload (show mj_ins 147 9 = some (.iload 8, 2) from rfl) rfl
theorem w147_11 : wp X d 147 11 ls st M Q ↔ wp X d 147 14 ls ((0, 200) :: st) M Q := q_sipush (show mj_ins 147 11 = some (.sipush 200, 3) from rfl) (by decide)
theorem w147_14 {x y : Int} : wp X d 147 14 ls ((0, y) :: (0, x) :: st) M Q ↔ if x < y then wp X d 147 17 ls st M Q else wp X d 147 45 ls st M Q := q_icmp_ge (show mj_ins 147 14 = some (.if_icmp .ge 31, 3) from rfl) rfl
theorem w147_17 {v0 v1 v2 v3 v4 v5 : mj_V} {x : Int} : wp X d 147 17 (v0 :: v1 :: v2 :: v3 :: v4 :: v5 :: (1, x) :: ls) st M Q ↔ wp X d 147 19 (v0 :: v1 :: v2 :: v3 :: v4 :: v5 :: (1, x) :: ls) ((1, x) :: st) M Q := q_lload (show mj_ins 147 17 = some (.lload 6, 2) from rfl) rfl
theorem w147_19 : wp X d 147 19 ls st M Q ↔ wp X d 147 20 ls ((1, 0) :: st) M Q := q_lconst (show mj_ins 147 19 = some (.lconst 0, 1) from rfl) (by decide)
theorem w147_20 {x y : Int} : wp X d 147 20 ls ((1, y) :: (1, x) :: st) M Q ↔ wp X d 147 21 ls ((0, jl_cmp x y) :: st) M Q := q_lcmp (show mj_ins 147 20 = some (.lcmp, 1) from rfl)
theorem w147_21 {x : Int} : wp X d 147 21 ls ((0, x) :: st) M Q ↔ if x = 0 then wp X d 147 45 ls st M Q else wp X d 147 24 ls st M Q := q_if_eq (show mj_ins 147 21 = some (.ifCond .eq 24, 3) from rfl) rfl
theorem w147_24 {v0 v1 v2 v3 : mj_V} {x : Int} : wp X d 147 24 (v0 :: v1 :: v2 :: v3 :: (1, x) :: ls) st M Q ↔ wp X d 147 26 (v0 :: v1 :: v2 :: v3 :: (1, x) :: ls) ((1, x) :: st) M Q := q_lload (show mj_ins 147 24 = some (.lload 4, 2) from rfl) rfl
theorem w147_26 {v0 v1 v2 v3 v4 v5 : mj_V} {x : Int} : wp X d 147 26 (v0 :: v1 :: v2 :: v3 :: v4 :: v5 :: (1, x) :: ls) st M Q ↔ wp X d 147 28 (v0 :: v1 :: v2 :: v3 :: v4 :: v5 :: (1, x) :: ls) ((1, x) :: st) M Q := q_lload (show mj_ins 147 26 = some (.lload 6, 2) from rfl) rfl
theorem w147_28 {x y : Int} : wp X d 147 28 ls ((1, y) :: (1, x) :: st) M Q ↔ y ≠ 0 ∧ wp X d 147 29 ls ((1, jl_rem x y) :: st) M Q := q_lrem (show mj_ins 147 28 = some (.lrem, 1) from rfl)
theorem w147_29 {v0 v1 v2 v3 v4 v5 v6 v7 w w2 : mj_V} {x y : Int} : wp X d 147 29 (v0 :: v1 :: v2 :: v3 :: v4 :: v5 :: v6 :: v7 :: (0, y) :: w :: w2 :: ls) ((1, x) :: st) M Q ↔ wp X d 147 31 (v0 :: v1 :: v2 :: v3 :: v4 :: v5 :: v6 :: v7 :: (0, y) :: (1, x) :: (9, 0) :: ls) st M Q := q_lstore (show mj_ins 147 29 = some (.lstore 9, 2) from rfl) (Nat.le_add_left 11 _) (mj_set2_s (fun z hz => by cases hz; exact (show (0 : Nat) ≠ 1 by decide)))
theorem w147_31 {v0 v1 v2 v3 v4 v5 : mj_V} {x : Int} : wp X d 147 31 (v0 :: v1 :: v2 :: v3 :: v4 :: v5 :: (1, x) :: ls) st M Q ↔ wp X d 147 33 (v0 :: v1 :: v2 :: v3 :: v4 :: v5 :: (1, x) :: ls) ((1, x) :: st) M Q := q_lload (show mj_ins 147 31 = some (.lload 6, 2) from rfl) rfl
theorem w147_33 {v0 v1 v2 w w2 : mj_V} {x y : Int} : wp X d 147 33 (v0 :: v1 :: v2 :: (9, y) :: w :: w2 :: ls) ((1, x) :: st) M Q ↔ wp X d 147 35 (v0 :: v1 :: v2 :: (9, y) :: (1, x) :: (9, 0) :: ls) st M Q := q_lstore (show mj_ins 147 33 = some (.lstore 4, 2) from rfl) (Nat.le_add_left 6 _) (mj_set2_s (fun z hz => by cases hz; exact (show (9 : Nat) ≠ 1 by decide)))
theorem w147_35 {v0 v1 v2 v3 v4 v5 v6 v7 v8 : mj_V} {x : Int} : wp X d 147 35 (v0 :: v1 :: v2 :: v3 :: v4 :: v5 :: v6 :: v7 :: v8 :: (1, x) :: ls) st M Q ↔ wp X d 147 37 (v0 :: v1 :: v2 :: v3 :: v4 :: v5 :: v6 :: v7 :: v8 :: (1, x) :: ls) ((1, x) :: st) M Q := q_lload (show mj_ins 147 35 = some (.lload 9, 2) from rfl) rfl
theorem w147_37 {v0 v1 v2 v3 v4 w w2 : mj_V} {x y : Int} : wp X d 147 37 (v0 :: v1 :: v2 :: v3 :: v4 :: (9, y) :: w :: w2 :: ls) ((1, x) :: st) M Q ↔ wp X d 147 39 (v0 :: v1 :: v2 :: v3 :: v4 :: (9, y) :: (1, x) :: (9, 0) :: ls) st M Q := q_lstore (show mj_ins 147 37 = some (.lstore 6, 2) from rfl) (Nat.le_add_left 8 _) (mj_set2_s (fun z hz => by cases hz; exact (show (9 : Nat) ≠ 1 by decide)))
theorem w147_39 {v0 v1 v2 v3 v4 v5 v6 : mj_V} {x y : Int} : wp X d 147 39 (v0 :: v1 :: v2 :: v3 :: v4 :: v5 :: v6 :: (9, y) :: (0, x) :: ls) st M Q ↔ wp X d 147 42 (v0 :: v1 :: v2 :: v3 :: v4 :: v5 :: v6 :: (9, y) :: (0, ji_add x 1) :: ls) st M Q := q_iinc (show mj_ins 147 39 = some (.iinc 8 1, 3) from rfl) rfl (mj_set_s (fun z hz => by cases hz; exact (show (9 : Nat) ≠ 1 by decide)))
theorem w147_42 : wp X d 147 42 ls st M Q ↔ wp X d 147 9 ls st M Q := q_goto (show mj_ins 147 42 = some (.goto (-33), 3) from rfl) rfl
theorem w147_45 {v0 v1 v2 v3 : mj_V} {x : Int} : wp X d 147 45 (v0 :: v1 :: v2 :: v3 :: (1, x) :: ls) st M Q ↔ wp X d 147 47 (v0 :: v1 :: v2 :: v3 :: (1, x) :: ls) ((1, x) :: st) M Q := q_lload (show mj_ins 147 45 = some (.lload 4, 2) from rfl) rfl
theorem w147_47 {x : Int} : wp X d 147 47 ls [(1, x)] M Q ↔ Q (some (1, x)) M := q_lreturn (show mj_ins 147 47 = some (.lreturn, 1) from rfl) rfl
-- 148: PerfectFerried.sure(I)I
theorem w148_0 {v0 : mj_V} {x : Int} : wp X d 148 0 (v0 :: (0, x) :: ls) st M Q ↔ wp X d 148 1 (v0 :: (0, x) :: ls) ((0, x) :: st) M Q := q_iload_n (show mj_ins 148 0 = some (.iload_n 1, 1) from rfl) rfl
theorem w148_1 {a0 : Int} : wp X (d + 1) 148 1 ls ((0, a0) :: st) M Q ↔ (mj_cs st ≤ 8) ∧ wc X d 134 [(0, a0)] M (fun r M => wp X (d + 1) 148 4 ls (r.toList ++ st) M Q) := q_callS (show mj_ins 148 1 = some (.invokestatic 270, 3) from rfl) rfl rfl rfl (Nat.le_of_ble_eq_true rfl)
theorem w148_4 {x : Int} : wp X d 148 4 ls ((0, x) :: st) M Q ↔ if x = 0 then wp X d 148 18 ls st M Q else wp X d 148 7 ls st M Q := q_if_eq (show mj_ins 148 4 = some (.ifCond .eq 14, 3) from rfl) rfl
theorem w148_7 {x : Int} : wp X d 148 7 ((31, x) :: ls) st M Q ↔ wp X d 148 8 ((31, x) :: ls) ((31, x) :: st) M Q := q_aload_n (show mj_ins 148 7 = some (.aload_n 0, 1) from rfl) rfl rfl
theorem w148_8 {x : Int} : wp X d 148 8 ls ((31, x) :: st) M Q ↔ x ≠ 0 ∧ wp X d 148 11 ls ((21, hh M x 5) :: st) M Q := q_getfield (show mj_ins 148 8 = some (.getfield 51, 3) from rfl) rfl rfl rfl
theorem w148_11 {a0 : Int} : wp X (d + 1) 148 11 ls ((21, a0) :: st) M Q ↔ (a0 ≠ 0 ∧ mj_cs st ≤ 8) ∧ wc X d 141 [(21, a0)] M (fun r M => wp X (d + 1) 148 14 ls (r.toList ++ st) M Q) := q_callV ⟨rfl, rfl⟩ (show mj_ins 148 11 = some (.invokevirtual 264, 3) from rfl) rfl rfl rfl (Nat.le_of_ble_eq_true rfl)
theorem w148_14 : wp X d 148 14 ls st M Q ↔ wp X d 148 15 ls ((0, 1) :: st) M Q := q_iconst (show mj_ins 148 14 = some (.iconst 1, 1) from rfl) (by decide)
theorem w148_15 {x y : Int} : wp X d 148 15 ls ((0, y) :: (0, x) :: st) M Q ↔ if x < y then wp X d 148 18 ls st M Q else wp X d 148 20 ls st M Q := q_icmp_ge (show mj_ins 148 15 = some (.if_icmp .ge 5, 3) from rfl) rfl
theorem w148_18 : wp X d 148 18 ls st M Q ↔ wp X d 148 19 ls ((0, (-1)) :: st) M Q := q_iconst (show mj_ins 148 18 = some (.iconst (-1), 1) from rfl) (by decide)
theorem w148_19 {x : Int} : wp X d 148 19 ls [(0, x)] M Q ↔ Q (some (0, x)) M := q_ireturn (show mj_ins 148 19 = some (.ireturn, 1) from rfl) rfl
theorem w148_20 {x : Int} : wp X d 148 20 ((31, x) :: ls) st M Q ↔ wp X d 148 21 ((31, x) :: ls) ((31, x) :: st) M Q := q_aload_n (show mj_ins 148 20 = some (.aload_n 0, 1) from rfl) rfl rfl
theorem w148_21 {x : Int} : wp X d 148 21 ls ((31, x) :: st) M Q ↔ x ≠ 0 ∧ wp X d 148 24 ls ((21, hh M x 5) :: st) M Q := q_getfield (show mj_ins 148 21 = some (.getfield 51, 3) from rfl) rfl rfl rfl
theorem w148_24 {v0 : mj_V} {x : Int} : wp X d 148 24 (v0 :: (0, x) :: ls) st M Q ↔ wp X d 148 25 (v0 :: (0, x) :: ls) ((0, x) :: st) M Q := q_iload_n (show mj_ins 148 24 = some (.iload_n 1, 1) from rfl) rfl
theorem w148_25 {a0 a1 : Int} : wp X (d + 1) 148 25 ls ((0, a1) :: (21, a0) :: st) M Q ↔ (a0 ≠ 0 ∧ mj_cs st ≤ 8) ∧ wc X d 149 [(21, a0), (0, a1)] M (fun r M => wp X (d + 1) 148 28 ls (r.toList ++ st) M Q) := q_callV ⟨rfl, rfl⟩ (show mj_ins 148 25 = some (.invokevirtual 280, 3) from rfl) rfl rfl rfl (Nat.le_of_ble_eq_true rfl)
theorem w148_28 {x : Int} : wp X d 148 28 ls [(0, x)] M Q ↔ Q (some (0, x)) M := q_ireturn (show mj_ins 148 28 = some (.ireturn, 1) from rfl) rfl
-- 150: PerfectFerried.ask()I
theorem w150_0 {x : Int} : wp X d 150 0 ((31, x) :: ls) st M Q ↔ wp X d 150 1 ((31, x) :: ls) ((31, x) :: st) M Q := q_aload_n (show mj_ins 150 0 = some (.aload_n 0, 1) from rfl) rfl rfl
theorem w150_1 {x : Int} : wp X d 150 1 ls ((31, x) :: st) M Q ↔ x ≠ 0 ∧ wp X d 150 4 ls ((21, hh M x 5) :: st) M Q := q_getfield (show mj_ins 150 1 = some (.getfield 51, 3) from rfl) rfl rfl rfl
theorem w150_4 {a0 : Int} : wp X (d + 1) 150 4 ls ((21, a0) :: st) M Q ↔ (a0 ≠ 0 ∧ mj_cs st ≤ 8) ∧ wc X d 141 [(21, a0)] M (fun r M => wp X (d + 1) 150 7 ls (r.toList ++ st) M Q) := q_callV ⟨rfl, rfl⟩ (show mj_ins 150 4 = some (.invokevirtual 264, 3) from rfl) rfl rfl rfl (Nat.le_of_ble_eq_true rfl)
theorem w150_7 : wp X d 150 7 ls st M Q ↔ wp X d 150 8 ls ((0, 2) :: st) M Q := q_iconst (show mj_ins 150 7 = some (.iconst 2, 1) from rfl) (by decide)
theorem w150_8 {x y : Int} : wp X d 150 8 ls ((0, y) :: (0, x) :: st) M Q ↔ if x < y then wp X d 150 11 ls st M Q else wp X d 150 15 ls st M Q := q_icmp_ge (show mj_ins 150 8 = some (.if_icmp .ge 7, 3) from rfl) rfl
theorem w150_11 : wp X d 150 11 ls st M Q ↔ wp X d 150 12 ls ((0, (-1)) :: st) M Q := q_iconst (show mj_ins 150 11 = some (.iconst (-1), 1) from rfl) (by decide)
theorem w150_12 : wp X d 150 12 ls st M Q ↔ wp X d 150 22 ls st M Q := q_goto (show mj_ins 150 12 = some (.goto 10, 3) from rfl) rfl
theorem w150_15 {x : Int} : wp X d 150 15 ((31, x) :: ls) st M Q ↔ wp X d 150 16 ((31, x) :: ls) ((31, x) :: st) M Q := q_aload_n (show mj_ins 150 15 = some (.aload_n 0, 1) from rfl) rfl rfl
theorem w150_16 {x : Int} : wp X d 150 16 ls ((31, x) :: st) M Q ↔ x ≠ 0 ∧ wp X d 150 19 ls ((21, hh M x 5) :: st) M Q := q_getfield (show mj_ins 150 16 = some (.getfield 51, 3) from rfl) rfl rfl rfl
theorem w150_19 {a0 : Int} : wp X (d + 1) 150 19 ls ((21, a0) :: st) M Q ↔ (a0 ≠ 0 ∧ mj_cs st ≤ 8) ∧ wc X d 151 [(21, a0)] M (fun r M => wp X (d + 1) 150 22 ls (r.toList ++ st) M Q) := q_callV ⟨rfl, rfl⟩ (show mj_ins 150 19 = some (.invokevirtual 283, 3) from rfl) rfl rfl rfl (Nat.le_of_ble_eq_true rfl)
theorem w150_22 {x : Int} : wp X d 150 22 ls [(0, x)] M Q ↔ Q (some (0, x)) M := q_ireturn (show mj_ins 150 22 = some (.ireturn, 1) from rfl) rfl
-- 152: PerfectFerried.least(IIZ)I
theorem w152_0 {x : Int} : wp X d 152 0 ((31, x) :: ls) st M Q ↔ wp X d 152 1 ((31, x) :: ls) ((31, x) :: st) M Q := q_aload_n (show mj_ins 152 0 = some (.aload_n 0, 1) from rfl) rfl rfl
theorem w152_1 {x : Int} : wp X d 152 1 ls ((31, x) :: st) M Q ↔ x ≠ 0 ∧ wp X d 152 4 ls ((30, hh M x 1) :: st) M Q := q_getfield (show mj_ins 152 1 = some (.getfield 19, 3) from rfl) rfl rfl rfl
theorem w152_4 {x : Int} : wp X d 152 4 ls ((30, x) :: st) M Q ↔ x ≠ 0 ∧ wp X d 152 7 ls ((29, hh M x 0) :: st) M Q := q_getfield (show mj_ins 152 4 = some (.getfield 91, 3) from rfl) rfl rfl rfl
theorem w152_7 {v0 : mj_V} {x : Int} : wp X d 152 7 (v0 :: (0, x) :: ls) st M Q ↔ wp X d 152 8 (v0 :: (0, x) :: ls) ((0, x) :: st) M Q := q_iload_n (show mj_ins 152 7 = some (.iload_n 1, 1) from rfl) rfl
theorem w152_8 {a0 a1 : Int} : wp X (d + 1) 152 8 ls ((0, a1) :: (29, a0) :: st) M Q ↔ (a0 ≠ 0 ∧ mj_cs st ≤ 8) ∧ wc X d 17 [(29, a0), (0, a1)] M (fun r M => wp X (d + 1) 152 11 ls (r.toList ++ st) M Q) := q_callV ⟨rfl, rfl⟩ (show mj_ins 152 8 = some (.invokevirtual 286, 3) from rfl) rfl rfl rfl (Nat.le_of_ble_eq_true rfl)
theorem w152_11 {x : Int} : wp X d 152 11 ls ((0, x) :: st) M Q ↔ if x = 0 then wp X d 152 25 ls st M Q else wp X d 152 14 ls st M Q := q_if_eq (show mj_ins 152 11 = some (.ifCond .eq 14, 3) from rfl) rfl
theorem w152_14 {x : Int} : wp X d 152 14 ((31, x) :: ls) st M Q ↔ wp X d 152 15 ((31, x) :: ls) ((31, x) :: st) M Q := q_aload_n (show mj_ins 152 14 = some (.aload_n 0, 1) from rfl) rfl rfl
theorem w152_15 {x : Int} : wp X d 152 15 ls ((31, x) :: st) M Q ↔ x ≠ 0 ∧ wp X d 152 18 ls ((30, hh M x 1) :: st) M Q := q_getfield (show mj_ins 152 15 = some (.getfield 19, 3) from rfl) rfl rfl rfl
theorem w152_18 {v0 v1 : mj_V} {x : Int} : wp X d 152 18 (v0 :: v1 :: (0, x) :: ls) st M Q ↔ wp X d 152 19 (v0 :: v1 :: (0, x) :: ls) ((0, x) :: st) M Q := q_iload_n (show mj_ins 152 18 = some (.iload_n 2, 1) from rfl) rfl
theorem w152_19 {a0 a1 : Int} : wp X (d + 1) 152 19 ls ((0, a1) :: (30, a0) :: st) M Q ↔ (a0 ≠ 0 ∧ mj_cs st ≤ 8) ∧ wc X d 96 [(30, a0), (0, a1)] M (fun r M => wp X (d + 1) 152 22 ls (r.toList ++ st) M Q) := q_callV ⟨rfl, rfl⟩ (show mj_ins 152 19 = some (.invokevirtual 289, 3) from rfl) rfl rfl rfl (Nat.le_of_ble_eq_true rfl)
theorem w152_22 {x : Int} : wp X d 152 22 ls ((0, x) :: st) M Q ↔ if x = 0 then wp X d 152 25 ls st M Q else wp X d 152 27 ls st M Q := q_if_ne (show mj_ins 152 22 = some (.ifCond .ne 5, 3) from rfl) rfl
theorem w152_25 : wp X d 152 25 ls st M Q ↔ wp X d 152 26 ls ((0, (-1)) :: st) M Q := q_iconst (show mj_ins 152 25 = some (.iconst (-1), 1) from rfl) (by decide)
theorem w152_26 {x : Int} : wp X d 152 26 ls [(0, x)] M Q ↔ Q (some (0, x)) M := q_ireturn (show mj_ins 152 26 = some (.ireturn, 1) from rfl) rfl
theorem w152_27 {v0 v1 v2 : mj_V} {x : Int} : wp X d 152 27 (v0 :: v1 :: v2 :: (0, x) :: ls) st M Q ↔ wp X d 152 28 (v0 :: v1 :: v2 :: (0, x) :: ls) ((0, x) :: st) M Q := q_iload_n (show mj_ins 152 27 = some (.iload_n 3, 1) from rfl) rfl
theorem w152_28 {x : Int} : wp X d 152 28 ls ((0, x) :: st) M Q ↔ if x = 0 then wp X d 152 45 ls st M Q else wp X d 152 31 ls st M Q := q_if_eq (show mj_ins 152 28 = some (.ifCond .eq 17, 3) from rfl) rfl
theorem w152_31 {x : Int} : wp X d 152 31 ((31, x) :: ls) st M Q ↔ wp X d 152 32 ((31, x) :: ls) ((31, x) :: st) M Q := q_aload_n (show mj_ins 152 31 = some (.aload_n 0, 1) from rfl) rfl rfl
theorem w152_32 {x : Int} : wp X d 152 32 ls ((31, x) :: st) M Q ↔ x ≠ 0 ∧ wp X d 152 35 ls ((30, hh M x 1) :: st) M Q := q_getfield (show mj_ins 152 32 = some (.getfield 19, 3) from rfl) rfl rfl rfl
theorem w152_35 {x : Int} : wp X d 152 35 ls ((30, x) :: st) M Q ↔ x ≠ 0 ∧ wp X d 152 38 ls ((29, hh M x 0) :: st) M Q := q_getfield (show mj_ins 152 35 = some (.getfield 91, 3) from rfl) rfl rfl rfl
theorem w152_38 {v0 : mj_V} {x : Int} : wp X d 152 38 (v0 :: (0, x) :: ls) st M Q ↔ wp X d 152 39 (v0 :: (0, x) :: ls) ((0, x) :: st) M Q := q_iload_n (show mj_ins 152 38 = some (.iload_n 1, 1) from rfl) rfl
theorem w152_39 {a0 a1 : Int} : wp X (d + 1) 152 39 ls ((0, a1) :: (29, a0) :: st) M Q ↔ (a0 ≠ 0 ∧ mj_cs st ≤ 8) ∧ wc X d 153 [(29, a0), (0, a1)] M (fun r M => wp X (d + 1) 152 42 ls (r.toList ++ st) M Q) := q_callV ⟨rfl, rfl⟩ (show mj_ins 152 39 = some (.invokevirtual 292, 3) from rfl) rfl rfl rfl (Nat.le_of_ble_eq_true rfl)
theorem w152_42 : wp X d 152 42 ls st M Q ↔ wp X d 152 56 ls st M Q := q_goto (show mj_ins 152 42 = some (.goto 14, 3) from rfl) rfl
theorem w152_45 {x : Int} : wp X d 152 45 ((31, x) :: ls) st M Q ↔ wp X d 152 46 ((31, x) :: ls) ((31, x) :: st) M Q := q_aload_n (show mj_ins 152 45 = some (.aload_n 0, 1) from rfl) rfl rfl
theorem w152_46 {x : Int} : wp X d 152 46 ls ((31, x) :: st) M Q ↔ x ≠ 0 ∧ wp X d 152 49 ls ((30, hh M x 1) :: st) M Q := q_getfield (show mj_ins 152 46 = some (.getfield 19, 3) from rfl) rfl rfl rfl
theorem w152_49 {x : Int} : wp X d 152 49 ls ((30, x) :: st) M Q ↔ x ≠ 0 ∧ wp X d 152 52 ls ((29, hh M x 0) :: st) M Q := q_getfield (show mj_ins 152 49 = some (.getfield 91, 3) from rfl) rfl rfl rfl
theorem w152_52 {v0 : mj_V} {x : Int} : wp X d 152 52 (v0 :: (0, x) :: ls) st M Q ↔ wp X d 152 53 (v0 :: (0, x) :: ls) ((0, x) :: st) M Q := q_iload_n (show mj_ins 152 52 = some (.iload_n 1, 1) from rfl) rfl
theorem w152_53 {a0 a1 : Int} : wp X (d + 1) 152 53 ls ((0, a1) :: (29, a0) :: st) M Q ↔ (a0 ≠ 0 ∧ mj_cs st ≤ 8) ∧ wc X d 97 [(29, a0), (0, a1)] M (fun r M => wp X (d + 1) 152 56 ls (r.toList ++ st) M Q) := q_callV ⟨rfl, rfl⟩ (show mj_ins 152 53 = some (.invokevirtual 295, 3) from rfl) rfl rfl rfl (Nat.le_of_ble_eq_true rfl)
theorem w152_56 {x : Int} : wp X d 152 56 ls [(0, x)] M Q ↔ Q (some (0, x)) M := q_ireturn (show mj_ins 152 56 = some (.ireturn, 1) from rfl) rfl
-- 154: PerfectFerried.blurred(II)I
theorem w154_0 {x : Int} : wp X d 154 0 ((31, x) :: ls) st M Q ↔ wp X d 154 1 ((31, x) :: ls) ((31, x) :: st) M Q := q_aload_n (show mj_ins 154 0 = some (.aload_n 0, 1) from rfl) rfl rfl
theorem w154_1 {x : Int} : wp X d 154 1 ls ((31, x) :: st) M Q ↔ x ≠ 0 ∧ wp X d 154 4 ls ((30, hh M x 1) :: st) M Q := q_getfield (show mj_ins 154 1 = some (.getfield 19, 3) from rfl) rfl rfl rfl
theorem w154_4 {x : Int} : wp X d 154 4 ls ((30, x) :: st) M Q ↔ x ≠ 0 ∧ wp X d 154 7 ls ((29, hh M x 0) :: st) M Q := q_getfield (show mj_ins 154 4 = some (.getfield 91, 3) from rfl) rfl rfl rfl
theorem w154_7 {v0 : mj_V} {x : Int} : wp X d 154 7 (v0 :: (0, x) :: ls) st M Q ↔ wp X d 154 8 (v0 :: (0, x) :: ls) ((0, x) :: st) M Q := q_iload_n (show mj_ins 154 7 = some (.iload_n 1, 1) from rfl) rfl
theorem w154_8 {a0 a1 : Int} : wp X (d + 1) 154 8 ls ((0, a1) :: (29, a0) :: st) M Q ↔ (a0 ≠ 0 ∧ mj_cs st ≤ 8) ∧ wc X d 17 [(29, a0), (0, a1)] M (fun r M => wp X (d + 1) 154 11 ls (r.toList ++ st) M Q) := q_callV ⟨rfl, rfl⟩ (show mj_ins 154 8 = some (.invokevirtual 286, 3) from rfl) rfl rfl rfl (Nat.le_of_ble_eq_true rfl)
theorem w154_11 {x : Int} : wp X d 154 11 ls ((0, x) :: st) M Q ↔ if x = 0 then wp X d 154 25 ls st M Q else wp X d 154 14 ls st M Q := q_if_eq (show mj_ins 154 11 = some (.ifCond .eq 14, 3) from rfl) rfl
theorem w154_14 {x : Int} : wp X d 154 14 ((31, x) :: ls) st M Q ↔ wp X d 154 15 ((31, x) :: ls) ((31, x) :: st) M Q := q_aload_n (show mj_ins 154 14 = some (.aload_n 0, 1) from rfl) rfl rfl
theorem w154_15 {x : Int} : wp X d 154 15 ls ((31, x) :: st) M Q ↔ x ≠ 0 ∧ wp X d 154 18 ls ((30, hh M x 1) :: st) M Q := q_getfield (show mj_ins 154 15 = some (.getfield 19, 3) from rfl) rfl rfl rfl
theorem w154_18 {v0 v1 : mj_V} {x : Int} : wp X d 154 18 (v0 :: v1 :: (0, x) :: ls) st M Q ↔ wp X d 154 19 (v0 :: v1 :: (0, x) :: ls) ((0, x) :: st) M Q := q_iload_n (show mj_ins 154 18 = some (.iload_n 2, 1) from rfl) rfl
theorem w154_19 {a0 a1 : Int} : wp X (d + 1) 154 19 ls ((0, a1) :: (30, a0) :: st) M Q ↔ (a0 ≠ 0 ∧ mj_cs st ≤ 8) ∧ wc X d 96 [(30, a0), (0, a1)] M (fun r M => wp X (d + 1) 154 22 ls (r.toList ++ st) M Q) := q_callV ⟨rfl, rfl⟩ (show mj_ins 154 19 = some (.invokevirtual 289, 3) from rfl) rfl rfl rfl (Nat.le_of_ble_eq_true rfl)
theorem w154_22 {x : Int} : wp X d 154 22 ls ((0, x) :: st) M Q ↔ if x = 0 then wp X d 154 25 ls st M Q else wp X d 154 27 ls st M Q := q_if_ne (show mj_ins 154 22 = some (.ifCond .ne 5, 3) from rfl) rfl
theorem w154_25 : wp X d 154 25 ls st M Q ↔ wp X d 154 26 ls ((0, (-1)) :: st) M Q := q_iconst (show mj_ins 154 25 = some (.iconst (-1), 1) from rfl) (by decide)
theorem w154_26 {x : Int} : wp X d 154 26 ls [(0, x)] M Q ↔ Q (some (0, x)) M := q_ireturn (show mj_ins 154 26 = some (.ireturn, 1) from rfl) rfl
theorem w154_27 {x : Int} : wp X d 154 27 ((31, x) :: ls) st M Q ↔ wp X d 154 28 ((31, x) :: ls) ((31, x) :: st) M Q := q_aload_n (show mj_ins 154 27 = some (.aload_n 0, 1) from rfl) rfl rfl
theorem w154_28 {x : Int} : wp X d 154 28 ls ((31, x) :: st) M Q ↔ x ≠ 0 ∧ wp X d 154 31 ls ((30, hh M x 1) :: st) M Q := q_getfield (show mj_ins 154 28 = some (.getfield 19, 3) from rfl) rfl rfl rfl
theorem w154_31 {x : Int} : wp X d 154 31 ls ((30, x) :: st) M Q ↔ x ≠ 0 ∧ wp X d 154 34 ls ((29, hh M x 0) :: st) M Q := q_getfield (show mj_ins 154 31 = some (.getfield 91, 3) from rfl) rfl rfl rfl
theorem w154_34 {v0 : mj_V} {x : Int} : wp X d 154 34 (v0 :: (0, x) :: ls) st M Q ↔ wp X d 154 35 (v0 :: (0, x) :: ls) ((0, x) :: st) M Q := q_iload_n (show mj_ins 154 34 = some (.iload_n 1, 1) from rfl) rfl
theorem w154_35 {a0 a1 : Int} : wp X (d + 1) 154 35 ls ((0, a1) :: (29, a0) :: st) M Q ↔ (a0 ≠ 0 ∧ mj_cs st ≤ 8) ∧ wc X d 118 [(29, a0), (0, a1)] M (fun r M => wp X (d + 1) 154 38 ls (r.toList ++ st) M Q) := q_callV ⟨rfl, rfl⟩ (show mj_ins 154 35 = some (.invokevirtual 298, 3) from rfl) rfl rfl rfl (Nat.le_of_ble_eq_true rfl)
theorem w154_38 {x : Int} : wp X d 154 38 ls [(0, x)] M Q ↔ Q (some (0, x)) M := q_ireturn (show mj_ins 154 38 = some (.ireturn, 1) from rfl) rfl
-- 155: PerfectFerried.cover(I)I
theorem w155_0 {x : Int} : wp X d 155 0 ((31, x) :: ls) st M Q ↔ wp X d 155 1 ((31, x) :: ls) ((31, x) :: st) M Q := q_aload_n (show mj_ins 155 0 = some (.aload_n 0, 1) from rfl) rfl rfl
theorem w155_1 {x : Int} : wp X d 155 1 ls ((31, x) :: st) M Q ↔ x ≠ 0 ∧ wp X d 155 4 ls ((30, hh M x 1) :: st) M Q := q_getfield (show mj_ins 155 1 = some (.getfield 19, 3) from rfl) rfl rfl rfl
theorem w155_4 {x : Int} : wp X d 155 4 ls ((30, x) :: st) M Q ↔ x ≠ 0 ∧ wp X d 155 7 ls ((24, hh M x 1) :: st) M Q := q_getfield (show mj_ins 155 4 = some (.getfield 148, 3) from rfl) rfl rfl rfl
theorem w155_7 {v0 : mj_V} {x : Int} : wp X d 155 7 (v0 :: (0, x) :: ls) st M Q ↔ wp X d 155 8 (v0 :: (0, x) :: ls) ((0, x) :: st) M Q := q_iload_n (show mj_ins 155 7 = some (.iload_n 1, 1) from rfl) rfl
theorem w155_8 {a0 a1 : Int} : wp X (d + 1) 155 8 ls ((0, a1) :: (24, a0) :: st) M Q ↔ (a0 ≠ 0 ∧ mj_cs st ≤ 8) ∧ wc X d 77 [(24, a0), (0, a1)] M (fun r M => wp X (d + 1) 155 11 ls (r.toList ++ st) M Q) := q_callV ⟨rfl, rfl⟩ (show mj_ins 155 8 = some (.invokevirtual 188, 3) from rfl) rfl rfl rfl (Nat.le_of_ble_eq_true rfl)
theorem w155_11 {x : Int} : wp X d 155 11 ls ((0, x) :: st) M Q ↔ if x = 0 then wp X d 155 25 ls st M Q else wp X d 155 14 ls st M Q := q_if_eq (show mj_ins 155 11 = some (.ifCond .eq 14, 3) from rfl) rfl
theorem w155_14 {x : Int} : wp X d 155 14 ((31, x) :: ls) st M Q ↔ wp X d 155 15 ((31, x) :: ls) ((31, x) :: st) M Q := q_aload_n (show mj_ins 155 14 = some (.aload_n 0, 1) from rfl) rfl rfl
theorem w155_15 {x : Int} : wp X d 155 15 ls ((31, x) :: st) M Q ↔ x ≠ 0 ∧ wp X d 155 18 ls ((20, hh M x 6) :: st) M Q := q_getfield (show mj_ins 155 15 = some (.getfield 60, 3) from rfl) rfl rfl rfl
theorem w155_18 {v0 : mj_V} {x : Int} : wp X d 155 18 (v0 :: (0, x) :: ls) st M Q ↔ wp X d 155 19 (v0 :: (0, x) :: ls) ((0, x) :: st) M Q := q_iload_n (show mj_ins 155 18 = some (.iload_n 1, 1) from rfl) rfl
theorem w155_19 {a0 a1 : Int} : wp X (d + 1) 155 19 ls ((0, a1) :: (20, a0) :: st) M Q ↔ (a0 ≠ 0 ∧ mj_cs st ≤ 8) ∧ wc X d 156 [(20, a0), (0, a1)] M (fun r M => wp X (d + 1) 155 22 ls (r.toList ++ st) M Q) := q_callV ⟨rfl, rfl⟩ (show mj_ins 155 19 = some (.invokevirtual 301, 3) from rfl) rfl rfl rfl (Nat.le_of_ble_eq_true rfl)
theorem w155_22 : wp X d 155 22 ls st M Q ↔ wp X d 155 26 ls st M Q := q_goto (show mj_ins 155 22 = some (.goto 4, 3) from rfl) rfl
theorem w155_25 : wp X d 155 25 ls st M Q ↔ wp X d 155 26 ls ((0, (-1)) :: st) M Q := q_iconst (show mj_ins 155 25 = some (.iconst (-1), 1) from rfl) (by decide)
theorem w155_26 {x : Int} : wp X d 155 26 ls [(0, x)] M Q ↔ Q (some (0, x)) M := q_ireturn (show mj_ins 155 26 = some (.ireturn, 1) from rfl) rfl
-- 158: PerfectFerried.keep()I
theorem w158_0 {x : Int} : wp X d 158 0 ((31, x) :: ls) st M Q ↔ wp X d 158 1 ((31, x) :: ls) ((31, x) :: st) M Q := q_aload_n (show mj_ins 158 0 = some (.aload_n 0, 1) from rfl) rfl rfl
theorem w158_1 {x : Int} : wp X d 158 1 ls ((31, x) :: st) M Q ↔ x ≠ 0 ∧ wp X d 158 4 ls ((20, hh M x 6) :: st) M Q := q_getfield (show mj_ins 158 1 = some (.getfield 60, 3) from rfl) rfl rfl rfl
theorem w158_4 {a0 : Int} : wp X (d + 1) 158 4 ls ((20, a0) :: st) M Q ↔ (a0 ≠ 0 ∧ mj_cs st ≤ 8) ∧ wc X d 159 [(20, a0)] M (fun r M => wp X (d + 1) 158 7 ls (r.toList ++ st) M Q) := q_callV ⟨rfl, rfl⟩ (show mj_ins 158 4 = some (.invokevirtual 304, 3) from rfl) rfl rfl rfl (Nat.le_of_ble_eq_true rfl)
theorem w158_7 {x : Int} : wp X d 158 7 ls [(0, x)] M Q ↔ Q (some (0, x)) M := q_ireturn (show mj_ins 158 7 = some (.ireturn, 1) from rfl) rfl
-- 161: PerfectFerried.both(III)I
theorem w161_0 {x : Int} : wp X d 161 0 ((31, x) :: ls) st M Q ↔ wp X d 161 1 ((31, x) :: ls) ((31, x) :: st) M Q := q_aload_n (show mj_ins 161 0 = some (.aload_n 0, 1) from rfl) rfl rfl
theorem w161_1 {x : Int} : wp X d 161 1 ls ((31, x) :: st) M Q ↔ x ≠ 0 ∧ wp X d 161 4 ls ((30, hh M x 1) :: st) M Q := q_getfield (show mj_ins 161 1 = some (.getfield 19, 3) from rfl) rfl rfl rfl
theorem w161_4 {x : Int} : wp X d 161 4 ls ((30, x) :: st) M Q ↔ x ≠ 0 ∧ wp X d 161 7 ls ((24, hh M x 1) :: st) M Q := q_getfield (show mj_ins 161 4 = some (.getfield 148, 3) from rfl) rfl rfl rfl
theorem w161_7 {v0 v1 v2 w : mj_V} {x y : Int} : wp X d 161 7 (v0 :: v1 :: v2 :: (0, y) :: w :: ls) ((24, x) :: st) M Q ↔ wp X d 161 9 (v0 :: v1 :: v2 :: (0, y) :: (24, x) :: ls) st M Q := q_astore (show mj_ins 161 7 = some (.astore 4, 2) from rfl) rfl (Nat.le_add_left 5 _) (mj_set_s (fun z hz => by cases hz; exact (show (0 : Nat) ≠ 1 by decide)))
theorem w161_9 {v0 v1 v2 v3 : mj_V} {x : Int} : wp X d 161 9 (v0 :: v1 :: v2 :: v3 :: (24, x) :: ls) st M Q ↔ wp X d 161 11 (v0 :: v1 :: v2 :: v3 :: (24, x) :: ls) ((24, x) :: st) M Q := q_aload (show mj_ins 161 9 = some (.aload 4, 2) from rfl) rfl rfl
theorem w161_11 {v0 : mj_V} {x : Int} : wp X d 161 11 (v0 :: (0, x) :: ls) st M Q ↔ wp X d 161 12 (v0 :: (0, x) :: ls) ((0, x) :: st) M Q := q_iload_n (show mj_ins 161 11 = some (.iload_n 1, 1) from rfl) rfl
theorem w161_12 {a0 a1 : Int} : wp X (d + 1) 161 12 ls ((0, a1) :: (24, a0) :: st) M Q ↔ (a0 ≠ 0 ∧ mj_cs st ≤ 8) ∧ wc X d 77 [(24, a0), (0, a1)] M (fun r M => wp X (d + 1) 161 15 ls (r.toList ++ st) M Q) := q_callV ⟨rfl, rfl⟩ (show mj_ins 161 12 = some (.invokevirtual 188, 3) from rfl) rfl rfl rfl (Nat.le_of_ble_eq_true rfl)
theorem w161_15 {x : Int} : wp X d 161 15 ls ((0, x) :: st) M Q ↔ if x = 0 then wp X d 161 38 ls st M Q else wp X d 161 18 ls st M Q := q_if_eq (show mj_ins 161 15 = some (.ifCond .eq 23, 3) from rfl) rfl
theorem w161_18 {v0 v1 v2 v3 : mj_V} {x : Int} : wp X d 161 18 (v0 :: v1 :: v2 :: v3 :: (24, x) :: ls) st M Q ↔ wp X d 161 20 (v0 :: v1 :: v2 :: v3 :: (24, x) :: ls) ((24, x) :: st) M Q := q_aload (show mj_ins 161 18 = some (.aload 4, 2) from rfl) rfl rfl
theorem w161_20 {v0 v1 : mj_V} {x : Int} : wp X d 161 20 (v0 :: v1 :: (0, x) :: ls) st M Q ↔ wp X d 161 21 (v0 :: v1 :: (0, x) :: ls) ((0, x) :: st) M Q := q_iload_n (show mj_ins 161 20 = some (.iload_n 2, 1) from rfl) rfl
theorem w161_21 {a0 a1 : Int} : wp X (d + 1) 161 21 ls ((0, a1) :: (24, a0) :: st) M Q ↔ (a0 ≠ 0 ∧ mj_cs st ≤ 8) ∧ wc X d 77 [(24, a0), (0, a1)] M (fun r M => wp X (d + 1) 161 24 ls (r.toList ++ st) M Q) := q_callV ⟨rfl, rfl⟩ (show mj_ins 161 21 = some (.invokevirtual 188, 3) from rfl) rfl rfl rfl (Nat.le_of_ble_eq_true rfl)
theorem w161_24 {x : Int} : wp X d 161 24 ls ((0, x) :: st) M Q ↔ if x = 0 then wp X d 161 38 ls st M Q else wp X d 161 27 ls st M Q := q_if_eq (show mj_ins 161 24 = some (.ifCond .eq 14, 3) from rfl) rfl
theorem w161_27 {x : Int} : wp X d 161 27 ((31, x) :: ls) st M Q ↔ wp X d 161 28 ((31, x) :: ls) ((31, x) :: st) M Q := q_aload_n (show mj_ins 161 27 = some (.aload_n 0, 1) from rfl) rfl rfl
theorem w161_28 {x : Int} : wp X d 161 28 ls ((31, x) :: st) M Q ↔ x ≠ 0 ∧ wp X d 161 31 ls ((30, hh M x 1) :: st) M Q := q_getfield (show mj_ins 161 28 = some (.getfield 19, 3) from rfl) rfl rfl rfl
theorem w161_31 {v0 v1 v2 : mj_V} {x : Int} : wp X d 161 31 (v0 :: v1 :: v2 :: (0, x) :: ls) st M Q ↔ wp X d 161 32 (v0 :: v1 :: v2 :: (0, x) :: ls) ((0, x) :: st) M Q := q_iload_n (show mj_ins 161 31 = some (.iload_n 3, 1) from rfl) rfl
theorem w161_32 {a0 a1 : Int} : wp X (d + 1) 161 32 ls ((0, a1) :: (30, a0) :: st) M Q ↔ (a0 ≠ 0 ∧ mj_cs st ≤ 8) ∧ wc X d 96 [(30, a0), (0, a1)] M (fun r M => wp X (d + 1) 161 35 ls (r.toList ++ st) M Q) := q_callV ⟨rfl, rfl⟩ (show mj_ins 161 32 = some (.invokevirtual 289, 3) from rfl) rfl rfl rfl (Nat.le_of_ble_eq_true rfl)
theorem w161_35 {x : Int} : wp X d 161 35 ls ((0, x) :: st) M Q ↔ if x = 0 then wp X d 161 38 ls st M Q else wp X d 161 40 ls st M Q := q_if_ne (show mj_ins 161 35 = some (.ifCond .ne 5, 3) from rfl) rfl
theorem w161_38 : wp X d 161 38 ls st M Q ↔ wp X d 161 39 ls ((0, (-1)) :: st) M Q := q_iconst (show mj_ins 161 38 = some (.iconst (-1), 1) from rfl) (by decide)
theorem w161_39 {x : Int} : wp X d 161 39 ls [(0, x)] M Q ↔ Q (some (0, x)) M := q_ireturn (show mj_ins 161 39 = some (.ireturn, 1) from rfl) rfl
theorem w161_40 {x : Int} : wp X d 161 40 ((31, x) :: ls) st M Q ↔ wp X d 161 41 ((31, x) :: ls) ((31, x) :: st) M Q := q_aload_n (show mj_ins 161 40 = some (.aload_n 0, 1) from rfl) rfl rfl
theorem w161_41 {x : Int} : wp X d 161 41 ls ((31, x) :: st) M Q ↔ x ≠ 0 ∧ wp X d 161 44 ls ((30, hh M x 1) :: st) M Q := q_getfield (show mj_ins 161 41 = some (.getfield 19, 3) from rfl) rfl rfl rfl
theorem w161_44 {x : Int} : wp X d 161 44 ls ((30, x) :: st) M Q ↔ x ≠ 0 ∧ wp X d 161 47 ls ((29, hh M x 0) :: st) M Q := q_getfield (show mj_ins 161 44 = some (.getfield 91, 3) from rfl) rfl rfl rfl
theorem w161_47 {v0 v1 v2 v3 : mj_V} {x : Int} : wp X d 161 47 (v0 :: v1 :: v2 :: v3 :: (24, x) :: ls) st M Q ↔ wp X d 161 49 (v0 :: v1 :: v2 :: v3 :: (24, x) :: ls) ((24, x) :: st) M Q := q_aload (show mj_ins 161 47 = some (.aload 4, 2) from rfl) rfl rfl
theorem w161_49 {x : Int} : wp X d 161 49 ls ((24, x) :: st) M Q ↔ x ≠ 0 ∧ wp X d 161 52 ls ((3, hh M x 5) :: st) M Q := q_getfield (show mj_ins 161 49 = some (.getfield 194, 3) from rfl) rfl rfl rfl
theorem w161_52 {v0 : mj_V} {x : Int} : wp X d 161 52 (v0 :: (0, x) :: ls) st M Q ↔ wp X d 161 53 (v0 :: (0, x) :: ls) ((0, x) :: st) M Q := q_iload_n (show mj_ins 161 52 = some (.iload_n 1, 1) from rfl) rfl
theorem w161_53 {i x : Int} : wp X d 161 53 ls ((0, i) :: (3, x) :: st) M Q ↔ (x ≠ 0 ∧ 0 ≤ i ∧ i < hl M x) ∧ wp X d 161 54 ls ((0, hh M x i) :: st) M Q := q_iaload (show mj_ins 161 53 = some (.iaload, 1) from rfl)
theorem w161_54 {v0 v1 v2 v3 : mj_V} {x : Int} : wp X d 161 54 (v0 :: v1 :: v2 :: v3 :: (24, x) :: ls) st M Q ↔ wp X d 161 56 (v0 :: v1 :: v2 :: v3 :: (24, x) :: ls) ((24, x) :: st) M Q := q_aload (show mj_ins 161 54 = some (.aload 4, 2) from rfl) rfl rfl
theorem w161_56 {x : Int} : wp X d 161 56 ls ((24, x) :: st) M Q ↔ x ≠ 0 ∧ wp X d 161 59 ls ((3, hh M x 5) :: st) M Q := q_getfield (show mj_ins 161 56 = some (.getfield 194, 3) from rfl) rfl rfl rfl
theorem w161_59 {v0 v1 : mj_V} {x : Int} : wp X d 161 59 (v0 :: v1 :: (0, x) :: ls) st M Q ↔ wp X d 161 60 (v0 :: v1 :: (0, x) :: ls) ((0, x) :: st) M Q := q_iload_n (show mj_ins 161 59 = some (.iload_n 2, 1) from rfl) rfl
theorem w161_60 {i x : Int} : wp X d 161 60 ls ((0, i) :: (3, x) :: st) M Q ↔ (x ≠ 0 ∧ 0 ≤ i ∧ i < hl M x) ∧ wp X d 161 61 ls ((0, hh M x i) :: st) M Q := q_iaload (show mj_ins 161 60 = some (.iaload, 1) from rfl)
theorem w161_61 {x y : Int} : wp X d 161 61 ls ((0, y) :: (0, x) :: st) M Q ↔ wp X d 161 62 ls ((0, ji_or x y) :: st) M Q := q_ior (show mj_ins 161 61 = some (.ior, 1) from rfl)
theorem w161_62 {a0 a1 : Int} : wp X (d + 1) 161 62 ls ((0, a1) :: (29, a0) :: st) M Q ↔ (a0 ≠ 0 ∧ mj_cs st ≤ 8) ∧ wc X d 97 [(29, a0), (0, a1)] M (fun r M => wp X (d + 1) 161 65 ls (r.toList ++ st) M Q) := q_callV ⟨rfl, rfl⟩ (show mj_ins 161 62 = some (.invokevirtual 295, 3) from rfl) rfl rfl rfl (Nat.le_of_ble_eq_true rfl)
theorem w161_65 {x : Int} : wp X d 161 65 ls [(0, x)] M Q ↔ Q (some (0, x)) M := q_ireturn (show mj_ins 161 65 = some (.ireturn, 1) from rfl) rfl
-- 162: PerfectFerried.apart(II)I
theorem w162_0 {v0 : mj_V} {x : Int} : wp X d 162 0 (v0 :: (0, x) :: ls) st M Q ↔ wp X d 162 1 (v0 :: (0, x) :: ls) ((0, x) :: st) M Q := q_iload_n (show mj_ins 162 0 = some (.iload_n 1, 1) from rfl) rfl
theorem w162_1 {a0 : Int} : wp X (d + 1) 162 1 ls ((0, a0) :: st) M Q ↔ (mj_cs st ≤ 8) ∧ wc X d 21 [(0, a0)] M (fun r M => wp X (d + 1) 162 4 ls (r.toList ++ st) M Q) := q_callS (show mj_ins 162 1 = some (.invokestatic 245, 3) from rfl) rfl rfl rfl (Nat.le_of_ble_eq_true rfl)
theorem w162_4 {x : Int} : wp X d 162 4 ls ((0, x) :: st) M Q ↔ if x = 0 then wp X d 162 26 ls st M Q else wp X d 162 7 ls st M Q := q_if_eq (show mj_ins 162 4 = some (.ifCond .eq 22, 3) from rfl) rfl
theorem w162_7 {v0 v1 : mj_V} {x : Int} : wp X d 162 7 (v0 :: v1 :: (0, x) :: ls) st M Q ↔ wp X d 162 8 (v0 :: v1 :: (0, x) :: ls) ((0, x) :: st) M Q := q_iload_n (show mj_ins 162 7 = some (.iload_n 2, 1) from rfl) rfl
theorem w162_8 {a0 : Int} : wp X (d + 1) 162 8 ls ((0, a0) :: st) M Q ↔ (mj_cs st ≤ 8) ∧ wc X d 21 [(0, a0)] M (fun r M => wp X (d + 1) 162 11 ls (r.toList ++ st) M Q) := q_callS (show mj_ins 162 8 = some (.invokestatic 245, 3) from rfl) rfl rfl rfl (Nat.le_of_ble_eq_true rfl)
theorem w162_11 {x : Int} : wp X d 162 11 ls ((0, x) :: st) M Q ↔ if x = 0 then wp X d 162 26 ls st M Q else wp X d 162 14 ls st M Q := q_if_eq (show mj_ins 162 11 = some (.ifCond .eq 15, 3) from rfl) rfl
theorem w162_14 {x : Int} : wp X d 162 14 ((31, x) :: ls) st M Q ↔ wp X d 162 15 ((31, x) :: ls) ((31, x) :: st) M Q := q_aload_n (show mj_ins 162 14 = some (.aload_n 0, 1) from rfl) rfl rfl
theorem w162_15 {x : Int} : wp X d 162 15 ls ((31, x) :: st) M Q ↔ x ≠ 0 ∧ wp X d 162 18 ls ((25, hh M x 0) :: st) M Q := q_getfield (show mj_ins 162 15 = some (.getfield 10, 3) from rfl) rfl rfl rfl
theorem w162_18 {v0 : mj_V} {x : Int} : wp X d 162 18 (v0 :: (0, x) :: ls) st M Q ↔ wp X d 162 19 (v0 :: (0, x) :: ls) ((0, x) :: st) M Q := q_iload_n (show mj_ins 162 18 = some (.iload_n 1, 1) from rfl) rfl
theorem w162_19 {v0 v1 : mj_V} {x : Int} : wp X d 162 19 (v0 :: v1 :: (0, x) :: ls) st M Q ↔ wp X d 162 20 (v0 :: v1 :: (0, x) :: ls) ((0, x) :: st) M Q := q_iload_n (show mj_ins 162 19 = some (.iload_n 2, 1) from rfl) rfl
theorem w162_20 {a0 a1 a2 : Int} : wp X (d + 1) 162 20 ls ((0, a2) :: (0, a1) :: (25, a0) :: st) M Q ↔ (a0 ≠ 0 ∧ mj_cs st ≤ 8) ∧ wc X d 163 [(25, a0), (0, a1), (0, a2)] M (fun r M => wp X (d + 1) 162 23 ls (r.toList ++ st) M Q) := q_callV ⟨rfl, rfl⟩ (show mj_ins 162 20 = some (.invokevirtual 307, 3) from rfl) rfl rfl rfl (Nat.le_of_ble_eq_true rfl)
theorem w162_23 : wp X d 162 23 ls st M Q ↔ wp X d 162 27 ls st M Q := q_goto (show mj_ins 162 23 = some (.goto 4, 3) from rfl) rfl
theorem w162_26 : wp X d 162 26 ls st M Q ↔ wp X d 162 27 ls ((0, (-1)) :: st) M Q := q_iconst (show mj_ins 162 26 = some (.iconst (-1), 1) from rfl) (by decide)
theorem w162_27 {x : Int} : wp X d 162 27 ls [(0, x)] M Q ↔ Q (some (0, x)) M := q_ireturn (show mj_ins 162 27 = some (.ireturn, 1) from rfl) rfl
-- 164: PerfectFerried.middle()I
theorem w164_0 : wp X d 164 0 ls st M Q ↔ wp X d 164 1 ls ((0, (-1)) :: st) M Q := q_iconst (show mj_ins 164 0 = some (.iconst (-1), 1) from rfl) (by decide)
theorem w164_1 {w : mj_V} {x y : Int} : wp X d 164 1 ((31, y) :: w :: ls) ((0, x) :: st) M Q ↔ wp X d 164 2 ((31, y) :: (0, x) :: ls) st M Q := q_istore_n (show mj_ins 164 1 = some (.istore_n 1, 1) from rfl) (Nat.le_add_left 2 _) (mj_set_s (fun z hz => by cases hz; exact (show (31 : Nat) ≠ 1 by decide)))
theorem w164_2 : wp X d 164 2 ls st M Q ↔ wp X d 164 3 ls ((0, 0) :: st) M Q := q_iconst (show mj_ins 164 2 = some (.iconst 0, 1) from rfl) (by decide)
theorem w164_3 {v0 w : mj_V} {x y : Int} : wp X d 164 3 (v0 :: (0, y) :: w :: ls) ((0, x) :: st) M Q ↔ wp X d 164 4 (v0 :: (0, y) :: (0, x) :: ls) st M Q := q_istore_n (show mj_ins 164 3 = some (.istore_n 2, 1) from rfl) (Nat.le_add_left 3 _) (mj_set_s (fun z hz => by cases hz; exact (show (0 : Nat) ≠ 1 by decide)))
theorem w164_4 : wp X d 164 4 ls st M Q ↔ wp X d 164 5 ls ((0, 0) :: st) M Q := q_iconst (show mj_ins 164 4 = some (.iconst 0, 1) from rfl) (by decide)
theorem w164_5 {v0 v1 w : mj_V} {x y : Int} : wp X d 164 5 (v0 :: v1 :: (0, y) :: w :: ls) ((0, x) :: st) M Q ↔ wp X d 164 6 (v0 :: v1 :: (0, y) :: (0, x) :: ls) st M Q := q_istore_n (show mj_ins 164 5 = some (.istore_n 3, 1) from rfl) (Nat.le_add_left 4 _) (mj_set_s (fun z hz => by cases hz; exact (show (0 : Nat) ≠ 1 by decide)))
theorem w164_6 {v0 v1 v2 : mj_V} {x : Int} : wp X d 164 6 (v0 :: v1 :: v2 :: (0, x) :: ls) st M Q ↔ wp X d 164 7 (v0 :: v1 :: v2 :: (0, x) :: ls) ((0, x) :: st) M Q := q_iload_n (show mj_ins 164 6 = some (.iload_n 3, 1) from rfl) rfl
theorem w164_7 : wp X d 164 7 ls st M Q ↔ wp X d 164 9 ls ((0, 120) :: st) M Q := q_bipush (show mj_ins 164 7 = some (.bipush 120, 2) from rfl) (by decide)
theorem w164_9 {x y : Int} : wp X d 164 9 ls ((0, y) :: (0, x) :: st) M Q ↔ if x < y then wp X d 164 12 ls st M Q else wp X d 164 91 ls st M Q := q_icmp_ge (show mj_ins 164 9 = some (.if_icmp .ge 82, 3) from rfl) rfl
theorem w164_12 {x : Int} : wp X d 164 12 ((31, x) :: ls) st M Q ↔ wp X d 164 13 ((31, x) :: ls) ((31, x) :: st) M Q := q_aload_n (show mj_ins 164 12 = some (.aload_n 0, 1) from rfl) rfl rfl
theorem w164_13 {x : Int} : wp X d 164 13 ls ((31, x) :: st) M Q ↔ x ≠ 0 ∧ wp X d 164 16 ls ((30, hh M x 1) :: st) M Q := q_getfield (show mj_ins 164 13 = some (.getfield 19, 3) from rfl) rfl rfl rfl
theorem w164_16 {x : Int} : wp X d 164 16 ls ((30, x) :: st) M Q ↔ x ≠ 0 ∧ wp X d 164 19 ls ((0, hh M x 4) :: st) M Q := q_getfield (show mj_ins 164 16 = some (.getfield 225, 3) from rfl) rfl rfl rfl
theorem w164_19 {x : Int} : wp X d 164 19 ls ((0, x) :: st) M Q ↔ if x ≤ 0 then wp X d 164 91 ls st M Q else wp X d 164 22 ls st M Q := q_if_le (show mj_ins 164 19 = some (.ifCond .le 72, 3) from rfl) rfl
theorem w164_22 : wp X d 164 22 ls st M Q ↔ wp X d 164 23 ls ((0, 0) :: st) M Q := q_iconst (show mj_ins 164 22 = some (.iconst 0, 1) from rfl) (by decide)
theorem w164_23 {v0 v1 v2 w : mj_V} {x y : Int} : wp X d 164 23 (v0 :: v1 :: v2 :: (0, y) :: w :: ls) ((0, x) :: st) M Q ↔ wp X d 164 25 (v0 :: v1 :: v2 :: (0, y) :: (0, x) :: ls) st M Q := q_istore (show mj_ins 164 23 = some (.istore 4, 2) from rfl) (Nat.le_add_left 5 _) (mj_set_s (fun z hz => by cases hz; exact (show (0 : Nat) ≠ 1 by decide)))
theorem w164_25 : wp X d 164 25 ls st M Q ↔ wp X d 164 26 ls ((0, 0) :: st) M Q := q_iconst (show mj_ins 164 25 = some (.iconst 0, 1) from rfl) (by decide)
theorem w164_26 {v0 v1 v2 v3 w : mj_V} {x y : Int} : wp X d 164 26 (v0 :: v1 :: v2 :: v3 :: (0, y) :: w :: ls) ((0, x) :: st) M Q ↔ wp X d 164 28 (v0 :: v1 :: v2 :: v3 :: (0, y) :: (0, x) :: ls) st M Q := q_istore (show mj_ins 164 26 = some (.istore 5, 2) from rfl) (Nat.le_add_left 6 _) (mj_set_s (fun z hz => by cases hz; exact (show (0 : Nat) ≠ 1 by decide)))
theorem w164_28 {v0 v1 v2 v3 v4 : mj_V} {x : Int} : wp X d 164 28 (v0 :: v1 :: v2 :: v3 :: v4 :: (0, x) :: ls) st M Q ↔ wp X d 164 30 (v0 :: v1 :: v2 :: v3 :: v4 :: (0, x) :: ls) ((0, x) :: st) M Q := q_iload (show mj_ins 164 28 = some (.iload 5, 2) from rfl) rfl
theorem w164_30 {x : Int} : wp X d 164 30 ((31, x) :: ls) st M Q ↔ wp X d 164 31 ((31, x) :: ls) ((31, x) :: st) M Q := q_aload_n (show mj_ins 164 30 = some (.aload_n 0, 1) from rfl) rfl rfl
theorem w164_31 {x : Int} : wp X d 164 31 ls ((31, x) :: st) M Q ↔ x ≠ 0 ∧ wp X d 164 34 ls ((30, hh M x 1) :: st) M Q := q_getfield (show mj_ins 164 31 = some (.getfield 19, 3) from rfl) rfl rfl rfl
theorem w164_34 {x : Int} : wp X d 164 34 ls ((30, x) :: st) M Q ↔ x ≠ 0 ∧ wp X d 164 37 ls ((0, hh M x 4) :: st) M Q := q_getfield (show mj_ins 164 34 = some (.getfield 225, 3) from rfl) rfl rfl rfl
theorem w164_37 {x y : Int} : wp X d 164 37 ls ((0, y) :: (0, x) :: st) M Q ↔ if x < y then wp X d 164 40 ls st M Q else wp X d 164 69 ls st M Q := q_icmp_ge (show mj_ins 164 37 = some (.if_icmp .ge 32, 3) from rfl) rfl
theorem w164_40 {v0 v1 v2 v3 : mj_V} {x : Int} : wp X d 164 40 (v0 :: v1 :: v2 :: v3 :: (0, x) :: ls) st M Q ↔ wp X d 164 42 (v0 :: v1 :: v2 :: v3 :: (0, x) :: ls) ((0, x) :: st) M Q := q_iload (show mj_ins 164 40 = some (.iload 4, 2) from rfl) rfl
theorem w164_42 {x : Int} : wp X d 164 42 ((31, x) :: ls) st M Q ↔ wp X d 164 43 ((31, x) :: ls) ((31, x) :: st) M Q := q_aload_n (show mj_ins 164 42 = some (.aload_n 0, 1) from rfl) rfl rfl
theorem w164_43 {x : Int} : wp X d 164 43 ls ((31, x) :: st) M Q ↔ x ≠ 0 ∧ wp X d 164 46 ls ((25, hh M x 0) :: st) M Q := q_getfield (show mj_ins 164 43 = some (.getfield 10, 3) from rfl) rfl rfl rfl
theorem w164_46 {v0 v1 v2 : mj_V} {x : Int} : wp X d 164 46 (v0 :: v1 :: v2 :: (0, x) :: ls) st M Q ↔ wp X d 164 47 (v0 :: v1 :: v2 :: (0, x) :: ls) ((0, x) :: st) M Q := q_iload_n (show mj_ins 164 46 = some (.iload_n 3, 1) from rfl) rfl
theorem w164_47 {x : Int} : wp X d 164 47 ((31, x) :: ls) st M Q ↔ wp X d 164 48 ((31, x) :: ls) ((31, x) :: st) M Q := q_aload_n (show mj_ins 164 47 = some (.aload_n 0, 1) from rfl) rfl rfl
theorem w164_48 {x : Int} : wp X d 164 48 ls ((31, x) :: st) M Q ↔ x ≠ 0 ∧ wp X d 164 51 ls ((30, hh M x 1) :: st) M Q := q_getfield (show mj_ins 164 48 = some (.getfield 19, 3) from rfl) rfl rfl rfl
theorem w164_51 {x : Int} : wp X d 164 51 ls ((30, x) :: st) M Q ↔ x ≠ 0 ∧ wp X d 164 54 ls ((3, hh M x 5) :: st) M Q := q_getfield (show mj_ins 164 51 = some (.getfield 310, 3) from rfl) rfl rfl rfl
theorem w164_54 {v0 v1 v2 v3 v4 : mj_V} {x : Int} : wp X d 164 54 (v0 :: v1 :: v2 :: v3 :: v4 :: (0, x) :: ls) st M Q ↔ wp X d 164 56 (v0 :: v1 :: v2 :: v3 :: v4 :: (0, x) :: ls) ((0, x) :: st) M Q := q_iload (show mj_ins 164 54 = some (.iload 5, 2) from rfl) rfl
theorem w164_56 {i x : Int} : wp X d 164 56 ls ((0, i) :: (3, x) :: st) M Q ↔ (x ≠ 0 ∧ 0 ≤ i ∧ i < hl M x) ∧ wp X d 164 57 ls ((0, hh M x i) :: st) M Q := q_iaload (show mj_ins 164 56 = some (.iaload, 1) from rfl)
theorem w164_57 {a0 a1 a2 : Int} : wp X (d + 1) 164 57 ls ((0, a2) :: (0, a1) :: (25, a0) :: st) M Q ↔ (a0 ≠ 0 ∧ mj_cs st ≤ 8) ∧ wc X d 163 [(25, a0), (0, a1), (0, a2)] M (fun r M => wp X (d + 1) 164 60 ls (r.toList ++ st) M Q) := q_callV ⟨rfl, rfl⟩ (show mj_ins 164 57 = some (.invokevirtual 307, 3) from rfl) rfl rfl rfl (Nat.le_of_ble_eq_true rfl)
theorem w164_60 {x y : Int} : wp X d 164 60 ls ((0, y) :: (0, x) :: st) M Q ↔ wp X d 164 61 ls ((0, ji_add x y) :: st) M Q := q_iadd (show mj_ins 164 60 = some (.iadd, 1) from rfl)
theorem w164_61 {v0 v1 v2 w : mj_V} {x y : Int} : wp X d 164 61 (v0 :: v1 :: v2 :: (0, y) :: w :: ls) ((0, x) :: st) M Q ↔ wp X d 164 63 (v0 :: v1 :: v2 :: (0, y) :: (0, x) :: ls) st M Q := q_istore (show mj_ins 164 61 = some (.istore 4, 2) from rfl) (Nat.le_add_left 5 _) (mj_set_s (fun z hz => by cases hz; exact (show (0 : Nat) ≠ 1 by decide)))
theorem w164_63 {v0 v1 v2 v3 : mj_V} {x y : Int} : wp X d 164 63 (v0 :: v1 :: v2 :: v3 :: (0, y) :: (0, x) :: ls) st M Q ↔ wp X d 164 66 (v0 :: v1 :: v2 :: v3 :: (0, y) :: (0, ji_add x 1) :: ls) st M Q := q_iinc (show mj_ins 164 63 = some (.iinc 5 1, 3) from rfl) rfl (mj_set_s (fun z hz => by cases hz; exact (show (0 : Nat) ≠ 1 by decide)))
theorem w164_66 : wp X d 164 66 ls st M Q ↔ wp X d 164 28 ls st M Q := q_goto (show mj_ins 164 66 = some (.goto (-38), 3) from rfl) rfl
theorem w164_69 {v0 : mj_V} {x : Int} : wp X d 164 69 (v0 :: (0, x) :: ls) st M Q ↔ wp X d 164 70 (v0 :: (0, x) :: ls) ((0, x) :: st) M Q := q_iload_n (show mj_ins 164 69 = some (.iload_n 1, 1) from rfl) rfl
theorem w164_70 : wp X d 164 70 ls st M Q ↔ wp X d 164 71 ls ((0, (-1)) :: st) M Q := q_iconst (show mj_ins 164 70 = some (.iconst (-1), 1) from rfl) (by decide)
theorem w164_71 {x y : Int} : wp X d 164 71 ls ((0, y) :: (0, x) :: st) M Q ↔ if x = y then wp X d 164 80 ls st M Q else wp X d 164 74 ls st M Q := q_icmp_eq (show mj_ins 164 71 = some (.if_icmp .eq 9, 3) from rfl) rfl
theorem w164_74 {v0 v1 v2 v3 : mj_V} {x : Int} : wp X d 164 74 (v0 :: v1 :: v2 :: v3 :: (0, x) :: ls) st M Q ↔ wp X d 164 76 (v0 :: v1 :: v2 :: v3 :: (0, x) :: ls) ((0, x) :: st) M Q := q_iload (show mj_ins 164 74 = some (.iload 4, 2) from rfl) rfl
theorem w164_76 {v0 v1 : mj_V} {x : Int} : wp X d 164 76 (v0 :: v1 :: (0, x) :: ls) st M Q ↔ wp X d 164 77 (v0 :: v1 :: (0, x) :: ls) ((0, x) :: st) M Q := q_iload_n (show mj_ins 164 76 = some (.iload_n 2, 1) from rfl) rfl
theorem w164_77 {x y : Int} : wp X d 164 77 ls ((0, y) :: (0, x) :: st) M Q ↔ if x < y then wp X d 164 80 ls st M Q else wp X d 164 85 ls st M Q := q_icmp_ge (show mj_ins 164 77 = some (.if_icmp .ge 8, 3) from rfl) rfl
theorem w164_80 {v0 v1 v2 : mj_V} {x : Int} : wp X d 164 80 (v0 :: v1 :: v2 :: (0, x) :: ls) st M Q ↔ wp X d 164 81 (v0 :: v1 :: v2 :: (0, x) :: ls) ((0, x) :: st) M Q := q_iload_n (show mj_ins 164 80 = some (.iload_n 3, 1) from rfl) rfl
theorem w164_81 {w : mj_V} {x y : Int} : wp X d 164 81 ((31, y) :: w :: ls) ((0, x) :: st) M Q ↔ wp X d 164 82 ((31, y) :: (0, x) :: ls) st M Q := q_istore_n (show mj_ins 164 81 = some (.istore_n 1, 1) from rfl) (Nat.le_add_left 2 _) (mj_set_s (fun z hz => by cases hz; exact (show (31 : Nat) ≠ 1 by decide)))
theorem w164_82 {v0 v1 v2 v3 : mj_V} {x : Int} : wp X d 164 82 (v0 :: v1 :: v2 :: v3 :: (0, x) :: ls) st M Q ↔ wp X d 164 84 (v0 :: v1 :: v2 :: v3 :: (0, x) :: ls) ((0, x) :: st) M Q := q_iload (show mj_ins 164 82 = some (.iload 4, 2) from rfl) rfl
theorem w164_84 {v0 w : mj_V} {x y : Int} : wp X d 164 84 (v0 :: (0, y) :: w :: ls) ((0, x) :: st) M Q ↔ wp X d 164 85 (v0 :: (0, y) :: (0, x) :: ls) st M Q := q_istore_n (show mj_ins 164 84 = some (.istore_n 2, 1) from rfl) (Nat.le_add_left 3 _) (mj_set_s (fun z hz => by cases hz; exact (show (0 : Nat) ≠ 1 by decide)))
theorem w164_85 {v0 v1 : mj_V} {x y : Int} : wp X d 164 85 (v0 :: v1 :: (0, y) :: (0, x) :: ls) st M Q ↔ wp X d 164 88 (v0 :: v1 :: (0, y) :: (0, ji_add x 1) :: ls) st M Q := q_iinc (show mj_ins 164 85 = some (.iinc 3 1, 3) from rfl) rfl (mj_set_s (fun z hz => by cases hz; exact (show (0 : Nat) ≠ 1 by decide)))
theorem w164_88 : wp X d 164 88 ls st M Q ↔ wp X d 164 6 ls st M Q := q_goto (show mj_ins 164 88 = some (.goto (-82), 3) from rfl) rfl
theorem w164_91 {v0 : mj_V} {x : Int} : wp X d 164 91 (v0 :: (0, x) :: ls) st M Q ↔ wp X d 164 92 (v0 :: (0, x) :: ls) ((0, x) :: st) M Q := q_iload_n (show mj_ins 164 91 = some (.iload_n 1, 1) from rfl) rfl
theorem w164_92 {x : Int} : wp X d 164 92 ls [(0, x)] M Q ↔ Q (some (0, x)) M := q_ireturn (show mj_ins 164 92 = some (.ireturn, 1) from rfl) rfl
-- 165: PerfectFerried.lost(IIZ)J
theorem w165_0 {x : Int} : wp X d 165 0 ((31, x) :: ls) st M Q ↔ wp X d 165 1 ((31, x) :: ls) ((31, x) :: st) M Q := q_aload_n (show mj_ins 165 0 = some (.aload_n 0, 1) from rfl) rfl rfl
theorem w165_1 {x : Int} : wp X d 165 1 ls ((31, x) :: st) M Q ↔ x ≠ 0 ∧ wp X d 165 4 ls ((30, hh M x 1) :: st) M Q := q_getfield (show mj_ins 165 1 = some (.getfield 19, 3) from rfl) rfl rfl rfl
theorem w165_4 {x : Int} : wp X d 165 4 ls ((30, x) :: st) M Q ↔ x ≠ 0 ∧ wp X d 165 7 ls ((29, hh M x 0) :: st) M Q := q_getfield (show mj_ins 165 4 = some (.getfield 91, 3) from rfl) rfl rfl rfl
theorem w165_7 {v0 : mj_V} {x : Int} : wp X d 165 7 (v0 :: (0, x) :: ls) st M Q ↔ wp X d 165 8 (v0 :: (0, x) :: ls) ((0, x) :: st) M Q := q_iload_n (show mj_ins 165 7 = some (.iload_n 1, 1) from rfl) rfl
theorem w165_8 {a0 a1 : Int} : wp X (d + 1) 165 8 ls ((0, a1) :: (29, a0) :: st) M Q ↔ (a0 ≠ 0 ∧ mj_cs st ≤ 8) ∧ wc X d 76 [(29, a0), (0, a1)] M (fun r M => wp X (d + 1) 165 11 ls (r.toList ++ st) M Q) := q_callV ⟨rfl, rfl⟩ (show mj_ins 165 8 = some (.invokevirtual 203, 3) from rfl) rfl rfl rfl (Nat.le_of_ble_eq_true rfl)
theorem w165_11 {x : Int} : wp X d 165 11 ls ((0, x) :: st) M Q ↔ if x = 0 then wp X d 165 24 ls st M Q else wp X d 165 14 ls st M Q := q_if_eq (show mj_ins 165 11 = some (.ifCond .eq 13, 3) from rfl) rfl
theorem w165_14 {v0 v1 : mj_V} {x : Int} : wp X d 165 14 (v0 :: v1 :: (0, x) :: ls) st M Q ↔ wp X d 165 15 (v0 :: v1 :: (0, x) :: ls) ((0, x) :: st) M Q := q_iload_n (show mj_ins 165 14 = some (.iload_n 2, 1) from rfl) rfl
theorem w165_15 : wp X d 165 15 ls st M Q ↔ wp X d 165 16 ls ((0, 1) :: st) M Q := q_iconst (show mj_ins 165 15 = some (.iconst 1, 1) from rfl) (by decide)
theorem w165_16 {x y : Int} : wp X d 165 16 ls ((0, y) :: (0, x) :: st) M Q ↔ if x < y then wp X d 165 24 ls st M Q else wp X d 165 19 ls st M Q := q_icmp_lt (show mj_ins 165 16 = some (.if_icmp .lt 8, 3) from rfl) rfl
theorem w165_19 {v0 v1 : mj_V} {x : Int} : wp X d 165 19 (v0 :: v1 :: (0, x) :: ls) st M Q ↔ wp X d 165 20 (v0 :: v1 :: (0, x) :: ls) ((0, x) :: st) M Q := q_iload_n (show mj_ins 165 19 = some (.iload_n 2, 1) from rfl) rfl
theorem w165_20 : wp X d 165 20 ls st M Q ↔ wp X d 165 21 ls ((0, 3) :: st) M Q := q_iconst (show mj_ins 165 20 = some (.iconst 3, 1) from rfl) (by decide)
theorem w165_21 {x y : Int} : wp X d 165 21 ls ((0, y) :: (0, x) :: st) M Q ↔ if x ≤ y then wp X d 165 28 ls st M Q else wp X d 165 24 ls st M Q := q_icmp_le (show mj_ins 165 21 = some (.if_icmp .le 7, 3) from rfl) rfl
theorem w165_24 : wp X d 165 24 ls st M Q ↔ wp X d 165 27 ls ((1, (-1)) :: st) M Q := q_ldc2_w (show mj_ins 165 24 = some (.ldc2_w 313, 3) from rfl) rfl
theorem w165_27 {x : Int} : wp X d 165 27 ls [(1, x)] M Q ↔ Q (some (1, x)) M := q_lreturn (show mj_ins 165 27 = some (.lreturn, 1) from rfl) rfl
theorem w165_28 {x : Int} : wp X d 165 28 ((31, x) :: ls) st M Q ↔ wp X d 165 29 ((31, x) :: ls) ((31, x) :: st) M Q := q_aload_n (show mj_ins 165 28 = some (.aload_n 0, 1) from rfl) rfl rfl
theorem w165_29 {x : Int} : wp X d 165 29 ls ((31, x) :: st) M Q ↔ x ≠ 0 ∧ wp X d 165 32 ls ((20, hh M x 6) :: st) M Q := q_getfield (show mj_ins 165 29 = some (.getfield 60, 3) from rfl) rfl rfl rfl
theorem w165_32 {v0 : mj_V} {x : Int} : wp X d 165 32 (v0 :: (0, x) :: ls) st M Q ↔ wp X d 165 33 (v0 :: (0, x) :: ls) ((0, x) :: st) M Q := q_iload_n (show mj_ins 165 32 = some (.iload_n 1, 1) from rfl) rfl
theorem w165_33 {v0 v1 : mj_V} {x : Int} : wp X d 165 33 (v0 :: v1 :: (0, x) :: ls) st M Q ↔ wp X d 165 34 (v0 :: v1 :: (0, x) :: ls) ((0, x) :: st) M Q := q_iload_n (show mj_ins 165 33 = some (.iload_n 2, 1) from rfl) rfl
theorem w165_34 {a0 a1 a2 : Int} : wp X (d + 1) 165 34 ls ((0, a2) :: (0, a1) :: (20, a0) :: st) M Q ↔ (a0 ≠ 0 ∧ mj_cs st ≤ 8) ∧ wc X d 166 [(20, a0), (0, a1), (0, a2)] M (fun r M => wp X (d + 1) 165 37 ls (r.toList ++ st) M Q) := q_callV ⟨rfl, rfl⟩ (show mj_ins 165 34 = some (.invokevirtual 315, 3) from rfl) rfl rfl rfl (Nat.le_of_ble_eq_true rfl)
theorem w165_37 {v0 v1 v2 w w2 : mj_V} {x y : Int} : wp X d 165 37 (v0 :: v1 :: v2 :: (0, y) :: w :: w2 :: ls) ((1, x) :: st) M Q ↔ wp X d 165 39 (v0 :: v1 :: v2 :: (0, y) :: (1, x) :: (9, 0) :: ls) st M Q := q_lstore (show mj_ins 165 37 = some (.lstore 4, 2) from rfl) (Nat.le_add_left 6 _) (mj_set2_s (fun z hz => by cases hz; exact (show (0 : Nat) ≠ 1 by decide)))
theorem w165_39 {x : Int} : wp X d 165 39 ((31, x) :: ls) st M Q ↔ wp X d 165 40 ((31, x) :: ls) ((31, x) :: st) M Q := q_aload_n (show mj_ins 165 39 = some (.aload_n 0, 1) from rfl) rfl rfl
theorem w165_40 {x : Int} : wp X d 165 40 ls ((31, x) :: st) M Q ↔ x ≠ 0 ∧ wp X d 165 43 ls ((20, hh M x 6) :: st) M Q := q_getfield (show mj_ins 165 40 = some (.getfield 60, 3) from rfl) rfl rfl rfl
theorem w165_43 {v0 : mj_V} {x : Int} : wp X d 165 43 (v0 :: (0, x) :: ls) st M Q ↔ wp X d 165 44 (v0 :: (0, x) :: ls) ((0, x) :: st) M Q := q_iload_n (show mj_ins 165 43 = some (.iload_n 1, 1) from rfl) rfl
theorem w165_44 {v0 v1 : mj_V} {x : Int} : wp X d 165 44 (v0 :: v1 :: (0, x) :: ls) st M Q ↔ wp X d 165 45 (v0 :: v1 :: (0, x) :: ls) ((0, x) :: st) M Q := q_iload_n (show mj_ins 165 44 = some (.iload_n 2, 1) from rfl) rfl
theorem w165_45 {a0 a1 a2 : Int} : wp X (d + 1) 165 45 ls ((0, a2) :: (0, a1) :: (20, a0) :: st) M Q ↔ (a0 ≠ 0 ∧ mj_cs st ≤ 8) ∧ wc X d 168 [(20, a0), (0, a1), (0, a2)] M (fun r M => wp X (d + 1) 165 48 ls (r.toList ++ st) M Q) := q_callV ⟨rfl, rfl⟩ (show mj_ins 165 45 = some (.invokevirtual 319, 3) from rfl) rfl rfl rfl (Nat.le_of_ble_eq_true rfl)
theorem w165_48 {v0 v1 v2 v3 v4 w w2 : mj_V} {x y : Int} : wp X d 165 48 (v0 :: v1 :: v2 :: v3 :: v4 :: (9, y) :: w :: w2 :: ls) ((1, x) :: st) M Q ↔ wp X d 165 50 (v0 :: v1 :: v2 :: v3 :: v4 :: (9, y) :: (1, x) :: (9, 0) :: ls) st M Q := q_lstore (show mj_ins 165 48 = some (.lstore 6, 2) from rfl) (Nat.le_add_left 8 _) (mj_set2_s (fun z hz => by cases hz; exact (show (9 : Nat) ≠ 1 by decide)))
theorem w165_50 {v0 v1 v2 v3 : mj_V} {x : Int} : wp X d 165 50 (v0 :: v1 :: v2 :: v3 :: (1, x) :: ls) st M Q ↔ wp X d 165 52 (v0 :: v1 :: v2 :: v3 :: (1, x) :: ls) ((1, x) :: st) M Q := q_lload (show mj_ins 165 50 = some (.lload 4, 2) from rfl) rfl
theorem w165_52 {v0 v1 v2 v3 v4 v5 : mj_V} {x : Int} : wp X d 165 52 (v0 :: v1 :: v2 :: v3 :: v4 :: v5 :: (1, x) :: ls) st M Q ↔ wp X d 165 54 (v0 :: v1 :: v2 :: v3 :: v4 :: v5 :: (1, x) :: ls) ((1, x) :: st) M Q := q_lload (show mj_ins 165 52 = some (.lload 6, 2) from rfl) rfl
theorem w165_54 {a0 a1 : Int} : wp X (d + 1) 165 54 ls ((1, a1) :: (1, a0) :: st) M Q ↔ (mj_cs st ≤ 8) ∧ wc X d 147 [(1, a0), (1, a1)] M (fun r M => wp X (d + 1) 165 57 ls (r.toList ++ st) M Q) := q_callS (show mj_ins 165 54 = some (.invokestatic 276, 3) from rfl) rfl rfl rfl (Nat.le_of_ble_eq_true rfl)
theorem w165_57 {v0 v1 v2 v3 v4 v5 v6 w w2 : mj_V} {x y : Int} : wp X d 165 57 (v0 :: v1 :: v2 :: v3 :: v4 :: v5 :: v6 :: (9, y) :: w :: w2 :: ls) ((1, x) :: st) M Q ↔ wp X d 165 59 (v0 :: v1 :: v2 :: v3 :: v4 :: v5 :: v6 :: (9, y) :: (1, x) :: (9, 0) :: ls) st M Q := q_lstore (show mj_ins 165 57 = some (.lstore 8, 2) from rfl) (Nat.le_add_left 10 _) (mj_set2_s (fun z hz => by cases hz; exact (show (9 : Nat) ≠ 1 by decide)))
theorem w165_59 {v0 v1 v2 v3 v4 v5 v6 v7 : mj_V} {x : Int} : wp X d 165 59 (v0 :: v1 :: v2 :: v3 :: v4 :: v5 :: v6 :: v7 :: (1, x) :: ls) st M Q ↔ wp X d 165 61 (v0 :: v1 :: v2 :: v3 :: v4 :: v5 :: v6 :: v7 :: (1, x) :: ls) ((1, x) :: st) M Q := q_lload (show mj_ins 165 59 = some (.lload 8, 2) from rfl) rfl
theorem w165_61 : wp X d 165 61 ls st M Q ↔ wp X d 165 62 ls ((1, 1) :: st) M Q := q_lconst (show mj_ins 165 61 = some (.lconst 1, 1) from rfl) (by decide)
theorem w165_62 {x y : Int} : wp X d 165 62 ls ((1, y) :: (1, x) :: st) M Q ↔ wp X d 165 63 ls ((0, jl_cmp x y) :: st) M Q := q_lcmp (show mj_ins 165 62 = some (.lcmp, 1) from rfl)
theorem w165_63 {x : Int} : wp X d 165 63 ls ((0, x) :: st) M Q ↔ if x < 0 then wp X d 165 66 ls st M Q else wp X d 165 72 ls st M Q := q_if_ge (show mj_ins 165 63 = some (.ifCond .ge 9, 3) from rfl) rfl
theorem w165_66 : wp X d 165 66 ls st M Q ↔ wp X d 165 69 ls ((1, (-1)) :: st) M Q := q_ldc2_w (show mj_ins 165 66 = some (.ldc2_w 313, 3) from rfl) rfl
theorem w165_69 : wp X d 165 69 ls st M Q ↔ wp X d 165 86 ls st M Q := q_goto (show mj_ins 165 69 = some (.goto 17, 3) from rfl) rfl
theorem w165_72 {v0 v1 v2 : mj_V} {x : Int} : wp X d 165 72 (v0 :: v1 :: v2 :: (0, x) :: ls) st M Q ↔ wp X d 165 73 (v0 :: v1 :: v2 :: (0, x) :: ls) ((0, x) :: st) M Q := q_iload_n (show mj_ins 165 72 = some (.iload_n 3, 1) from rfl) rfl
theorem w165_73 {x : Int} : wp X d 165 73 ls ((0, x) :: st) M Q ↔ if x = 0 then wp X d 165 81 ls st M Q else wp X d 165 76 ls st M Q := q_if_eq (show mj_ins 165 73 = some (.ifCond .eq 8, 3) from rfl) rfl
theorem w165_76 {v0 v1 v2 v3 v4 v5 : mj_V} {x : Int} : wp X d 165 76 (v0 :: v1 :: v2 :: v3 :: v4 :: v5 :: (1, x) :: ls) st M Q ↔ wp X d 165 78 (v0 :: v1 :: v2 :: v3 :: v4 :: v5 :: (1, x) :: ls) ((1, x) :: st) M Q := q_lload (show mj_ins 165 76 = some (.lload 6, 2) from rfl) rfl
theorem w165_78 : wp X d 165 78 ls st M Q ↔ wp X d 165 83 ls st M Q := q_goto (show mj_ins 165 78 = some (.goto 5, 3) from rfl) rfl
theorem w165_81 {v0 v1 v2 v3 : mj_V} {x : Int} : wp X d 165 81 (v0 :: v1 :: v2 :: v3 :: (1, x) :: ls) st M Q ↔ wp X d 165 83 (v0 :: v1 :: v2 :: v3 :: (1, x) :: ls) ((1, x) :: st) M Q := q_lload (show mj_ins 165 81 = some (.lload 4, 2) from rfl) rfl
theorem w165_83 {v0 v1 v2 v3 v4 v5 v6 v7 : mj_V} {x : Int} : wp X d 165 83 (v0 :: v1 :: v2 :: v3 :: v4 :: v5 :: v6 :: v7 :: (1, x) :: ls) st M Q ↔ wp X d 165 85 (v0 :: v1 :: v2 :: v3 :: v4 :: v5 :: v6 :: v7 :: (1, x) :: ls) ((1, x) :: st) M Q := q_lload (show mj_ins 165 83 = some (.lload 8, 2) from rfl) rfl
theorem w165_85 {x y : Int} : wp X d 165 85 ls ((1, y) :: (1, x) :: st) M Q ↔ y ≠ 0 ∧ wp X d 165 86 ls ((1, jl_div x y) :: st) M Q := q_ldiv (show mj_ins 165 85 = some (.ldiv, 1) from rfl)
theorem w165_86 {x : Int} : wp X d 165 86 ls [(1, x)] M Q ↔ Q (some (1, x)) M := q_lreturn (show mj_ins 165 86 = some (.lreturn, 1) from rfl) rfl
-- 169: PerfectFerried.heirs(I)I
theorem w169_0 {x : Int} : wp X d 169 0 ((31, x) :: ls) st M Q ↔ wp X d 169 1 ((31, x) :: ls) ((31, x) :: st) M Q := q_aload_n (show mj_ins 169 0 = some (.aload_n 0, 1) from rfl) rfl rfl
theorem w169_1 {x : Int} : wp X d 169 1 ls ((31, x) :: st) M Q ↔ x ≠ 0 ∧ wp X d 169 4 ls ((30, hh M x 1) :: st) M Q := q_getfield (show mj_ins 169 1 = some (.getfield 19, 3) from rfl) rfl rfl rfl
theorem w169_4 {x : Int} : wp X d 169 4 ls ((30, x) :: st) M Q ↔ x ≠ 0 ∧ wp X d 169 7 ls ((29, hh M x 0) :: st) M Q := q_getfield (show mj_ins 169 4 = some (.getfield 91, 3) from rfl) rfl rfl rfl
theorem w169_7 {v0 : mj_V} {x : Int} : wp X d 169 7 (v0 :: (0, x) :: ls) st M Q ↔ wp X d 169 8 (v0 :: (0, x) :: ls) ((0, x) :: st) M Q := q_iload_n (show mj_ins 169 7 = some (.iload_n 1, 1) from rfl) rfl
theorem w169_8 {a0 a1 : Int} : wp X (d + 1) 169 8 ls ((0, a1) :: (29, a0) :: st) M Q ↔ (a0 ≠ 0 ∧ mj_cs st ≤ 8) ∧ wc X d 76 [(29, a0), (0, a1)] M (fun r M => wp X (d + 1) 169 11 ls (r.toList ++ st) M Q) := q_callV ⟨rfl, rfl⟩ (show mj_ins 169 8 = some (.invokevirtual 203, 3) from rfl) rfl rfl rfl (Nat.le_of_ble_eq_true rfl)
theorem w169_11 {x : Int} : wp X d 169 11 ls ((0, x) :: st) M Q ↔ if x = 0 then wp X d 169 25 ls st M Q else wp X d 169 14 ls st M Q := q_if_eq (show mj_ins 169 11 = some (.ifCond .eq 14, 3) from rfl) rfl
theorem w169_14 {x : Int} : wp X d 169 14 ((31, x) :: ls) st M Q ↔ wp X d 169 15 ((31, x) :: ls) ((31, x) :: st) M Q := q_aload_n (show mj_ins 169 14 = some (.aload_n 0, 1) from rfl) rfl rfl
theorem w169_15 {x : Int} : wp X d 169 15 ls ((31, x) :: st) M Q ↔ x ≠ 0 ∧ wp X d 169 18 ls ((20, hh M x 6) :: st) M Q := q_getfield (show mj_ins 169 15 = some (.getfield 60, 3) from rfl) rfl rfl rfl
theorem w169_18 {v0 : mj_V} {x : Int} : wp X d 169 18 (v0 :: (0, x) :: ls) st M Q ↔ wp X d 169 19 (v0 :: (0, x) :: ls) ((0, x) :: st) M Q := q_iload_n (show mj_ins 169 18 = some (.iload_n 1, 1) from rfl) rfl
theorem w169_19 {a0 a1 : Int} : wp X (d + 1) 169 19 ls ((0, a1) :: (20, a0) :: st) M Q ↔ (a0 ≠ 0 ∧ mj_cs st ≤ 8) ∧ wc X d 170 [(20, a0), (0, a1)] M (fun r M => wp X (d + 1) 169 22 ls (r.toList ++ st) M Q) := q_callV ⟨rfl, rfl⟩ (show mj_ins 169 19 = some (.invokevirtual 322, 3) from rfl) rfl rfl rfl (Nat.le_of_ble_eq_true rfl)
theorem w169_22 : wp X d 169 22 ls st M Q ↔ wp X d 169 26 ls st M Q := q_goto (show mj_ins 169 22 = some (.goto 4, 3) from rfl) rfl
theorem w169_25 : wp X d 169 25 ls st M Q ↔ wp X d 169 26 ls ((0, (-1)) :: st) M Q := q_iconst (show mj_ins 169 25 = some (.iconst (-1), 1) from rfl) (by decide)
theorem w169_26 {x : Int} : wp X d 169 26 ls [(0, x)] M Q ↔ Q (some (0, x)) M := q_ireturn (show mj_ins 169 26 = some (.ireturn, 1) from rfl) rfl
-- 171: PerfectFerried.seen(II)I
theorem w171_0 {v0 : mj_V} {x : Int} : wp X d 171 0 (v0 :: (0, x) :: ls) st M Q ↔ wp X d 171 1 (v0 :: (0, x) :: ls) ((0, x) :: st) M Q := q_iload_n (show mj_ins 171 0 = some (.iload_n 1, 1) from rfl) rfl
theorem w171_1 : wp X d 171 1 ls st M Q ↔ wp X d 171 2 ls ((0, (-1)) :: st) M Q := q_iconst (show mj_ins 171 1 = some (.iconst (-1), 1) from rfl) (by decide)
theorem w171_2 {x y : Int} : wp X d 171 2 ls ((0, y) :: (0, x) :: st) M Q ↔ if x = y then wp X d 171 5 ls st M Q else wp X d 171 17 ls st M Q := q_icmp_ne (show mj_ins 171 2 = some (.if_icmp .ne 15, 3) from rfl) rfl
theorem w171_5 {x : Int} : wp X d 171 5 ((31, x) :: ls) st M Q ↔ wp X d 171 6 ((31, x) :: ls) ((31, x) :: st) M Q := q_aload_n (show mj_ins 171 5 = some (.aload_n 0, 1) from rfl) rfl rfl
theorem w171_6 {x : Int} : wp X d 171 6 ls ((31, x) :: st) M Q ↔ x ≠ 0 ∧ wp X d 171 9 ls ((30, hh M x 1) :: st) M Q := q_getfield (show mj_ins 171 6 = some (.getfield 19, 3) from rfl) rfl rfl rfl
theorem w171_9 {x : Int} : wp X d 171 9 ls ((30, x) :: st) M Q ↔ x ≠ 0 ∧ wp X d 171 12 ls ((27, hh M x 3) :: st) M Q := q_getfield (show mj_ins 171 9 = some (.getfield 325, 3) from rfl) rfl rfl rfl
theorem w171_12 {a0 : Int} : wp X (d + 1) 171 12 ls ((27, a0) :: st) M Q ↔ (a0 ≠ 0 ∧ mj_cs st ≤ 8) ∧ wc X d 138 [(27, a0)] M (fun r M => wp X (d + 1) 171 15 ls (r.toList ++ st) M Q) := q_callV ⟨rfl, rfl⟩ (show mj_ins 171 12 = some (.invokevirtual 256, 3) from rfl) rfl rfl rfl (Nat.le_of_ble_eq_true rfl)
theorem w171_15 : wp X d 171 15 ls st M Q ↔ wp X d 171 16 ls ((0, 0) :: st) M Q := q_iconst (show mj_ins 171 15 = some (.iconst 0, 1) from rfl) (by decide)
theorem w171_16 {x : Int} : wp X d 171 16 ls [(0, x)] M Q ↔ Q (some (0, x)) M := q_ireturn (show mj_ins 171 16 = some (.ireturn, 1) from rfl) rfl
theorem w171_17 {x : Int} : wp X d 171 17 ((31, x) :: ls) st M Q ↔ wp X d 171 18 ((31, x) :: ls) ((31, x) :: st) M Q := q_aload_n (show mj_ins 171 17 = some (.aload_n 0, 1) from rfl) rfl rfl
theorem w171_18 {x : Int} : wp X d 171 18 ls ((31, x) :: st) M Q ↔ x ≠ 0 ∧ wp X d 171 21 ls ((30, hh M x 1) :: st) M Q := q_getfield (show mj_ins 171 18 = some (.getfield 19, 3) from rfl) rfl rfl rfl
theorem w171_21 {x : Int} : wp X d 171 21 ls ((30, x) :: st) M Q ↔ x ≠ 0 ∧ wp X d 171 24 ls ((24, hh M x 1) :: st) M Q := q_getfield (show mj_ins 171 21 = some (.getfield 148, 3) from rfl) rfl rfl rfl
theorem w171_24 {v0 : mj_V} {x : Int} : wp X d 171 24 (v0 :: (0, x) :: ls) st M Q ↔ wp X d 171 25 (v0 :: (0, x) :: ls) ((0, x) :: st) M Q := q_iload_n (show mj_ins 171 24 = some (.iload_n 1, 1) from rfl) rfl
theorem w171_25 {a0 a1 : Int} : wp X (d + 1) 171 25 ls ((0, a1) :: (24, a0) :: st) M Q ↔ (a0 ≠ 0 ∧ mj_cs st ≤ 8) ∧ wc X d 77 [(24, a0), (0, a1)] M (fun r M => wp X (d + 1) 171 28 ls (r.toList ++ st) M Q) := q_callV ⟨rfl, rfl⟩ (show mj_ins 171 25 = some (.invokevirtual 188, 3) from rfl) rfl rfl rfl (Nat.le_of_ble_eq_true rfl)
theorem w171_28 {x : Int} : wp X d 171 28 ls ((0, x) :: st) M Q ↔ if x = 0 then wp X d 171 41 ls st M Q else wp X d 171 31 ls st M Q := q_if_eq (show mj_ins 171 28 = some (.ifCond .eq 13, 3) from rfl) rfl
theorem w171_31 {v0 v1 : mj_V} {x : Int} : wp X d 171 31 (v0 :: v1 :: (0, x) :: ls) st M Q ↔ wp X d 171 32 (v0 :: v1 :: (0, x) :: ls) ((0, x) :: st) M Q := q_iload_n (show mj_ins 171 31 = some (.iload_n 2, 1) from rfl) rfl
theorem w171_32 {x : Int} : wp X d 171 32 ls ((0, x) :: st) M Q ↔ if x < 0 then wp X d 171 41 ls st M Q else wp X d 171 35 ls st M Q := q_if_lt (show mj_ins 171 32 = some (.ifCond .lt 9, 3) from rfl) rfl
theorem w171_35 {v0 v1 : mj_V} {x : Int} : wp X d 171 35 (v0 :: v1 :: (0, x) :: ls) st M Q ↔ wp X d 171 36 (v0 :: v1 :: (0, x) :: ls) ((0, x) :: st) M Q := q_iload_n (show mj_ins 171 35 = some (.iload_n 2, 1) from rfl) rfl
theorem w171_36 : wp X d 171 36 ls st M Q ↔ wp X d 171 38 ls ((0, 10) :: st) M Q := q_bipush (show mj_ins 171 36 = some (.bipush 10, 2) from rfl) (by decide)
theorem w171_38 {x y : Int} : wp X d 171 38 ls ((0, y) :: (0, x) :: st) M Q ↔ if x ≤ y then wp X d 171 44 ls st M Q else wp X d 171 41 ls st M Q := q_icmp_le (show mj_ins 171 38 = some (.if_icmp .le 6, 3) from rfl) rfl
theorem w171_41 : wp X d 171 41 ls st M Q ↔ wp X d 171 43 ls ((0, (-2)) :: st) M Q := q_bipush (show mj_ins 171 41 = some (.bipush (-2), 2) from rfl) (by decide)
theorem w171_43 {x : Int} : wp X d 171 43 ls [(0, x)] M Q ↔ Q (some (0, x)) M := q_ireturn (show mj_ins 171 43 = some (.ireturn, 1) from rfl) rfl
theorem w171_44 {x : Int} : wp X d 171 44 ((31, x) :: ls) st M Q ↔ wp X d 171 45 ((31, x) :: ls) ((31, x) :: st) M Q := q_aload_n (show mj_ins 171 44 = some (.aload_n 0, 1) from rfl) rfl rfl
theorem w171_45 {x : Int} : wp X d 171 45 ls ((31, x) :: st) M Q ↔ x ≠ 0 ∧ wp X d 171 48 ls ((30, hh M x 1) :: st) M Q := q_getfield (show mj_ins 171 45 = some (.getfield 19, 3) from rfl) rfl rfl rfl
theorem w171_48 {x : Int} : wp X d 171 48 ls ((30, x) :: st) M Q ↔ x ≠ 0 ∧ wp X d 171 51 ls ((27, hh M x 3) :: st) M Q := q_getfield (show mj_ins 171 48 = some (.getfield 325, 3) from rfl) rfl rfl rfl
theorem w171_51 {v0 : mj_V} {x : Int} : wp X d 171 51 (v0 :: (0, x) :: ls) st M Q ↔ wp X d 171 52 (v0 :: (0, x) :: ls) ((0, x) :: st) M Q := q_iload_n (show mj_ins 171 51 = some (.iload_n 1, 1) from rfl) rfl
theorem w171_52 {v0 v1 : mj_V} {x : Int} : wp X d 171 52 (v0 :: v1 :: (0, x) :: ls) st M Q ↔ wp X d 171 53 (v0 :: v1 :: (0, x) :: ls) ((0, x) :: st) M Q := q_iload_n (show mj_ins 171 52 = some (.iload_n 2, 1) from rfl) rfl
theorem w171_53 : wp X d 171 53 ls st M Q ↔ wp X d 171 54 ls ((0, 0) :: st) M Q := q_iconst (show mj_ins 171 53 = some (.iconst 0, 1) from rfl) (by decide)
theorem w171_54 {a0 a1 a2 a3 : Int} : wp X (d + 1) 171 54 ls ((0, a3) :: (0, a2) :: (0, a1) :: (27, a0) :: st) M Q ↔ (a0 ≠ 0 ∧ mj_cs st ≤ 8) ∧ wc X d 139 [(27, a0), (0, a1), (0, a2), (0, a3)] M (fun r M => wp X (d + 1) 171 57 ls (r.toList ++ st) M Q) := q_callV ⟨rfl, rfl⟩ (show mj_ins 171 54 = some (.invokevirtual 261, 3) from rfl) rfl rfl rfl (Nat.le_of_ble_eq_true rfl)
theorem w171_57 {x : Int} : wp X d 171 57 ls [(0, x)] M Q ↔ Q (some (0, x)) M := q_ireturn (show mj_ins 171 57 = some (.ireturn, 1) from rfl) rfl
-- 172: PerfectFerried.whose()I
theorem w172_0 {x : Int} : wp X d 172 0 ((31, x) :: ls) st M Q ↔ wp X d 172 1 ((31, x) :: ls) ((31, x) :: st) M Q := q_aload_n (show mj_ins 172 0 = some (.aload_n 0, 1) from rfl) rfl rfl
theorem w172_1 {x : Int} : wp X d 172 1 ls ((31, x) :: st) M Q ↔ x ≠ 0 ∧ wp X d 172 4 ls ((20, hh M x 6) :: st) M Q := q_getfield (show mj_ins 172 1 = some (.getfield 60, 3) from rfl) rfl rfl rfl
theorem w172_4 {a0 : Int} : wp X (d + 1) 172 4 ls ((20, a0) :: st) M Q ↔ (a0 ≠ 0 ∧ mj_cs st ≤ 8) ∧ wc X d 173 [(20, a0)] M (fun r M => wp X (d + 1) 172 7 ls (r.toList ++ st) M Q) := q_callV ⟨rfl, rfl⟩ (show mj_ins 172 4 = some (.invokevirtual 328, 3) from rfl) rfl rfl rfl (Nat.le_of_ble_eq_true rfl)
theorem w172_7 {x : Int} : wp X d 172 7 ls [(0, x)] M Q ↔ Q (some (0, x)) M := q_ireturn (show mj_ins 172 7 = some (.ireturn, 1) from rfl) rfl
-- 175: PerfectFerried.richest()I
theorem w175_0 {x : Int} : wp X d 175 0 ((31, x) :: ls) st M Q ↔ wp X d 175 1 ((31, x) :: ls) ((31, x) :: st) M Q := q_aload_n (show mj_ins 175 0 = some (.aload_n 0, 1) from rfl) rfl rfl
theorem w175_1 {x : Int} : wp X d 175 1 ls ((31, x) :: st) M Q ↔ x ≠ 0 ∧ wp X d 175 4 ls ((20, hh M x 6) :: st) M Q := q_getfield (show mj_ins 175 1 = some (.getfield 60, 3) from rfl) rfl rfl rfl
theorem w175_4 {a0 : Int} : wp X (d + 1) 175 4 ls ((20, a0) :: st) M Q ↔ (a0 ≠ 0 ∧ mj_cs st ≤ 8) ∧ wc X d 176 [(20, a0)] M (fun r M => wp X (d + 1) 175 7 ls (r.toList ++ st) M Q) := q_callV ⟨rfl, rfl⟩ (show mj_ins 175 4 = some (.invokevirtual 331, 3) from rfl) rfl rfl rfl (Nat.le_of_ble_eq_true rfl)
theorem w175_7 {x : Int} : wp X d 175 7 ls [(0, x)] M Q ↔ Q (some (0, x)) M := q_ireturn (show mj_ins 175 7 = some (.ireturn, 1) from rfl) rfl
-- 177: PerfectFerried.rarest()I
theorem w177_0 {x : Int} : wp X d 177 0 ((31, x) :: ls) st M Q ↔ wp X d 177 1 ((31, x) :: ls) ((31, x) :: st) M Q := q_aload_n (show mj_ins 177 0 = some (.aload_n 0, 1) from rfl) rfl rfl
theorem w177_1 {x : Int} : wp X d 177 1 ls ((31, x) :: st) M Q ↔ x ≠ 0 ∧ wp X d 177 4 ls ((20, hh M x 6) :: st) M Q := q_getfield (show mj_ins 177 1 = some (.getfield 60, 3) from rfl) rfl rfl rfl
theorem w177_4 {a0 : Int} : wp X (d + 1) 177 4 ls ((20, a0) :: st) M Q ↔ (a0 ≠ 0 ∧ mj_cs st ≤ 8) ∧ wc X d 178 [(20, a0)] M (fun r M => wp X (d + 1) 177 7 ls (r.toList ++ st) M Q) := q_callV ⟨rfl, rfl⟩ (show mj_ins 177 4 = some (.invokevirtual 334, 3) from rfl) rfl rfl rfl (Nat.le_of_ble_eq_true rfl)
theorem w177_7 {x : Int} : wp X d 177 7 ls [(0, x)] M Q ↔ Q (some (0, x)) M := q_ireturn (show mj_ins 177 7 = some (.ireturn, 1) from rfl) rfl
-- 179: PerfectFerried.silent()I
theorem w179_0 {x : Int} : wp X d 179 0 ((31, x) :: ls) st M Q ↔ wp X d 179 1 ((31, x) :: ls) ((31, x) :: st) M Q := q_aload_n (show mj_ins 179 0 = some (.aload_n 0, 1) from rfl) rfl rfl
theorem w179_1 {x : Int} : wp X d 179 1 ls ((31, x) :: st) M Q ↔ x ≠ 0 ∧ wp X d 179 4 ls ((20, hh M x 6) :: st) M Q := q_getfield (show mj_ins 179 1 = some (.getfield 60, 3) from rfl) rfl rfl rfl
theorem w179_4 {a0 : Int} : wp X (d + 1) 179 4 ls ((20, a0) :: st) M Q ↔ (a0 ≠ 0 ∧ mj_cs st ≤ 8) ∧ wc X d 180 [(20, a0)] M (fun r M => wp X (d + 1) 179 7 ls (r.toList ++ st) M Q) := q_callV ⟨rfl, rfl⟩ (show mj_ins 179 4 = some (.invokevirtual 337, 3) from rfl) rfl rfl rfl (Nat.le_of_ble_eq_true rfl)
theorem w179_7 {x : Int} : wp X d 179 7 ls [(0, x)] M Q ↔ Q (some (0, x)) M := q_ireturn (show mj_ins 179 7 = some (.ireturn, 1) from rfl) rfl
-- 181: PerfectFerried.ledger(I)I
theorem w181_0 {v0 : mj_V} {x : Int} : wp X d 181 0 (v0 :: (0, x) :: ls) st M Q ↔ wp X d 181 1 (v0 :: (0, x) :: ls) ((0, x) :: st) M Q := q_iload_n (show mj_ins 181 0 = some (.iload_n 1, 1) from rfl) rfl
theorem w181_1 : wp X d 181 1 ls st M Q ↔ wp X d 181 2 ls ((0, (-1)) :: st) M Q := q_iconst (show mj_ins 181 1 = some (.iconst (-1), 1) from rfl) (by decide)
theorem w181_2 {x y : Int} : wp X d 181 2 ls ((0, y) :: (0, x) :: st) M Q ↔ if x = y then wp X d 181 22 ls st M Q else wp X d 181 5 ls st M Q := q_icmp_eq (show mj_ins 181 2 = some (.if_icmp .eq 20, 3) from rfl) rfl
theorem w181_5 {x : Int} : wp X d 181 5 ((31, x) :: ls) st M Q ↔ wp X d 181 6 ((31, x) :: ls) ((31, x) :: st) M Q := q_aload_n (show mj_ins 181 5 = some (.aload_n 0, 1) from rfl) rfl rfl
theorem w181_6 {x : Int} : wp X d 181 6 ls ((31, x) :: st) M Q ↔ x ≠ 0 ∧ wp X d 181 9 ls ((30, hh M x 1) :: st) M Q := q_getfield (show mj_ins 181 6 = some (.getfield 19, 3) from rfl) rfl rfl rfl
theorem w181_9 {x : Int} : wp X d 181 9 ls ((30, x) :: st) M Q ↔ x ≠ 0 ∧ wp X d 181 12 ls ((24, hh M x 1) :: st) M Q := q_getfield (show mj_ins 181 9 = some (.getfield 148, 3) from rfl) rfl rfl rfl
theorem w181_12 {v0 : mj_V} {x : Int} : wp X d 181 12 (v0 :: (0, x) :: ls) st M Q ↔ wp X d 181 13 (v0 :: (0, x) :: ls) ((0, x) :: st) M Q := q_iload_n (show mj_ins 181 12 = some (.iload_n 1, 1) from rfl) rfl
theorem w181_13 {a0 a1 : Int} : wp X (d + 1) 181 13 ls ((0, a1) :: (24, a0) :: st) M Q ↔ (a0 ≠ 0 ∧ mj_cs st ≤ 8) ∧ wc X d 77 [(24, a0), (0, a1)] M (fun r M => wp X (d + 1) 181 16 ls (r.toList ++ st) M Q) := q_callV ⟨rfl, rfl⟩ (show mj_ins 181 13 = some (.invokevirtual 188, 3) from rfl) rfl rfl rfl (Nat.le_of_ble_eq_true rfl)
theorem w181_16 {x : Int} : wp X d 181 16 ls ((0, x) :: st) M Q ↔ if x = 0 then wp X d 181 19 ls st M Q else wp X d 181 22 ls st M Q := q_if_ne (show mj_ins 181 16 = some (.ifCond .ne 6, 3) from rfl) rfl
theorem w181_19 : wp X d 181 19 ls st M Q ↔ wp X d 181 21 ls ((0, (-2)) :: st) M Q := q_bipush (show mj_ins 181 19 = some (.bipush (-2), 2) from rfl) (by decide)
theorem w181_21 {x : Int} : wp X d 181 21 ls [(0, x)] M Q ↔ Q (some (0, x)) M := q_ireturn (show mj_ins 181 21 = some (.ireturn, 1) from rfl) rfl
theorem w181_22 {x : Int} : wp X d 181 22 ((31, x) :: ls) st M Q ↔ wp X d 181 23 ((31, x) :: ls) ((31, x) :: st) M Q := q_aload_n (show mj_ins 181 22 = some (.aload_n 0, 1) from rfl) rfl rfl
theorem w181_23 {x : Int} : wp X d 181 23 ls ((31, x) :: st) M Q ↔ x ≠ 0 ∧ wp X d 181 26 ls ((30, hh M x 1) :: st) M Q := q_getfield (show mj_ins 181 23 = some (.getfield 19, 3) from rfl) rfl rfl rfl
theorem w181_26 {x : Int} : wp X d 181 26 ls ((30, x) :: st) M Q ↔ x ≠ 0 ∧ wp X d 181 29 ls ((24, hh M x 1) :: st) M Q := q_getfield (show mj_ins 181 26 = some (.getfield 148, 3) from rfl) rfl rfl rfl
theorem w181_29 {v0 : mj_V} {x : Int} : wp X d 181 29 (v0 :: (0, x) :: ls) st M Q ↔ wp X d 181 30 (v0 :: (0, x) :: ls) ((0, x) :: st) M Q := q_iload_n (show mj_ins 181 29 = some (.iload_n 1, 1) from rfl) rfl
theorem w181_30 {a0 a1 : Int} : wp X (d + 1) 181 30 ls ((0, a1) :: (24, a0) :: st) M Q ↔ (a0 ≠ 0 ∧ mj_cs st ≤ 8) ∧ wc X d 182 [(24, a0), (0, a1)] M (fun r M => wp X (d + 1) 181 33 ls (r.toList ++ st) M Q) := q_callV ⟨rfl, rfl⟩ (show mj_ins 181 30 = some (.invokevirtual 340, 3) from rfl) rfl rfl rfl (Nat.le_of_ble_eq_true rfl)
theorem w181_33 {x : Int} : wp X d 181 33 ls [(0, x)] M Q ↔ Q (some (0, x)) M := q_ireturn (show mj_ins 181 33 = some (.ireturn, 1) from rfl) rfl
-- 183: PerfectFerried.image()I
theorem w183_0 {x : Int} : wp X d 183 0 ((31, x) :: ls) st M Q ↔ wp X d 183 1 ((31, x) :: ls) ((31, x) :: st) M Q := q_aload_n (show mj_ins 183 0 = some (.aload_n 0, 1) from rfl) rfl rfl
theorem w183_1 {x : Int} : wp X d 183 1 ls ((31, x) :: st) M Q ↔ x ≠ 0 ∧ wp X d 183 4 ls ((30, hh M x 2) :: st) M Q := q_getfield (show mj_ins 183 1 = some (.getfield 23, 3) from rfl) rfl rfl rfl
theorem w183_4 {x : Int} : wp X d 183 4 ((31, x) :: ls) st M Q ↔ wp X d 183 5 ((31, x) :: ls) ((31, x) :: st) M Q := q_aload_n (show mj_ins 183 4 = some (.aload_n 0, 1) from rfl) rfl rfl
theorem w183_5 {x : Int} : wp X d 183 5 ls ((31, x) :: st) M Q ↔ x ≠ 0 ∧ wp X d 183 8 ls ((30, hh M x 1) :: st) M Q := q_getfield (show mj_ins 183 5 = some (.getfield 19, 3) from rfl) rfl rfl rfl
theorem w183_8 {a0 a1 : Int} : wp X (d + 1) 183 8 ls ((30, a1) :: (30, a0) :: st) M Q ↔ (a0 ≠ 0 ∧ mj_cs st ≤ 8) ∧ wc X d 184 [(30, a0), (30, a1)] M (fun r M => wp X (d + 1) 183 11 ls (r.toList ++ st) M Q) := q_callV ⟨rfl, rfl⟩ (show mj_ins 183 8 = some (.invokevirtual 343, 3) from rfl) rfl rfl rfl (Nat.le_of_ble_eq_true rfl)
theorem w183_11 {x : Int} : wp X d 183 11 ((31, x) :: ls) st M Q ↔ wp X d 183 12 ((31, x) :: ls) ((31, x) :: st) M Q := q_aload_n (show mj_ins 183 11 = some (.aload_n 0, 1) from rfl) rfl rfl
theorem w183_12 {x : Int} : wp X d 183 12 ls ((31, x) :: st) M Q ↔ x ≠ 0 ∧ wp X d 183 15 ls ((30, hh M x 1) :: st) M Q := q_getfield (show mj_ins 183 12 = some (.getfield 19, 3) from rfl) rfl rfl rfl
theorem w183_15 {x : Int} : wp X d 183 15 ls ((30, x) :: st) M Q ↔ x ≠ 0 ∧ wp X d 183 18 ls ((24, hh M x 1) :: st) M Q := q_getfield (show mj_ins 183 15 = some (.getfield 148, 3) from rfl) rfl rfl rfl
theorem w183_18 {x : Int} : wp X d 183 18 ls ((24, x) :: st) M Q ↔ x ≠ 0 ∧ wp X d 183 21 ls ((0, hh M x 0) :: st) M Q := q_getfield (show mj_ins 183 18 = some (.getfield 152, 3) from rfl) rfl rfl rfl
theorem w183_21 {x : Int} : wp X d 183 21 ls [(0, x)] M Q ↔ Q (some (0, x)) M := q_ireturn (show mj_ins 183 21 = some (.ireturn, 1) from rfl) rfl
-- 187: PerfectFerried.back()I
theorem w187_0 {x : Int} : wp X d 187 0 ((31, x) :: ls) st M Q ↔ wp X d 187 1 ((31, x) :: ls) ((31, x) :: st) M Q := q_aload_n (show mj_ins 187 0 = some (.aload_n 0, 1) from rfl) rfl rfl
theorem w187_1 {x : Int} : wp X d 187 1 ls ((31, x) :: st) M Q ↔ x ≠ 0 ∧ wp X d 187 4 ls ((30, hh M x 1) :: st) M Q := q_getfield (show mj_ins 187 1 = some (.getfield 19, 3) from rfl) rfl rfl rfl
theorem w187_4 {x : Int} : wp X d 187 4 ((31, x) :: ls) st M Q ↔ wp X d 187 5 ((31, x) :: ls) ((31, x) :: st) M Q := q_aload_n (show mj_ins 187 4 = some (.aload_n 0, 1) from rfl) rfl rfl
theorem w187_5 {x : Int} : wp X d 187 5 ls ((31, x) :: st) M Q ↔ x ≠ 0 ∧ wp X d 187 8 ls ((30, hh M x 2) :: st) M Q := q_getfield (show mj_ins 187 5 = some (.getfield 23, 3) from rfl) rfl rfl rfl
theorem w187_8 {a0 a1 : Int} : wp X (d + 1) 187 8 ls ((30, a1) :: (30, a0) :: st) M Q ↔ (a0 ≠ 0 ∧ mj_cs st ≤ 8) ∧ wc X d 184 [(30, a0), (30, a1)] M (fun r M => wp X (d + 1) 187 11 ls (r.toList ++ st) M Q) := q_callV ⟨rfl, rfl⟩ (show mj_ins 187 8 = some (.invokevirtual 343, 3) from rfl) rfl rfl rfl (Nat.le_of_ble_eq_true rfl)
theorem w187_11 {x : Int} : wp X d 187 11 ((31, x) :: ls) st M Q ↔ wp X d 187 12 ((31, x) :: ls) ((31, x) :: st) M Q := q_aload_n (show mj_ins 187 11 = some (.aload_n 0, 1) from rfl) rfl rfl
theorem w187_12 {x : Int} : wp X d 187 12 ls ((31, x) :: st) M Q ↔ x ≠ 0 ∧ wp X d 187 15 ls ((30, hh M x 1) :: st) M Q := q_getfield (show mj_ins 187 12 = some (.getfield 19, 3) from rfl) rfl rfl rfl
theorem w187_15 {x : Int} : wp X d 187 15 ls ((30, x) :: st) M Q ↔ x ≠ 0 ∧ wp X d 187 18 ls ((24, hh M x 1) :: st) M Q := q_getfield (show mj_ins 187 15 = some (.getfield 148, 3) from rfl) rfl rfl rfl
theorem w187_18 {x : Int} : wp X d 187 18 ls ((24, x) :: st) M Q ↔ x ≠ 0 ∧ wp X d 187 21 ls ((0, hh M x 0) :: st) M Q := q_getfield (show mj_ins 187 18 = some (.getfield 152, 3) from rfl) rfl rfl rfl
theorem w187_21 {x : Int} : wp X d 187 21 ls [(0, x)] M Q ↔ Q (some (0, x)) M := q_ireturn (show mj_ins 187 21 = some (.ireturn, 1) from rfl) rfl
-- 188: PerfectFerried.about(I)I
theorem w188_0 {v0 : mj_V} {x : Int} : wp X d 188 0 (v0 :: (0, x) :: ls) st M Q ↔ wp X d 188 1 (v0 :: (0, x) :: ls) ((0, x) :: st) M Q := q_iload_n (show mj_ins 188 0 = some (.iload_n 1, 1) from rfl) rfl
theorem w188_1 {x : Int} : wp X d 188 1 ls ((0, x) :: st) M Q ↔ if x = 0 then wp X d 188 52 ls st M Q else (if x = 1 then wp X d 188 63 ls st M Q else (if x = 2 then wp X d 188 74 ls st M Q else (if x = 3 then wp X d 188 82 ls st M Q else (if x = 4 then wp X d 188 90 ls st M Q else (if x = 5 then wp X d 188 98 ls st M Q else (if x = 6 then wp X d 188 106 ls st M Q else (if x = 7 then wp X d 188 117 ls st M Q else (if x = 8 then wp X d 188 128 ls st M Q else (wp X d 188 133 ls st M Q))))))))) := q_tsw (L := [(0, 52), (1, 63), (2, 74), (3, 82), (4, 90), (5, 98), (6, 106), (7, 117), (8, 128)]) (show mj_ins 188 1 = some (.tableswitch 132 0 8 #[51, 62, 73, 81, 89, 97, 105, 116, 127], 51) from rfl) rfl rfl (by decide) (by decide)
theorem w188_52 {x : Int} : wp X d 188 52 ((31, x) :: ls) st M Q ↔ wp X d 188 53 ((31, x) :: ls) ((31, x) :: st) M Q := q_aload_n (show mj_ins 188 52 = some (.aload_n 0, 1) from rfl) rfl rfl
theorem w188_53 {x : Int} : wp X d 188 53 ls ((31, x) :: st) M Q ↔ x ≠ 0 ∧ wp X d 188 56 ls ((30, hh M x 1) :: st) M Q := q_getfield (show mj_ins 188 53 = some (.getfield 19, 3) from rfl) rfl rfl rfl
theorem w188_56 {x : Int} : wp X d 188 56 ls ((30, x) :: st) M Q ↔ x ≠ 0 ∧ wp X d 188 59 ls ((29, hh M x 0) :: st) M Q := q_getfield (show mj_ins 188 56 = some (.getfield 91, 3) from rfl) rfl rfl rfl
theorem w188_59 {x : Int} : wp X d 188 59 ls ((29, x) :: st) M Q ↔ x ≠ 0 ∧ wp X d 188 62 ls ((0, hh M x 0) :: st) M Q := q_getfield (show mj_ins 188 59 = some (.getfield 347, 3) from rfl) rfl rfl rfl
theorem w188_62 {x : Int} : wp X d 188 62 ls [(0, x)] M Q ↔ Q (some (0, x)) M := q_ireturn (show mj_ins 188 62 = some (.ireturn, 1) from rfl) rfl
theorem w188_63 {x : Int} : wp X d 188 63 ((31, x) :: ls) st M Q ↔ wp X d 188 64 ((31, x) :: ls) ((31, x) :: st) M Q := q_aload_n (show mj_ins 188 63 = some (.aload_n 0, 1) from rfl) rfl rfl
theorem w188_64 {x : Int} : wp X d 188 64 ls ((31, x) :: st) M Q ↔ x ≠ 0 ∧ wp X d 188 67 ls ((30, hh M x 1) :: st) M Q := q_getfield (show mj_ins 188 64 = some (.getfield 19, 3) from rfl) rfl rfl rfl
theorem w188_67 {x : Int} : wp X d 188 67 ls ((30, x) :: st) M Q ↔ x ≠ 0 ∧ wp X d 188 70 ls ((24, hh M x 1) :: st) M Q := q_getfield (show mj_ins 188 67 = some (.getfield 148, 3) from rfl) rfl rfl rfl
theorem w188_70 {x : Int} : wp X d 188 70 ls ((24, x) :: st) M Q ↔ x ≠ 0 ∧ wp X d 188 73 ls ((0, hh M x 2) :: st) M Q := q_getfield (show mj_ins 188 70 = some (.getfield 350, 3) from rfl) rfl rfl rfl
theorem w188_73 {x : Int} : wp X d 188 73 ls [(0, x)] M Q ↔ Q (some (0, x)) M := q_ireturn (show mj_ins 188 73 = some (.ireturn, 1) from rfl) rfl
theorem w188_74 {x : Int} : wp X d 188 74 ((31, x) :: ls) st M Q ↔ wp X d 188 75 ((31, x) :: ls) ((31, x) :: st) M Q := q_aload_n (show mj_ins 188 74 = some (.aload_n 0, 1) from rfl) rfl rfl
theorem w188_75 {x : Int} : wp X d 188 75 ls ((31, x) :: st) M Q ↔ x ≠ 0 ∧ wp X d 188 78 ls ((30, hh M x 1) :: st) M Q := q_getfield (show mj_ins 188 75 = some (.getfield 19, 3) from rfl) rfl rfl rfl
theorem w188_78 {x : Int} : wp X d 188 78 ls ((30, x) :: st) M Q ↔ x ≠ 0 ∧ wp X d 188 81 ls ((0, hh M x 4) :: st) M Q := q_getfield (show mj_ins 188 78 = some (.getfield 225, 3) from rfl) rfl rfl rfl
theorem w188_81 {x : Int} : wp X d 188 81 ls [(0, x)] M Q ↔ Q (some (0, x)) M := q_ireturn (show mj_ins 188 81 = some (.ireturn, 1) from rfl) rfl
theorem w188_82 {x : Int} : wp X d 188 82 ((31, x) :: ls) st M Q ↔ wp X d 188 83 ((31, x) :: ls) ((31, x) :: st) M Q := q_aload_n (show mj_ins 188 82 = some (.aload_n 0, 1) from rfl) rfl rfl
theorem w188_83 {x : Int} : wp X d 188 83 ls ((31, x) :: st) M Q ↔ x ≠ 0 ∧ wp X d 188 86 ls ((30, hh M x 1) :: st) M Q := q_getfield (show mj_ins 188 83 = some (.getfield 19, 3) from rfl) rfl rfl rfl
theorem w188_86 {x : Int} : wp X d 188 86 ls ((30, x) :: st) M Q ↔ x ≠ 0 ∧ wp X d 188 89 ls ((0, hh M x 6) :: st) M Q := q_getfield (show mj_ins 188 86 = some (.getfield 112, 3) from rfl) rfl rfl rfl
theorem w188_89 {x : Int} : wp X d 188 89 ls [(0, x)] M Q ↔ Q (some (0, x)) M := q_ireturn (show mj_ins 188 89 = some (.ireturn, 1) from rfl) rfl
theorem w188_90 {x : Int} : wp X d 188 90 ((31, x) :: ls) st M Q ↔ wp X d 188 91 ((31, x) :: ls) ((31, x) :: st) M Q := q_aload_n (show mj_ins 188 90 = some (.aload_n 0, 1) from rfl) rfl rfl
theorem w188_91 {x : Int} : wp X d 188 91 ls ((31, x) :: st) M Q ↔ x ≠ 0 ∧ wp X d 188 94 ls ((30, hh M x 1) :: st) M Q := q_getfield (show mj_ins 188 91 = some (.getfield 19, 3) from rfl) rfl rfl rfl
theorem w188_94 {x : Int} : wp X d 188 94 ls ((30, x) :: st) M Q ↔ x ≠ 0 ∧ wp X d 188 97 ls ((0, hh M x 7) :: st) M Q := q_getfield (show mj_ins 188 94 = some (.getfield 133, 3) from rfl) rfl rfl rfl
theorem w188_97 {x : Int} : wp X d 188 97 ls [(0, x)] M Q ↔ Q (some (0, x)) M := q_ireturn (show mj_ins 188 97 = some (.ireturn, 1) from rfl) rfl
theorem w188_98 {x : Int} : wp X d 188 98 ((31, x) :: ls) st M Q ↔ wp X d 188 99 ((31, x) :: ls) ((31, x) :: st) M Q := q_aload_n (show mj_ins 188 98 = some (.aload_n 0, 1) from rfl) rfl rfl
theorem w188_99 {x : Int} : wp X d 188 99 ls ((31, x) :: st) M Q ↔ x ≠ 0 ∧ wp X d 188 102 ls ((30, hh M x 1) :: st) M Q := q_getfield (show mj_ins 188 99 = some (.getfield 19, 3) from rfl) rfl rfl rfl
theorem w188_102 {x : Int} : wp X d 188 102 ls ((30, x) :: st) M Q ↔ x ≠ 0 ∧ wp X d 188 105 ls ((0, hh M x 9) :: st) M Q := q_getfield (show mj_ins 188 102 = some (.getfield 353, 3) from rfl) rfl rfl rfl
theorem w188_105 {x : Int} : wp X d 188 105 ls [(0, x)] M Q ↔ Q (some (0, x)) M := q_ireturn (show mj_ins 188 105 = some (.ireturn, 1) from rfl) rfl
theorem w188_106 {x : Int} : wp X d 188 106 ((31, x) :: ls) st M Q ↔ wp X d 188 107 ((31, x) :: ls) ((31, x) :: st) M Q := q_aload_n (show mj_ins 188 106 = some (.aload_n 0, 1) from rfl) rfl rfl
theorem w188_107 {x : Int} : wp X d 188 107 ls ((31, x) :: st) M Q ↔ x ≠ 0 ∧ wp X d 188 110 ls ((30, hh M x 1) :: st) M Q := q_getfield (show mj_ins 188 107 = some (.getfield 19, 3) from rfl) rfl rfl rfl
theorem w188_110 {x : Int} : wp X d 188 110 ls ((30, x) :: st) M Q ↔ x ≠ 0 ∧ wp X d 188 113 ls ((27, hh M x 2) :: st) M Q := q_getfield (show mj_ins 188 110 = some (.getfield 44, 3) from rfl) rfl rfl rfl
theorem w188_113 {x : Int} : wp X d 188 113 ls ((27, x) :: st) M Q ↔ x ≠ 0 ∧ wp X d 188 116 ls ((0, hh M x 0) :: st) M Q := q_getfield (show mj_ins 188 113 = some (.getfield 356, 3) from rfl) rfl rfl rfl
theorem w188_116 {x : Int} : wp X d 188 116 ls [(0, x)] M Q ↔ Q (some (0, x)) M := q_ireturn (show mj_ins 188 116 = some (.ireturn, 1) from rfl) rfl
theorem w188_117 {x : Int} : wp X d 188 117 ((31, x) :: ls) st M Q ↔ wp X d 188 118 ((31, x) :: ls) ((31, x) :: st) M Q := q_aload_n (show mj_ins 188 117 = some (.aload_n 0, 1) from rfl) rfl rfl
theorem w188_118 {x : Int} : wp X d 188 118 ls ((31, x) :: st) M Q ↔ x ≠ 0 ∧ wp X d 188 121 ls ((30, hh M x 1) :: st) M Q := q_getfield (show mj_ins 188 118 = some (.getfield 19, 3) from rfl) rfl rfl rfl
theorem w188_121 {x : Int} : wp X d 188 121 ls ((30, x) :: st) M Q ↔ x ≠ 0 ∧ wp X d 188 124 ls ((27, hh M x 3) :: st) M Q := q_getfield (show mj_ins 188 121 = some (.getfield 325, 3) from rfl) rfl rfl rfl
theorem w188_124 {x : Int} : wp X d 188 124 ls ((27, x) :: st) M Q ↔ x ≠ 0 ∧ wp X d 188 127 ls ((0, hh M x 0) :: st) M Q := q_getfield (show mj_ins 188 124 = some (.getfield 356, 3) from rfl) rfl rfl rfl
theorem w188_127 {x : Int} : wp X d 188 127 ls [(0, x)] M Q ↔ Q (some (0, x)) M := q_ireturn (show mj_ins 188 127 = some (.ireturn, 1) from rfl) rfl
theorem w188_128 {x : Int} : wp X d 188 128 ((31, x) :: ls) st M Q ↔ wp X d 188 129 ((31, x) :: ls) ((31, x) :: st) M Q := q_aload_n (show mj_ins 188 128 = some (.aload_n 0, 1) from rfl) rfl rfl
theorem w188_129 {x : Int} : wp X d 188 129 ls ((31, x) :: st) M Q ↔ x ≠ 0 ∧ wp X d 188 132 ls ((0, hh M x 9) :: st) M Q := q_getfield (show mj_ins 188 129 = some (.getfield 77, 3) from rfl) rfl rfl rfl
theorem w188_132 {x : Int} : wp X d 188 132 ls [(0, x)] M Q ↔ Q (some (0, x)) M := q_ireturn (show mj_ins 188 132 = some (.ireturn, 1) from rfl) rfl
theorem w188_133 : wp X d 188 133 ls st M Q ↔ wp X d 188 135 ls ((0, (-2)) :: st) M Q := q_bipush (show mj_ins 188 133 = some (.bipush (-2), 2) from rfl) (by decide)
theorem w188_135 {x : Int} : wp X d 188 135 ls [(0, x)] M Q ↔ Q (some (0, x)) M := q_ireturn (show mj_ins 188 135 = some (.ireturn, 1) from rfl) rfl
end PC
