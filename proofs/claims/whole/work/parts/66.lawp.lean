/-! LAWS: what they say (pure), places with lookupswitch -/
section Lsw
variable {X : mj_X} {d : Nat} {ls st : List mj_V} {M : mj_M} {Q : Option mj_V → mj_M → Prop}
theorem w87_1 {x : Int} : wp X d 87 1 ls ((0, x) :: st) M Q ↔ if x = 17 then wp X d 87 28 ls st M Q else if x = 42 then wp X d 87 36 ls st M Q else wp X d 87 39 ls st M Q := by
  by_cases h1 : x = 17
  · subst h1; rw [if_pos rfl]; exact wp_go (show mj_ins 87 1 = some (.lookupswitch 38 #[(17, 27), (42, 35)], 27) from rfl) rfl rfl rfl
  · rw [if_neg h1]
    by_cases h2 : x = 42
    · subst h2; rw [if_pos rfl]; exact wp_go (show mj_ins 87 1 = some (.lookupswitch 38 #[(17, 27), (42, 35)], 27) from rfl) rfl rfl rfl
    · rw [if_neg h2]
      refine wp_go (show mj_ins 87 1 = some (.lookupswitch 38 #[(17, 27), (42, 35)], 27) from rfl) rfl rfl ?_
      have e : Op.lookupswitch.offset [(17, 27), (42, 35)] 38 x = 38 := by
        rw [Op.lookupswitch.offset_cons, if_neg (by omega), Op.lookupswitch.offset_cons, if_neg (by omega), Op.lookupswitch.offset_nil]
      show mj_to 1 (Op.lookupswitch.offset [(17, 27), (42, 35)] 38 x) ls st M = _
      rw [e]
      rfl
theorem w67_12 {x : Int} : wp X d 67 12 ls ((0, x) :: st) M Q ↔ if x = 2 then wp X d 67 56 ls st M Q else if x = 4 then wp X d 67 79 ls st M Q else if x = 6 then wp X d 67 104 ls st M Q else if x = 12 then wp X d 67 115 ls st M Q else wp X d 67 126 ls st M Q := by
  have hi : mj_ins 67 12 = some (.lookupswitch 114 #[(2, 44), (4, 67), (6, 92), (12, 103)], 44) := rfl
  by_cases h1 : x = 2
  · subst h1; rw [if_pos rfl]; exact wp_go hi rfl rfl rfl
  rw [if_neg h1]
  by_cases h2 : x = 4
  · subst h2; rw [if_pos rfl]; exact wp_go hi rfl rfl rfl
  rw [if_neg h2]
  by_cases h3 : x = 6
  · subst h3; rw [if_pos rfl]; exact wp_go hi rfl rfl rfl
  rw [if_neg h3]
  by_cases h4 : x = 12
  · subst h4; rw [if_pos rfl]; exact wp_go hi rfl rfl rfl
  rw [if_neg h4]
  refine wp_go hi rfl rfl ?_
  have e : Op.lookupswitch.offset [(2, 44), (4, 67), (6, 92), (12, 103)] 114 x = 114 := by
    rw [Op.lookupswitch.offset_cons, if_neg (by omega), Op.lookupswitch.offset_cons, if_neg (by omega), Op.lookupswitch.offset_cons, if_neg (by omega), Op.lookupswitch.offset_cons, if_neg (by omega), Op.lookupswitch.offset_nil]
  show mj_to 12 (Op.lookupswitch.offset [(2, 44), (4, 67), (6, 92), (12, 103)] 114 x) ls st M = _
  rw [e]
  rfl
end Lsw
theorem tdiv_r {x y c : Int} (h : -c ≤ x ∧ x ≤ c) : -c ≤ x.tdiv y ∧ x.tdiv y ≤ c := by
  have h1 := Int.natAbs_tdiv_le_natAbs x y
  omega
theorem clp_r (v : Int) : -1000000 ≤ clp v ∧ clp v ≤ 1000000 := by
  unfold clp
  repeat' split
  all_goals omega
theorem clp_id {v : Int} (h : -1000000 ≤ v ∧ v ≤ 1000000) : clp v = v := by
  unfold clp
  rw [if_neg (by omega), if_neg (by omega)]
theorem b2_01 (p : Prop) [Decidable p] : b2 p = 0 ∨ b2 p = 1 := by
  unfold b2
  split
  · exact Or.inr rfl
  · exact Or.inl rfl
/-- what is named is small -/
def EnvOk (E : Env) : Prop := (∀ k : Nat, k < 8 → -1000000 ≤ E.1 k ∧ E.1 k ≤ 1000000) ∧ ∀ v, 0 ≤ E.2 v ∧ E.2 v ≤ 1000000
theorem v1_r {o : Nat} {E : Env} {a : Int} (ho : o < 4) (hE : EnvOk E) (ha : -1000000 ≤ a ∧ a ≤ 1000000) : (-1000000 ≤ v1 o E a ∧ v1 o E a ≤ 1000000) ∧ (o = 3 → v1 o E a = 0 ∨ v1 o E a = 1) := by
  have h2 := hE.2 a
  unfold v1
  rcases (show o = 0 ∨ o = 1 ∨ o = 2 ∨ o = 3 by omega) with rfl | rfl | rfl | rfl
  · refine ⟨?_, fun h => by omega⟩
    simp only [if_true]
    split <;> omega
  · exact ⟨by simp only [Nat.reduceEqDiff, if_false, if_true]; omega, fun h => by omega⟩
  · exact ⟨by simp only [Nat.reduceEqDiff, if_false, if_true]; omega, fun h => by omega⟩
  · simp only [Nat.reduceEqDiff, if_false]
    split <;> simp
theorem v2_r {o : Nat} {a b : Int} (ha : -1000000 ≤ a ∧ a ≤ 1000000) : (-1000000 ≤ v2 o a b ∧ v2 o a b ≤ 1000000) ∧ (4 ≤ o → v2 o a b = 0 ∨ v2 o a b = 1) := by
  have hb : ∀ (p : Prop) [Decidable p], (-1000000 ≤ b2 p ∧ b2 p ≤ 1000000) ∧ (4 ≤ o → b2 p = 0 ∨ b2 p = 1) := fun p _ => by
    have := b2_01 p
    exact ⟨by omega, fun _ => this⟩
  unfold v2
  by_cases h0 : o = 0
  · rw [if_pos h0]; exact ⟨clp_r _, fun h => by omega⟩
  rw [if_neg h0]
  by_cases h1 : o = 1
  · rw [if_pos h1]; exact ⟨clp_r _, fun h => by omega⟩
  rw [if_neg h1]
  by_cases h2 : o = 2
  · rw [if_pos h2]; exact ⟨clp_r _, fun h => by omega⟩
  rw [if_neg h2]
  by_cases h3 : o = 3
  · rw [if_pos h3]
    refine ⟨?_, fun h => by omega⟩
    split
    · decide
    · exact tdiv_r ha
  rw [if_neg h3]
  repeat' split
  all_goals exact hb _
theorem Ex_r : ∀ (n : Nat) (b : Int) (cl : List Int) (rl : List (Int × Int)) (t : Bool) (hg : Nat) (f : Env → Int), Ex n b cl rl t hg f → ∀ E, EnvOk E → (-1000000 ≤ f E ∧ f E ≤ 1000000) ∧ (t = true → f E = 0 ∨ f E = 1)
  | 0, _, _, _, _, _, _, h, _, _ => h.elim
  | n + 1, b, cl, rl, t, hg, f, h, E, hE => by
    rcases h with ⟨v, v0, v9, _, _, ht, _, hf⟩ | ⟨k, hk, _, _, ht, _, hf⟩ | ⟨o, cl1, rl1, f1, ho, hto, _, _, hf, h1⟩ | ⟨o, cl1, cl2, rl1, rl2, f1, f2, ho, hto, _, _, hf, h1, h2, _, h3⟩ | ⟨c1, c2, c3, r1, r2, r3, f1, f2, f3, ht, _, _, hf, h1, h2, h3⟩
    · subst hf; subst ht
      exact ⟨by show -1000000 ≤ v ∧ v ≤ 1000000; omega, fun h => by cases h⟩
    · subst hf; subst ht
      exact ⟨hE.1 k hk, fun h => by cases h⟩
    · subst hf
      have := v1_r ho hE (Ex_r n _ _ _ _ _ _ h1 E hE).1
      exact ⟨this.1, fun h => this.2 (hto.mp h)⟩
    · subst hf
      have := v2_r (o := o) (b := f2 E) (Ex_r n _ _ _ _ _ _ h1 E hE).1
      exact ⟨this.1, fun h => this.2 (hto.mp h)⟩
    · subst hf; subst ht
      refine ⟨?_, fun h => by cases h⟩
      show -1000000 ≤ (if f1 E = 0 then f3 E else f2 E) ∧ (if f1 E = 0 then f3 E else f2 E) ≤ 1000000
      split
      · exact (Ex_r n _ _ _ _ _ _ h3 E hE).1
      · exact (Ex_r n _ _ _ _ _ _ h2 E hE).1
theorem Ex_len : ∀ (n : Nat) (b : Int) (cl : List Int) (rl : List (Int × Int)) (t : Bool) (hg : Nat) (f : Env → Int), Ex n b cl rl t hg f → 1 ≤ cl.length ∧ 1 ≤ rl.length
  | 0, _, _, _, _, _, _, h => h.elim
  | n + 1, b, cl, rl, t, hg, f, h => by
    rcases h with ⟨v, v0, v9, e1, e2, ht, _, hf⟩ | ⟨k, hk, e1, e2, ht, _, hf⟩ | ⟨o, cl1, rl1, f1, ho, hto, e1, e2, hf, h1⟩ | ⟨o, cl1, cl2, rl1, rl2, f1, f2, ho, hto, e1, e2, hf, h1, h2, _, h3⟩ | ⟨c1, c2, c3, r1, r2, r3, f1, f2, f3, ht, e1, e2, hf, h1, h2, h3⟩
    all_goals subst e1; subst e2; simp
    all_goals omega
theorem Ex_hg0 : ∀ (n : Nat) (b : Int) (cl : List Int) (rl : List (Int × Int)) (t : Bool) (f : Env → Int), ¬ Ex n b cl rl t 0 f
  | 0, _, _, _, _, _, h => h.elim
  | n + 1, b, cl, rl, t, f, h => by
    rcases h with ⟨v, v0, v9, e1, e2, ht, hg, hf⟩ | ⟨k, hk, e1, e2, ht, hg, hf⟩ | ⟨o, cl1, rl1, f1, ho, hto, e1, e2, hf, h1⟩ | ⟨o, cl1, cl2, rl1, rl2, f1, f2, ho, hto, e1, e2, hf, h1, h2, hg, h3⟩ | ⟨c1, c2, c3, r1, r2, r3, f1, f2, f3, ht, e1, e2, hf, h1, h2, h3⟩
    · omega
    · omega
    · exact Ex_hg0 n _ _ _ _ _ h1
    · omega
    · exact Ex_hg0 n _ _ _ _ _ h1
/-- who knows form f in a moment: bits -/
def kwm (m : Mom) (f : Int) : Nat := bt (fun q => decide (ji_and (ji_shr (m.ps (q : Int) 1) f) 1 = 1)) m.P.toNat
theorem kwm_lt {F : Int} {m : Mom} (h : MI F m) (f : Int) : kwm m f < 64 := by
  have h1 := bt_lt (fun q => decide (ji_and (ji_shr (m.ps (q : Int) 1) f) 1 = 1)) m.P.toNat
  have h2 := Nat.pow_le_pow_right (n := 2) (by decide) (show m.P.toNat ≤ 6 by have := h.p6; omega)
  unfold kwm
  omega
/-- what is named at a moment: of the row A just the forms -/
def envA (A : Int → Int) (m : Mom) (p f : Int) : Env := (fun k => if k = 0 then m.y else if k = 1 then f else if k = 2 then A (41 + 2 * f) else if k = 3 then A (42 + 2 * f) else if k = 4 then m.ps p 0 else if k = 5 then p else if k = 6 then pcI (m.ps p 1) else m.ps p 2, fun v => if 0 ≤ v ∧ v < 8 then pcI (kwm m v : Int) else 0)
theorem envA_ok {A : Int → Int} {m : Mom} {p f : Int} (h : MI (A 0) m) (h8 : A 0 ≤ 8) (hp : 0 ≤ p ∧ p < m.P) (hf : 0 ≤ f ∧ f < 8) (hk : 0 ≤ A (41 + 2 * f) ∧ A (41 + 2 * f) ≤ 4) (hl : 0 ≤ A (42 + 2 * f) ∧ A (42 + 2 * f) ≤ 9) : EnvOk (envA A m p f) := by
  have y0 := h.y0; have y9 := h.y9; have p6 := h.p6
  have a := h.a p hp.1 hp.2
  have k := h.k p hp.1 hp.2
  have b := h.b p hp.1 hp.2
  have w := pw8 h8
  have c0 := pc_0 (v := m.ps p 1) ⟨by omega, by omega⟩
  have c8 := pc_8 (v := m.ps p 1) ⟨by omega, by omega⟩
  refine ⟨fun k hk => ?_, fun v => ?_⟩
  · unfold envA
    simp only
    repeat' split
    all_goals omega
  · unfold envA
    simp only
    split
    · have hl := kwm_lt h v
      have c0 := pc_0 (v := (kwm m v : Int)) ⟨by omega, by omega⟩
      have c8 := pc_8 (v := (kwm m v : Int)) ⟨by omega, by omega⟩
      omega
    · decide
/-- a law, or none -/
def fdV (L : Option (Env → Int)) (E : Env) : Int := match L with | none => E.1 4 / 20 | some F => if F E < 0 then 0 else if 10 < F E then 10 else F E
def leV (L : Option (Env → Int)) (E : Env) : Int := match L with | none => 1 | some F => if F E < -99 then -99 else if 99 < F E then 99 else F E
def isLaw (M : mj_M) (r rk j s fo : Int) (L : Option (Env → Int)) : Prop :=
  (L = none ∧ hh M r fo = -1 ∧ ∀ k, 0 ≤ k → k < hh M 357 (705 * j) → hh M 357 (705 * j + 1 + 4 * k) ≠ s) ∨
  ∃ f, L = some f ∧ ∃ k, (0 ≤ k ∧ k < hh M 357 (705 * j)) ∧ hh M 357 (705 * j + 1 + 4 * k) = s ∧ (∀ i, 0 ≤ i → i < k → hh M 357 (705 * j + 1 + 4 * i) ≠ s) ∧
    ∃ n cl rl, Ex n (hh M r fo) cl rl false 64 f ∧ 0 ≤ hh M r fo ∧ hh M r (fo + 1) = hh M r fo + cl.length ∧ hh M r (fo + 1) ≤ hl M rk ∧ stands (hh M rk) (hh M r fo) cl ∧
      0 ≤ hh M 357 (705 * j + 1 + 4 * k + 1) ∧ hh M 357 (705 * j + 1 + 4 * k + 2) = hh M 357 (705 * j + 1 + 4 * k + 1) + rl.length ∧ hh M 357 (705 * j + 1 + 4 * k + 2) ≤ 300 ∧ stands2 (hh M 357) (705 * j + 97 + 2 * hh M 357 (705 * j + 1 + 4 * k + 1)) rl
theorem LawR.is {M : mj_M} {r rk j s fo : Int} (h : LawR M r rk j s fo) : ∃ L, isLaw M r rk j s fo L := by
  rcases h with h | ⟨k, hk, h1, h2, n, cl, rl, f, h3⟩
  · exact ⟨none, Or.inl ⟨rfl, h⟩⟩
  · exact ⟨some f, Or.inr ⟨f, rfl, k, hk, h1, h2, n, cl, rl, h3⟩⟩
theorem isLaw.keep {M M1 : mj_M} {r rk j s fo : Int} {L : Option (Env → Int)} (h : isLaw M r rk j s fo L) (k1 : ∀ j, hh M1 357 j = hh M 357 j) (k2 : ∀ j, hh M1 r j = hh M r j) (k3 : ∀ j, hh M1 rk j = hh M rk j) (k4 : hl M1 rk = hl M rk) : isLaw M1 r rk j s fo L := by
  have e1 : hh M1 357 = hh M 357 := funext k1
  have e2 : hh M1 r = hh M r := funext k2
  have e3 : hh M1 rk = hh M rk := funext k3
  unfold isLaw at h ⊢
  rw [e1, e2, e3, k4]
  exact h
theorem fdV_r {L : Option (Env → Int)} {E : Env} (h : 0 ≤ E.1 4 ∧ E.1 4 ≤ 99) : 0 ≤ fdV L E ∧ fdV L E ≤ 10 := by
  unfold fdV
  cases L with
  | none => simp only; omega
  | some F =>
    simp only
    repeat' split
    all_goals omega
