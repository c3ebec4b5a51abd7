/-! TEXT: tokens (pure) -/
/-- just the places lo .. hi of the cell z are changed -/
def Ko (z lo hi : Int) (M M1 : mj_M) : Prop := (∀ x j, ¬ (x = z ∧ lo ≤ j ∧ j ≤ hi) → hh M1 x j = hh M x j) ∧ (∀ x, hl M1 x = hl M x) ∧ (M1.1 = M.1) ∧ (M1.2.1 = M.2.1)
theorem Ko.h {z lo hi : Int} {M M1 : mj_M} (h : Ko z lo hi M M1) : ∀ x j, ¬ (x = z ∧ lo ≤ j ∧ j ≤ hi) → hh M1 x j = hh M x j := h.1
theorem Ko.l {z lo hi : Int} {M M1 : mj_M} (h : Ko z lo hi M M1) : ∀ x, hl M1 x = hl M x := h.2.1
theorem Ko.n {z lo hi : Int} {M M1 : mj_M} (h : Ko z lo hi M M1) : M1.1 = M.1 := h.2.2.1
theorem Ko.s {z lo hi : Int} {M M1 : mj_M} (h : Ko z lo hi M M1) : M1.2.1 = M.2.1 := h.2.2.2
theorem Ko.rfl' {z lo hi : Int} {M : mj_M} : Ko z lo hi M M := ⟨fun _ _ _ => rfl, fun _ => rfl, rfl, rfl⟩
theorem Ko.tr {z lo hi : Int} {M M1 M2 : mj_M} (a : Ko z lo hi M M1) (b : Ko z lo hi M1 M2) : Ko z lo hi M M2 := ⟨fun x j h => (b.h x j h).trans (a.h x j h), fun x => (b.l x).trans (a.l x), b.n.trans a.n, b.s.trans a.s⟩
theorem Ko.wr {z lo hi : Int} {M M1 : mj_M} {i v : Int} (f : Ko z lo hi M M1) (h : lo ≤ i ∧ i ≤ hi) : Ko z lo hi M (mj_wr M1 z i v) := ⟨fun x j g => by
  rw [hh_wr, if_neg]
  · exact f.h x j g
  · rintro ⟨e1, e2⟩
    subst e1; subst e2
    exact g ⟨rfl, h⟩, f.l, f.n, f.s⟩
theorem Ko.fz {z lo hi : Int} {M M1 : mj_M} {zs : List Nat} (f : Ko z lo hi M M1) (h : ∀ j, lo ≤ j → j ≤ hi → zone z j ∈ zs) : fz zs M M1 := ⟨fun x j g => f.h x j (by
  rintro ⟨e1, e2, e3⟩
  subst e1
  exact g (h j e2 e3)), f.l, f.n, f.s⟩
/-- as far as c holds, below L -/
def rnF (c : Int → Bool) (L : Int) : Nat → Int → Int
  | 0, a => a
  | n + 1, a => if a < L ∧ c a = true then rnF c L n (a + 1) else a
def rn (c : Int → Bool) (L a : Int) : Int := rnF c L (L - a).toNat a
theorem rn_go {c : Int → Bool} {L a : Int} (h : a < L) (hc : c a = true) : rn c L a = rn c L (a + 1) := by
  unfold rn
  obtain ⟨n, hn⟩ : ∃ n, (L - a).toNat = n + 1 := ⟨(L - a).toNat - 1, by omega⟩
  rw [hn, rnF, if_pos ⟨h, hc⟩, show (L - (a + 1)).toNat = n by omega]
theorem rn_stop {c : Int → Bool} {L a : Int} (h : ¬ (a < L ∧ c a = true)) : rn c L a = a := by
  unfold rn
  cases (L - a).toNat with
  | zero => rfl
  | succ n => rw [rnF, if_neg h]
theorem rn_spec (c : Int → Bool) (L : Int) : ∀ (n : Nat) (a : Int), (L - a).toNat = n → a ≤ L → a ≤ rn c L a ∧ rn c L a ≤ L ∧ (∀ i, a ≤ i → i < rn c L a → c i = true) ∧ ¬ (rn c L a < L ∧ c (rn c L a) = true) := by
  intro n
  induction n with
  | zero =>
    intro a hn ha
    have : a = L := by omega
    subst this
    rw [rn_stop (by omega)]
    exact ⟨Int.le_refl _, Int.le_refl _, fun i h1 h2 => by omega, by omega⟩
  | succ n ih =>
    intro a hn ha
    by_cases h : a < L ∧ c a = true
    · rw [rn_go h.1 h.2]
      obtain ⟨q1, q2, q3, q4⟩ := ih (a + 1) (by omega) (by omega)
      refine ⟨by omega, q2, fun i h1 h2 => ?_, q4⟩
      by_cases e : i = a
      · rw [e]; exact h.2
      · exact q3 i (by omega) h2
    · rw [rn_stop h]
      exact ⟨Int.le_refl _, ha, fun i h1 h2 => by omega, h⟩
abbrev ltp (x : Int) : Prop := (97 ≤ x ∧ x ≤ 122) ∨ (65 ≤ x ∧ x ≤ 90)
abbrev dgp (x : Int) : Prop := 48 ≤ x ∧ x ≤ 57
abbrev spp (x : Int) : Prop := x = 32 ∨ x = 10
def spc (T : Int → Int) : Int → Bool := fun i => decide (spp (T i))
def ltc (T : Int → Int) : Int → Bool := fun i => decide (ltp (T i))
def dgc (T : Int → Int) : Int → Bool := fun i => decide (dgp (T i))
/-- where the token behind a begins -/
def tS (T : Int → Int) (L a : Int) : Int := rn (spc T) L a
/-- two signs in one -/
abbrev dbl (T : Int → Int) (L s : Int) : Prop := (T s = 60 ∨ T s = 62) ∧ s + 1 < L ∧ T (s + 1) = 61
/-- where it ends -/
def tE (T : Int → Int) (L a : Int) : Int := if L ≤ tS T L a then tS T L a else if ltp (T (tS T L a)) then rn (ltc T) L (tS T L a) else if dgp (T (tS T L a)) then rn (dgc T) L (tS T L a) else if dbl T L (tS T L a) then tS T L a + 2 else tS T L a + 1
/-- the reference's number of a word's first n letters -/
def rwv (T : Int → Int) (s : Int) : Nat → Int
  | 0 => 0
  | n + 1 => if 281474976710656 ≤ rwv T s n then 1152921504606846976 else rwv T s n * 256 + T (s + n)
/-- the words' numbers -/
def PL : List Int := [439720633715, 119182682386035, 1718579821, 119182899770472, 123581014175598, 461414299507, 495874699897, 499917087592, 25209, 29807, 112628846781812, 1952803948, 2036687218, 1802071652, 6383461, 7825519, 108243466679400, 1751215206, 461414299502, 26982, 1952998766, 1701606245, 6647396, 28530, 6385252, 7237492]
def fxi (v : Int) : Int → List Int → Int
  | _, [] => 41
  | k, p :: r => if v = p then k else fxi v (k + 1) r
def wtk (v : Int) : Int := fxi v 0 PL
theorem wtk_k : ∀ k : Nat, k < 26 → wtk (PL.getD k 0) = (k : Int) := by decide +kernel
theorem wtk_r (v : Int) : (∃ k : Nat, k < 26 ∧ v = PL.getD k 0 ∧ wtk v = (k : Int)) ∨ ((∀ k : Nat, k < 26 → v ≠ PL.getD k 0) ∧ wtk v = 41) := by
  have key : ∀ (l : List Int) (j : Int), (∃ k : Nat, k < l.length ∧ v = l.getD k 0 ∧ fxi v j l = j + (k : Int)) ∨ ((∀ k : Nat, k < l.length → v ≠ l.getD k 0) ∧ fxi v j l = 41) := by
    intro l
    induction l with
    | nil => intro j; exact Or.inr ⟨fun k hk => absurd hk (Nat.not_lt_zero _), rfl⟩
    | cons p r ih =>
      intro j
      by_cases h : v = p
      · exact Or.inl ⟨0, Nat.succ_pos _, h, by rw [fxi, if_pos h]; simp⟩
      · rcases ih (j + 1) with ⟨k, h1, h2, h3⟩ | ⟨h1, h2⟩
        · exact Or.inl ⟨k + 1, Nat.succ_lt_succ h1, h2, by rw [fxi, if_neg h, h3]; omega⟩
        · refine Or.inr ⟨fun k hk => ?_, by rw [fxi, if_neg h, h2]⟩
          cases k with
          | zero => exact h
          | succ k => exact h1 k (Nat.lt_of_succ_lt_succ hk)
  rcases key PL 0 with ⟨k, h1, h2, h3⟩ | ⟨h1, h2⟩
  · exact Or.inl ⟨k, h1, h2, by unfold wtk; rw [h3]; omega⟩
  · exact Or.inr ⟨fun k hk => h1 k hk, h2⟩
/-- the class's number of a sign -/
def sgi (x : Int) : Int := if x = 60 then 0 else if x = 62 then 1 else if x = 61 then 2 else if x = 35 then 3 else if x = 43 then 4 else if x = 45 then 5 else if x = 42 then 6 else if x = 47 then 7 else if x = 40 then 8 else if x = 41 then 9 else if x = 59 then 10 else -1
def sgk (x : Int) : Int := if sgi x < 0 then 41 else 26 + sgi x
/-- the token behind a, the class's number of it -/
def tK (T : Int → Int) (L a : Int) : Int := if L ≤ tS T L a then 40 else if ltp (T (tS T L a)) then wtk (rwv T (tS T L a) (tE T L a - tS T L a).toNat) else if dgp (T (tS T L a)) then 39 else if dbl T L (tS T L a) then (if T (tS T L a) = 60 then 37 else 38) else sgk (T (tS T L a))
/-- a number, at most 10000 -/
def nvl (T : Int → Int) (s : Int) : Nat → Int
  | 0 => 0
  | n + 1 => if nvl T s n * 10 + T (s + n) - 48 ≤ 10000 then nvl T s n * 10 + T (s + n) - 48 else 10000
def fgv (T : Int → Int) (s : Int) : Nat → Int
  | 0 => 0
  | n + 1 => if 99999 < fgv T s n then fgv T s n else 10 * fgv T s n + T (s + n) - 48
def tV (T : Int → Int) (L a : Int) : Int := nvl T (tS T L a) (tE T L a - tS T L a).toNat
theorem nf_rel (T : Int → Int) (s : Int) : ∀ n : Nat, (∀ i : Nat, i < n → dgp (T (s + i))) → (nvl T s n = fgv T s n ∧ 0 ≤ fgv T s n ∧ fgv T s n ≤ 9999) ∨ (nvl T s n = 10000 ∧ 10000 ≤ fgv T s n ∧ fgv T s n ≤ 1000000)
  | 0, _ => Or.inl ⟨rfl, Int.le_refl _, show (0 : Int) ≤ 9999 by decide⟩
  | n + 1, h => by
    have ih := nf_rel T s n (fun i hi => h i (by omega))
    have hd := h n (by omega)
    unfold nvl fgv
    rcases ih with ⟨h1, h2, h3⟩ | ⟨h1, h2, h3⟩
    · rw [if_neg (show ¬ 99999 < fgv T s n by omega)]
      by_cases g : nvl T s n * 10 + T (s + n) - 48 ≤ 10000
      · rw [if_pos g]; omega
      · rw [if_neg g]; omega
    · rw [if_neg (show ¬ nvl T s n * 10 + T (s + n) - 48 ≤ 10000 by omega)]
      refine Or.inr ⟨rfl, ?_, ?_⟩
      · split <;> omega
      · split <;> omega
/-- what is true of a tape -/
def Tz (T : Int → Int) (L : Int) : Prop := (0 ≤ L) ∧ (L ≤ 300) ∧ (∀ i, 0 ≤ i → i < L → 0 ≤ T i ∧ T i ≤ 255)
theorem Tz.l0 {T : Int → Int} {L : Int} (h : Tz T L) : 0 ≤ L := h.1
theorem Tz.l9 {T : Int → Int} {L : Int} (h : Tz T L) : L ≤ 300 := h.2.1
theorem Tz.b {T : Int → Int} {L : Int} (h : Tz T L) : ∀ i, 0 ≤ i → i < L → 0 ≤ T i ∧ T i ≤ 255 := h.2.2
theorem tS_r {T : Int → Int} {L a : Int} (h : a ≤ L) : a ≤ tS T L a ∧ tS T L a ≤ L := by
  obtain ⟨q1, q2, q3, q4⟩ := rn_spec (spc T) L _ a rfl h
  exact ⟨q1, q2⟩
theorem tE_r {T : Int → Int} {L a : Int} (h : a ≤ L) : tS T L a ≤ tE T L a ∧ tE T L a ≤ L ∧ (tS T L a < L → tS T L a < tE T L a) := by
  have hs := tS_r (T := T) h
  unfold tE
  by_cases h1 : L ≤ tS T L a
  · rw [if_pos h1]; omega
  rw [if_neg h1]
  by_cases h2 : ltp (T (tS T L a))
  · rw [if_pos h2]
    rw [rn_go (by omega) (show ltc T (tS T L a) = true from decide_eq_true h2)]
    obtain ⟨q1, q2, q3, q4⟩ := rn_spec (ltc T) L _ (tS T L a + 1) rfl (by omega)
    omega
  rw [if_neg h2]
  by_cases h3 : dgp (T (tS T L a))
  · rw [if_pos h3]
    rw [rn_go (by omega) (show dgc T (tS T L a) = true from decide_eq_true h3)]
    obtain ⟨q1, q2, q3, q4⟩ := rn_spec (dgc T) L _ (tS T L a + 1) rfl (by omega)
    omega
  rw [if_neg h3]
  split <;> omega
theorem sgk_ne (x : Int) : (26 ≤ sgk x ∧ sgk x ≤ 36) ∨ sgk x = 41 := by
  unfold sgk sgi
  repeat' split
  all_goals omega
theorem tK_40 {T : Int → Int} {L a : Int} : tK T L a = 40 ↔ L ≤ tS T L a := by
  unfold tK
  by_cases h1 : L ≤ tS T L a
  · simp [h1]
  · rw [if_neg h1]
    refine ⟨fun h => ?_, fun h => absurd h h1⟩
    exfalso
    revert h
    by_cases h2 : ltp (T (tS T L a))
    · rw [if_pos h2]
      rcases wtk_r (rwv T (tS T L a) (tE T L a - tS T L a).toNat) with ⟨k, hk, _, e⟩ | ⟨_, e⟩
      · rw [e]; omega
      · rw [e]; omega
    rw [if_neg h2]
    by_cases h3 : dgp (T (tS T L a))
    · rw [if_pos h3]; omega
    rw [if_neg h3]
    by_cases h4 : dbl T L (tS T L a)
    · rw [if_pos h4]; split <;> omega
    rw [if_neg h4]
    have := sgk_ne (T (tS T L a))
    omega
/-- a token that isn't the end takes room -/
theorem tE_lt {T : Int → Int} {L a : Int} (h : a ≤ L) (hk : tK T L a ≠ 40) : a < tE T L a ∧ tE T L a ≤ L := by
  have h1 := tS_r (T := T) h
  have h2 := tE_r (T := T) h
  have h3 := (not_congr (tK_40 (T := T) (L := L) (a := a))).mp hk
  omega
