/-! LEAST: the search and the ways (pure) -/
def kS (r : Nat) : Int := 19 - (r : Int)
/-- the reference's search from saying 20 - r on: cost a, depth e, what is left (lo, hi), the best yet -/
def bb (c : Int → Int) : Nat → Int → Int → Int → Int → Int × Int → Int × Int
  | 0, _, _, _, _, V => V
  | r + 1, a, e, lo, hi, V =>
    if 0 < c (kT (kS r)) ∧ (a + c (kT (kS r)) < V.1 ∨ (a + c (kT (kS r)) = V.1 ∧ e + 1 < V.2)) then
      (if jl_and lo (lT (kS r)) = 1 ∧ jl_and hi (gT (kS r)) = 0 then bb c r a e lo hi (a + c (kT (kS r)), e + 1)
       else bb c r a e lo hi (bb c r (a + c (kT (kS r))) (e + 1) (jl_and lo (lT (kS r))) (jl_and hi (gT (kS r))) V))
    else bb c r a e lo hi V
/-- some of the sayings from 20 - r on leave order 0 alone; s: 100 times what they cost, and how many -/
def Rc (c : Int → Int) : Nat → Int → Int → Int → Prop
  | 0, _, _, _ => False
  | r + 1, lo, hi, s => Rc c r lo hi s ∨ (0 < c (kT (kS r)) ∧ ((jl_and lo (lT (kS r)) = 1 ∧ jl_and hi (gT (kS r)) = 0 ∧ s = 100 * c (kT (kS r)) + 1) ∨ Rc c r (jl_and lo (lT (kS r))) (jl_and hi (gT (kS r))) (s - (100 * c (kT (kS r)) + 1))))
def vl (V : Int × Int) : Int := 100 * V.1 + V.2
def VI (V : Int × Int) : Prop := (0 ≤ V.1 ∧ V.1 ≤ 1000 ∧ 0 ≤ V.2 ∧ V.2 ≤ 20) ∨ V = (1000000, 1000000)
theorem Rc_pos {c : Int → Int} : ∀ (r : Nat) (lo hi s : Int), Rc c r lo hi s → 1 ≤ s
  | 0, _, _, _, h => h.elim
  | r + 1, lo, hi, s, h => by
    rcases h with h | ⟨h0, ⟨_, _, h⟩ | h⟩
    · exact Rc_pos r lo hi s h
    · omega
    · have := Rc_pos r _ _ _ h
      omega
theorem bb_ok {c : Int → Int} (hc : ∀ k, 0 ≤ k → k ≤ 4 → 0 ≤ c k ∧ c k ≤ 9) : ∀ (r : Nat) (a e lo hi : Int) (V : Int × Int), 0 ≤ e → e + r ≤ 20 → 0 ≤ a → a ≤ 9 * e → VI V → VI (bb c r a e lo hi V) ∧ vl (bb c r a e lo hi V) ≤ vl V ∧ (bb c r a e lo hi V = V ∨ Rc c r lo hi (vl (bb c r a e lo hi V) - (100 * a + e))) ∧ ∀ s, Rc c r lo hi s → vl (bb c r a e lo hi V) ≤ 100 * a + e + s := by
  intro r
  induction r with
  | zero =>
    intro a e lo hi V h1 h2 h3 h4 hV
    exact ⟨hV, Int.le_refl _, Or.inl rfl, fun s hs => hs.elim⟩
  | succ r ih =>
    intro a e lo hi V h1 h2 h3 h4 hV
    have kr := kT_r (kS r)
    have cr := hc _ kr.1 kr.2
    rw [bb]
    generalize hck : c (kT (kS r)) = ck at *
    have hVI : (0 ≤ V.1 ∧ V.1 ≤ 1000 ∧ 0 ≤ V.2 ∧ V.2 ≤ 20) ∨ (V.1 = 1000000 ∧ V.2 = 1000000) := by
      rcases hV with h | h
      · exact Or.inl h
      · exact Or.inr (by rw [h]; exact ⟨rfl, rfl⟩)
    by_cases hcd : 0 < ck ∧ (a + ck < V.1 ∨ (a + ck = V.1 ∧ e + 1 < V.2))
    · rw [if_pos hcd]
      have hlt : 100 * (a + ck) + (e + 1) < vl V := by
        unfold vl
        rcases hVI with h | h <;> omega
      by_cases hp : jl_and lo (lT (kS r)) = 1 ∧ jl_and hi (gT (kS r)) = 0
      · rw [if_pos hp]
        obtain ⟨g1, g2, g3, g4⟩ := ih a e lo hi (a + ck, e + 1) h1 (by omega) h3 h4 (Or.inl ⟨by show 0 ≤ a + ck; omega, by show a + ck ≤ 1000; omega, by show 0 ≤ e + 1; omega, by show e + 1 ≤ 20; omega⟩)
        have ev : vl (a + ck, e + 1) = 100 * (a + ck) + (e + 1) := rfl
        refine ⟨g1, by omega, Or.inr ?_, fun s hs => ?_⟩
        · rcases g3 with g | g
          · rw [g, ev]
            exact Or.inr ⟨by rw [hck]; exact hcd.1, Or.inl ⟨hp.1, hp.2, by rw [hck]; omega⟩⟩
          · exact Or.inl g
        · rcases hs with hs | ⟨_, ⟨_, _, hs⟩ | hs⟩
          · exact g4 s hs
          · rw [hck] at hs; omega
          · rw [hck] at hs
            have := Rc_pos _ _ _ _ hs
            omega
      · rw [if_neg hp]
        obtain ⟨k1, k2, k3, k4⟩ := ih (a + ck) (e + 1) (jl_and lo (lT (kS r))) (jl_and hi (gT (kS r))) V (by omega) (by omega) (by omega) (by omega) hV
        generalize hW : bb c r (a + ck) (e + 1) (jl_and lo (lT (kS r))) (jl_and hi (gT (kS r))) V = W at *
        obtain ⟨g1, g2, g3, g4⟩ := ih a e lo hi W h1 (by omega) h3 h4 k1
        refine ⟨g1, by omega, ?_, fun s hs => ?_⟩
        · rcases g3 with g | g
          · rw [g]
            rcases k3 with k | k
            · exact Or.inl k
            · refine Or.inr (Or.inr ⟨by rw [hck]; exact hcd.1, Or.inr ?_⟩)
              rw [hck, show vl W - (100 * a + e) - (100 * ck + 1) = vl W - (100 * (a + ck) + (e + 1)) by omega]
              exact k
          · exact Or.inr (Or.inl g)
        · rcases hs with hs | ⟨_, ⟨q1, q2, hs⟩ | hs⟩
          · exact g4 s hs
          · exact absurd ⟨q1, q2⟩ hp
          · rw [hck] at hs
            have := k4 _ hs
            omega
    · rw [if_neg hcd]
      obtain ⟨g1, g2, g3, g4⟩ := ih a e lo hi V h1 (by omega) h3 h4 hV
      refine ⟨g1, g2, ?_, fun s hs => ?_⟩
      · rcases g3 with g | g
        · exact Or.inl g
        · exact Or.inr (Or.inl g)
      · rcases hs with hs | ⟨h0, hs⟩
        · exact g4 s hs
        · rw [hck] at h0 hs
          have hge : vl V ≤ 100 * (a + ck) + (e + 1) := by
            unfold vl
            rcases hVI with h | h <;> omega
          rcases hs with ⟨_, _, hs⟩ | hs
          · omega
          · have := Rc_pos _ _ _ _ hs
            omega
/-! the ways -/
def rwL : List (Nat × Nat × Nat × Nat × Nat) := [(0, 0, 0, 1, 3), (0, 0, 1, 0, 3), (0, 0, 1, 1, 2), (0, 1, 0, 0, 3), (0, 1, 0, 1, 2), (0, 1, 1, 0, 2), (0, 1, 1, 1, 1), (0, 2, 0, 0, 2), (0, 2, 0, 1, 1), (0, 2, 1, 0, 1), (0, 2, 1, 1, 0), (0, 3, 0, 0, 1), (0, 3, 0, 1, 0), (0, 3, 1, 0, 0), (0, 4, 0, 0, 0), (1, 0, 0, 0, 4), (1, 0, 0, 1, 2), (1, 0, 1, 0, 2), (1, 0, 1, 1, 1), (1, 1, 0, 0, 2), (1, 1, 0, 1, 1), (1, 1, 1, 0, 1), (1, 1, 1, 1, 0), (1, 2, 0, 0, 1), (1, 2, 0, 1, 0), (1, 2, 1, 0, 0), (1, 3, 0, 0, 0), (2, 0, 0, 0, 3), (2, 0, 0, 1, 1), (2, 0, 1, 0, 1), (2, 0, 1, 1, 0), (2, 1, 0, 0, 1), (2, 1, 0, 1, 0), (2, 1, 1, 0, 0), (2, 2, 0, 0, 0), (3, 0, 0, 0, 2), (3, 0, 0, 1, 0), (3, 0, 1, 0, 0), (3, 1, 0, 0, 0), (4, 0, 0, 0, 0)]
/-- what so many of each kind cost -/
def cs5 (c : Int → Int) (n : Nat × Nat × Nat × Nat × Nat) : Int := n.2.2.2.2 * (100 * c 4 + 1) + n.2.2.2.1 * (100 * c 3 + 1) + n.2.2.1 * (100 * c 2 + 1) + n.2.1 * (100 * c 1 + 1) + n.1 * (100 * c 0 + 1)
def av5 (c : Int → Int) (n : Nat × Nat × Nat × Nat × Nat) : Prop := (0 < n.1 → 0 < c 0) ∧ (0 < n.2.1 → 0 < c 1) ∧ (0 < n.2.2.1 → 0 < c 2) ∧ (0 < n.2.2.2.1 → 0 < c 3) ∧ (0 < n.2.2.2.2 → 0 < c 4)
def le5 (a b : Nat × Nat × Nat × Nat × Nat) : Bool := Nat.ble a.1 b.1 && (Nat.ble a.2.1 b.2.1 && (Nat.ble a.2.2.1 b.2.2.1 && (Nat.ble a.2.2.2.1 b.2.2.2.1 && Nat.ble a.2.2.2.2 b.2.2.2.2)))
def ad5 (k : Int) (n : Nat × Nat × Nat × Nat × Nat) : Nat × Nat × Nat × Nat × Nat := if k = 0 then (n.1 + 1, n.2.1, n.2.2.1, n.2.2.2.1, n.2.2.2.2) else if k = 1 then (n.1, n.2.1 + 1, n.2.2.1, n.2.2.2.1, n.2.2.2.2) else if k = 2 then (n.1, n.2.1, n.2.2.1 + 1, n.2.2.2.1, n.2.2.2.2) else if k = 3 then (n.1, n.2.1, n.2.2.1, n.2.2.2.1 + 1, n.2.2.2.2) else (n.1, n.2.1, n.2.2.1, n.2.2.2.1, n.2.2.2.2 + 1)
def dom5 (n : Nat × Nat × Nat × Nat × Nat) : Bool := rwL.any (fun r => le5 r n)
/-- wherever order 0 alone is left, a way is reached -/
def chk : Nat → Int → Int → Nat × Nat × Nat × Nat × Nat → Bool
  | 0, _, _, _ => true
  | r + 1, lo, hi, n => dom5 n || (chk r lo hi n && ((!(decide (jl_and lo (lT (kS r)) = 1) && decide (jl_and hi (gT (kS r)) = 0)) || dom5 (ad5 (kT (kS r)) n)) && chk r (jl_and lo (lT (kS r))) (jl_and hi (gT (kS r))) (ad5 (kT (kS r)) n)))
theorem cs5_le {c : Int → Int} (hc : ∀ k, 0 ≤ k → k ≤ 4 → 0 ≤ c k ∧ c k ≤ 9) {a b : Nat × Nat × Nat × Nat × Nat} (h : le5 a b = true) (hb : av5 c b) : cs5 c a ≤ cs5 c b ∧ av5 c a := by
  obtain ⟨a0, a1, a2, a3, a4⟩ := a
  obtain ⟨b0, b1, b2, b3, b4⟩ := b
  unfold le5 at h
  simp only [Bool.and_eq_true, Nat.ble_eq] at h
  obtain ⟨h0, h1, h2, h3, h4⟩ := h
  unfold av5 at hb ⊢
  unfold cs5
  simp only at hb ⊢
  have c0 := hc 0 (by decide) (by decide)
  have c1 := hc 1 (by decide) (by decide)
  have c2 := hc 2 (by decide) (by decide)
  have c3 := hc 3 (by decide) (by decide)
  have c4 := hc 4 (by decide) (by decide)
  have m : ∀ (x y : Nat) (z : Int), x ≤ y → 0 ≤ z → (x : Int) * z ≤ (y : Int) * z := fun x y z hxy hz => Int.mul_le_mul_of_nonneg_right (by omega) hz
  have m0 := m a0 b0 (100 * c 0 + 1) h0 (by omega)
  have m1 := m a1 b1 (100 * c 1 + 1) h1 (by omega)
  have m2 := m a2 b2 (100 * c 2 + 1) h2 (by omega)
  have m3 := m a3 b3 (100 * c 3 + 1) h3 (by omega)
  have m4 := m a4 b4 (100 * c 4 + 1) h4 (by omega)
  refine ⟨by omega, ?_⟩
  obtain ⟨g0, g1, g2, g3, g4⟩ := hb
  exact ⟨fun q => g0 (by omega), fun q => g1 (by omega), fun q => g2 (by omega), fun q => g3 (by omega), fun q => g4 (by omega)⟩
theorem cs5_ad {c : Int → Int} {k : Int} (hk : 0 ≤ k ∧ k ≤ 4) (n : Nat × Nat × Nat × Nat × Nat) : cs5 c (ad5 k n) = cs5 c n + (100 * c k + 1) ∧ (0 < c k → av5 c n → av5 c (ad5 k n)) := by
  obtain ⟨a0, a1, a2, a3, a4⟩ := n
  unfold ad5 cs5 av5
  rcases (show k = 0 ∨ k = 1 ∨ k = 2 ∨ k = 3 ∨ k = 4 by omega) with rfl | rfl | rfl | rfl | rfl
  all_goals simp only [Int.reduceEq, if_true, if_false]
  all_goals refine ⟨?_, fun hk h => ?_⟩
  all_goals first
    | (simp only [Int.natCast_add, Int.add_mul]; omega)
    | (obtain ⟨g0, g1, g2, g3, g4⟩ := h; exact ⟨fun q => by first | exact hk | exact g0 q, fun q => by first | exact hk | exact g1 q, fun q => by first | exact hk | exact g2 q, fun q => by first | exact hk | exact g3 q, fun q => by first | exact hk | exact g4 q⟩)
theorem chk_ok {c : Int → Int} (hc : ∀ k, 0 ≤ k → k ≤ 4 → 0 ≤ c k ∧ c k ≤ 9) : ∀ (r : Nat) (lo hi : Int) (n : Nat × Nat × Nat × Nat × Nat), chk r lo hi n = true → av5 c n → ∀ s, Rc c r lo hi s → ∃ w, w ∈ rwL ∧ av5 c w ∧ cs5 c w ≤ cs5 c n + s := by
  have dm : ∀ n, dom5 n = true → av5 c n → ∃ w, w ∈ rwL ∧ av5 c w ∧ cs5 c w ≤ cs5 c n := by
    intro n h hn
    obtain ⟨w, hw, hl⟩ := List.any_eq_true.mp h
    have := cs5_le hc hl hn
    exact ⟨w, hw, this.2, this.1⟩
  intro r
  induction r with
  | zero => intro lo hi n _ _ s hs; exact hs.elim
  | succ r ih =>
    intro lo hi n hk hn s hs
    have hs1 := Rc_pos _ _ _ _ hs
    rw [chk, Bool.or_eq_true] at hk
    rcases hk with hk | hk
    · obtain ⟨w, q1, q2, q3⟩ := dm n hk hn
      exact ⟨w, q1, q2, by omega⟩
    · simp only [Bool.and_eq_true, Bool.or_eq_true] at hk
      obtain ⟨k1, k2, k3⟩ := hk
      obtain ⟨e1, e2⟩ := cs5_ad (c := c) (kT_r (kS r)) n
      rcases hs with hs | ⟨h0, ⟨p1, p2, hs⟩ | hs⟩
      · exact ih lo hi n k1 hn s hs
      · rcases k2 with k2 | k2
        · rw [decide_eq_true p1, decide_eq_true p2] at k2
          cases k2
        · obtain ⟨w, q1, q2, q3⟩ := dm _ k2 (e2 h0 hn)
          exact ⟨w, q1, q2, by omega⟩
      · obtain ⟨w, q1, q2, q3⟩ := ih _ _ _ k3 (e2 h0 hn) _ hs
        exact ⟨w, q1, q2, by omega⟩
/-- one less of a kind -/
def sub5 (k : Int) (n : Nat × Nat × Nat × Nat × Nat) : Option (Nat × Nat × Nat × Nat × Nat) := if k = 0 then (match n.1 with | 0 => none | m + 1 => some (m, n.2.1, n.2.2.1, n.2.2.2.1, n.2.2.2.2)) else if k = 1 then (match n.2.1 with | 0 => none | m + 1 => some (n.1, m, n.2.2.1, n.2.2.2.1, n.2.2.2.2)) else if k = 2 then (match n.2.2.1 with | 0 => none | m + 1 => some (n.1, n.2.1, m, n.2.2.2.1, n.2.2.2.2)) else if k = 3 then (match n.2.2.2.1 with | 0 => none | m + 1 => some (n.1, n.2.1, n.2.2.1, m, n.2.2.2.2)) else (match n.2.2.2.2 with | 0 => none | m + 1 => some (n.1, n.2.1, n.2.2.1, n.2.2.2.1, m))
theorem sub5_ad {k : Int} {n m : Nat × Nat × Nat × Nat × Nat} (h : sub5 k n = some m) : n = ad5 k m := by
  obtain ⟨a0, a1, a2, a3, a4⟩ := n
  unfold sub5 at h
  unfold ad5
  simp only at h
  by_cases h0 : k = 0
  · rw [if_pos h0] at h ⊢
    cases a0 with
    | zero => cases h
    | succ x => cases h; rfl
  rw [if_neg h0] at h ⊢
  by_cases h1 : k = 1
  · rw [if_pos h1] at h ⊢
    cases a1 with
    | zero => cases h
    | succ x => cases h; rfl
  rw [if_neg h1] at h ⊢
  by_cases h2 : k = 2
  · rw [if_pos h2] at h ⊢
    cases a2 with
    | zero => cases h
    | succ x => cases h; rfl
  rw [if_neg h2] at h ⊢
  by_cases h3 : k = 3
  · rw [if_pos h3] at h ⊢
    cases a3 with
    | zero => cases h
    | succ x => cases h; rfl
  rw [if_neg h3] at h ⊢
  cases a4 with
  | zero => cases h
  | succ x => cases h; rfl
/-- some sayings, so many of each kind, leave order 0 alone -/
def ex5 : Nat → Int → Int → Nat × Nat × Nat × Nat × Nat → Bool
  | 0, _, _, _ => false
  | r + 1, lo, hi, n =>
    match sub5 (kT (kS r)) n with
    | none => ex5 r lo hi n
    | some m => (decide (m = (0, 0, 0, 0, 0)) && (decide (jl_and lo (lT (kS r)) = 1) && decide (jl_and hi (gT (kS r)) = 0))) || (ex5 r (jl_and lo (lT (kS r))) (jl_and hi (gT (kS r))) m || ex5 r lo hi n)
theorem av5_sub {c : Int → Int} {k : Int} (hk : 0 ≤ k ∧ k ≤ 4) {n : Nat × Nat × Nat × Nat × Nat} (h : av5 c (ad5 k n)) : 0 < c k ∧ av5 c n := by
  obtain ⟨a0, a1, a2, a3, a4⟩ := n
  unfold ad5 av5 at h
  unfold av5
  rcases (show k = 0 ∨ k = 1 ∨ k = 2 ∨ k = 3 ∨ k = 4 by omega) with rfl | rfl | rfl | rfl | rfl
  all_goals simp only [Int.reduceEq, if_true, if_false] at h ⊢
  all_goals obtain ⟨g0, g1, g2, g3, g4⟩ := h
  · exact ⟨g0 (by omega), fun _ => g0 (by omega), g1, g2, g3, g4⟩
  · exact ⟨g1 (by omega), g0, fun _ => g1 (by omega), g2, g3, g4⟩
  · exact ⟨g2 (by omega), g0, g1, fun _ => g2 (by omega), g3, g4⟩
  · exact ⟨g3 (by omega), g0, g1, g2, fun _ => g3 (by omega), g4⟩
  · exact ⟨g4 (by omega), g0, g1, g2, g3, fun _ => g4 (by omega)⟩
theorem ex5_ok {c : Int → Int} : ∀ (r : Nat) (lo hi : Int) (n : Nat × Nat × Nat × Nat × Nat), ex5 r lo hi n = true → av5 c n → Rc c r lo hi (cs5 c n) := by
  intro r
  induction r with
  | zero => intro lo hi n h; cases h
  | succ r ih =>
    intro lo hi n h hn
    rw [ex5] at h
    cases hs : sub5 (kT (kS r)) n with
    | none =>
      rw [hs] at h
      exact Or.inl (ih lo hi n h hn)
    | some m =>
      rw [hs] at h
      simp only [Bool.or_eq_true, Bool.and_eq_true, decide_eq_true_eq] at h
      have en := sub5_ad hs
      rw [en] at hn
      obtain ⟨e1, _⟩ := cs5_ad (c := c) (kT_r (kS r)) m
      obtain ⟨h0, hm⟩ := av5_sub (kT_r (kS r)) hn
      rcases h with ⟨hz, p1, p2⟩ | h | h
      · refine Or.inr ⟨h0, Or.inl ⟨p1, p2, ?_⟩⟩
        rw [en, e1, hz]
        unfold cs5
        simp
      · refine Or.inr ⟨h0, Or.inr ?_⟩
        rw [en, e1, show cs5 c m + (100 * c (kT (kS r)) + 1) - (100 * c (kT (kS r)) + 1) = cs5 c m by omega]
        exact ih _ _ m h hm
      · rw [← en] at hn
        exact Or.inl (ih lo hi n h hn)
set_option maxRecDepth 1000000 in
theorem chk_all : chk 20 1152921504606846975 1152921504606846975 (0, 0, 0, 0, 0) = true := by decide +kernel
set_option maxRecDepth 1000000 in
theorem ex_all : rwL.all (fun w => ex5 20 1152921504606846975 1152921504606846975 w) = true := by decide +kernel
def dc (w : Int) : Nat × Nat × Nat × Nat × Nat := ((w / 10000 % 10).toNat, (w / 1000 % 10).toNat, (w / 100 % 10).toNat, (w / 10 % 10).toNat, (w % 10).toNat)
theorem dc_all : wyL.map dc = rwL := by decide +kernel
theorem cst_av {c : Int → Int} (hc : ∀ k, 0 ≤ k → k ≤ 4 → 0 ≤ c k ∧ c k ≤ 9) (w : Int) : (av5 c (dc w) ∧ cst c w = cs5 c (dc w) ∧ 0 ≤ cst c w) ∨ (¬ av5 c (dc w) ∧ cst c w = -1) := by
  have c0 := hc 0 (by decide) (by decide)
  have c1 := hc 1 (by decide) (by decide)
  have c2 := hc 2 (by decide) (by decide)
  have c3 := hc 3 (by decide) (by decide)
  have c4 := hc 4 (by decide) (by decide)
  have e4 : ((w % 10).toNat : Int) = w % 10 := by omega
  have e3 : ((w / 10 % 10).toNat : Int) = w / 10 % 10 := by omega
  have e2 : ((w / 100 % 10).toNat : Int) = w / 100 % 10 := by omega
  have e1 : ((w / 1000 % 10).toNat : Int) = w / 1000 % 10 := by omega
  have e0 : ((w / 10000 % 10).toNat : Int) = w / 10000 % 10 := by omega
  unfold cst av5 cs5 dc
  simp only [e0, e1, e2, e3, e4]
  by_cases h : (0 < w % 10 ∧ c 4 = 0) ∨ (0 < w / 10 % 10 ∧ c 3 = 0) ∨ (0 < w / 100 % 10 ∧ c 2 = 0) ∨ (0 < w / 1000 % 10 ∧ c 1 = 0) ∨ (0 < w / 10000 % 10 ∧ c 0 = 0)
  · rw [if_pos h]
    exact Or.inr ⟨by omega, rfl⟩
  · rw [if_neg h]
    refine Or.inl ⟨by omega, rfl, ?_⟩
    have m : ∀ x y : Int, 0 ≤ x → 0 ≤ y → 0 ≤ x * y := fun x y hx hy => Int.mul_nonneg hx hy
    have m0 := m (w % 10) (100 * c 4 + 1) (by omega) (by omega)
    have m1 := m (w / 10 % 10) (100 * c 3 + 1) (by omega) (by omega)
    have m2 := m (w / 100 % 10) (100 * c 2 + 1) (by omega) (by omega)
    have m3 := m (w / 1000 % 10) (100 * c 1 + 1) (by omega) (by omega)
    have m4 := m (w / 10000 % 10) (100 * c 0 + 1) (by omega) (by omega)
    omega
theorem bwl_ok (c : Int → Int) : ∀ (l : List Int) (b : Int), (bwl c b l = b ∨ ∃ w, w ∈ l ∧ cst c w ≠ -1 ∧ bwl c b l = cst c w) ∧ (b ≠ -1 → bwl c b l ≠ -1 ∧ bwl c b l ≤ b) ∧ ∀ w, w ∈ l → cst c w ≠ -1 → bwl c b l ≠ -1 ∧ bwl c b l ≤ cst c w
  | [], b => ⟨Or.inl rfl, fun h => ⟨h, Int.le_refl _⟩, fun w hw => by cases hw⟩
  | x :: l, b => by
    have e : bwl c b (x :: l) = bwl c (if cst c x ≠ -1 ∧ (b = -1 ∨ cst c x < b) then cst c x else b) l := rfl
    rw [e]
    by_cases h : cst c x ≠ -1 ∧ (b = -1 ∨ cst c x < b)
    · rw [if_pos h]
      obtain ⟨g1, g2, g3⟩ := bwl_ok c l (cst c x)
      have g4 := g2 h.1
      refine ⟨Or.inr ?_, fun hb => ⟨g4.1, by
        rcases h.2 with q | q
        · exact absurd q hb
        · exact Int.le_trans g4.2 (Int.le_of_lt q)⟩, fun w hw hcw => ?_⟩
      · rcases g1 with g | ⟨w, q1, q2, q3⟩
        · exact ⟨x, List.mem_cons_self .., h.1, g⟩
        · exact ⟨w, List.mem_cons_of_mem _ q1, q2, q3⟩
      · rcases List.mem_cons.mp hw with rfl | hw
        · exact g4
        · exact g3 w hw hcw
    · rw [if_neg h]
      obtain ⟨g1, g2, g3⟩ := bwl_ok c l b
      refine ⟨?_, g2, fun w hw hcw => ?_⟩
      · rcases g1 with g | ⟨w, q1, q2, q3⟩
        · exact Or.inl g
        · exact Or.inr ⟨w, List.mem_cons_of_mem _ q1, q2, q3⟩
      · rcases List.mem_cons.mp hw with rfl | hw
        · have hb : b ≠ -1 := fun q => h ⟨hcw, Or.inl q⟩
          have := g2 hb
          have : ¬ cst c w < b := fun q => h ⟨hcw, Or.inr q⟩
          omega
        · exact g3 w hw hcw
theorem rwL_mem {w : Int} (h : w ∈ wyL) : dc w ∈ rwL := by rw [← dc_all]; exact List.mem_map_of_mem h
theorem bw_lo {c : Int → Int} (hc : ∀ k, 0 ≤ k → k ≤ 4 → 0 ≤ c k ∧ c k ≤ 9) {n : Nat × Nat × Nat × Nat × Nat} (hn : n ∈ rwL) (ha : av5 c n) : bw c ≠ -1 ∧ bw c ≤ cs5 c n := by
  rw [← dc_all] at hn
  obtain ⟨w, hw, rfl⟩ := List.mem_map.mp hn
  have g := (bwl_ok c wyL (-1)).2.2 w hw
  rcases cst_av hc w with ⟨q1, q2, q3⟩ | ⟨q1, q2⟩
  · have := g (by omega)
    rw [← q2]
    exact this
  · exact absurd ha q1
theorem bw_ex {c : Int → Int} (hc : ∀ k, 0 ≤ k → k ≤ 4 → 0 ≤ c k ∧ c k ≤ 9) (h : bw c ≠ -1) : ∃ n, n ∈ rwL ∧ av5 c n ∧ bw c = cs5 c n := by
  rcases (bwl_ok c wyL (-1)).1 with g | ⟨w, q1, q2, q3⟩
  · exact absurd g h
  · rcases cst_av hc w with ⟨p1, p2, p3⟩ | ⟨p1, p2⟩
    · exact ⟨dc w, rwL_mem q1, p1, by rw [← p2]; exact q3⟩
    · exact absurd p2 q2
theorem rw_sm : rwL.all (fun n => Nat.ble (n.1 + n.2.1 + n.2.2.1 + n.2.2.2.1 + n.2.2.2.2) 5) = true := by decide +kernel
theorem bw_r {c : Int → Int} (hc : ∀ k, 0 ≤ k → k ≤ 4 → 0 ≤ c k ∧ c k ≤ 9) (h : bw c ≠ -1) : 0 ≤ bw c ∧ bw c ≤ 5000 := by
  obtain ⟨n, h1, h2, h3⟩ := bw_ex hc h
  have hs := List.all_eq_true.mp rw_sm n h1
  simp only [Nat.ble_eq] at hs
  have c0 := hc 0 (by decide) (by decide)
  have c1 := hc 1 (by decide) (by decide)
  have c2 := hc 2 (by decide) (by decide)
  have c3 := hc 3 (by decide) (by decide)
  have c4 := hc 4 (by decide) (by decide)
  rw [h3]
  unfold cs5
  have m : ∀ (x : Nat) (z : Int), 0 ≤ z → z ≤ 901 → 0 ≤ (x : Int) * z ∧ (x : Int) * z ≤ (x : Int) * 901 := fun x z h1 h2 => ⟨Int.mul_nonneg (by omega) h1, Int.mul_le_mul_of_nonneg_left h2 (by omega)⟩
  have m0 := m n.1 (100 * c 0 + 1) (by omega) (by omega)
  have m1 := m n.2.1 (100 * c 1 + 1) (by omega) (by omega)
  have m2 := m n.2.2.1 (100 * c 2 + 1) (by omega) (by omega)
  have m3 := m n.2.2.2.1 (100 * c 3 + 1) (by omega) (by omega)
  have m4 := m n.2.2.2.2 (100 * c 4 + 1) (by omega) (by omega)
  omega
theorem least_ok {c : Int → Int} (hc : ∀ k, 0 ≤ k → k ≤ 4 → 0 ≤ c k ∧ c k ≤ 9) (h : bw c ≠ -1) : bb c 20 0 0 1152921504606846975 1152921504606846975 (1000000, 1000000) = (bw c / 100, bw c % 100) := by
  obtain ⟨g1, g2, g3, g4⟩ := bb_ok hc 20 0 0 1152921504606846975 1152921504606846975 (1000000, 1000000) (by decide) (by decide) (by decide) (by decide) (Or.inr rfl)
  generalize bb c 20 0 0 1152921504606846975 1152921504606846975 (1000000, 1000000) = V at *
  obtain ⟨n, h1, h2, h3⟩ := bw_ex hc h
  have hr := bw_r hc h
  have hR := ex5_ok (c := c) 20 _ _ n (List.all_eq_true.mp ex_all n h1) h2
  have h4 := g4 _ hR
  rw [← h3] at h4
  have hne : V ≠ (1000000, 1000000) := by
    intro e
    rw [e] at h4
    have : vl (1000000, 1000000) = 101000000 := rfl
    omega
  have hR2 := g3.resolve_left hne
  have av0 : av5 c (0, 0, 0, 0, 0) := ⟨fun q => absurd q (by decide), fun q => absurd q (by decide), fun q => absurd q (by decide), fun q => absurd q (by decide), fun q => absurd q (by decide)⟩
  obtain ⟨w, q1, q2, q3⟩ := chk_ok hc 20 _ _ _ chk_all av0 _ hR2
  have z0 : cs5 c (0, 0, 0, 0, 0) = 0 := by unfold cs5; simp
  have h5 := (bw_lo hc q1 q2).2
  have hV := g1.resolve_right hne
  have ev : vl V = bw c := by omega
  unfold vl at ev
  have e1 : V.1 = bw c / 100 := by omega
  have e2 : V.2 = bw c % 100 := by omega
  rw [← e1, ← e2]
/-- whether there is a way, by which kinds there are -/
def avb (a b c e g : Bool) (n : Nat × Nat × Nat × Nat × Nat) : Bool := (Nat.beq n.1 0 || a) && ((Nat.beq n.2.1 0 || b) && ((Nat.beq n.2.2.1 0 || c) && ((Nat.beq n.2.2.2.1 0 || e) && (Nat.beq n.2.2.2.2 0 || g))))
theorem avb_all : ∀ a b c e g : Bool, rwL.any (avb a b c e g) = decide (olV a b c e g = 1) := by decide +kernel
theorem avb_av {c : Int → Int} (hc : ∀ k, 0 ≤ k → k ≤ 4 → 0 ≤ c k ∧ c k ≤ 9) (n : Nat × Nat × Nat × Nat × Nat) : avb (decide (c 0 ≠ 0)) (decide (c 1 ≠ 0)) (decide (c 2 ≠ 0)) (decide (c 3 ≠ 0)) (decide (c 4 ≠ 0)) n = true ↔ av5 c n := by
  have c0 := hc 0 (by decide) (by decide)
  have c1 := hc 1 (by decide) (by decide)
  have c2 := hc 2 (by decide) (by decide)
  have c3 := hc 3 (by decide) (by decide)
  have c4 := hc 4 (by decide) (by decide)
  unfold avb av5
  simp only [Bool.and_eq_true, Bool.or_eq_true, Nat.beq_eq, decide_eq_true_eq]
  omega
theorem bw_bl {c : Int → Int} (hc : ∀ k, 0 ≤ k → k ≤ 4 → 0 ≤ c k ∧ c k ≤ 9) : bw c ≠ -1 ↔ olV (decide (c 0 ≠ 0)) (decide (c 1 ≠ 0)) (decide (c 2 ≠ 0)) (decide (c 3 ≠ 0)) (decide (c 4 ≠ 0)) = 1 := by
  have h := avb_all (decide (c 0 ≠ 0)) (decide (c 1 ≠ 0)) (decide (c 2 ≠ 0)) (decide (c 3 ≠ 0)) (decide (c 4 ≠ 0))
  constructor
  · intro hb
    obtain ⟨n, h1, h2, _⟩ := bw_ex hc hb
    have : rwL.any (avb (decide (c 0 ≠ 0)) (decide (c 1 ≠ 0)) (decide (c 2 ≠ 0)) (decide (c 3 ≠ 0)) (decide (c 4 ≠ 0))) = true := List.any_eq_true.mpr ⟨n, h1, (avb_av hc n).mpr h2⟩
    rw [h] at this
    exact of_decide_eq_true this
  · intro ho
    rw [decide_eq_true ho] at h
    obtain ⟨n, h1, h2⟩ := List.any_eq_true.mp h
    exact (bw_lo hc h1 ((avb_av hc n).mp h2)).1
theorem cst_congr {c c' : Int → Int} (h : ∀ k, 0 ≤ k → k ≤ 4 → c k = c' k) (w : Int) : cst c w = cst c' w := by
  unfold cst
  rw [h 0 (by decide) (by decide), h 1 (by decide) (by decide), h 2 (by decide) (by decide), h 3 (by decide) (by decide), h 4 (by decide) (by decide)]
theorem bw_congr {c c' : Int → Int} (h : ∀ k, 0 ≤ k → k ≤ 4 → c k = c' k) : bw c = bw c' := by
  have : ∀ (l : List Int) (b : Int), bwl c b l = bwl c' b l := by
    intro l
    induction l with
    | nil => intro b; rfl
    | cons x l ih =>
      intro b
      have e : ∀ c, bwl c b (x :: l) = bwl c (if cst c x ≠ -1 ∧ (b = -1 ∨ cst c x < b) then cst c x else b) l := fun c => rfl
      rw [e, e, cst_congr h, ih]
  exact this _ _
theorem dg_cd {c : Int → Int} (hc : ∀ k, 0 ≤ k → k ≤ 4 → 0 ≤ c k ∧ c k ≤ 9) {k : Int} (hk : 0 ≤ k ∧ k ≤ 4) : dg (cdN c 5) k = c k := by
  have c0 := hc 0 (by decide) (by decide)
  have c1 := hc 1 (by decide) (by decide)
  have c2 := hc 2 (by decide) (by decide)
  have c3 := hc 3 (by decide) (by decide)
  have c4 := hc 4 (by decide) (by decide)
  have e : cdN c 5 = 10 * (10 * (10 * (10 * (10 * 0 + c 0) + c 1) + c 2) + c 3) + c 4 := rfl
  rw [e]
  unfold dg
  rcases (show k = 0 ∨ k = 1 ∨ k = 2 ∨ k = 3 ∨ k = 4 by omega) with rfl | rfl | rfl | rfl | rfl
  all_goals simp only [Int.reduceEq, if_true, if_false]
  all_goals omega
