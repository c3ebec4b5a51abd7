/-! PARTS OF THE RELATION THAT STAY -/
/-- two moments alike, as far as they reach -/
def MEq (m m1 : Mom) : Prop := (m1.P = m.P) ∧ (m1.y = m.y) ∧ (m1.x = m.x) ∧ (m1.t = m.t) ∧ (∀ p k, 0 ≤ p → p < m.P → 0 ≤ k → k < 3 → m1.ps p k = m.ps p k) ∧ (∀ i, 0 ≤ i → i < m.t → m1.bo i = m.bo i)
theorem MEq.P {m m1 : Mom} (h : MEq m m1) : m1.P = m.P := h.1
theorem MEq.y {m m1 : Mom} (h : MEq m m1) : m1.y = m.y := h.2.1
theorem MEq.x {m m1 : Mom} (h : MEq m m1) : m1.x = m.x := h.2.2.1
theorem MEq.t {m m1 : Mom} (h : MEq m m1) : m1.t = m.t := h.2.2.2.1
theorem MEq.ps {m m1 : Mom} (h : MEq m m1) : ∀ p k, 0 ≤ p → p < m.P → 0 ≤ k → k < 3 → m1.ps p k = m.ps p k := h.2.2.2.2.1
theorem MEq.bo {m m1 : Mom} (h : MEq m m1) : ∀ i, 0 ≤ i → i < m.t → m1.bo i = m.bo i := h.2.2.2.2.2
theorem MR.eq {M : mj_M} {c : Int} {m m1 : Mom} (h : MR M c m) (e : MEq m m1) : MR M c m1 := ⟨h.hp.trans e.P.symm, h.hy.trans e.y.symm, h.hx.trans e.x.symm, h.ht.trans e.t.symm, fun p a b => by rw [e.P] at b; exact (h.ha p a b).trans (e.ps p 0 a b (by decide) (by decide)).symm, fun p a b => by rw [e.P] at b; exact (h.hk p a b).trans (e.ps p 1 a b (by decide) (by decide)).symm, fun p a b => by rw [e.P] at b; exact (h.hb p a b).trans (e.ps p 2 a b (by decide) (by decide)).symm, fun i a b k c d => by rw [e.t] at b; rw [e.bo i a b]; exact h.hbk i a b k c d⟩
theorem MI.eq {F : Int} {m m1 : Mom} (h : MI F m) (e : MEq m m1) : MI F m1 := ⟨by rw [e.P]; exact h.p0, by rw [e.P]; exact h.p6, by rw [e.y]; exact h.y0, by rw [e.y]; exact h.y9, by rw [e.x]; exact h.x0, by rw [e.x]; exact h.x9, by rw [e.t]; exact h.t0, by rw [e.t]; exact h.t3, fun p a b => by rw [e.P] at b; rw [e.ps p 0 a b (by decide) (by decide)]; exact h.a p a b, fun p a b => by rw [e.P] at b; rw [e.ps p 1 a b (by decide) (by decide)]; exact h.k p a b, fun p a b => by rw [e.P] at b; rw [e.ps p 2 a b (by decide) (by decide)]; exact h.b p a b, fun i a b => by rw [e.t] at b; rw [e.bo i a b]; exact h.bo i a b⟩
theorem pw_le {F G : Int} (h : F ≤ G) : pw F ≤ pw G := by
  unfold pw
  have := Nat.pow_le_pow_right (n := 2) (by decide) (show F.toNat ≤ G.toNat by omega)
  have e : ((2 ^ F.toNat : Nat) : Int) ≤ ((2 ^ G.toNat : Nat) : Int) := by omega
  simpa using e
theorem MI.up {F G : Int} {m : Mom} (h : MI F m) (hg : F ≤ G) : MI G m := ⟨h.p0, h.p6, h.y0, h.y9, h.x0, h.x9, h.t0, h.t3, h.a, fun p a b => ⟨(h.k p a b).1, by have := (h.k p a b).2; have := pw_le hg; omega⟩, h.b, h.bo⟩
theorem mn_eq {A A1 : Int → Int} {F : Int} (h : MI F (mn A)) (q : ∀ j, j = 1 ∨ (8 ≤ j ∧ j ≤ 38) ∨ (1661 ≤ j ∧ j ≤ 1690) → A1 j = A j) : MEq (mn A) (mn A1) := by
  have h6 := h.p6
  have h3 := h.t3
  refine ⟨q 1 (by omega), q 8 (by omega), q 9 (by omega), q 10 (by omega), fun p k a b c d => q _ ?_, fun i a b => q _ ?_⟩
  · have : p < 6 := by omega
    omega
  · have : i < 30 := by omega
    omega
theorem ms_eq {A A1 : Int → Int} {F i : Int} (h : MI F (ms A i)) (hi : 0 ≤ i ∧ i < 30) (q : ∀ j, 101 ≤ j → j ≤ 1660 → A1 j = A j) : MEq (ms A i) (ms A1 i) := by
  have h6 := h.p6
  have h3 := h.t3
  refine ⟨q _ (by omega) (by omega), q _ (by omega) (by omega), q _ (by omega) (by omega), q _ (by omega) (by omega), fun p k a b c d => ?_, fun j a b => ?_⟩
  · have : p < 6 := by omega
    exact q _ (by omega) (by omega)
  · have : j < 30 := by omega
    exact q _ (by omega) (by omega)
theorem mnx_eq {A A1 : Int → Int} {i : Int} (h : AI A) (hi : 0 ≤ i ∧ i < A 5) (q5 : A1 5 = A 5) (q : ∀ j, 101 ≤ j → j ≤ 1660 → A1 j = A j) (qn : ∀ j, j = 1 ∨ (8 ≤ j ∧ j ≤ 38) ∨ (1661 ≤ j ∧ j ≤ 1690) → A1 j = A j) : MEq (mnx A i) (mnx A1 i) := by
  have := h.n3
  unfold mnx
  rw [q5]
  split
  · exact ms_eq (h.sp _ (by omega) (by omega)) ⟨by omega, by omega⟩ q
  · exact mn_eq h.now qn
theorem told.eq {A A1 : Int → Int} {m m1 : Mom} {p : Int} (h : told A m p) (e : MEq m m1) (hp : 0 ≤ p ∧ p < m.P) (q1 : A1 (14 + 5 * p) = A (14 + 5 * p)) (q2 : A1 (15 + 5 * p) = A (15 + 5 * p)) : told A1 m1 p := by
  unfold told at h ⊢
  rw [q1, q2, e.ps p 0 hp.1 hp.2 (by decide) (by decide), e.ps p 1 hp.1 hp.2 (by decide) (by decide), e.ps p 2 hp.1 hp.2 (by decide) (by decide)]
  exact h
theorem mnx_P {A : Int → Int} {i : Int} (h : AI A) (hi : 0 ≤ i ∧ i < A 5) : MI (A 0) (mnx A i) := by
  unfold mnx
  split
  · exact h.sp _ (by omega) (by omega)
  · exact h.now
