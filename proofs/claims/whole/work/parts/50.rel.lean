/-! THE RELATION BETWEEN CLASS AND REFERENCE -/
/-- a moment: people, year, x, tellings; what each has (0 age, 1 knows, 2 breath); the book -/
def Mom : Type := Int × Int × Int × Int × (Int → Int → Int) × (Int → Int)
def Mom.P (m : Mom) : Int := m.1
def Mom.y (m : Mom) : Int := m.2.1
def Mom.x (m : Mom) : Int := m.2.2.1
def Mom.t (m : Mom) : Int := m.2.2.2.1
def Mom.ps (m : Mom) : Int → Int → Int := m.2.2.2.2.1
def Mom.bo (m : Mom) : Int → Int := m.2.2.2.2.2
/-- the moment now in the reference's row -/
def mn (A : Int → Int) : Mom := ⟨A 1, A 8, A 9, A 10, fun p k => A (11 + 5 * p + k), fun i => A (1661 + i)⟩
/-- the moment ahead of step i -/
def ms (A : Int → Int) (i : Int) : Mom := ⟨A (101 + 52 * i), A (102 + 52 * i), A (103 + 52 * i), A (104 + 52 * i), fun p k => A (105 + 52 * i + 3 * p + k), fun j => A (123 + 52 * i + j)⟩
/-- a telling's parts -/
def bk (v k : Int) : Int := if k = 0 then v / 2400 else if k = 1 then v / 400 % 6 else if k = 2 then v / 100 % 4 else v % 100
/-- the class's moment at c is m -/
def MR (M : mj_M) (c : Int) (m : Mom) : Prop := (hh M c 2 = m.P) ∧ (hh M c 0 = m.y) ∧ (hh M c 1 = m.x) ∧ (hh M c 3 = m.t) ∧ (∀ p, 0 ≤ p → p < m.P → hh M (c + 1) p = m.ps p 0) ∧ (∀ p, 0 ≤ p → p < m.P → hh M (c + 2) p = m.ps p 1) ∧ (∀ p, 0 ≤ p → p < m.P → hh M (c + 3) p = m.ps p 2) ∧ (∀ i, 0 ≤ i → i < m.t → ∀ k, 0 ≤ k → k < 4 → hh M (c + 4) (4 * i + k) = bk (m.bo i) k)
theorem MR.hp {M : mj_M} {c : Int} {m : Mom} (h : MR M c m) : hh M c 2 = m.P := h.1
theorem MR.hy {M : mj_M} {c : Int} {m : Mom} (h : MR M c m) : hh M c 0 = m.y := h.2.1
theorem MR.hx {M : mj_M} {c : Int} {m : Mom} (h : MR M c m) : hh M c 1 = m.x := h.2.2.1
theorem MR.ht {M : mj_M} {c : Int} {m : Mom} (h : MR M c m) : hh M c 3 = m.t := h.2.2.2.1
theorem MR.ha {M : mj_M} {c : Int} {m : Mom} (h : MR M c m) : ∀ p, 0 ≤ p → p < m.P → hh M (c + 1) p = m.ps p 0 := h.2.2.2.2.1
theorem MR.hk {M : mj_M} {c : Int} {m : Mom} (h : MR M c m) : ∀ p, 0 ≤ p → p < m.P → hh M (c + 2) p = m.ps p 1 := h.2.2.2.2.2.1
theorem MR.hb {M : mj_M} {c : Int} {m : Mom} (h : MR M c m) : ∀ p, 0 ≤ p → p < m.P → hh M (c + 3) p = m.ps p 2 := h.2.2.2.2.2.2.1
theorem MR.hbk {M : mj_M} {c : Int} {m : Mom} (h : MR M c m) : ∀ i, 0 ≤ i → i < m.t → ∀ k, 0 ≤ k → k < 4 → hh M (c + 4) (4 * i + k) = bk (m.bo i) k := h.2.2.2.2.2.2.2
def pw (F : Int) : Int := 2 ^ F.toNat
/-- ranges of a moment, with F forms -/
def MI (F : Int) (m : Mom) : Prop := (0 ≤ m.P) ∧ (m.P ≤ 6) ∧ (0 ≤ m.y) ∧ (m.y ≤ 9999) ∧ (0 ≤ m.x) ∧ (m.x ≤ 30702) ∧ (0 ≤ m.t) ∧ (m.t ≤ 30) ∧ (∀ p, 0 ≤ p → p < m.P → 0 ≤ m.ps p 0 ∧ m.ps p 0 ≤ 99) ∧ (∀ p, 0 ≤ p → p < m.P → 0 ≤ m.ps p 1 ∧ m.ps p 1 < pw F) ∧ (∀ p, 0 ≤ p → p < m.P → 0 ≤ m.ps p 2 ∧ m.ps p 2 ≤ 99) ∧ (∀ i, 0 ≤ i → i < m.t → 0 ≤ m.bo i ∧ m.bo i ≤ 24000000)
theorem MI.p0 {F : Int} {m : Mom} (h : MI F m) : 0 ≤ m.P := h.1
theorem MI.p6 {F : Int} {m : Mom} (h : MI F m) : m.P ≤ 6 := h.2.1
theorem MI.y0 {F : Int} {m : Mom} (h : MI F m) : 0 ≤ m.y := h.2.2.1
theorem MI.y9 {F : Int} {m : Mom} (h : MI F m) : m.y ≤ 9999 := h.2.2.2.1
theorem MI.x0 {F : Int} {m : Mom} (h : MI F m) : 0 ≤ m.x := h.2.2.2.2.1
theorem MI.x9 {F : Int} {m : Mom} (h : MI F m) : m.x ≤ 30702 := h.2.2.2.2.2.1
theorem MI.t0 {F : Int} {m : Mom} (h : MI F m) : 0 ≤ m.t := h.2.2.2.2.2.2.1
theorem MI.t3 {F : Int} {m : Mom} (h : MI F m) : m.t ≤ 30 := h.2.2.2.2.2.2.2.1
theorem MI.a {F : Int} {m : Mom} (h : MI F m) : ∀ p, 0 ≤ p → p < m.P → 0 ≤ m.ps p 0 ∧ m.ps p 0 ≤ 99 := h.2.2.2.2.2.2.2.2.1
theorem MI.k {F : Int} {m : Mom} (h : MI F m) : ∀ p, 0 ≤ p → p < m.P → 0 ≤ m.ps p 1 ∧ m.ps p 1 < pw F := h.2.2.2.2.2.2.2.2.2.1
theorem MI.b {F : Int} {m : Mom} (h : MI F m) : ∀ p, 0 ≤ p → p < m.P → 0 ≤ m.ps p 2 ∧ m.ps p 2 ≤ 99 := h.2.2.2.2.2.2.2.2.2.2.1
theorem MI.bo {F : Int} {m : Mom} (h : MI F m) : ∀ i, 0 ≤ i → i < m.t → 0 ≤ m.bo i ∧ m.bo i ≤ 24000000 := h.2.2.2.2.2.2.2.2.2.2.2
/-- as a person p was told -/
def told (A : Int → Int) (m : Mom) (p : Int) : Prop := m.ps p 0 = A (14 + 5 * p) ∧ m.ps p 1 = A (15 + 5 * p) ∧ m.ps p 2 = 20
/-- the moment behind step i -/
def mnx (A : Int → Int) (i : Int) : Mom := if i + 1 < A 5 then ms A (i + 1) else mn A
/-- ranges of the reference's row -/
def AI (A : Int → Int) : Prop := (0 ≤ A 0) ∧ (A 0 ≤ 8) ∧ (∀ i, 0 ≤ i → i < 8 → 0 ≤ A (41 + 2 * i) ∧ A (41 + 2 * i) ≤ 4) ∧ (∀ i, 0 ≤ i → i < 8 → 0 ≤ A (42 + 2 * i) ∧ A (42 + 2 * i) ≤ 9) ∧ (∀ i, 0 ≤ i → i < A 0 → 1 ≤ A (42 + 2 * i)) ∧ (MI (A 0) (mn A)) ∧ (∀ p, 0 ≤ p → p < A 1 → (0 ≤ A (14 + 5 * p) ∧ A (14 + 5 * p) ≤ 99) ∧ 0 ≤ A (15 + 5 * p) ∧ A (15 + 5 * p) < pw (A 0)) ∧ (0 ≤ A 2) ∧ (A 2 ≤ 4) ∧ (∀ i, 0 ≤ i → i < A 2 → 0 ≤ A (57 + i) ∧ A (57 + i) ≤ 119) ∧ (0 ≤ A 3) ∧ (A 3 ≤ 4) ∧ (-1 ≤ A 4) ∧ (A 4 < A 3 ∨ A 4 = -1) ∧ (0 ≤ A 5) ∧ (A 5 ≤ 30) ∧ (∀ i, 0 ≤ i → i < A 5 → MI (A 0) (ms A i)) ∧ (∀ i, 0 ≤ i → i < A 5 → (ms A i).P ≤ (mnx A i).P) ∧ (∀ i, 0 ≤ i → i < A 5 → ∀ p, (ms A i).P ≤ p → p < (mnx A i).P → told A (mnx A i) p) ∧ (0 ≤ A 6) ∧ (A 6 ≤ 8) ∧ (∀ i, 0 ≤ i → i < A 6 → (0 ≤ A (61 + 3 * i) ∧ A (61 + 3 * i) ≤ 4) ∧ (0 ≤ A (62 + 3 * i) ∧ A (62 + 3 * i) ≤ 4) ∧ 0 ≤ A (63 + 3 * i) ∧ A (63 + 3 * i) ≤ 4) ∧ (0 ≤ A 7) ∧ (A 7 ≤ 8) ∧ (∀ i, 0 ≤ i → i < A 7 → (0 ≤ A (85 + 2 * i) ∧ A (85 + 2 * i) < A 1) ∧ 0 ≤ A (86 + 2 * i) ∧ A (86 + 2 * i) ≤ 10)
theorem AI.f0 {A : Int → Int} (h : AI A) : 0 ≤ A 0 := h.1
theorem AI.f8 {A : Int → Int} (h : AI A) : A 0 ≤ 8 := h.2.1
theorem AI.fk {A : Int → Int} (h : AI A) : ∀ i, 0 ≤ i → i < 8 → 0 ≤ A (41 + 2 * i) ∧ A (41 + 2 * i) ≤ 4 := h.2.2.1
theorem AI.fl {A : Int → Int} (h : AI A) : ∀ i, 0 ≤ i → i < 8 → 0 ≤ A (42 + 2 * i) ∧ A (42 + 2 * i) ≤ 9 := h.2.2.2.1
theorem AI.fl1 {A : Int → Int} (h : AI A) : ∀ i, 0 ≤ i → i < A 0 → 1 ≤ A (42 + 2 * i) := h.2.2.2.2.1
theorem AI.now {A : Int → Int} (h : AI A) : MI (A 0) (mn A) := h.2.2.2.2.2.1
theorem AI.tl {A : Int → Int} (h : AI A) : ∀ p, 0 ≤ p → p < A 1 → (0 ≤ A (14 + 5 * p) ∧ A (14 + 5 * p) ≤ 99) ∧ 0 ≤ A (15 + 5 * p) ∧ A (15 + 5 * p) < pw (A 0) := h.2.2.2.2.2.2.1
theorem AI.s0 {A : Int → Int} (h : AI A) : 0 ≤ A 2 := h.2.2.2.2.2.2.2.1
theorem AI.s4 {A : Int → Int} (h : AI A) : A 2 ≤ 4 := h.2.2.2.2.2.2.2.2.1
theorem AI.st {A : Int → Int} (h : AI A) : ∀ i, 0 ≤ i → i < A 2 → 0 ≤ A (57 + i) ∧ A (57 + i) ≤ 119 := h.2.2.2.2.2.2.2.2.2.1
theorem AI.t0 {A : Int → Int} (h : AI A) : 0 ≤ A 3 := h.2.2.2.2.2.2.2.2.2.2.1
theorem AI.t4 {A : Int → Int} (h : AI A) : A 3 ≤ 4 := h.2.2.2.2.2.2.2.2.2.2.2.1
theorem AI.r0 {A : Int → Int} (h : AI A) : -1 ≤ A 4 := h.2.2.2.2.2.2.2.2.2.2.2.2.1
theorem AI.r4 {A : Int → Int} (h : AI A) : A 4 < A 3 ∨ A 4 = -1 := h.2.2.2.2.2.2.2.2.2.2.2.2.2.1
theorem AI.n0 {A : Int → Int} (h : AI A) : 0 ≤ A 5 := h.2.2.2.2.2.2.2.2.2.2.2.2.2.2.1
theorem AI.n3 {A : Int → Int} (h : AI A) : A 5 ≤ 30 := h.2.2.2.2.2.2.2.2.2.2.2.2.2.2.2.1
theorem AI.sp {A : Int → Int} (h : AI A) : ∀ i, 0 ≤ i → i < A 5 → MI (A 0) (ms A i) := h.2.2.2.2.2.2.2.2.2.2.2.2.2.2.2.2.1
theorem AI.sm {A : Int → Int} (h : AI A) : ∀ i, 0 ≤ i → i < A 5 → (ms A i).P ≤ (mnx A i).P := h.2.2.2.2.2.2.2.2.2.2.2.2.2.2.2.2.2.1
theorem AI.ti {A : Int → Int} (h : AI A) : ∀ i, 0 ≤ i → i < A 5 → ∀ p, (ms A i).P ≤ p → p < (mnx A i).P → told A (mnx A i) p := h.2.2.2.2.2.2.2.2.2.2.2.2.2.2.2.2.2.2.1
theorem AI.d0 {A : Int → Int} (h : AI A) : 0 ≤ A 6 := h.2.2.2.2.2.2.2.2.2.2.2.2.2.2.2.2.2.2.2.1
theorem AI.d8 {A : Int → Int} (h : AI A) : A 6 ≤ 8 := h.2.2.2.2.2.2.2.2.2.2.2.2.2.2.2.2.2.2.2.2.1
theorem AI.d {A : Int → Int} (h : AI A) : ∀ i, 0 ≤ i → i < A 6 → (0 ≤ A (61 + 3 * i) ∧ A (61 + 3 * i) ≤ 4) ∧ (0 ≤ A (62 + 3 * i) ∧ A (62 + 3 * i) ≤ 4) ∧ 0 ≤ A (63 + 3 * i) ∧ A (63 + 3 * i) ≤ 4 := h.2.2.2.2.2.2.2.2.2.2.2.2.2.2.2.2.2.2.2.2.2.1
theorem AI.e0 {A : Int → Int} (h : AI A) : 0 ≤ A 7 := h.2.2.2.2.2.2.2.2.2.2.2.2.2.2.2.2.2.2.2.2.2.2.1
theorem AI.e8 {A : Int → Int} (h : AI A) : A 7 ≤ 8 := h.2.2.2.2.2.2.2.2.2.2.2.2.2.2.2.2.2.2.2.2.2.2.2.1
theorem AI.e {A : Int → Int} (h : AI A) : ∀ i, 0 ≤ i → i < A 7 → (0 ≤ A (85 + 2 * i) ∧ A (85 + 2 * i) < A 1) ∧ 0 ≤ A (86 + 2 * i) ∧ A (86 + 2 * i) ≤ 10 := h.2.2.2.2.2.2.2.2.2.2.2.2.2.2.2.2.2.2.2.2.2.2.2.2
/-- the class's world at w is what the row A has -/
def WR (M : mj_M) (w : Int) (A : Int → Int) : Prop := (hh M (w + 1) 0 = A 0) ∧ (∀ i, 0 ≤ i → i < 8 → hh M (w + 2) i = A (41 + 2 * i)) ∧ (∀ i, 0 ≤ i → i < 8 → hh M (w + 3) i = A (42 + 2 * i)) ∧ (MR M (w + 5) (mn A)) ∧ (hh M w 4 = A 2) ∧ (∀ i, 0 ≤ i → i < A 2 → hh M (w + 14) i = A (57 + i)) ∧ (hh M w 6 = A 3) ∧ (hh M w 7 = A 4) ∧ (hh M w 9 = A 5) ∧ (0 ≤ hh M w 10) ∧ (hh M w 10 < 30) ∧ (∀ i, 0 ≤ i → i < A 5 → MR M (w + 17 + 5 * ((hh M w 10 + i) % 30)) (ms A i)) ∧ (hh M (w + 10) 0 = A 6) ∧ (∀ i, 0 ≤ i → i < A 6 → ∀ k, 0 ≤ k → k < 3 → hh M (w + 11) (3 * i + k) = A (61 + 3 * i + k)) ∧ (hh M (w + 12) 0 = A 7) ∧ (∀ i, 0 ≤ i → i < A 7 → ∀ k, 0 ≤ k → k < 2 → hh M (w + 13) (3 * i + k) = A (85 + 2 * i + k))
theorem WR.nf {M : mj_M} {w : Int} {A : Int → Int} (h : WR M w A) : hh M (w + 1) 0 = A 0 := h.1
theorem WR.fk {M : mj_M} {w : Int} {A : Int → Int} (h : WR M w A) : ∀ i, 0 ≤ i → i < 8 → hh M (w + 2) i = A (41 + 2 * i) := h.2.1
theorem WR.fl {M : mj_M} {w : Int} {A : Int → Int} (h : WR M w A) : ∀ i, 0 ≤ i → i < 8 → hh M (w + 3) i = A (42 + 2 * i) := h.2.2.1
theorem WR.now {M : mj_M} {w : Int} {A : Int → Int} (h : WR M w A) : MR M (w + 5) (mn A) := h.2.2.2.1
theorem WR.ns {M : mj_M} {w : Int} {A : Int → Int} (h : WR M w A) : hh M w 4 = A 2 := h.2.2.2.2.1
theorem WR.st {M : mj_M} {w : Int} {A : Int → Int} (h : WR M w A) : ∀ i, 0 ≤ i → i < A 2 → hh M (w + 14) i = A (57 + i) := h.2.2.2.2.2.1
theorem WR.nt {M : mj_M} {w : Int} {A : Int → Int} (h : WR M w A) : hh M w 6 = A 3 := h.2.2.2.2.2.2.1
theorem WR.ru {M : mj_M} {w : Int} {A : Int → Int} (h : WR M w A) : hh M w 7 = A 4 := h.2.2.2.2.2.2.2.1
theorem WR.np {M : mj_M} {w : Int} {A : Int → Int} (h : WR M w A) : hh M w 9 = A 5 := h.2.2.2.2.2.2.2.2.1
theorem WR.e0 {M : mj_M} {w : Int} {A : Int → Int} (h : WR M w A) : 0 ≤ hh M w 10 := h.2.2.2.2.2.2.2.2.2.1
theorem WR.e3 {M : mj_M} {w : Int} {A : Int → Int} (h : WR M w A) : hh M w 10 < 30 := h.2.2.2.2.2.2.2.2.2.2.1
theorem WR.sp {M : mj_M} {w : Int} {A : Int → Int} (h : WR M w A) : ∀ i, 0 ≤ i → i < A 5 → MR M (w + 17 + 5 * ((hh M w 10 + i) % 30)) (ms A i) := h.2.2.2.2.2.2.2.2.2.2.2.1
theorem WR.nd {M : mj_M} {w : Int} {A : Int → Int} (h : WR M w A) : hh M (w + 10) 0 = A 6 := h.2.2.2.2.2.2.2.2.2.2.2.2.1
theorem WR.d {M : mj_M} {w : Int} {A : Int → Int} (h : WR M w A) : ∀ i, 0 ≤ i → i < A 6 → ∀ k, 0 ≤ k → k < 3 → hh M (w + 11) (3 * i + k) = A (61 + 3 * i + k) := h.2.2.2.2.2.2.2.2.2.2.2.2.2.1
theorem WR.ne {M : mj_M} {w : Int} {A : Int → Int} (h : WR M w A) : hh M (w + 12) 0 = A 7 := h.2.2.2.2.2.2.2.2.2.2.2.2.2.2.1
theorem WR.e {M : mj_M} {w : Int} {A : Int → Int} (h : WR M w A) : ∀ i, 0 ≤ i → i < A 7 → ∀ k, 0 ≤ k → k < 2 → hh M (w + 13) (3 * i + k) = A (85 + 2 * i + k) := h.2.2.2.2.2.2.2.2.2.2.2.2.2.2.2
/-! THE LAWS OF A TEXT -/
/-- tokens of the class: names; half minus known not; + - * / < > <= >= = # and or -/
def tkN (k : Nat) : Int := [12, 2, 13, 3, 14, 15, 5, 16].getD k 0
def tk1 (o : Nat) : Int := [17, 42, 18, 25].getD o 0
def tk2 (o : Nat) : Int := [30, 31, 32, 33, 26, 27, 37, 38, 28, 29, 24, 23].getD o 0
/-- the reference's -/
def rk1 (o : Nat) : Int := [4, 5, 2, 20].getD o 0
def rk2 (o : Nat) : Int := [6, 7, 8, 9, 10, 12, 11, 13, 14, 15, 21, 22].getD o 0
def clp (v : Int) : Int := if v > 1000000 then 1000000 else if v < -1000000 then -1000000 else v
/-- what is named, and how many know a form -/
def Env : Type := (Nat → Int) × (Int → Int)
def v1 (o : Nat) (E : Env) (a : Int) : Int := if o = 0 then (if a < 0 then -((1 - a) / 2) else (a + 1) / 2) else if o = 1 then -a else if o = 2 then E.2 a else (if a = 0 then 1 else 0)
def b2 (p : Prop) [Decidable p] : Int := if p then 1 else 0
def v2 (o : Nat) (a b : Int) : Int := if o = 0 then clp (a + b) else if o = 1 then clp (a - b) else if o = 2 then clp (a * b) else if o = 3 then (if b = 0 then 0 else a.tdiv b) else if o = 4 then b2 (a < b) else if o = 5 then b2 (a > b) else if o = 6 then b2 (a ≤ b) else if o = 7 then b2 (a ≥ b) else if o = 8 then b2 (a = b) else if o = 9 then b2 (a ≠ b) else if o = 10 then b2 (a = 1 ∧ b = 1) else b2 (a = 1 ∨ b = 1)
/-- a law, at most n deep: the class's code from place b on, the reference's code; t: a truth; how many values the class holds at once; what it says -/
def Ex : Nat → Int → List Int → List (Int × Int) → Bool → Nat → (Env → Int) → Prop
  | 0, _, _, _, _, _, _ => False
  | n + 1, b, cl, rl, t, hg, f =>
    (∃ v, 0 ≤ v ∧ v ≤ 9999 ∧ cl = [39 + 64 * v] ∧ rl = [(0, v)] ∧ t = false ∧ 1 ≤ hg ∧ f = fun _ => v) ∨
    (∃ k : Nat, k < 8 ∧ cl = [tkN k] ∧ rl = [(1, (k : Int))] ∧ t = false ∧ 1 ≤ hg ∧ f = fun E => E.1 k) ∨
    (∃ o cl1 rl1 f1, o < 4 ∧ (t = true ↔ o = 3) ∧ cl = cl1 ++ [tk1 o] ∧ rl = rl1 ++ [(rk1 o, 0)] ∧ f = (fun E => v1 o E (f1 E)) ∧ Ex n b cl1 rl1 t hg f1) ∨
    (∃ o cl1 cl2 rl1 rl2 f1 f2, o < 12 ∧ (t = true ↔ 4 ≤ o) ∧ cl = cl1 ++ (cl2 ++ [tk2 o]) ∧ rl = rl1 ++ (rl2 ++ [(rk2 o, 0)]) ∧ f = (fun E => v2 o (f1 E) (f2 E)) ∧ Ex n b cl1 rl1 (decide (10 ≤ o)) hg f1 ∧ ∃ h2, hg = h2 + 1 ∧ Ex n (b + cl1.length) cl2 rl2 (decide (10 ≤ o)) h2 f2) ∨
    (∃ c1 c2 c3 r1 r2 r3 f1 f2 f3, t = false ∧ cl = c1 ++ (20 + 64 * (b + c1.length + 1 + c2.length + 1)) :: (c2 ++ (21 + 64 * (b + c1.length + 1 + c2.length + 1 + c3.length)) :: c3) ∧ rl = r1 ++ (r2 ++ (r3 ++ [(3, 0)])) ∧ f = (fun E => if f1 E = 0 then f3 E else f2 E) ∧ Ex n b c1 r1 true hg f1 ∧ Ex n (b + c1.length + 1) c2 r2 false hg f2 ∧ Ex n (b + c1.length + 1 + c2.length + 1) c3 r3 false hg f3)
/-- a list stands in a row from a place on -/
def stands (f : Int → Int) (b : Int) (l : List Int) : Prop := ∀ i : Nat, i < l.length → f (b + i) = l.getD i 0
def stands2 (f : Int → Int) (b : Int) (l : List (Int × Int)) : Prop := ∀ i : Nat, i < l.length → f (b + 2 * i) = (l.getD i (0, 0)).1 ∧ f (b + 2 * i + 1) = (l.getD i (0, 0)).2
/-- sort s of text j: at no clause and nowhere in the class; or the same law in both -/
def LawR (M : mj_M) (r rk j s fo : Int) : Prop :=
  (hh M r fo = -1 ∧ ∀ k, 0 ≤ k → k < hh M 357 (705 * j) → hh M 357 (705 * j + 1 + 4 * k) ≠ s) ∨
  ∃ k, (0 ≤ k ∧ k < hh M 357 (705 * j)) ∧ hh M 357 (705 * j + 1 + 4 * k) = s ∧ (∀ i, 0 ≤ i → i < k → hh M 357 (705 * j + 1 + 4 * i) ≠ s) ∧
    ∃ n cl rl f, Ex n (hh M r fo) cl rl false 64 f ∧ 0 ≤ hh M r fo ∧ hh M r (fo + 1) = hh M r fo + cl.length ∧ hh M r (fo + 1) ≤ hl M rk ∧ stands (hh M rk) (hh M r fo) cl ∧
      0 ≤ hh M 357 (705 * j + 1 + 4 * k + 1) ∧ hh M 357 (705 * j + 1 + 4 * k + 2) = hh M 357 (705 * j + 1 + 4 * k + 1) + rl.length ∧ hh M 357 (705 * j + 1 + 4 * k + 2) ≤ 300 ∧ stands2 (hh M 357) (705 * j + 97 + 2 * hh M 357 (705 * j + 1 + 4 * k + 1)) rl
/-- the class's first word of a clause of sort s -/
def srt (s : Int) : Int := [0, 1, 2, 4, 6, 7, 10, 11, 12].getD s.toNat 0
/-- the class's text object r is the reference's text j -/
def TR (M : mj_M) (r j : Int) : Prop := (373 < r) ∧ (r ≤ nx M) ∧ (373 < hh M r 1) ∧ (hh M r 1 ≤ nx M) ∧ (hl M (hh M r 1) ≤ 300) ∧ (373 < hh M r 6) ∧ (hh M r 6 ≤ nx M) ∧ (0 ≤ hh M 357 (705 * j)) ∧ (hh M 357 (705 * j) ≤ 24) ∧ (hh M r 0 = hh M 357 (705 * j)) ∧ (hl M (hh M r 6) = 4 * hh M 357 (705 * j)) ∧ (∀ k, 0 ≤ k → k < hh M 357 (705 * j) → (0 ≤ hh M 357 (705 * j + 1 + 4 * k) ∧ hh M 357 (705 * j + 1 + 4 * k) ≤ 8) ∧ hh M (hh M r 6) (4 * k) = srt (hh M 357 (705 * j + 1 + 4 * k)) ∧ (2 ≤ hh M 357 (705 * j + 1 + 4 * k) → hh M (hh M r 6) (4 * k + 1) = hh M 357 (705 * j + 1 + 4 * k + 1) ∧ 0 ≤ hh M 357 (705 * j + 1 + 4 * k + 1) ∧ hh M 357 (705 * j + 1 + 4 * k + 1) ≤ 255 ∧ (hh M 357 (705 * j + 1 + 4 * k) = 8 → 1 ≤ hh M 357 (705 * j + 1 + 4 * k + 1) ∧ hh M 357 (705 * j + 1 + 4 * k + 1) ≤ 60)) ∧ (2 ≤ hh M 357 (705 * j + 1 + 4 * k) → hh M 357 (705 * j + 1 + 4 * k) ≠ 4 → hh M 357 (705 * j + 1 + 4 * k) ≠ 8 → hh M (hh M r 6) (4 * k + 2) = hh M 357 (705 * j + 1 + 4 * k + 2) ∧ 0 ≤ hh M 357 (705 * j + 1 + 4 * k + 2) ∧ hh M 357 (705 * j + 1 + 4 * k + 2) ≤ 255) ∧ (hh M 357 (705 * j + 1 + 4 * k) = 5 → hh M (hh M r 6) (4 * k + 3) = hh M 357 (705 * j + 1 + 4 * k + 3) ∧ 0 ≤ hh M 357 (705 * j + 1 + 4 * k + 3) ∧ hh M 357 (705 * j + 1 + 4 * k + 3) ≤ 255)) ∧ (LawR M r (hh M r 1) j 0 2) ∧ (LawR M r (hh M r 1) j 1 4)
theorem TR.r1 {M : mj_M} {r j : Int} (h : TR M r j) : 373 < r := h.1
theorem TR.r2 {M : mj_M} {r j : Int} (h : TR M r j) : r ≤ nx M := h.2.1
theorem TR.k1 {M : mj_M} {r j : Int} (h : TR M r j) : 373 < hh M r 1 := h.2.2.1
theorem TR.k2 {M : mj_M} {r j : Int} (h : TR M r j) : hh M r 1 ≤ nx M := h.2.2.2.1
theorem TR.k3 {M : mj_M} {r j : Int} (h : TR M r j) : hl M (hh M r 1) ≤ 300 := h.2.2.2.2.1
theorem TR.c1 {M : mj_M} {r j : Int} (h : TR M r j) : 373 < hh M r 6 := h.2.2.2.2.2.1
theorem TR.c2 {M : mj_M} {r j : Int} (h : TR M r j) : hh M r 6 ≤ nx M := h.2.2.2.2.2.2.1
theorem TR.n0 {M : mj_M} {r j : Int} (h : TR M r j) : 0 ≤ hh M 357 (705 * j) := h.2.2.2.2.2.2.2.1
theorem TR.n24 {M : mj_M} {r j : Int} (h : TR M r j) : hh M 357 (705 * j) ≤ 24 := h.2.2.2.2.2.2.2.2.1
theorem TR.nc {M : mj_M} {r j : Int} (h : TR M r j) : hh M r 0 = hh M 357 (705 * j) := h.2.2.2.2.2.2.2.2.2.1
theorem TR.lc {M : mj_M} {r j : Int} (h : TR M r j) : hl M (hh M r 6) = 4 * hh M 357 (705 * j) := h.2.2.2.2.2.2.2.2.2.2.1
theorem TR.cl {M : mj_M} {r j : Int} (h : TR M r j) : ∀ k, 0 ≤ k → k < hh M 357 (705 * j) → (0 ≤ hh M 357 (705 * j + 1 + 4 * k) ∧ hh M 357 (705 * j + 1 + 4 * k) ≤ 8) ∧ hh M (hh M r 6) (4 * k) = srt (hh M 357 (705 * j + 1 + 4 * k)) ∧ (2 ≤ hh M 357 (705 * j + 1 + 4 * k) → hh M (hh M r 6) (4 * k + 1) = hh M 357 (705 * j + 1 + 4 * k + 1) ∧ 0 ≤ hh M 357 (705 * j + 1 + 4 * k + 1) ∧ hh M 357 (705 * j + 1 + 4 * k + 1) ≤ 255 ∧ (hh M 357 (705 * j + 1 + 4 * k) = 8 → 1 ≤ hh M 357 (705 * j + 1 + 4 * k + 1) ∧ hh M 357 (705 * j + 1 + 4 * k + 1) ≤ 60)) ∧ (2 ≤ hh M 357 (705 * j + 1 + 4 * k) → hh M 357 (705 * j + 1 + 4 * k) ≠ 4 → hh M 357 (705 * j + 1 + 4 * k) ≠ 8 → hh M (hh M r 6) (4 * k + 2) = hh M 357 (705 * j + 1 + 4 * k + 2) ∧ 0 ≤ hh M 357 (705 * j + 1 + 4 * k + 2) ∧ hh M 357 (705 * j + 1 + 4 * k + 2) ≤ 255) ∧ (hh M 357 (705 * j + 1 + 4 * k) = 5 → hh M (hh M r 6) (4 * k + 3) = hh M 357 (705 * j + 1 + 4 * k + 3) ∧ 0 ≤ hh M 357 (705 * j + 1 + 4 * k + 3) ∧ hh M 357 (705 * j + 1 + 4 * k + 3) ≤ 255) := h.2.2.2.2.2.2.2.2.2.2.2.1
theorem TR.fa {M : mj_M} {r j : Int} (h : TR M r j) : LawR M r (hh M r 1) j 0 2 := h.2.2.2.2.2.2.2.2.2.2.2.2.1
theorem TR.le {M : mj_M} {r j : Int} (h : TR M r j) : LawR M r (hh M r 1) j 1 4 := h.2.2.2.2.2.2.2.2.2.2.2.2.2
/-! LEAST -/
def wyL : List Int := [13, 103, 112, 1003, 1012, 1102, 1111, 2002, 2011, 2101, 2110, 3001, 3010, 3100, 4000, 10004, 10012, 10102, 10111, 11002, 11011, 11101, 11110, 12001, 12010, 12100, 13000, 20003, 20011, 20101, 20110, 21001, 21010, 21100, 22000, 30002, 30010, 30100, 31000, 40000]
/-- what a way costs: -1 if a kind is wanting (its price is 0) -/
def cst (c : Int → Int) (w : Int) : Int := if (0 < w % 10 ∧ c 4 = 0) ∨ (0 < w / 10 % 10 ∧ c 3 = 0) ∨ (0 < w / 100 % 10 ∧ c 2 = 0) ∨ (0 < w / 1000 % 10 ∧ c 1 = 0) ∨ (0 < w / 10000 % 10 ∧ c 0 = 0) then -1 else w % 10 * (100 * c 4 + 1) + w / 10 % 10 * (100 * c 3 + 1) + w / 100 % 10 * (100 * c 2 + 1) + w / 1000 % 10 * (100 * c 1 + 1) + w / 10000 % 10 * (100 * c 0 + 1)
def bwl (c : Int → Int) (b : Int) (l : List Int) : Int := l.foldl (fun b w => if cst c w ≠ -1 ∧ (b = -1 ∨ cst c w < b) then cst c w else b) b
def bw (c : Int → Int) : Int := bwl c (-1) wyL
def dg (v k : Int) : Int := if k = 0 then v / 10000 % 10 else if k = 1 then v / 1000 % 10 else if k = 2 then v / 100 % 10 else if k = 3 then v / 10 % 10 else v % 10
/-- what the reference keeps of its last search is right -/
def Cok (M : mj_M) : Prop := hh M 354 29 = -1 ∨ (bw (dg (hh M 354 29)) ≠ -1 ∧ hh M 354 30 = bw (dg (hh M 354 29)) / 100 ∧ hh M 354 31 = bw (dg (hh M 354 29)) % 100)
/-- the tables -/
def Tb (M : mj_M) : Prop := (∀ i, 0 ≤ i → i < 600 → hh M 3 i = dT i) ∧ (∀ i, 0 ≤ i → i < 600 → hh M 4 i = pT i) ∧ (∀ i, 0 ≤ i → i < 600 → hh M 358 i = dT i) ∧ (∀ i, 0 ≤ i → i < 600 → hh M 359 i = pT i) ∧ (∀ i, 0 ≤ i → i < 20 → hh M 360 i = kT i) ∧ (∀ i, 0 ≤ i → i < 20 → hh M 361 i = lT i) ∧ (∀ i, 0 ≤ i → i < 20 → hh M 362 i = gT i)
theorem Tb.d {M : mj_M} (h : Tb M) : ∀ i, 0 ≤ i → i < 600 → hh M 3 i = dT i := h.1
theorem Tb.p {M : mj_M} (h : Tb M) : ∀ i, 0 ≤ i → i < 600 → hh M 4 i = pT i := h.2.1
theorem Tb.d' {M : mj_M} (h : Tb M) : ∀ i, 0 ≤ i → i < 600 → hh M 358 i = dT i := h.2.2.1
theorem Tb.p' {M : mj_M} (h : Tb M) : ∀ i, 0 ≤ i → i < 600 → hh M 359 i = pT i := h.2.2.2.1
theorem Tb.k {M : mj_M} (h : Tb M) : ∀ i, 0 ≤ i → i < 20 → hh M 360 i = kT i := h.2.2.2.2.1
theorem Tb.l {M : mj_M} (h : Tb M) : ∀ i, 0 ≤ i → i < 20 → hh M 361 i = lT i := h.2.2.2.2.2.1
theorem Tb.g {M : mj_M} (h : Tb M) : ∀ i, 0 ≤ i → i < 20 → hh M 362 i = gT i := h.2.2.2.2.2.2
/-- tape and fault -/
def Tp (M : mj_M) : Prop := (0 ≤ hh M 354 9) ∧ (hh M 354 9 ≤ 300) ∧ (hh M 1 9 = hh M 354 9) ∧ (∀ i, 0 ≤ i → i < hh M 354 9 → hh M 350 i = hh M 363 i ∧ 0 ≤ hh M 363 i ∧ hh M 363 i ≤ 255) ∧ ((hh M 1 10 = 0 ∧ hh M 354 10 = -1 ∧ hh M 354 11 = -1) ∨ (hh M 1 10 = 1 ∧ hh M 1 11 = hh M 354 10 ∧ hh M 1 12 = hh M 354 11)) ∧ (hh M 354 36 = 1)
theorem Tp.n0 {M : mj_M} (h : Tp M) : 0 ≤ hh M 354 9 := h.1
theorem Tp.n3 {M : mj_M} (h : Tp M) : hh M 354 9 ≤ 300 := h.2.1
theorem Tp.n {M : mj_M} (h : Tp M) : hh M 1 9 = hh M 354 9 := h.2.2.1
theorem Tp.b {M : mj_M} (h : Tp M) : ∀ i, 0 ≤ i → i < hh M 354 9 → hh M 350 i = hh M 363 i ∧ 0 ≤ hh M 363 i ∧ hh M 363 i ≤ 255 := h.2.2.2.1
theorem Tp.f {M : mj_M} (h : Tp M) : (hh M 1 10 = 0 ∧ hh M 354 10 = -1 ∧ hh M 354 11 = -1) ∨ (hh M 1 10 = 1 ∧ hh M 1 11 = hh M 354 10 ∧ hh M 1 12 = hh M 354 11) := h.2.2.2.2.1
theorem Tp.w {M : mj_M} (h : Tp M) : hh M 354 36 = 1 := h.2.2.2.2.2
def RR (M : mj_M) : Prop := (CS M) ∧ (373 ≤ nx M) ∧ (WR M 5 (hh M 355)) ∧ (WR M 172 (hh M 356)) ∧ (AI (hh M 355)) ∧ (AI (hh M 356)) ∧ (hh M 356 3 ≤ hh M 355 3) ∧ (∀ i, 0 ≤ i → i < hh M 355 3 → TR M (hh M 20 i) i) ∧ (∀ i, 0 ≤ i → i < hh M 356 3 → TR M (hh M 187 i) i) ∧ (Tb M) ∧ (Tp M) ∧ (Cok M)
theorem RR.cs {M : mj_M} (h : RR M) : CS M := h.1
theorem RR.nx {M : mj_M} (h : RR M) : 373 ≤ nx M := h.2.1
theorem RR.wr {M : mj_M} (h : RR M) : WR M 5 (hh M 355) := h.2.2.1
theorem RR.wi {M : mj_M} (h : RR M) : WR M 172 (hh M 356) := h.2.2.2.1
theorem RR.ai {M : mj_M} (h : RR M) : AI (hh M 355) := h.2.2.2.2.1
theorem RR.bi {M : mj_M} (h : RR M) : AI (hh M 356) := h.2.2.2.2.2.1
theorem RR.le {M : mj_M} (h : RR M) : hh M 356 3 ≤ hh M 355 3 := h.2.2.2.2.2.2.1
theorem RR.t5 {M : mj_M} (h : RR M) : ∀ i, 0 ≤ i → i < hh M 355 3 → TR M (hh M 20 i) i := h.2.2.2.2.2.2.2.1
theorem RR.ti {M : mj_M} (h : RR M) : ∀ i, 0 ≤ i → i < hh M 356 3 → TR M (hh M 187 i) i := h.2.2.2.2.2.2.2.2.1
theorem RR.tb {M : mj_M} (h : RR M) : Tb M := h.2.2.2.2.2.2.2.2.2.1
theorem RR.tp {M : mj_M} (h : RR M) : Tp M := h.2.2.2.2.2.2.2.2.2.2.1
theorem RR.co {M : mj_M} (h : RR M) : Cok M := h.2.2.2.2.2.2.2.2.2.2.2
/-! ZONES: who may write where -/
/-- a place of a world: 0 reference, 1 what it has, 8 scratch -/
def wz (y j : Int) : Nat := if y = 0 then (if j = 0 ∨ j = 1 ∨ j = 2 ∨ j = 3 ∨ j = 5 ∨ j = 8 ∨ j = 11 then 0 else 1) else if y = 1 then (if 1 ≤ j then 0 else 1) else if y = 4 then 8 else if y = 5 then (if 4 ≤ j then 0 else 1) else if y = 10 ∨ y = 12 then (if j = 1 then 0 else 1) else if y = 16 then 0 else if 17 ≤ y then (if (y - 17) % 5 = 0 ∧ 4 ≤ j then 0 else 1) else 1
/-- 0 reference, 1 the world, 2 the image's world, 3 the reference's row, 4 its image, 5 texts, 6 tape and fault, 7 tables, 8 scratch, 9 least -/
def zone (x j : Int) : Nat :=
  if 374 ≤ x then 5 else if x = 357 then 5 else if x = 355 then 3 else if x = 356 then 4
  else if x = 354 then (if j = 9 ∨ j = 10 ∨ j = 11 ∨ j = 36 then 6 else if j = 29 ∨ j = 30 ∨ j = 31 then 9 else if (12 ≤ j ∧ j ≤ 19) ∨ (21 ≤ j ∧ j ≤ 24) ∨ j = 37 then 8 else 0)
  else if x = 363 ∨ x = 350 then 6 else if x = 3 ∨ x = 4 ∨ (358 ≤ x ∧ x ≤ 362) then 7
  else if x = 1 then (if 9 ≤ j then 6 else 0)
  else if 5 ≤ x ∧ x ≤ 171 then wz (x - 5) j
  else if 172 ≤ x ∧ x ≤ 338 then (if wz (x - 172) j = 1 then 2 else wz (x - 172) j)
  else if x = 340 ∨ (343 ≤ x ∧ x ≤ 346) ∨ x = 348 ∨ x = 352 ∨ x = 353 ∨ (364 ≤ x ∧ x ≤ 373) then 8
  else if x = 342 then (if 4 ≤ j then 0 else 8) else if x = 347 then (if j = 1 then 8 else 0)
  else if x = 351 then (if j = 2 ∨ j = 10 ∨ j = 12 then 0 else 8) else 0
/-- nothing is changed but in these zones -/
def fz (zs : List Nat) (M M' : mj_M) : Prop := (∀ x j, zone x j ∉ zs → hh M' x j = hh M x j) ∧ (∀ x, hl M' x = hl M x) ∧ (M'.1 = M.1) ∧ (M'.2.1 = M.2.1)
theorem fz.h {zs : List Nat} {M M' : mj_M} (h : fz zs M M') : ∀ x j, zone x j ∉ zs → hh M' x j = hh M x j := h.1
theorem fz.l {zs : List Nat} {M M' : mj_M} (h : fz zs M M') : ∀ x, hl M' x = hl M x := h.2.1
theorem fz.n {zs : List Nat} {M M' : mj_M} (h : fz zs M M') : M'.1 = M.1 := h.2.2.1
theorem fz.s {zs : List Nat} {M M' : mj_M} (h : fz zs M M') : M'.2.1 = M.2.1 := h.2.2.2
theorem fz.rfl' {zs : List Nat} {M : mj_M} : fz zs M M := ⟨fun _ _ _ => rfl, fun _ => rfl, rfl, rfl⟩
theorem fz.tr {zs : List Nat} {M M1 M2 : mj_M} (a : fz zs M M1) (b : fz zs M1 M2) : fz zs M M2 := ⟨fun x j h => (b.h x j h).trans (a.h x j h), fun x => (b.l x).trans (a.l x), b.n.trans a.n, b.s.trans a.s⟩
theorem fz.mono {zs zt : List Nat} {M M1 : mj_M} (a : fz zs M M1) (h : ∀ z, z ∈ zs → z ∈ zt) : fz zt M M1 := ⟨fun x j g => a.h x j (fun q => g (h _ q)), a.l, a.n, a.s⟩
theorem fz.wr {zs : List Nat} {M M1 : mj_M} {a i v : Int} (f : fz zs M M1) (h : zone a i ∈ zs) : fz zs M (mj_wr M1 a i v) := ⟨fun x j g => by
  rw [hh_wr, if_neg]
  · exact f.h x j g
  · rintro ⟨e1, e2⟩
    subst e1; subst e2
    exact g h, f.l, f.n, f.s⟩
theorem fz.nxe {zs : List Nat} {M M1 : mj_M} (f : fz zs M M1) : nx M1 = nx M := by unfold nx; rw [f.n]
set_option maxRecDepth 20000 in
theorem cs_z : cs_l.all (fun q => zone q.1 q.2.1 == 0) = true := by decide +kernel
theorem CS.fz {zs : List Nat} {M M1 : mj_M} (h : CS M) (f : fz zs M M1) (h0 : 0 ∉ zs) : CS M1 := ⟨fun q hq => by
  have := List.all_eq_true.mp cs_z q hq
  rw [f.h _ _ (by rw [eq_of_beq this]; exact h0)]
  exact h.1 q hq, fun q hq => by rw [f.l]; exact h.2 q hq⟩
theorem MR.keep {M M1 : mj_M} {c : Int} {m : Mom} (h : MR M c m) (k : ∀ x j, c ≤ x → x ≤ c + 4 → hh M1 x j = hh M x j ∨ (x = c ∧ 4 ≤ j)) : MR M1 c m := by
  have g : ∀ x j, c ≤ x → x ≤ c + 4 → ¬ (x = c ∧ 4 ≤ j) → hh M1 x j = hh M x j := fun x j a b n => (k x j a b).resolve_right n
  exact ⟨(g c 2 (by omega) (by omega) (by omega)).trans h.hp, (g c 0 (by omega) (by omega) (by omega)).trans h.hy, (g c 1 (by omega) (by omega) (by omega)).trans h.hx, (g c 3 (by omega) (by omega) (by omega)).trans h.ht,
    fun p a b => (g _ _ (by omega) (by omega) (by omega)).trans (h.ha p a b), fun p a b => (g _ _ (by omega) (by omega) (by omega)).trans (h.hk p a b), fun p a b => (g _ _ (by omega) (by omega) (by omega)).trans (h.hb p a b),
    fun i a b k c d => (g _ _ (by omega) (by omega) (by omega)).trans (h.hbk i a b k c d)⟩
