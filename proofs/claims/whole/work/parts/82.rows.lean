/-! ROWS: a moment changes -/
def up (A : Int → Int) (i v : Int) : Int → Int := fun j => if j = i then v else A j
theorem up_ne {A : Int → Int} {i v j : Int} (h : j ≠ i) : up A i v j = A j := if_neg h
theorem up_eq {A : Int → Int} {i v : Int} : up A i v i = v := if_pos rfl
/-- places of the moment now -/
def nwi (j : Int) : Prop := (8 ≤ j ∧ j ≤ 10) ∨ (11 ≤ j ∧ j ≤ 40 ∧ (j - 11) % 5 < 3) ∨ (1661 ≤ j ∧ j ≤ 1690)
def nwE (A A1 : Int → Int) : Prop := ∀ j, ¬ nwi j → A1 j = A j
theorem nwE.rfl' {A : Int → Int} : nwE A A := fun _ _ => rfl
theorem nwE.tr {A B C : Int → Int} (h : nwE A B) (g : nwE B C) : nwE A C := fun j hj => (g j hj).trans (h j hj)
theorem nwE.up {A B : Int → Int} {i v : Int} (h : nwE A B) (hi : nwi i) : nwE A (up B i v) := fun j hj => by rw [up_ne (fun e => by subst e; exact hj hi)]; exact h j hj
theorem nwi_k {p k : Int} (hp : 0 ≤ p ∧ p < 6) (hk : 0 ≤ k ∧ k < 3) : nwi (11 + 5 * p + k) := Or.inr (Or.inl ⟨by omega, by omega, by omega⟩)
section MRup
variable {M : mj_M} {c F p v : Int} {A : Int → Int}
theorem MR_x (h : MR M c (mn A)) (hi : MI F (mn A)) : MR (mj_wr M c 1 v) c (mn (up A 9 v)) := by
  have p6 : A 1 ≤ 6 := hi.p6
  have t3 : A 10 ≤ 30 := hi.t3
  have eP : (mn (up A 9 v)).P = A 1 := show up A 9 v 1 = A 1 from up_ne (by omega)
  have eT : (mn (up A 9 v)).t = A 10 := show up A 9 v 10 = A 10 from up_ne (by omega)
  refine ⟨?_, ?_, ?_, ?_, fun q a b => ?_, fun q a b => ?_, fun q a b => ?_, fun i a b k x y => ?_⟩
  · show hh (mj_wr M c 1 v) c 2 = up A 9 v 1; rw [hh_wr, if_neg (by omega), up_ne (by omega)]; exact h.hp
  · show hh (mj_wr M c 1 v) c 0 = up A 9 v 8; rw [hh_wr, if_neg (by omega), up_ne (by omega)]; exact h.hy
  · show hh (mj_wr M c 1 v) c 1 = up A 9 v 9; rw [hh_wr, if_pos ⟨rfl, rfl⟩, up_eq]
  · show hh (mj_wr M c 1 v) c 3 = up A 9 v 10; rw [hh_wr, if_neg (by omega), up_ne (by omega)]; exact h.ht
  · rw [eP] at b; show hh (mj_wr M c 1 v) (c + 1) q = up A 9 v (11 + 5 * q + 0); rw [hh_wr, if_neg (by omega), up_ne (by omega)]; exact h.ha q a b
  · rw [eP] at b; show hh (mj_wr M c 1 v) (c + 2) q = up A 9 v (11 + 5 * q + 1); rw [hh_wr, if_neg (by omega), up_ne (by omega)]; exact h.hk q a b
  · rw [eP] at b; show hh (mj_wr M c 1 v) (c + 3) q = up A 9 v (11 + 5 * q + 2); rw [hh_wr, if_neg (by omega), up_ne (by omega)]; exact h.hb q a b
  · rw [eT] at b; show hh (mj_wr M c 1 v) (c + 4) (4 * i + k) = bk (up A 9 v (1661 + i)) k; rw [hh_wr, if_neg (by omega), up_ne (by omega)]; exact h.hbk i a b k x y
theorem MR_y (h : MR M c (mn A)) (hi : MI F (mn A)) : MR (mj_wr M c 0 v) c (mn (up A 8 v)) := by
  have p6 : A 1 ≤ 6 := hi.p6
  have t3 : A 10 ≤ 30 := hi.t3
  have eP : (mn (up A 8 v)).P = A 1 := show up A 8 v 1 = A 1 from up_ne (by omega)
  have eT : (mn (up A 8 v)).t = A 10 := show up A 8 v 10 = A 10 from up_ne (by omega)
  refine ⟨?_, ?_, ?_, ?_, fun q a b => ?_, fun q a b => ?_, fun q a b => ?_, fun i a b k x y => ?_⟩
  · show hh (mj_wr M c 0 v) c 2 = up A 8 v 1; rw [hh_wr, if_neg (by omega), up_ne (by omega)]; exact h.hp
  · show hh (mj_wr M c 0 v) c 0 = up A 8 v 8; rw [hh_wr, if_pos ⟨rfl, rfl⟩, up_eq]
  · show hh (mj_wr M c 0 v) c 1 = up A 8 v 9; rw [hh_wr, if_neg (by omega), up_ne (by omega)]; exact h.hx
  · show hh (mj_wr M c 0 v) c 3 = up A 8 v 10; rw [hh_wr, if_neg (by omega), up_ne (by omega)]; exact h.ht
  · rw [eP] at b; show hh (mj_wr M c 0 v) (c + 1) q = up A 8 v (11 + 5 * q + 0); rw [hh_wr, if_neg (by omega), up_ne (by omega)]; exact h.ha q a b
  · rw [eP] at b; show hh (mj_wr M c 0 v) (c + 2) q = up A 8 v (11 + 5 * q + 1); rw [hh_wr, if_neg (by omega), up_ne (by omega)]; exact h.hk q a b
  · rw [eP] at b; show hh (mj_wr M c 0 v) (c + 3) q = up A 8 v (11 + 5 * q + 2); rw [hh_wr, if_neg (by omega), up_ne (by omega)]; exact h.hb q a b
  · rw [eT] at b; show hh (mj_wr M c 0 v) (c + 4) (4 * i + k) = bk (up A 8 v (1661 + i)) k; rw [hh_wr, if_neg (by omega), up_ne (by omega)]; exact h.hbk i a b k x y
/-- what a person has: k = 0 age, 1 knows, 2 breath -/
theorem MR_p {k : Int} (h : MR M c (mn A)) (hi : MI F (mn A)) (hp : 0 ≤ p ∧ p < 6) (hk : 0 ≤ k ∧ k < 3) : MR (mj_wr M (c + 1 + k) p v) c (mn (up A (11 + 5 * p + k) v)) := by
  have p6 : A 1 ≤ 6 := hi.p6
  have t3 : A 10 ≤ 30 := hi.t3
  have eP : (mn (up A (11 + 5 * p + k) v)).P = A 1 := show up A (11 + 5 * p + k) v 1 = A 1 from up_ne (by omega)
  have eT : (mn (up A (11 + 5 * p + k) v)).t = A 10 := show up A (11 + 5 * p + k) v 10 = A 10 from up_ne (by omega)
  have gen : ∀ q w, 0 ≤ q → q < A 1 → (0 ≤ w ∧ w < 3) → hh M (c + 1 + w) q = A (11 + 5 * q + w) → hh (mj_wr M (c + 1 + k) p v) (c + 1 + w) q = up A (11 + 5 * p + k) v (11 + 5 * q + w) := by
    intro q w a b hw e
    by_cases hq : q = p ∧ w = k
    · rw [hq.1, hq.2, hh_wr, if_pos ⟨rfl, rfl⟩, up_eq]
    · rw [hh_wr, if_neg (by omega), up_ne (by omega), e]
  refine ⟨?_, ?_, ?_, ?_, fun q a b => ?_, fun q a b => ?_, fun q a b => ?_, fun i a b w x y => ?_⟩
  · show hh (mj_wr M (c + 1 + k) p v) c 2 = up A (11 + 5 * p + k) v 1; rw [hh_wr, if_neg (by omega), up_ne (by omega)]; exact h.hp
  · show hh (mj_wr M (c + 1 + k) p v) c 0 = up A (11 + 5 * p + k) v 8; rw [hh_wr, if_neg (by omega), up_ne (by omega)]; exact h.hy
  · show hh (mj_wr M (c + 1 + k) p v) c 1 = up A (11 + 5 * p + k) v 9; rw [hh_wr, if_neg (by omega), up_ne (by omega)]; exact h.hx
  · show hh (mj_wr M (c + 1 + k) p v) c 3 = up A (11 + 5 * p + k) v 10; rw [hh_wr, if_neg (by omega), up_ne (by omega)]; exact h.ht
  · rw [eP] at b
    have := gen q 0 a b (by decide) (by rw [Int.add_zero]; exact h.ha q a b)
    rw [Int.add_zero] at this
    exact this
  · rw [eP] at b
    have := gen q 1 a b (by decide) (by rw [show c + 1 + 1 = c + 2 by omega]; exact h.hk q a b)
    rw [show c + 1 + 1 = c + 2 by omega] at this
    exact this
  · rw [eP] at b
    have := gen q 2 a b (by decide) (by rw [show c + 1 + 2 = c + 3 by omega]; exact h.hb q a b)
    rw [show c + 1 + 2 = c + 3 by omega] at this
    exact this
  · rw [eT] at b; show hh (mj_wr M (c + 1 + k) p v) (c + 4) (4 * i + w) = bk (up A (11 + 5 * p + k) v (1661 + i)) w; rw [hh_wr, if_neg (by omega), up_ne (by omega)]; exact h.hbk i a b w x y
theorem MI_x (hi : MI F (mn A)) (hv : 0 ≤ v ∧ v ≤ 30702) : MI F (mn (up A 9 v)) := by
  have p6 : A 1 ≤ 6 := hi.p6
  have t3 : A 10 ≤ 30 := hi.t3
  have eP : (mn (up A 9 v)).P = (mn A).P := show up A 9 v 1 = A 1 from up_ne (by omega)
  have eT : (mn (up A 9 v)).t = (mn A).t := show up A 9 v 10 = A 10 from up_ne (by omega)
  have eY : (mn (up A 9 v)).y = (mn A).y := show up A 9 v 8 = A 8 from up_ne (by omega)
  have eX : (mn (up A 9 v)).x = v := show up A 9 v 9 = v from up_eq
  have ep : ∀ q k, 0 ≤ q → 0 ≤ k → (mn (up A 9 v)).ps q k = (mn A).ps q k := fun q k a b => show up A _ v (11 + 5 * q + k) = A (11 + 5 * q + k) from up_ne (by omega)
  have eb : ∀ i, 0 ≤ i → (mn (up A 9 v)).bo i = (mn A).bo i := fun i a => show up A _ v (1661 + i) = A (1661 + i) from up_ne (by omega)
  exact ⟨by rw [eP]; exact hi.p0, by rw [eP]; exact hi.p6, by rw [eY]; exact hi.y0, by rw [eY]; exact hi.y9, by rw [eX]; exact hv.1, by rw [eX]; exact hv.2, by rw [eT]; exact hi.t0, by rw [eT]; exact hi.t3, fun q a b => by rw [eP] at b; rw [ep q 0 a (by decide)]; exact hi.a q a b, fun q a b => by rw [eP] at b; rw [ep q 1 a (by decide)]; exact hi.k q a b, fun q a b => by rw [eP] at b; rw [ep q 2 a (by decide)]; exact hi.b q a b, fun i a b => by rw [eT] at b; rw [eb i a]; exact hi.bo i a b⟩
theorem MI_y (hi : MI F (mn A)) (hv : 0 ≤ v ∧ v ≤ 9999) : MI F (mn (up A 8 v)) := by
  have p6 : A 1 ≤ 6 := hi.p6
  have t3 : A 10 ≤ 30 := hi.t3
  have eP : (mn (up A 8 v)).P = (mn A).P := show up A 8 v 1 = A 1 from up_ne (by omega)
  have eT : (mn (up A 8 v)).t = (mn A).t := show up A 8 v 10 = A 10 from up_ne (by omega)
  have eY : (mn (up A 8 v)).y = v := show up A 8 v 8 = v from up_eq
  have eX : (mn (up A 8 v)).x = (mn A).x := show up A 8 v 9 = A 9 from up_ne (by omega)
  have ep : ∀ q k, 0 ≤ q → 0 ≤ k → (mn (up A 8 v)).ps q k = (mn A).ps q k := fun q k a b => show up A _ v (11 + 5 * q + k) = A (11 + 5 * q + k) from up_ne (by omega)
  have eb : ∀ i, 0 ≤ i → (mn (up A 8 v)).bo i = (mn A).bo i := fun i a => show up A _ v (1661 + i) = A (1661 + i) from up_ne (by omega)
  exact ⟨by rw [eP]; exact hi.p0, by rw [eP]; exact hi.p6, by rw [eY]; exact hv.1, by rw [eY]; exact hv.2, by rw [eX]; exact hi.x0, by rw [eX]; exact hi.x9, by rw [eT]; exact hi.t0, by rw [eT]; exact hi.t3, fun q a b => by rw [eP] at b; rw [ep q 0 a (by decide)]; exact hi.a q a b, fun q a b => by rw [eP] at b; rw [ep q 1 a (by decide)]; exact hi.k q a b, fun q a b => by rw [eP] at b; rw [ep q 2 a (by decide)]; exact hi.b q a b, fun i a b => by rw [eT] at b; rw [eb i a]; exact hi.bo i a b⟩
theorem MI_p {k : Int} (hi : MI F (mn A)) (hp : 0 ≤ p ∧ p < 6) (hk : 0 ≤ k ∧ k < 3) (h0 : k = 0 → 0 ≤ v ∧ v ≤ 99) (h1 : k = 1 → 0 ≤ v ∧ v < pw F) (h2 : k = 2 → 0 ≤ v ∧ v ≤ 99) : MI F (mn (up A (11 + 5 * p + k) v)) := by
  have p6 : A 1 ≤ 6 := hi.p6
  have t3 : A 10 ≤ 30 := hi.t3
  have eP : (mn (up A (11 + 5 * p + k) v)).P = (mn A).P := show up A (11 + 5 * p + k) v 1 = A 1 from up_ne (by omega)
  have eT : (mn (up A (11 + 5 * p + k) v)).t = (mn A).t := show up A (11 + 5 * p + k) v 10 = A 10 from up_ne (by omega)
  have eY : (mn (up A (11 + 5 * p + k) v)).y = (mn A).y := show up A (11 + 5 * p + k) v 8 = A 8 from up_ne (by omega)
  have eX : (mn (up A (11 + 5 * p + k) v)).x = (mn A).x := show up A (11 + 5 * p + k) v 9 = A 9 from up_ne (by omega)
  have ep : ∀ q w, 0 ≤ q → (0 ≤ w ∧ w < 3) → ¬ (q = p ∧ w = k) → (mn (up A (11 + 5 * p + k) v)).ps q w = (mn A).ps q w := fun q w a b n => show up A _ v (11 + 5 * q + w) = A (11 + 5 * q + w) from up_ne (by omega)
  have ee : (mn (up A (11 + 5 * p + k) v)).ps p k = v := show up A (11 + 5 * p + k) v (11 + 5 * p + k) = v from up_eq
  have eb : ∀ i, 0 ≤ i → (mn (up A (11 + 5 * p + k) v)).bo i = (mn A).bo i := fun i a => show up A _ v (1661 + i) = A (1661 + i) from up_ne (by omega)
  refine ⟨by rw [eP]; exact hi.p0, by rw [eP]; exact hi.p6, by rw [eY]; exact hi.y0, by rw [eY]; exact hi.y9, by rw [eX]; exact hi.x0, by rw [eX]; exact hi.x9, by rw [eT]; exact hi.t0, by rw [eT]; exact hi.t3, fun q a b => ?_, fun q a b => ?_, fun q a b => ?_, fun i a b => by rw [eT] at b; rw [eb i a]; exact hi.bo i a b⟩
  · rw [eP] at b
    by_cases e : q = p ∧ 0 = k
    · obtain ⟨rfl, rfl⟩ := e; rw [ee]; exact h0 rfl
    · rw [ep q 0 a (by decide) e]; exact hi.a q a b
  · rw [eP] at b
    by_cases e : q = p ∧ 1 = k
    · obtain ⟨rfl, rfl⟩ := e; rw [ee]; exact h1 rfl
    · rw [ep q 1 a (by decide) e]; exact hi.k q a b
  · rw [eP] at b
    by_cases e : q = p ∧ 2 = k
    · obtain ⟨rfl, rfl⟩ := e; rw [ee]; exact h2 rfl
    · rw [ep q 2 a (by decide) e]; exact hi.b q a b
end MRup
theorem envA_congr {A A1 : Int → Int} {m m1 : Mom} {p f : Int} (hk : A1 (41 + 2 * f) = A (41 + 2 * f)) (hl : A1 (42 + 2 * f) = A (42 + 2 * f)) (eP : m1.P = m.P) (ey : m1.y = m.y) (ep : ∀ q k, 0 ≤ q → q < m.P → 0 ≤ k → k < 3 → m1.ps q k = m.ps q k) (hp : 0 ≤ p ∧ p < m.P) : envA A1 m1 p f = envA A m p f := by
  have ek : ∀ v, kwm m1 v = kwm m v := by
    intro v
    unfold kwm
    rw [eP]
    exact bt_congr (fun q hq => by rw [ep (q : Int) 1 (by omega) (by omega) (by decide) (by decide)])
  unfold envA
  rw [hk, hl, ey, ep p 0 hp.1 hp.2 (by decide) (by decide), ep p 1 hp.1 hp.2 (by decide) (by decide), ep p 2 hp.1 hp.2 (by decide) (by decide)]
  simp only [ek]
  rfl
/-- the next draw -/
def nxx (x : Int) : Int := (x * 521 + 401) % 30703
theorem nxx_r (x : Int) : 0 ≤ nxx x ∧ nxx x ≤ 30702 := by unfold nxx; omega
/-- without form f -/
def clr (v f : Int) : Int := ji_and v (ji_xor (ji_shl 1 f) (-1))
set_option maxRecDepth 20000 in
theorem clr_all : ∀ v : Nat, v < 256 → ∀ f : Nat, f < 8 → 0 ≤ clr (v : Int) (f : Int) ∧ clr (v : Int) (f : Int) ≤ (v : Int) := by decide +kernel
theorem clr_r {v f F : Int} (hv : 0 ≤ v ∧ v < pw F) (hF : F ≤ 8) (hf : 0 ≤ f ∧ f < 8) : 0 ≤ clr v f ∧ clr v f < pw F := by
  have := pw8 hF
  obtain ⟨a, rfl⟩ := nat_of hv.1
  obtain ⟨b, rfl⟩ := nat_of hf.1
  have := clr_all a (by omega) b (by omega)
  omega
def m99 (v : Int) : Int := if 99 < v then 99 else v
theorem m99_r {v : Int} (h : 0 ≤ v) : 0 ≤ m99 v ∧ m99 v ≤ 99 := by unfold m99; split <;> omega
/-- one form of a person in a year; one person; a year -/
def fstp (L : Option (Env → Int)) (p : Int) (f : Nat) (s : (Int → Int) × Int) : (Int → Int) × Int := if kno s.1 p (f : Int) then (if s.1 9 % 10 < fdV L (envA s.1 (mn s.1) p (f : Int)) then (up (up s.1 9 (nxx (s.1 9))) (11 + 5 * p + 1) (clr (s.1 (11 + 5 * p + 1)) (f : Int)), s.2 + 1) else (up s.1 9 (nxx (s.1 9)), s.2)) else s
def fsts (L : Option (Env → Int)) (p : Int) (s : (Int → Int) × Int) : Nat → (Int → Int) × Int := it (fstp L p) s
def pend (p : Int) (A : Int → Int) : Int → Int := up (up A (11 + 5 * p + 0) (m99 (A (11 + 5 * p + 0) + 1))) (11 + 5 * p + 2) (m99 (A (11 + 5 * p + 2) + 10))
def pstp (L : Option (Env → Int)) (p : Nat) (s : (Int → Int) × Int) : (Int → Int) × Int := (pend (p : Int) (fsts L (p : Int) s 8).1, (fsts L (p : Int) s 8).2)
def psts (L : Option (Env → Int)) (A : Int → Int) : Nat → (Int → Int) × Int := it (pstp L) (A, 0)
def psA (L : Option (Env → Int)) (A : Int → Int) : (Int → Int) × Int := (up (psts L A (A 1).toNat).1 8 ((psts L A (A 1).toNat).1 8 + 1), (psts L A (A 1).toNat).2)
/-- what a moment is asked by -/
def AN (A : Int → Int) : Prop := (MI (A 0) (mn A)) ∧ (0 ≤ A 0) ∧ (A 0 ≤ 8) ∧ (∀ i, 0 ≤ i → i < 8 → 0 ≤ A (41 + 2 * i) ∧ A (41 + 2 * i) ≤ 4) ∧ (∀ i, 0 ≤ i → i < 8 → 0 ≤ A (42 + 2 * i) ∧ A (42 + 2 * i) ≤ 9)
theorem AN.mi {A : Int → Int} (h : AN A) : MI (A 0) (mn A) := h.1
theorem AN.F0 {A : Int → Int} (h : AN A) : 0 ≤ A 0 := h.2.1
theorem AN.F8 {A : Int → Int} (h : AN A) : A 0 ≤ 8 := h.2.2.1
theorem AN.fk {A : Int → Int} (h : AN A) : ∀ i, 0 ≤ i → i < 8 → 0 ≤ A (41 + 2 * i) ∧ A (41 + 2 * i) ≤ 4 := h.2.2.2.1
theorem AN.fl {A : Int → Int} (h : AN A) : ∀ i, 0 ≤ i → i < 8 → 0 ≤ A (42 + 2 * i) ∧ A (42 + 2 * i) ≤ 9 := h.2.2.2.2
theorem AI.an {A : Int → Int} (h : AI A) : AN A := ⟨h.now, h.f0, h.f8, h.fk, h.fl⟩
theorem AN.of {A A1 : Int → Int} (h : AN A) (e : nwE A A1) (mi : MI (A 0) (mn A1)) : AN A1 := by
  have q : ∀ j, (j = 0 ∨ (41 ≤ j ∧ j ≤ 56)) → A1 j = A j := fun j hj => e j (by unfold nwi; omega)
  refine ⟨by rw [q 0 (by omega)]; exact mi, by rw [q 0 (by omega)]; exact h.F0, by rw [q 0 (by omega)]; exact h.F8, fun i a b => by rw [q (41 + 2 * i) (by omega)]; exact h.fk i a b, fun i a b => by rw [q (42 + 2 * i) (by omega)]; exact h.fl i a b⟩
/-- rows that go on from A: the same but now, people as many, year and book as they were -/
def Go (A A1 : Int → Int) : Prop := (nwE A A1) ∧ (AN A1) ∧ (A1 8 = A 8) ∧ (A1 10 = A 10) ∧ (∀ i, 0 ≤ i → i < 30 → A1 (1661 + i) = A (1661 + i))
theorem Go.e {A A1 : Int → Int} (h : Go A A1) : nwE A A1 := h.1
theorem Go.an {A A1 : Int → Int} (h : Go A A1) : AN A1 := h.2.1
theorem Go.y {A A1 : Int → Int} (h : Go A A1) : A1 8 = A 8 := h.2.2.1
theorem Go.t {A A1 : Int → Int} (h : Go A A1) : A1 10 = A 10 := h.2.2.2.1
theorem Go.b {A A1 : Int → Int} (h : Go A A1) : ∀ i, 0 ≤ i → i < 30 → A1 (1661 + i) = A (1661 + i) := h.2.2.2.2
theorem Go.rfl' {A : Int → Int} (h : AN A) : Go A A := ⟨nwE.rfl', h, rfl, rfl, fun _ _ _ => rfl⟩
theorem Go.P {A A1 : Int → Int} (h : Go A A1) : A1 1 = A 1 := h.e 1 (by unfold nwi; omega)
theorem Go.f {A A1 : Int → Int} (h : Go A A1) : A1 0 = A 0 := h.e 0 (by unfold nwi; omega)
theorem Go.x {A A1 : Int → Int} {v : Int} (h : Go A A1) (hv : 0 ≤ v ∧ v ≤ 30702) : Go A (up A1 9 v) := ⟨h.e.up (Or.inl (by omega)), h.an.of (nwE.rfl'.up (Or.inl (by omega))) (MI_x h.an.mi hv), by rw [up_ne (by omega)]; exact h.y, by rw [up_ne (by omega)]; exact h.t, fun i a b => by rw [up_ne (by omega)]; exact h.b i a b⟩
theorem Go.p {A A1 : Int → Int} {p k v : Int} (h : Go A A1) (hp : 0 ≤ p ∧ p < 6) (hk : 0 ≤ k ∧ k < 3) (h0 : k = 0 → 0 ≤ v ∧ v ≤ 99) (h1 : k = 1 → 0 ≤ v ∧ v < pw (A1 0)) (h2 : k = 2 → 0 ≤ v ∧ v ≤ 99) : Go A (up A1 (11 + 5 * p + k) v) := ⟨h.e.up (nwi_k hp hk), h.an.of (nwE.rfl'.up (nwi_k hp hk)) (MI_p h.an.mi hp hk h0 h1 h2), by rw [up_ne (by omega)]; exact h.y, by rw [up_ne (by omega)]; exact h.t, fun i a b => by rw [up_ne (by omega)]; exact h.b i a b⟩
theorem Go.fs {A : Int → Int} {L : Option (Env → Int)} {p : Int} {s : (Int → Int) × Int} (hp : 0 ≤ p ∧ p < A 1) (h : Go A s.1) (h2 : 0 ≤ s.2) : ∀ n : Nat, n ≤ 8 → Go A (fsts L p s n).1 ∧ s.2 ≤ (fsts L p s n).2 ∧ (fsts L p s n).2 ≤ s.2 + n
  | 0, _ => ⟨h, Int.le_refl _, by show s.2 ≤ s.2 + 0; omega⟩
  | n + 1, hn => by
    obtain ⟨g, g1, g2⟩ := Go.fs (L := L) hp h h2 n (by omega)
    have e : fsts L p s (n + 1) = fstp L p n (fsts L p s n) := rfl
    have p6 : (fsts L p s n).1 1 ≤ 6 := g.an.mi.p6
    rw [g.P] at p6
    rw [e]
    generalize fsts L p s n = q at *
    unfold fstp
    have kk : 0 ≤ q.1 (11 + 5 * p + 1) ∧ q.1 (11 + 5 * p + 1) < pw (q.1 0) := g.an.mi.k p hp.1 (by show p < q.1 1; rw [g.P]; exact hp.2)
    have kc := clr_r kk g.an.F8 (f := (n : Int)) ⟨by omega, by omega⟩
    split
    · split
      · exact ⟨(g.x (nxx_r _)).p ⟨hp.1, by omega⟩ (by decide) (fun h => absurd h (by decide)) (fun _ => by rw [up_ne (by omega)]; exact kc) (fun h => absurd h (by decide)), by show s.2 ≤ q.2 + 1; omega, by show q.2 + 1 ≤ _; omega⟩
      · exact ⟨g.x (nxx_r _), g1, by show q.2 ≤ _; omega⟩
    · exact ⟨g, g1, by omega⟩
theorem Go.pe {A A1 : Int → Int} {p : Int} (h : Go A A1) (hp : 0 ≤ p ∧ p < A 1) : Go A (pend p A1) := by
  have p6 : A1 1 ≤ 6 := h.an.mi.p6
  rw [h.P] at p6
  have ar : 0 ≤ A1 (11 + 5 * p + 0) ∧ A1 (11 + 5 * p + 0) ≤ 99 := h.an.mi.a p hp.1 (by show p < A1 1; rw [h.P]; exact hp.2)
  have br : 0 ≤ A1 (11 + 5 * p + 2) ∧ A1 (11 + 5 * p + 2) ≤ 99 := h.an.mi.b p hp.1 (by show p < A1 1; rw [h.P]; exact hp.2)
  unfold pend
  exact (h.p ⟨hp.1, by omega⟩ (k := 0) (by decide) (fun _ => m99_r (by omega)) (fun h => absurd h (by decide)) (fun h => absurd h (by decide))).p ⟨hp.1, by omega⟩ (k := 2) (by decide) (fun h => absurd h (by decide)) (fun h => absurd h (by decide)) (fun _ => m99_r (by omega))
theorem Go.ps {A : Int → Int} {L : Option (Env → Int)} (h : AN A) : ∀ n : Nat, (n : Int) ≤ A 1 → Go A (psts L A n).1 ∧ 0 ≤ (psts L A n).2 ∧ (psts L A n).2 ≤ 8 * n
  | 0, _ => ⟨Go.rfl' h, Int.le_refl _, by show (0 : Int) ≤ 8 * 0; decide⟩
  | n + 1, hn => by
    obtain ⟨g, g1, g2⟩ := Go.ps (L := L) h n (by omega)
    have e : psts L A (n + 1) = pstp L n (psts L A n) := rfl
    obtain ⟨k1, k2, k3⟩ := Go.fs (L := L) (p := (n : Int)) (s := psts L A n) ⟨by omega, by omega⟩ g g1 8 (by omega)
    rw [e]
    unfold pstp
    exact ⟨k1.pe ⟨by omega, by omega⟩, by show 0 ≤ (fsts L (n : Int) (psts L A n) 8).2; omega, by show (fsts L (n : Int) (psts L A n) 8).2 ≤ _; omega⟩
