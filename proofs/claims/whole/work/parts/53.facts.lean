/-! WHAT THE RELATION SAYS OF EACH CELL -/
section Facts
variable {M : mj_M}
theorem RR.gnf (h : RR M) : hh M 6 0 = hh M 355 0 := h.wr.nf
theorem RR.gfk (h : RR M) {i : Int} (a : 0 ≤ i ∧ i < 8) : hh M 7 i = hh M 355 (41 + 2 * i) := h.wr.fk i a.1 a.2
theorem RR.gfl (h : RR M) {i : Int} (a : 0 ≤ i ∧ i < 8) : hh M 8 i = hh M 355 (41 + 2 * i + 1) := (h.wr.fl i a.1 a.2).trans (by rw [show 42 + 2 * i = 41 + 2 * i + 1 by omega])
theorem RR.gP (h : RR M) : hh M 10 2 = hh M 355 1 := h.wr.now.hp
theorem RR.gy (h : RR M) : hh M 10 0 = hh M 355 8 := h.wr.now.hy
theorem RR.gx (h : RR M) : hh M 10 1 = hh M 355 9 := h.wr.now.hx
theorem RR.gt (h : RR M) : hh M 10 3 = hh M 355 10 := h.wr.now.ht
theorem RR.ga (h : RR M) {p : Int} (a : 0 ≤ p ∧ p < hh M 355 1) : hh M 11 p = hh M 355 (11 + 5 * p + 0) := h.wr.now.ha p a.1 a.2
theorem RR.gk (h : RR M) {p : Int} (a : 0 ≤ p ∧ p < hh M 355 1) : hh M 12 p = hh M 355 (11 + 5 * p + 1) := h.wr.now.hk p a.1 a.2
theorem RR.gb (h : RR M) {p : Int} (a : 0 ≤ p ∧ p < hh M 355 1) : hh M 13 p = hh M 355 (11 + 5 * p + 2) := h.wr.now.hb p a.1 a.2
theorem RR.gbk (h : RR M) {i k : Int} (a : 0 ≤ i ∧ i < hh M 355 10) (b : 0 ≤ k ∧ k < 4) : hh M 14 (4 * i + k) = bk (hh M 355 (1661 + i)) k := h.wr.now.hbk i a.1 a.2 k b.1 b.2
theorem RR.gns (h : RR M) : hh M 5 4 = hh M 355 2 := h.wr.ns
theorem RR.gst (h : RR M) {i : Int} (a : 0 ≤ i ∧ i < hh M 355 2) : hh M 19 i = hh M 355 (57 + i) := h.wr.st i a.1 a.2
theorem RR.gnt (h : RR M) : hh M 5 6 = hh M 355 3 := h.wr.nt
theorem RR.gru (h : RR M) : hh M 5 7 = hh M 355 4 := h.wr.ru
theorem RR.gnp (h : RR M) : hh M 5 9 = hh M 355 5 := h.wr.np
theorem RR.gnd (h : RR M) : hh M 15 0 = hh M 355 6 := h.wr.nd
theorem RR.gd (h : RR M) {i k : Int} (a : 0 ≤ i ∧ i < hh M 355 6) (b : 0 ≤ k ∧ k < 3) : hh M 16 (3 * i + k) = hh M 355 (61 + 3 * i + k) := h.wr.d i a.1 a.2 k b.1 b.2
theorem RR.gne (h : RR M) : hh M 17 0 = hh M 355 7 := h.wr.ne
theorem RR.ge (h : RR M) {i k : Int} (a : 0 ≤ i ∧ i < hh M 355 7) (b : 0 ≤ k ∧ k < 2) : hh M 18 (3 * i + k) = hh M 355 (85 + 2 * i + k) := h.wr.e i a.1 a.2 k b.1 b.2
theorem RR.F0 (h : RR M) : 0 ≤ hh M 355 0 := h.ai.f0
theorem RR.F8 (h : RR M) : hh M 355 0 ≤ 8 := h.ai.f8
theorem RR.P0 (h : RR M) : 0 ≤ hh M 355 1 := h.ai.now.p0
theorem RR.P6 (h : RR M) : hh M 355 1 ≤ 6 := h.ai.now.p6
theorem RR.S0 (h : RR M) : 0 ≤ hh M 355 2 := h.ai.s0
theorem RR.S4 (h : RR M) : hh M 355 2 ≤ 4 := h.ai.s4
theorem RR.T0 (h : RR M) : 0 ≤ hh M 355 3 := h.ai.t0
theorem RR.T4 (h : RR M) : hh M 355 3 ≤ 4 := h.ai.t4
theorem RR.y0 (h : RR M) : 0 ≤ hh M 355 8 := h.ai.now.y0
theorem RR.y9 (h : RR M) : hh M 355 8 ≤ 9999 := h.ai.now.y9
theorem RR.x0 (h : RR M) : 0 ≤ hh M 355 9 := h.ai.now.x0
theorem RR.x9 (h : RR M) : hh M 355 9 ≤ 30702 := h.ai.now.x9
theorem RR.b0 (h : RR M) : 0 ≤ hh M 355 10 := h.ai.now.t0
theorem RR.b3 (h : RR M) : hh M 355 10 ≤ 30 := h.ai.now.t3
theorem pw8 {F : Int} (h : F ≤ 8) : pw F ≤ 256 := by
  unfold pw
  have : (2 : Int) ^ F.toNat ≤ 2 ^ 8 := by
    have := Nat.pow_le_pow_right (n := 2) (by decide) (show F.toNat ≤ 8 by omega)
    have e : ((2 ^ F.toNat : Nat) : Int) ≤ ((2 ^ 8 : Nat) : Int) := by omega
    simpa using e
  simpa using this
theorem RR.K (h : RR M) {p : Int} (a : 0 ≤ p ∧ p < hh M 355 1) : 0 ≤ hh M 355 (11 + 5 * p + 1) ∧ hh M 355 (11 + 5 * p + 1) < 256 := by
  have h1 := h.ai.now.k p a.1 a.2
  have h2 := pw8 h.F8
  have e : (mn (hh M 355)).ps p 1 = hh M 355 (11 + 5 * p + 1) := rfl
  rw [e] at h1
  exact ⟨h1.1, by omega⟩
theorem RR.Ag (h : RR M) {p : Int} (a : 0 ≤ p ∧ p < hh M 355 1) : 0 ≤ hh M 355 (11 + 5 * p + 0) ∧ hh M 355 (11 + 5 * p + 0) ≤ 99 := h.ai.now.a p a.1 a.2
theorem RR.Br (h : RR M) {p : Int} (a : 0 ≤ p ∧ p < hh M 355 1) : 0 ≤ hh M 355 (11 + 5 * p + 2) ∧ hh M 355 (11 + 5 * p + 2) ≤ 99 := h.ai.now.b p a.1 a.2
/-- the cells of a moment -/
def MS (M : mj_M) (c : Int) : Prop := 1 ≤ c ∧ (hh M c 4 = c + 1 ∧ hh M c 5 = c + 2 ∧ hh M c 6 = c + 3 ∧ hh M c 7 = c + 4) ∧ hl M (c + 1) = 6 ∧ hl M (c + 2) = 6 ∧ hl M (c + 3) = 6 ∧ hl M (c + 4) = 120
theorem CS.ms10 (h : CS M) : MS M 10 := ⟨by decide, ⟨c_10_4 h, c_10_5 h, c_10_6 h, c_10_7 h⟩, l_11 h, l_12 h, l_13 h, l_14 h⟩
theorem CS.ms342 (h : CS M) : MS M 342 := ⟨by decide, ⟨c_342_4 h, c_342_5 h, c_342_6 h, c_342_7 h⟩, l_343 h, l_344 h, l_345 h, l_346 h⟩
def ringOk (w : Int) (n : Nat) : Bool := (cs_l.contains (w + 5 * (n : Int), 4, w + 5 * (n : Int) + 1)) && (cs_l.contains (w + 5 * (n : Int), 5, w + 5 * (n : Int) + 2)) && (cs_l.contains (w + 5 * (n : Int), 6, w + 5 * (n : Int) + 3)) && (cs_l.contains (w + 5 * (n : Int), 7, w + 5 * (n : Int) + 4)) && (ls_l.contains (w + 5 * (n : Int) + 1, 6)) && (ls_l.contains (w + 5 * (n : Int) + 2, 6)) && (ls_l.contains (w + 5 * (n : Int) + 3, 6)) && (ls_l.contains (w + 5 * (n : Int) + 4, 120)) && (cs_l.contains (w - 1, (n : Int), w + 5 * (n : Int)))
theorem ring_all : ∀ n : Nat, n < 30 → ringOk 22 n = true ∧ ringOk 189 n = true := by decide +kernel
theorem ring_ms {w : Int} {n : Nat} (h : CS M) (hw : 1 ≤ w) (hr : ringOk w n = true) : MS M (w + 5 * (n : Int)) ∧ hh M (w - 1) n = w + 5 * (n : Int) := by
  unfold ringOk at hr
  simp only [Bool.and_eq_true, List.contains_iff_mem] at hr
  obtain ⟨⟨⟨⟨⟨⟨⟨⟨a1, a2⟩, a3⟩, a4⟩, a5⟩, a6⟩, a7⟩, a8⟩, a9⟩ := hr
  exact ⟨⟨by omega, ⟨h.1 _ a1, h.1 _ a2, h.1 _ a3, h.1 _ a4⟩, h.2 _ a5, h.2 _ a6, h.2 _ a7, h.2 _ a8⟩, h.1 _ a9⟩
theorem CS.ms22 {i : Int} (h : CS M) (hi : 0 ≤ i ∧ i < 30) : MS M (22 + 5 * i) ∧ hh M 21 i = 22 + 5 * i := by
  obtain ⟨n, rfl⟩ := nat_of hi.1
  exact ring_ms h (by decide) (ring_all n (by omega)).1
theorem CS.ms189 {i : Int} (h : CS M) (hi : 0 ≤ i ∧ i < 30) : MS M (189 + 5 * i) ∧ hh M 188 i = 189 + 5 * i := by
  obtain ⟨n, rfl⟩ := nat_of hi.1
  exact ring_ms h (by decide) (ring_all n (by omega)).2
theorem l_21' (h : CS M) : hl M 21 = 30 := l_21 h
/-- of a call: nothing but what is said -/
theorem Pst.of {zs : List Nat} {M1 : mj_M} (h : RR M1) (f : fz zs M M1) : Pst RR M M1 := ⟨h, by rw [f.n]; omega, by rw [f.s]; omega⟩
theorem Pst.id (h : RR M) : Pst RR M M := ⟨h, by omega, by omega⟩
theorem ls_id {a b : Int} (h : RR M) (e : a = b) : ∃ x, (some ((0 : Nat), a) : Option mj_V) = some (0, x) ∧ (some ((0 : Nat), b) : Option mj_V) = some (0, x) ∧ Pst RR M M := ⟨a, rfl, by rw [e], Pst.id h⟩
end Facts
