/-! THE STATIC FACTS OF THE NEW OBJECTS -/
/-- what a world links -/
def wlk (w : Int) : List (Int × Int × Int) := [(w, 0, w + 1), (w, 1, w + 5), (w, 2, w + 10), (w, 3, w + 12), (w, 5, w + 14), (w, 8, w + 15), (w, 11, w + 16), (w + 1, 1, w + 2), (w + 1, 2, w + 3), (w + 1, 3, w + 4), (w + 10, 1, w + 11), (w + 12, 1, w + 13), (w + 5, 4, w + 6), (w + 5, 5, w + 7), (w + 5, 6, w + 8), (w + 5, 7, w + 9)]
abbrev Wqk (w : Int) (q : Int × Int × Int) : Prop := q ∈ wlk w ∨ (q.1 = w + 16 ∧ 0 ≤ q.2.1 ∧ q.2.1 < 30 ∧ q.2.2 = w + 17 + 5 * q.2.1) ∨ (w + 17 ≤ q.1 ∧ q.1 ≤ w + 162 ∧ (q.1 - w - 17) % 5 = 0 ∧ 4 ≤ q.2.1 ∧ q.2.1 ≤ 7 ∧ q.2.2 = q.1 + q.2.1 - 3)
def wln (w : Int) : List (Int × Int) := [(w + 2, 8), (w + 3, 8), (w + 4, 5), (w + 6, 6), (w + 7, 6), (w + 8, 6), (w + 9, 120), (w + 11, 24), (w + 13, 24), (w + 14, 4), (w + 15, 4), (w + 16, 30)]
abbrev Lqk (w : Int) (q : Int × Int) : Prop := q ∈ wln w ∨ (w + 17 ≤ q.1 ∧ q.1 ≤ w + 166 ∧ ((1 ≤ (q.1 - w - 17) % 5 ∧ (q.1 - w - 17) % 5 ≤ 3 ∧ q.2 = 6) ∨ ((q.1 - w - 17) % 5 = 4 ∧ q.2 = 120)))
def cs_ra : List (Int × Int × Int) := [(1, 0, 2), (1, 1, 5), (1, 2, 172), (1, 3, 339), (1, 4, 341), (1, 5, 347), (1, 6, 349), (1, 7, 350), (1, 8, 351), (2, 0, 3), (2, 1, 4), (339, 0, 340), (341, 0, 5), (341, 1, 339), (341, 2, 342), (342, 4, 343), (342, 5, 344), (342, 6, 345), (342, 7, 346), (347, 0, 348), (347, 2, 2), (347, 3, 15), (349, 0, 5), (349, 1, 341), (349, 2, 339), (351, 2, 350), (351, 10, 352), (351, 12, 353)]
def cs_rb : List (Int × Int × Int) := [(354, 0, 355), (354, 1, 356), (354, 2, 357), (354, 3, 358), (354, 4, 359), (354, 5, 360), (354, 6, 361), (354, 7, 362), (354, 8, 363), (354, 20, 364), (354, 25, 365), (354, 26, 366), (354, 27, 367), (354, 28, 368), (354, 32, 369), (354, 33, 370), (354, 34, 371), (354, 35, 372), (354, 38, 373)]
def ls_ra : List (Int × Int) := [(3, 600), (4, 600), (340, 64), (343, 6), (344, 6), (345, 6), (346, 120), (348, 120), (350, 300), (352, 96), (353, 300)]
def ls_rb : List (Int × Int) := [(355, 1691), (356, 1691), (357, 2820), (358, 600), (359, 600), (360, 20), (361, 20), (362, 20), (363, 300), (364, 160), (365, 8), (366, 330), (367, 330), (368, 5), (369, 21), (370, 21), (371, 21), (372, 21), (373, 41)]
theorem cs_cov : ∀ q ∈ cs_l, Wqk 5 q ∨ Wqk 172 q ∨ q ∈ cs_ra ∨ q ∈ cs_rb := by decide +kernel
theorem ls_cov : ∀ q ∈ ls_l, Lqk 5 q ∨ Lqk 172 q ∨ q ∈ ls_ra ∨ q ∈ ls_rb := by decide +kernel
theorem Wqk.ok {w : Int} {M : mj_M} (h : WorldNew w M) {q : Int × Int × Int} (hq : Wqk w q) : hh M q.1 q.2.1 = q.2.2 := by
  obtain ⟨x, j, v⟩ := q
  unfold Wqk at hq
  dsimp only at hq ⊢
  rcases hq with hq | ⟨e1, a, b, e2⟩ | ⟨a, b, c, e, f, g⟩
  · obtain ⟨⟨f0, f1, f2, f3, -, f5, -, -, f8, -, -, f11⟩, ⟨-, t1, t2, t3, -⟩, ⟨-, -, -, -, m4, m5, m6, m7, -⟩, ⟨-, r1, -⟩, ⟨-, s1, -⟩, -, -⟩ := h
    simp only [wlk, List.mem_cons, List.not_mem_nil, or_false, Prod.mk.injEq] at hq
    rcases hq with ⟨rfl, rfl, rfl⟩ | ⟨rfl, rfl, rfl⟩ | ⟨rfl, rfl, rfl⟩ | ⟨rfl, rfl, rfl⟩ | ⟨rfl, rfl, rfl⟩ | ⟨rfl, rfl, rfl⟩ | ⟨rfl, rfl, rfl⟩ | ⟨rfl, rfl, rfl⟩ | ⟨rfl, rfl, rfl⟩ | ⟨rfl, rfl, rfl⟩ | ⟨rfl, rfl, rfl⟩ | ⟨rfl, rfl, rfl⟩ | ⟨rfl, rfl, rfl⟩ | ⟨rfl, rfl, rfl⟩ | ⟨rfl, rfl, rfl⟩ | ⟨rfl, rfl, rfl⟩
    · exact f0
    · exact f1
    · exact f2
    · exact f3
    · exact f5
    · exact f8
    · exact f11
    · rw [t1]; omega
    · rw [t2]; omega
    · rw [t3]; omega
    · rw [r1]; omega
    · rw [s1]; omega
    · rw [m4]; omega
    · rw [m5]; omega
    · rw [m6]; omega
    · rw [m7]; omega
  · subst e1 e2
    exact (h.2.2.2.2.2.2 j a b).1
  · obtain ⟨i, e5, i0, i1⟩ : ∃ i : Int, x = w + 17 + 5 * i ∧ 0 ≤ i ∧ i < 30 := by clear h; exact ⟨(x - w - 17) / 5, by omega, by omega, by omega⟩
    have k := (h.2.2.2.2.2.2 i i0 i1).2
    rw [← e5] at k
    clear h e5
    obtain ⟨-, -, -, -, k4, k5, k6, k7, -⟩ := k
    have hj : j = 4 ∨ j = 5 ∨ j = 6 ∨ j = 7 := by omega
    rcases hj with rfl | rfl | rfl | rfl
    · rw [k4]; omega
    · rw [k5]; omega
    · rw [k6]; omega
    · rw [k7]; omega
theorem Lqk.ok {w : Int} {M : mj_M} (h : WorldNew w M) {q : Int × Int} (hq : Lqk w q) : hl M q.1 = q.2 := by
  obtain ⟨x, v⟩ := q
  unfold Lqk at hq
  dsimp only at hq ⊢
  rcases hq with hq | ⟨a, b, c⟩
  · obtain ⟨-, ⟨-, -, -, -, -, -, -, t7, t8, t9⟩, ⟨-, -, -, -, -, -, -, -, -, -, -, -, m12, m13, m14, m15⟩, ⟨-, -, -, r3⟩, ⟨-, -, -, s3⟩, ⟨-, z1, -, z3, z4⟩, -⟩ := h
    simp only [wln, List.mem_cons, List.not_mem_nil, or_false, Prod.mk.injEq] at hq
    rcases hq with ⟨rfl, rfl⟩ | ⟨rfl, rfl⟩ | ⟨rfl, rfl⟩ | ⟨rfl, rfl⟩ | ⟨rfl, rfl⟩ | ⟨rfl, rfl⟩ | ⟨rfl, rfl⟩ | ⟨rfl, rfl⟩ | ⟨rfl, rfl⟩ | ⟨rfl, rfl⟩ | ⟨rfl, rfl⟩ | ⟨rfl, rfl⟩
    · rw [show w + 2 = w + 1 + 1 by omega]; exact t7
    · rw [show w + 3 = w + 1 + 2 by omega]; exact t8
    · rw [show w + 4 = w + 1 + 3 by omega]; exact t9
    · rw [show w + 6 = w + 5 + 1 by omega]; exact m12
    · rw [show w + 7 = w + 5 + 2 by omega]; exact m13
    · rw [show w + 8 = w + 5 + 3 by omega]; exact m14
    · rw [show w + 9 = w + 5 + 4 by omega]; exact m15
    · rw [show w + 11 = w + 10 + 1 by omega]; exact r3
    · rw [show w + 13 = w + 12 + 1 by omega]; exact s3
    · exact z1
    · exact z3
    · exact z4
  · obtain ⟨i, e5, i0, i1⟩ : ∃ i : Int, (x = w + 17 + 5 * i + 1 ∧ v = 6 ∨ x = w + 17 + 5 * i + 2 ∧ v = 6 ∨ x = w + 17 + 5 * i + 3 ∧ v = 6 ∨ x = w + 17 + 5 * i + 4 ∧ v = 120) ∧ 0 ≤ i ∧ i < 30 := by clear h; exact ⟨(x - w - 17) / 5, by omega, by omega, by omega⟩
    have k := (h.2.2.2.2.2.2 i i0 i1).2
    clear h
    obtain ⟨-, -, -, -, -, -, -, -, -, -, -, -, k12, k13, k14, k15⟩ := k
    rcases e5 with ⟨e, e'⟩ | ⟨e, e'⟩ | ⟨e, e'⟩ | ⟨e, e'⟩
    · rw [e, e']; exact k12
    · rw [e, e']; exact k13
    · rw [e, e']; exact k14
    · rw [e, e']; exact k15
theorem PN.ra {M : mj_M} (p : PN M) : ∀ q ∈ cs_ra, hh M q.1 q.2.1 = q.2.2 := by
  have mn := p.h.2
  simp only [cs_ra, List.forall_mem_cons]
  refine ⟨p.f.1.1, p.f.1.2.1, p.f.1.2.2.1, p.f.1.2.2.2.1, p.f.1.2.2.2.2, p.f.2.1.1, p.f.2.1.2.1, p.f.2.1.2.2.1, p.f.2.1.2.2.2, p.o.1.1, p.o.1.2.1, p.l.1, p.h.1.1, p.h.1.2.1, p.h.1.2.2, mn.2.2.2.2.1, mn.2.2.2.2.2.1, mn.2.2.2.2.2.2.1, mn.2.2.2.2.2.2.2.1, p.g.1, p.g.2.1, p.g.2.2.1, p.c.1, p.c.2.1, p.c.2.2, p.r.2.2.1, p.r.2.2.2.1, p.r.2.2.2.2, fun q z => absurd z List.not_mem_nil⟩
theorem PN.la {M : mj_M} (p : PN M) : ∀ q ∈ ls_ra, hl M q.1 = q.2 := by
  have mn := p.h.2
  simp only [ls_ra, List.forall_mem_cons]
  refine ⟨p.o.1.2.2.1, p.o.1.2.2.2, p.l.2, mn.2.2.2.2.2.2.2.2.2.2.2.2.1, mn.2.2.2.2.2.2.2.2.2.2.2.2.2.1, mn.2.2.2.2.2.2.2.2.2.2.2.2.2.2.1, mn.2.2.2.2.2.2.2.2.2.2.2.2.2.2.2, p.g.2.2.2, p.t, p.r.1, p.r.2.1, fun q z => absurd z List.not_mem_nil⟩
theorem ra_lt : ∀ q ∈ cs_ra, q.1 < 354 := by decide +kernel
theorem la_lt : ∀ q ∈ ls_ra, q.1 < 354 := by decide +kernel
