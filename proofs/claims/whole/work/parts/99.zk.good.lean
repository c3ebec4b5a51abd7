/-! TEXT: pieces of a law as the reference takes them -/
def Lp (X : mj_X) (d : Nat) (M : mj_M) (Q : Option mj_V → mj_M → Prop) : Prop := ∀ v : mj_V, wp X (d + 8) 229 15 [(32, 354), v] [] M Q
def Eb (t0 : Int) (M M1 : mj_M) : Prop := (Rr M M1) ∧ (∀ j, ¬ (t0 + 97 ≤ j ∧ j < t0 + 705) → hh M1 357 j = hh M 357 j)
theorem Eb.r {t0 : Int} {M M1 : mj_M} (h : Eb t0 M M1) : Rr M M1 := h.1
theorem Eb.t {t0 : Int} {M M1 : mj_M} (h : Eb t0 M M1) : ∀ j, ¬ (t0 + 97 ≤ j ∧ j < t0 + 705) → hh M1 357 j = hh M 357 j := h.2
theorem Eb.rfl' {t0 : Int} {M : mj_M} : Eb t0 M M := ⟨Rr.rfl', fun _ _ => rfl⟩
theorem Em.eb {t0 w : Int} {l : List (Int × Int)} {M M1 : mj_M} (k : Em t0 w l M M1) (h0 : 0 ≤ w) (h1 : w + l.length ≤ 300) : Eb t0 M M1 := ⟨k.r, fun j h => k.t j (by omega)⟩
theorem Eb.tr {t0 : Int} {M M1 M2 : mj_M} (a : Eb t0 M M1) (b : Eb t0 M1 M2) : Eb t0 M M2 := ⟨a.r.tr b.r, fun j h => (b.t j h).trans (a.t j h)⟩
def hbd (lv : Int) : Int := if lv = 7 then 5 else if lv = 6 then 4 else if lv = 5 then 3 else if lv = 3 then 2 else if lv = 2 then 1 else 0
/-- where a piece of level lv may begin -/
def ctx (T : Int → Int) (L lv a : Int) (p : List Int) : Prop := blw (if lv = 3 then 4 else lv) p ∧ (lv ≤ 3 → opn p = 41) ∧ (3 < lv → tK T L a = 25 → ¬ askA p)
/-- a piece from a to a' of level lv, o open around it: the reference takes it, its code is rl -/
def Gd (X : mj_X) (d : Nat) (T : Int → Int) (L t0 so lv o a a' : Int) (rl : List (Int × Int)) : Prop := ∀ (M : mj_M) (p : List Int) (w : Int) (Q : Option mj_V → mj_M → Prop), PS M T L t0 so a w o p 0 → ctx T L lv a p → (p.length : Int) ≤ 6 * o + hbd lv → (∀ (M1 : mj_M) (r1 : List (Int × Int)) (u : List Int), PS M1 T L t0 so a' (w + r1.length) (o + cnt u) (u ++ p) 1 → r1 ++ ops u = rl → (∀ x, x ∈ u → lv ≤ rk x ∧ rk x ≤ 6) → (lv ≤ 3 → cmpd u = true) → ((u ++ p).length : Int) ≤ 6 * (o + cnt u) + 5 → o + cnt u ≤ 8 → Em t0 w r1 M M1 → Lp X d M1 Q) → Lp X d M Q
/-- a fault k at q within it -/
def Bd (X : mj_X) (d : Nat) (T : Int → Int) (L t0 so lv o a k q : Int) : Prop := ∀ (M : mj_M) (p : List Int) (w : Int) (Q : Option mj_V → mj_M → Prop), PS M T L t0 so a w o p 0 → ctx T L lv a p → (p.length : Int) ≤ 6 * o + hbd lv → (∀ M1, hh M1 354 13 = q → Eb t0 M M1 → Q (some (0, k)) M1) → Lp X d M Q
/-- one operand, with the openers u ahead of it -/
def GdO (X : mj_X) (d : Nat) (T : Int → Int) (L t0 so o a a' : Int) (rl : List (Int × Int)) : Prop := ∀ (M : mj_M) (u p : List Int) (w : Int) (Q : Option mj_V → mj_M → Prop), PS M T L t0 so a w o (u ++ p) 0 → (∀ x, x ∈ u → rk x = 7) → blw 7 p → ((u ++ p).length : Int) ≤ 6 * o + 5 → (u.length : Int) ≤ o → (∀ M1, PS M1 T L t0 so a' (w + rl.length + u.length) (o - u.length) p 1 → Em t0 w (rl ++ ops u) M M1 → Lp X d M1 Q) → Lp X d M Q
def BdO (X : mj_X) (d : Nat) (T : Int → Int) (L t0 so o a k q : Int) : Prop := ∀ (M : mj_M) (p : List Int) (w : Int) (Q : Option mj_V → mj_M → Prop), PS M T L t0 so a w o p 0 → (tK T L a = 25 → ¬ askA p) → (p.length : Int) ≤ 6 * o + 5 → (∀ M1, hh M1 354 13 = q → Eb t0 M M1 → Q (some (0, k)) M1) → Lp X d M Q
theorem ops_app (u v : List Int) : ops (u ++ v) = ops u ++ ops v := List.map_append ..
theorem ops_len (u : List Int) : (ops u).length = u.length := List.length_map ..
theorem cnt_app : ∀ (u v : List Int), cnt (u ++ v) = cnt u + cnt v
  | [], v => by show cnt v = 0 + cnt v; omega
  | x :: u, v => by show (if rk x = 7 ∨ x = 20 then 1 else 0) + cnt (u ++ v) = (if rk x = 7 ∨ x = 20 then 1 else 0) + cnt u + cnt v; rw [cnt_app u v]; omega
theorem cmpd_app : ∀ {u : List Int} (v : List Int), cmpd u = true → cmpd (u ++ v) = true
  | [], _, h => by cases h
  | x :: u, v, h => by
    unfold cmpd at h
    show (if 4 < rk x then cmpd (u ++ v) else decide (rk x = 4)) = true
    by_cases c : 4 < rk x
    · rw [if_pos c] at h ⊢; exact cmpd_app v h
    · rw [if_neg c] at h ⊢; exact h
theorem cmpd_hi : ∀ {u : List Int} (v : List Int), (∀ x, x ∈ u → 4 < rk x) → cmpd (u ++ v) = cmpd v
  | [], _, _ => rfl
  | x :: u, v, h => by
    show (if 4 < rk x then cmpd (u ++ v) else decide (rk x = 4)) = cmpd v
    rw [if_pos (h x (List.mem_cons_self ..))]
    exact cmpd_hi v (fun y hy => h y (List.mem_cons_of_mem _ hy))
theorem opn_hi : ∀ {u : List Int} (v : List Int), (∀ x, x ∈ u → 1 ≤ rk x) → opn (u ++ v) = opn v
  | [], _, _ => rfl
  | z :: u, v, h => by
    have h1 := h z (List.mem_cons_self ..)
    have : ¬ 40 ≤ z := fun q => by unfold rk at h1; rw [if_pos q] at h1; omega
    show (if 40 ≤ z then z else opn (u ++ v)) = opn v
    rw [if_neg this]
    exact opn_hi v (fun w hw => h w (List.mem_cons_of_mem _ hw))
theorem cmpd_lo {n : Int} (hn : n ≤ 4) : ∀ {p : List Int}, blw n p → cmpd p = false
  | [], _ => rfl
  | x :: p, h => by
    have : rk x < n := h
    show (if 4 < rk x then cmpd p else decide (rk x = 4)) = false
    rw [if_neg (by omega)]
    exact decide_eq_false (by omega)
theorem blw.mono {m n : Int} (h : m ≤ n) : ∀ {p : List Int}, blw m p → blw n p
  | [], _ => trivial
  | x :: _, q => by have : rk x < m := q; show rk x < n; omega
section Good
variable {X : mj_X} {d : Nat} {M : mj_M} {Q : Option mj_V → mj_M → Prop} {T : Int → Int} {L t0 so a a' a1 a2 w o iw k q : Int} {p : List Int} {rl r1 r2 r3 : List (Int × Int)}
theorem lp_begin (e : hh M 354 23 = 0) (hq : wc X (d + 7) 240 [(32, 354)] M (fun r M1 => (∃ k, r = some (0, k) ∧ k ≠ 0 ∧ Q (some (0, k)) M1) ∨ (r = some (0, 0) ∧ Lp X d M1 Q))) : Lp X d M Q := by
  intro v
  rw [w229_15]
  simp only [w229_16, w229_19, w229_48, w229_49, e, ↓reduceIte, hh_wr, hl_wr, b10, b11, ite_not, ne_eq, Int.reduceEq, Int.reduceLE, Int.reduceLT, Int.reduceNe, Int.reduceNeg, Int.reduceAdd, Int.reduceSub, Int.reduceMul, not_false_eq_true, not_true_eq_false, false_and, and_false, true_and, and_true, and_self, true_or, or_true, false_or, or_false, if_true, if_false, ite_true, ite_false, mj_tl_some, mj_tl_none, mj_cs0, mj_cs1, mj_cs2, mj_cs3, mj_cs4]
  refine wc.mono hq ?_
  rintro r M1 (⟨k, rfl, hk, q⟩ | ⟨rfl, q⟩)
  · simp only [w229_52, w229_53, w229_54, w229_57, w229_58, w229_59, hk, ↓reduceIte, hh_wr, hl_wr, b10, b11, ite_not, ne_eq, Int.reduceEq, Int.reduceLE, Int.reduceLT, Int.reduceNe, Int.reduceNeg, Int.reduceAdd, Int.reduceSub, Int.reduceMul, not_false_eq_true, not_true_eq_false, false_and, and_false, true_and, and_true, and_self, true_or, or_true, false_or, or_false, if_true, if_false, ite_true, ite_false, mj_tl_some, mj_tl_none, mj_cs0, mj_cs1, mj_cs2, mj_cs3, mj_cs4]
    exact q
  · simp only [w229_52, w229_53, w229_54, w229_57, w229_58, w229_59, ↓reduceIte, hh_wr, hl_wr, b10, b11, ite_not, ne_eq, Int.reduceEq, Int.reduceLE, Int.reduceLT, Int.reduceNe, Int.reduceNeg, Int.reduceAdd, Int.reduceSub, Int.reduceMul, not_false_eq_true, not_true_eq_false, false_and, and_false, true_and, and_true, and_self, true_or, or_true, false_or, or_false, if_true, if_false, ite_true, ite_false, mj_tl_some, mj_tl_none, mj_cs0, mj_cs1, mj_cs2, mj_cs3, mj_cs4]
    exact q _
theorem lp_behind (e : hh M 354 23 = 1) (hq : wc X (d + 7) 230 [(32, 354)] M (fun r M1 => r = some (0, 1) ∧ Lp X d M1 Q)) : Lp X d M Q := by
  intro v
  rw [w229_15]
  simp only [w229_16, w229_19, w229_22, w229_23, e, ↓reduceIte, hh_wr, hl_wr, b10, b11, ite_not, ne_eq, Int.reduceEq, Int.reduceLE, Int.reduceLT, Int.reduceNe, Int.reduceNeg, Int.reduceAdd, Int.reduceSub, Int.reduceMul, not_false_eq_true, not_true_eq_false, false_and, and_false, true_and, and_true, and_self, true_or, or_true, false_or, or_false, if_true, if_false, ite_true, ite_false, mj_tl_some, mj_tl_none, mj_cs0, mj_cs1, mj_cs2, mj_cs3, mj_cs4]
  refine wc.mono hq ?_
  rintro r M1 ⟨rfl, q⟩
  simp only [w229_26, w229_29, ↓reduceIte, hh_wr, hl_wr, b10, b11, ite_not, ne_eq, Int.reduceEq, Int.reduceLE, Int.reduceLT, Int.reduceNe, Int.reduceNeg, Int.reduceAdd, Int.reduceSub, Int.reduceMul, not_false_eq_true, not_true_eq_false, false_and, and_false, true_and, and_true, and_self, true_or, or_true, false_or, or_false, if_true, if_false, ite_true, ite_false, mj_tl_some, mj_tl_none, mj_cs0, mj_cs1, mj_cs2, mj_cs3, mj_cs4]
  exact q _
/-- it doesn't fit, and something is open -/
theorem lp_wrong (h : PS M T L t0 so a w o p 1) (hl : p.length ≤ 150) (hx : btw (tK T L a) p = -1) (hp : prt (tK T L a) p (opn p) = -1) (ho : 0 ≤ opn p) (hq : Q (some (0, 1)) M) : Lp X d M Q := by
  intro v
  rw [w229_15]
  simp only [w229_16, w229_19, w229_22, w229_23, h.iw, ↓reduceIte, hh_wr, hl_wr, b10, b11, ite_not, ne_eq, Int.reduceEq, Int.reduceLE, Int.reduceLT, Int.reduceNe, Int.reduceNeg, Int.reduceAdd, Int.reduceSub, Int.reduceMul, not_false_eq_true, not_true_eq_false, false_and, and_false, true_and, and_true, and_self, true_or, or_true, false_or, or_false, if_true, if_false, ite_true, ite_false, mj_tl_some, mj_tl_none, mj_cs0, mj_cs1, mj_cs2, mj_cs3, mj_cs4]
  refine wc.mono (bh_none (d := d) h hx rfl hp hl) ?_
  rintro r M1 ⟨rfl, rfl⟩
  have on := fun Q => m_openNow (X := X) (d := d + 6) (Q := Q) h.rl.x.cs h.n h.p hl
  simp only [w229_26, w229_32, w229_33, w229_36, w229_39, w229_40, on, show ¬ opn p < 0 by omega, ↓reduceIte, hh_wr, hl_wr, b10, b11, ite_not, ne_eq, Int.reduceEq, Int.reduceLE, Int.reduceLT, Int.reduceNe, Int.reduceNeg, Int.reduceAdd, Int.reduceSub, Int.reduceMul, not_false_eq_true, not_true_eq_false, false_and, and_false, true_and, and_true, and_self, true_or, or_true, false_or, or_false, if_true, if_false, ite_true, ite_false, mj_tl_some, mj_tl_none, mj_cs0, mj_cs1, mj_cs2, mj_cs3, mj_cs4]
  exact hq
/-- it doesn't fit, and nothing is open: the law's end -/
theorem lp_done {u : List Int} (h : PS M T L t0 so a w o u 1) (hl : u.length ≤ 150) (hx : btw (tK T L a) u = -1) (hu : ∀ z, z ∈ u → 1 ≤ rk z) (hc : cnt u ≤ o) (hq : ∀ M1, PS M1 T L t0 so a (w + u.length) (o - cnt u) [] 1 → Em t0 w (ops u) M M1 → Q (some (0, 0)) M1) : Lp X d M Q := by
  intro v
  have on1 := opn_none hu
  rw [w229_15]
  simp only [w229_16, w229_19, w229_22, w229_23, h.iw, ↓reduceIte, hh_wr, hl_wr, b10, b11, ite_not, ne_eq, Int.reduceEq, Int.reduceLE, Int.reduceLT, Int.reduceNe, Int.reduceNeg, Int.reduceAdd, Int.reduceSub, Int.reduceMul, not_false_eq_true, not_true_eq_false, false_and, and_false, true_and, and_true, and_self, true_or, or_true, false_or, or_false, if_true, if_false, ite_true, ite_false, mj_tl_some, mj_tl_none, mj_cs0, mj_cs1, mj_cs2, mj_cs3, mj_cs4]
  refine wc.mono (bh_none (d := d) h hx on1 rfl hl) ?_
  rintro r M1 ⟨rfl, rfl⟩
  have on := fun Q => m_openNow (X := X) (d := d + 6) (Q := Q) h.rl.x.cs h.n h.p hl
  simp only [w229_26, w229_32, w229_33, w229_36, w229_39, w229_40, w229_41, w229_42, w229_43, on, on1, ↓reduceIte, hh_wr, hl_wr, b10, b11, ite_not, ne_eq, Int.reduceEq, Int.reduceLE, Int.reduceLT, Int.reduceNe, Int.reduceNeg, Int.reduceAdd, Int.reduceSub, Int.reduceMul, not_false_eq_true, not_true_eq_false, false_and, and_false, true_and, and_true, and_self, true_or, or_true, false_or, or_false, if_true, if_false, ite_true, ite_false, mj_tl_some, mj_tl_none, mj_cs0, mj_cs1, mj_cs2, mj_cs3, mj_cs4]
  have h' : PS M1 T L t0 so a w o (u ++ []) 1 := by rw [List.append_nil]; exact h
  refine wc.mono (m_settle (X := X) (d := d + 6) (lst := 1) u w o M1 h' hu trivial (by rw [List.append_nil]; exact hl) hc) ?_
  rintro r M2 ⟨rfl, p2, k2⟩
  simp only [w229_46, w229_47, ↓reduceIte, hh_wr, hl_wr, b10, b11, ite_not, ne_eq, Int.reduceEq, Int.reduceLE, Int.reduceLT, Int.reduceNe, Int.reduceNeg, Int.reduceAdd, Int.reduceSub, Int.reduceMul, not_false_eq_true, not_true_eq_false, false_and, and_false, true_and, and_true, and_self, true_or, or_true, false_or, or_false, if_true, if_false, ite_true, ite_false, mj_tl_some, mj_tl_none, mj_cs0, mj_cs1, mj_cs2, mj_cs3, mj_cs4]
  exact hq M2 p2 k2
/-! operands -/
theorem gd_num (hk : tK T L a = 39) (hv : tV T L a ≤ 9999) (ho : o ≤ 8) : GdO X d T L t0 so o a (tE T L a) [(0, tV T L a)] := by
  intro M u p w Q h hu hb hl hc hq
  refine lp_begin h.iw (wc.mono (bg_num (d := d) h hu hb (by omega) (by rw [cnt7 hu]; exact hc) hk hv) ?_)
  rintro r M1 ⟨rfl, p1, k1⟩
  rw [cnt7 hu] at p1
  exact Or.inr ⟨rfl, hq M1 p1 k1⟩
theorem gd_name {j : Nat} (hj : j < 8) (hk : tK T L a = tkN j) (h7 : j = 7 → so = 1) (ho : o ≤ 8) : GdO X d T L t0 so o a (tE T L a) [(1, (j : Int))] := by
  intro M u p w Q h hu hb hl hc hq
  refine lp_begin h.iw (wc.mono (bg_name (d := d) h hu hb (by omega) (by rw [cnt7 hu]; exact hc) hj hk h7) ?_)
  rintro r M1 ⟨rfl, p1, k1⟩
  rw [cnt7 hu] at p1
  exact Or.inr ⟨rfl, hq M1 p1 k1⟩
theorem bd_big (hk : tK T L a = 39) (hv : 9999 < tV T L a) : BdO X d T L t0 so o a 2 (tS T L a) := by
  intro M p w Q h hn hl hq
  refine lp_begin h.iw (wc.mono (bg_big (d := d) h hk hv) ?_)
  rintro r M1 ⟨rfl, rfl⟩
  exact Or.inl ⟨2, rfl, by decide, hq _ h.rl.e13 Eb.rfl'⟩
theorem bd_breath (hk : tK T L a = 16) (hs : so ≠ 1) : BdO X d T L t0 so o a 5 (tS T L a) := by
  intro M p w Q h hn hl hq
  refine lp_begin h.iw (wc.mono (bg_breath (d := d) h hk hs) ?_)
  rintro r M1 ⟨rfl, rfl⟩
  exact Or.inl ⟨5, rfl, by decide, hq _ h.rl.e13 Eb.rfl'⟩
theorem bd_none (h39 : tK T L a ≠ 39) (hn : nmx (tK T L a) = -1) (ho : opr (tK T L a) = -1) (ho8 : o ≤ 8) : BdO X d T L t0 so o a 1 (tS T L a) := by
  intro M p w Q h hn2 hl hq
  refine lp_begin h.iw (wc.mono (bg_none (d := d) h (by omega) h39 hn ho hn2) ?_)
  rintro r M1 ⟨rfl, rfl⟩
  exact Or.inl ⟨1, rfl, by decide, hq _ h.rl.e13 Eb.rfl'⟩
theorem bd_deep {x : Int} (hx : opr (tK T L a) = x) (x1 : x ≠ -1) : BdO X d T L t0 so 8 a 3 (tS T L a) := by
  intro M p w Q h hn hl hq
  refine lp_begin h.iw (wc.mono (bg_open (d := d) h (by omega) (by decide) (Or.inl ⟨hx, x1⟩)) ?_)
  rintro r M1 (⟨e, rfl, rfl⟩ | ⟨e, _⟩)
  · exact Or.inl ⟨3, rfl, by decide, hq _ h.rl.e13 Eb.rfl'⟩
  · omega
/-- an opener's way -/
theorem lp_open {x : Int} (h : PS M T L t0 so a w o p 0) (hl : p.length ≤ 150) (ho : o < 8) (hx : (opr (tK T L a) = x ∧ x ≠ -1) ∨ (tK T L a = 25 ∧ askA p ∧ x = 20)) (hq : ∀ M1, PS M1 T L t0 so (tE T L a) w (o + 1) (x :: p) 0 → Em t0 w [] M M1 → Lp X d M1 Q) : Lp X d M Q := by
  refine lp_begin h.iw (wc.mono (bg_open (d := d) h hl (by omega) hx) ?_)
  rintro r M1 (⟨e, _⟩ | ⟨_, rfl, p1, k1⟩)
  · omega
  · exact Or.inr ⟨rfl, hq M1 p1 k1⟩
theorem Em.z {t0 w : Int} {l : List (Int × Int)} {M M1 M2 : mj_M} (a : Em t0 w [] M M1) (b : Em t0 w l M1 M2) : Em t0 w l M M2 := a.tr b (by simp) rfl
theorem Em.eb0 {t0 w : Int} {M M1 : mj_M} (k : Em t0 w [] M M1) : Eb t0 M M1 := ⟨k.r, fun j h => k.t j (by simp only [List.length_nil]; omega)⟩
/-- a sign of one operand -/
theorem gd_un {x : Int} (hx : opr (tK T L a) = x) (x1 : x ≠ -1) (x7 : rk x = 7) (ho : o < 8) (h1 : GdO X d T L t0 so (o + 1) (tE T L a) a' rl) : GdO X d T L t0 so o a a' (rl ++ [(x, 0)]) := by
  intro M u p w Q h hu hb hl hc hq
  refine lp_open h (by omega) ho (Or.inl ⟨hx, x1⟩) (fun M1 p1 k1 => ?_)
  refine h1 M1 (x :: u) p w Q p1 (fun y hy => ?_) hb (by simp only [List.cons_append, List.length_cons]; omega) (by simp only [List.length_cons]; omega) (fun M2 p2 k2 => ?_)
  · rcases List.mem_cons.mp hy with rfl | hy
    · exact x7
    · exact hu y hy
  · refine hq M2 ?_ ?_
    · rw [show w + ((rl ++ [(x, (0 : Int))]).length : Int) + (u.length : Int) = w + (rl.length : Int) + ((x :: u).length : Int) by simp only [List.length_append, List.length_cons, List.length_nil]; omega, show o - (u.length : Int) = o + 1 - ((x :: u).length : Int) by simp only [List.length_cons]; omega]
      exact p2
    · have := k1.z k2
      rw [List.append_assoc]
      exact this
theorem bd_un {x : Int} (hx : opr (tK T L a) = x) (x1 : x ≠ -1) (x7 : rk x = 7) (ho : o < 8) (h1 : BdO X d T L t0 so (o + 1) (tE T L a) k q) : BdO X d T L t0 so o a k q := by
  intro M p w Q h hn hl hq
  refine lp_open h (by omega) ho (Or.inl ⟨hx, x1⟩) (fun M1 p1 k1 => ?_)
  refine h1 M1 (x :: p) w Q p1 (fun _ => ?_) (by simp only [List.length_cons]; omega) (fun M2 e2 k2 => hq M2 e2 (k1.eb0.tr k2))
  rintro ⟨_, y, r, e, q⟩
  cases e
  have : x < 40 := by
    by_cases c : 40 ≤ x
    · rw [rk40 c] at x7; omega
    · omega
  omega
end Good
