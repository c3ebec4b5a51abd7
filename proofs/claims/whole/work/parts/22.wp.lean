/-! RUNS OF THE SMALL MACHINE BY THEIR ENDS -/
theorem mj_x_up {X : mj_X} : ∀ (n d k pc : Nat) (ls st : List mj_V) (M : mj_M) (q : Option mj_V × mj_M), mj_x X n d k pc ls st M = some q → mj_x X (n + 1) d k pc ls st M = some q := by
  intro n
  induction n with
  | zero => intro d k pc ls st M q h; cases h
  | succ n ih =>
    intro d k pc ls st M q h
    rw [mj_x]
    rw [mj_x] at h
    split at h
    · cases h
    · next op ln hi =>
      split at h
      · next j hj =>
        split at h
        · cases h
        · next d' =>
          split at h
          · cases h
          · next as ha =>
            split at h
            · next hc =>
              split at h
              · cases h
              · next r1 M1 h1 =>
                simp only [hi, hj, ha, if_pos hc, ih _ _ _ _ _ _ _ h1]
                exact ih _ _ _ _ _ _ _ h
            · cases h
      · next hj =>
        split at h
        · next r hr =>
          cases h
          simp only [hi, hj, hr]
        · next hr =>
          split at h
          · cases h
          · next s' hs =>
            exact ih _ _ _ _ _ _ _ h
theorem mj_x_le {X : mj_X} {n n' d k pc : Nat} {ls st : List mj_V} {M : mj_M} {q : Option mj_V × mj_M} (hn : n ≤ n') (h : mj_x X n d k pc ls st M = some q) : mj_x X n' d k pc ls st M = some q := by
  induction hn with
  | refl => exact h
  | step _ ih => exact mj_x_up _ _ _ _ _ _ _ _ ih
/-- from here the run ends, and Q holds of its end -/
def wp (X : mj_X) (d k pc : Nat) (ls st : List mj_V) (M : mj_M) (Q : Option mj_V → mj_M → Prop) : Prop := ∃ n r M', mj_x X n d k pc ls st M = some (r, M') ∧ Q r M'
/-- a call -/
def wc (X : mj_X) (d j : Nat) (as : List mj_V) (M : mj_M) (Q : Option mj_V → mj_M → Prop) : Prop := wp X d j 0 (mj_ent (mj_mi j).2.1 as) [] M Q
theorem wp.mono {X : mj_X} {d k pc : Nat} {ls st : List mj_V} {M : mj_M} {Q Q' : Option mj_V → mj_M → Prop} (h : wp X d k pc ls st M Q) (hq : ∀ r M', Q r M' → Q' r M') : wp X d k pc ls st M Q' := by
  obtain ⟨n, r, M', h1, h2⟩ := h
  exact ⟨n, r, M', h1, hq r M' h2⟩
/-- the end is one -/
theorem wp.det {X : mj_X} {d k pc : Nat} {ls st : List mj_V} {M : mj_M} {Q : Option mj_V → mj_M → Prop} {r0 : Option mj_V} {M0 : mj_M} (h : wp X d k pc ls st M (fun r M' => r = r0 ∧ M' = M0)) : wp X d k pc ls st M Q ↔ Q r0 M0 := by
  obtain ⟨n, r, M', h1, h2, h3⟩ := h
  subst h2; subst h3
  constructor
  · rintro ⟨n', r', M'', h4, h5⟩
    have e1 := mj_x_le (Nat.le_max_left n n') h1
    have e2 := mj_x_le (Nat.le_max_right n n') h4
    rw [e1] at e2
    cases e2
    exact h5
  · intro hq
    exact ⟨n, r, M', h1, hq⟩
section WP
variable {X : mj_X} {d k pc : Nat} {ls st : List mj_V} {M : mj_M} {Q : Option mj_V → mj_M → Prop} {op : Instr} {ln : Nat}
theorem wp_step {s' : mj_St} (h : mj_ins k pc = some (op, ln)) (hc : mj_call (mj_mi k).1 op = none) (hr : mj_ret (mj_mi k).2.2.2.1 op st = none) (hs : mj_step X k pc op ln ls st M = some s') : wp X d k pc ls st M Q ↔ wp X d k s'.1 s'.2.1 s'.2.2.1 s'.2.2.2 Q := by
  have key : ∀ n, mj_x X (n + 1) d k pc ls st M = mj_x X n d k s'.1 s'.2.1 s'.2.2.1 s'.2.2.2 := fun n => by
    rw [mj_x]
    simp only [h, hc, hr, hs]
  constructor
  · rintro ⟨n, r, M', h1, h2⟩
    cases n with
    | zero => cases h1
    | succ n => exact ⟨n, r, M', by rw [← key]; exact h1, h2⟩
  · rintro ⟨n, r, M', h1, h2⟩
    exact ⟨n + 1, r, M', by rw [key]; exact h1, h2⟩
theorem wp_stuck (h : mj_ins k pc = some (op, ln)) (hc : mj_call (mj_mi k).1 op = none) (hr : mj_ret (mj_mi k).2.2.2.1 op st = none) (hs : mj_step X k pc op ln ls st M = none) : ¬ wp X d k pc ls st M Q := by
  rintro ⟨n, r, M', h1, h2⟩
  cases n with
  | zero => cases h1
  | succ n =>
    rw [mj_x] at h1
    simp only [h, hc, hr, hs] at h1
    cases h1
theorem wp_ret {r : Option mj_V} (h : mj_ins k pc = some (op, ln)) (hc : mj_call (mj_mi k).1 op = none) (hr : mj_ret (mj_mi k).2.2.2.1 op st = some r) : wp X d k pc ls st M Q ↔ Q r M := by
  refine wp.det ⟨1, r, M, ?_, rfl, rfl⟩
  rw [mj_x]
  simp only [h, hc, hr]
theorem wp_call {j : Nat} {as st' : List mj_V} (h : mj_ins k pc = some (op, ln)) (hc : mj_call (mj_mi k).1 op = some j) (ha : mj_args (mj_mi j).2.2.1 (st.take (mj_mi j).2.2.1.length).reverse = some as) (hst : st.drop (mj_mi j).2.2.1.length = st') (hl : (mj_ent1 as).length ≤ (mj_mi j).2.1) : wp X (d + 1) k pc ls st M Q ↔ (mj_rcv op as = true ∧ mj_cs st' ≤ 8) ∧ wc X d j as M (fun r M' => wp X (d + 1) k (pc + 3) ls (r.toList ++ st') M' Q) := by
  subst hst
  constructor
  · rintro ⟨n, r, M', h1, h2⟩
    cases n with
    | zero => cases h1
    | succ n =>
      rw [mj_x] at h1
      simp only [h, hc, ha] at h1
      split at h1
      · next hcd =>
        split at h1
        · cases h1
        · next r1 M1 h3 => exact ⟨⟨hcd.1, hcd.2.1⟩, n, r1, M1, h3, n, r, M', h1, h2⟩
      · cases h1
  · rintro ⟨⟨h1, h2⟩, n, r1, M1, h3, n', r, M', h4, h5⟩
    refine ⟨max n n' + 1, r, M', ?_, h5⟩
    rw [mj_x]
    simp only [h, hc, ha, if_pos (And.intro h1 (And.intro h2 hl)), mj_x_le (Nat.le_max_left n n') h3]
    exact mj_x_le (Nat.le_max_right n n') h4
/-- contents and length of a cell -/
def hh (M : mj_M) : Int → Int → Int := M.2.2.2.2
def hl (M : mj_M) : Int → Int := M.2.2.2.1
theorem hh_wr (M : mj_M) (a i v b j : Int) : hh (mj_wr M a i v) b j = if b = a ∧ j = i then v else hh M b j := rfl
theorem hl_wr (M : mj_M) (a i v : Int) : hl (mj_wr M a i v) = hl M := rfl
theorem mj_set_s {ls : List mj_V} {i : Nat} {v : mj_V} (h : ∀ w, ls[i]? = some w → w.1 ≠ 1) : mj_set ls (i + 1) v = ls.set (i + 1) v := by
  unfold mj_set
  split
  · next e => cases e
  · next j e =>
    cases e
    split
    · next x hx => exact absurd rfl (h _ hx)
    · rfl
theorem mj_set2_s {ls : List mj_V} {i : Nat} {v : mj_V} (h : ∀ w, ls[i]? = some w → w.1 ≠ 1) : mj_set2 ls (i + 1) v = (ls.set (i + 1) v).set (i + 2) (9, 0) := by
  unfold mj_set2
  rw [mj_set_s h]
theorem wp_cndt {c : ClassFile.Cond} {x y : Int} {A B : Prop} {P : Bool} (hP : mj_cnd c x y = P) : (bif mj_cnd c x y then A else B) = (bif P then A else B) := by rw [hP]
end WP
