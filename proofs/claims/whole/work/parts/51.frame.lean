/-! FRAMES: what keeps the relation -/
section Frame
variable {M M1 : mj_M}
theorem WR.keep {w : Int} {A : Int → Int} (h : WR M w A) (k : ∀ x j, w ≤ x → x ≤ w + 166 → x ≠ w + 4 → hh M1 x j = hh M x j) : WR M1 w A := by
  have k10 : hh M1 w 10 = hh M w 10 := k w 10 (by omega) (by omega) (by omega)
  have := h.e0; have := h.e3
  refine ⟨?_, ?_, ?_, ?_, ?_, ?_, ?_, ?_, ?_, ?_, ?_, ?_, ?_, ?_, ?_, ?_⟩
  · rw [k _ _ (by omega) (by omega) (by omega)]; exact h.nf
  · intro i a b; rw [k _ _ (by omega) (by omega) (by omega)]; exact h.fk i a b
  · intro i a b; rw [k _ _ (by omega) (by omega) (by omega)]; exact h.fl i a b
  · exact h.now.keep (fun x j a b => Or.inl (k x j (by omega) (by omega) (by omega)))
  · rw [k _ _ (by omega) (by omega) (by omega)]; exact h.ns
  · intro i a b; rw [k _ _ (by omega) (by omega) (by omega)]; exact h.st i a b
  · rw [k _ _ (by omega) (by omega) (by omega)]; exact h.nt
  · rw [k _ _ (by omega) (by omega) (by omega)]; exact h.ru
  · rw [k _ _ (by omega) (by omega) (by omega)]; exact h.np
  · rw [k10]; exact h.e0
  · rw [k10]; exact h.e3
  · intro i a b
    rw [k10]
    exact (h.sp i a b).keep (fun x j c d => Or.inl (k x j (by omega) (by omega) (by omega)))
  · rw [k _ _ (by omega) (by omega) (by omega)]; exact h.nd
  · intro i a b z c d; rw [k _ _ (by omega) (by omega) (by omega)]; exact h.d i a b z c d
  · rw [k _ _ (by omega) (by omega) (by omega)]; exact h.ne
  · intro i a b z c d; rw [k _ _ (by omega) (by omega) (by omega)]; exact h.e i a b z c d
theorem LawR.keep {r rk j s fo : Int} (h : LawR M r rk j s fo) (k1 : ∀ j, hh M1 357 j = hh M 357 j) (k2 : ∀ j, hh M1 r j = hh M r j) (k3 : ∀ j, hh M1 rk j = hh M rk j) (k4 : hl M1 rk = hl M rk) : LawR M1 r rk j s fo := by
  have e1 : hh M1 357 = hh M 357 := funext k1
  have e2 : hh M1 r = hh M r := funext k2
  have e3 : hh M1 rk = hh M rk := funext k3
  unfold LawR at h ⊢
  rw [e1, e2, e3, k4]
  exact h
theorem TR.keep {r j : Int} (h : TR M r j) (k1 : ∀ j, hh M1 357 j = hh M 357 j) (k2 : ∀ x j, 373 < x → x ≤ nx M → hh M1 x j = hh M x j ∧ hl M1 x = hl M x) (k3 : nx M ≤ nx M1) : TR M1 r j := by
  have e1 : hh M1 357 = hh M 357 := funext k1
  have e2 : hh M1 r = hh M r := funext fun i => (k2 r i h.r1 h.r2).1
  have e3 : hh M1 (hh M r 6) = hh M (hh M r 6) := funext fun i => (k2 _ i h.c1 h.c2).1
  have e4 := (k2 _ 0 h.c1 h.c2).2
  have e5 := (k2 _ 0 h.k1 h.k2).2
  have hf := h.fa.keep k1 (fun i => (k2 r i h.r1 h.r2).1) (fun i => (k2 _ i h.k1 h.k2).1) e5
  have hg := h.le.keep k1 (fun i => (k2 r i h.r1 h.r2).1) (fun i => (k2 _ i h.k1 h.k2).1) e5
  have q2 := h.r2; have q4 := h.k2; have q6 := h.c2
  unfold TR at h ⊢
  rw [e1, e2, e3, e4, e5]
  obtain ⟨a1, a2, a3, a4, a5, a6, a7, a8, a9, a10, a11, a12, a13, a14⟩ := h
  exact ⟨a1, by omega, a3, by omega, a5, a6, by omega, a8, a9, a10, a11, a12, hf, hg⟩
theorem zone_5 {x j : Int} (h1 : 5 ≤ x) (h2 : x ≤ 171) : zone x j = wz (x - 5) j := by
  unfold zone
  rw [if_neg (by omega), if_neg (by omega), if_neg (by omega), if_neg (by omega), if_neg (by omega), if_neg (by omega), if_neg (by omega), if_neg (by omega), if_pos (by omega)]
theorem zone_172 {x j : Int} (h1 : 172 ≤ x) (h2 : x ≤ 338) : zone x j = if wz (x - 172) j = 1 then 2 else wz (x - 172) j := by
  unfold zone
  rw [if_neg (by omega), if_neg (by omega), if_neg (by omega), if_neg (by omega), if_neg (by omega), if_neg (by omega), if_neg (by omega), if_neg (by omega), if_neg (by omega), if_pos (by omega)]
theorem wz_or {y j : Int} (h : y ≠ 4) : wz y j = 0 ∨ wz y j = 1 := by
  unfold wz
  rw [if_neg h]
  repeat' split
  all_goals simp
theorem wz_or8 {y j : Int} : wz y j = 0 ∨ wz y j = 1 ∨ wz y j = 8 := by
  by_cases h : y = 4
  · subst h; exact Or.inr (Or.inr rfl)
  · rcases wz_or (j := j) h with e | e
    · exact Or.inl e
    · exact Or.inr (Or.inl e)
theorem WR.fz5 {zs : List Nat} {A : Int → Int} (h : WR M 5 A) (f : fz zs M M1) (h0 : 0 ∉ zs) (h1 : 1 ∉ zs) : WR M1 5 A :=
  h.keep (fun x j a b c => f.h x j (by
    rw [zone_5 a (by omega)]
    rcases wz_or (y := x - 5) (j := j) (by omega) with e | e <;> rw [e] <;> assumption))
theorem WR.fz172 {zs : List Nat} {A : Int → Int} (h : WR M 172 A) (f : fz zs M M1) (h0 : 0 ∉ zs) (h1 : 2 ∉ zs) : WR M1 172 A :=
  h.keep (fun x j a b c => f.h x j (by
    rw [zone_172 a (by omega)]
    rcases wz_or (y := x - 172) (j := j) (by omega) with e | e <;> rw [e] <;> assumption))
theorem fz.row {zs : List Nat} {x : Int} {z : Nat} (f : fz zs M M1) (hz : ∀ j, zone x j = z) (h : z ∉ zs) : hh M1 x = hh M x := funext fun j => f.h x j (by rw [hz]; exact h)
theorem z_355 (j : Int) : zone 355 j = 3 := rfl
theorem z_356 (j : Int) : zone 356 j = 4 := rfl
theorem z_357 (j : Int) : zone 357 j = 5 := rfl
theorem z_350 (j : Int) : zone 350 j = 6 := rfl
theorem z_363 (j : Int) : zone 363 j = 6 := rfl
theorem z_big {x j : Int} (h : 373 < x) : zone x j = 5 := by unfold zone; rw [if_pos (by omega)]
theorem z_tab {x j : Int} (h : x = 3 ∨ x = 4 ∨ (358 ≤ x ∧ x ≤ 362)) : zone x j = 7 := by
  unfold zone
  rw [if_neg (by omega), if_neg (by omega), if_neg (by omega), if_neg (by omega), if_neg (by omega), if_neg (by omega), if_pos h]
theorem TR.fz {zs : List Nat} {r j : Int} (h : TR M r j) (f : fz zs M M1) (h5 : 5 ∉ zs) : TR M1 r j :=
  h.keep (fun j => f.h _ _ (by rw [z_357]; exact h5)) (fun x j a _ => ⟨f.h _ _ (by rw [z_big a]; exact h5), f.l x⟩) (by rw [f.nxe]; exact Int.le_refl _)
theorem Tb.fz {zs : List Nat} (h : Tb M) (f : fz zs M M1) (h7 : 7 ∉ zs) : Tb M1 := by
  have g : ∀ x j, (x = 3 ∨ x = 4 ∨ (358 ≤ x ∧ x ≤ 362)) → hh M1 x j = hh M x j := fun x j a => f.h _ _ (by rw [z_tab a]; exact h7)
  exact ⟨fun i a b => (g _ _ (by omega)).trans (h.d i a b), fun i a b => (g _ _ (by omega)).trans (h.p i a b), fun i a b => (g _ _ (by omega)).trans (h.d' i a b), fun i a b => (g _ _ (by omega)).trans (h.p' i a b), fun i a b => (g _ _ (by omega)).trans (h.k i a b), fun i a b => (g _ _ (by omega)).trans (h.l i a b), fun i a b => (g _ _ (by omega)).trans (h.g i a b)⟩
theorem Tp.fz {zs : List Nat} (h : Tp M) (f : fz zs M M1) (h6 : 6 ∉ zs) : Tp M1 := by
  have e1 : hh M1 354 9 = hh M 354 9 := f.h _ _ h6
  have e2 : hh M1 1 9 = hh M 1 9 := f.h _ _ h6
  have e3 : hh M1 1 10 = hh M 1 10 := f.h _ _ h6
  have e4 : hh M1 354 10 = hh M 354 10 := f.h _ _ h6
  have e5 : hh M1 354 11 = hh M 354 11 := f.h _ _ h6
  have e6 : hh M1 1 11 = hh M 1 11 := f.h _ _ h6
  have e7 : hh M1 1 12 = hh M 1 12 := f.h _ _ h6
  have e8 : hh M1 354 36 = hh M 354 36 := f.h _ _ h6
  have e9 : hh M1 350 = hh M 350 := f.row z_350 h6
  have e10 : hh M1 363 = hh M 363 := f.row z_363 h6
  unfold Tp at h ⊢
  rw [e1, e2, e3, e4, e5, e6, e7, e8, e9, e10]
  exact h
/-- scratch and least alone -/
theorem RR.sc (h : RR M) (f : fz [8, 9] M M1) (hc : Cok M1) : RR M1 := by
  have e5 : hh M1 355 = hh M 355 := f.row z_355 (by decide)
  have e6 : hh M1 356 = hh M 356 := f.row z_356 (by decide)
  have e20 : hh M1 20 = hh M 20 := f.row (z := 1) (fun j => rfl) (by decide)
  have e187 : hh M1 187 = hh M 187 := f.row (z := 2) (fun j => rfl) (by decide)
  have hn := f.nxe
  have := h.nx
  refine ⟨h.cs.fz f (by decide), by rw [hn]; exact this, by rw [e5]; exact h.wr.fz5 f (by decide) (by decide), by rw [e6]; exact h.wi.fz172 f (by decide) (by decide), by rw [e5]; exact h.ai, by rw [e6]; exact h.bi, by rw [e5, e6]; exact h.le, ?_, ?_, h.tb.fz f (by decide), h.tp.fz f (by decide), hc⟩
  · rw [e5, e20]; exact fun i a b => (h.t5 i a b).fz f (by decide)
  · rw [e6, e187]; exact fun i a b => (h.ti i a b).fz f (by decide)
/-- the world and the reference's row (texts stay) -/
theorem RR.up (h : RR M) (f : fz [1, 3, 8, 9] M M1) (hw : WR M1 5 (hh M1 355)) (ha : AI (hh M1 355)) (h3 : hh M1 355 3 = hh M 355 3) (h20 : ∀ j, hh M1 20 j = hh M 20 j) (hc : Cok M1) : RR M1 := by
  have e6 : hh M1 356 = hh M 356 := f.row z_356 (by decide)
  have e187 : hh M1 187 = hh M 187 := f.row (z := 2) (fun j => rfl) (by decide)
  have hn := f.nxe
  have := h.nx
  refine ⟨h.cs.fz f (by decide), by rw [hn]; exact this, hw, by rw [e6]; exact h.wi.fz172 f (by decide) (by decide), ha, by rw [e6]; exact h.bi, by rw [h3, e6]; exact h.le, ?_, ?_, h.tb.fz f (by decide), h.tp.fz f (by decide), hc⟩
  · rw [h3]
    exact fun i a b => by rw [h20]; exact (h.t5 i a b).fz f (by decide)
  · rw [e6, e187]; exact fun i a b => (h.ti i a b).fz f (by decide)
theorem Cok.keep (h : Cok M) (k : ∀ j, 29 ≤ j → j ≤ 31 → hh M1 354 j = hh M 354 j) : Cok M1 := by
  unfold Cok at h ⊢
  rw [k 29 (by omega) (by omega), k 30 (by omega) (by omega), k 31 (by omega) (by omega)]
  exact h
theorem Cok.fz {zs : List Nat} (h : Cok M) (f : fz zs M M1) (h9 : 9 ∉ zs) : Cok M1 := h.keep (fun j a b => f.h _ _ (by
  rcases (show j = 29 ∨ j = 30 ∨ j = 31 by omega) with rfl | rfl | rfl <;> exact h9))
end Frame
