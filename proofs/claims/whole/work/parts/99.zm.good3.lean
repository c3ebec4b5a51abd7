/-! TEXT: sums, products, questions -/
theorem ctx67 {T : Int → Int} {L a : Int} (p : List Int) (h : ctx T L 6 a p) : ctx T L 7 a p := ⟨blw.mono (show (6 : Int) ≤ 7 by decide) h.1, fun q => absurd q (by decide), fun _ => h.2.2 (by decide)⟩
theorem ctx56 {T : Int → Int} {L a : Int} (p : List Int) (h : ctx T L 5 a p) : ctx T L 6 a p := ⟨blw.mono (show (5 : Int) ≤ 6 by decide) h.1, fun q => absurd q (by decide), fun _ => h.2.2 (by decide)⟩
theorem ctx35 {T : Int → Int} {L a : Int} (hk : tK T L a ≠ 25) (p : List Int) (h : ctx T L 3 a p) : ctx T L 5 a p := ⟨blw.mono (show (4 : Int) ≤ 5 by decide) h.1, fun q => absurd q (by decide), fun _ q => absurd q hk⟩
theorem ctx23 {T : Int → Int} {L a : Int} (p : List Int) (h : ctx T L 2 a p) : ctx T L 3 a p := ⟨blw.mono (show (2 : Int) ≤ 4 by decide) h.1, fun _ => h.2.1 (by decide), fun q => absurd q (by decide)⟩
theorem ctx12 {T : Int → Int} {L a : Int} (p : List Int) (h : ctx T L 1 a p) : ctx T L 2 a p := ⟨blw.mono (show (1 : Int) ≤ 2 by decide) h.1, fun _ => h.2.1 (by decide), fun q => absurd q (by decide)⟩
/-- behind an operator of rank 4 to 6 -/
theorem ctxx {T : Int → Int} {L a x n : Int} {p : List Int} (h4 : 4 ≤ rk x) (hn : rk x < n) : ctx T L n a (x :: p) := by
  refine ⟨?_, fun q => by omega, fun _ _ => ?_⟩
  · show rk x < _
    split <;> omega
  · rintro ⟨_, y, r, e, q⟩
    cases e
    rcases q with q | q
    · rw [rk40 q] at h4; omega
    · omega
theorem cmo_r {K x : Int} (h : cmo K = x) (h0 : x ≠ -1) : 10 ≤ x ∧ x ≤ 15 ∧ K ≠ 40 ∧ na K ∧ rk x = 4 := by
  have hx : 10 ≤ x ∧ x ≤ 15 ∧ (K = 26 ∨ K = 37 ∨ K = 27 ∨ K = 38 ∨ K = 28 ∨ K = 29) := by
    unfold cmo at h
    revert h
    repeat' split
    all_goals intro h
    all_goals omega
  refine ⟨hx.1, hx.2.1, by omega, ⟨by omega, by omega, by omega, by omega⟩, ?_⟩
  unfold rk
  rw [if_neg (by omega), if_neg (by omega), if_neg (by omega), if_neg (by omega), if_pos (by omega)]
theorem ask_of {p : List Int} (h : opn p = 41) (hb : blw 4 p) : askA p := by
  cases p with
  | nil => exact absurd h (by decide)
  | cons x r =>
    refine ⟨h, x, r, rfl, ?_⟩
    have hx : rk x < 4 := hb
    by_cases c : 40 ≤ x
    · exact Or.inl c
    · refine Or.inr ⟨?_, by omega⟩
      unfold rk
      rw [if_neg c]
      repeat' split
      all_goals omega
section Good3
variable {X : mj_X} {d : Nat} {T : Int → Int} {L t0 so a a' a1 a2 o k q : Int} {rl r1 r2 : List (Int × Int)}
theorem gd6 (h : GdO X d T L t0 so o a a' rl) (ho : 0 ≤ o ∧ o ≤ 8) : Gd X d T L t0 so 6 o a a' rl := gd_up (gd_of h ho) ctx67 (by decide) (by decide) (fun q => absurd q (by decide))
theorem bd6 (h : BdO X d T L t0 so o a k q) : Bd X d T L t0 so 6 o a k q := bd_up (bd_of h) ctx67 (by decide)
theorem gd5 (h : Gd X d T L t0 so 6 o a a' rl) : Gd X d T L t0 so 5 o a a' rl := gd_up h ctx56 (by decide) (by decide) (fun q => absurd q (by decide))
theorem bd5 (h : Bd X d T L t0 so 6 o a k q) : Bd X d T L t0 so 5 o a k q := bd_up h ctx56 (by decide)
theorem gd2 (h : Gd X d T L t0 so 3 o a a' rl) : Gd X d T L t0 so 2 o a a' rl := gd_up h ctx23 (by decide) (by decide) (fun _ => by decide)
theorem bd2 (h : Bd X d T L t0 so 3 o a k q) : Bd X d T L t0 so 2 o a k q := bd_up h ctx23 (by decide)
theorem gd1 (h : Gd X d T L t0 so 2 o a a' rl) : Gd X d T L t0 so 1 o a a' rl := gd_up h ctx12 (by decide) (by decide) (fun _ => by decide)
theorem bd1 (h : Bd X d T L t0 so 2 o a k q) : Bd X d T L t0 so 1 o a k q := bd_up h ctx12 (by decide)
theorem gd_mul {x : Int} (h1 : Gd X d T L t0 so 6 o a a1 r1) (hk : (tK T L a1 = 32 ∧ x = 8) ∨ (tK T L a1 = 33 ∧ x = 9)) (ho : 0 ≤ o ∧ o ≤ 8) (h2 : GdO X d T L t0 so o (tE T L a1) a2 r2) : Gd X d T L t0 so 6 o a a2 (r1 ++ (r2 ++ [(x, 0)])) := by
  rcases hk with ⟨hk, rfl⟩ | ⟨hk, rfl⟩
  · exact gd_chain (lst := 6) h1 (gd_of h2 ho) (fun u p _ _ _ => by rw [hk]; rfl) (by decide) (by decide) (by decide) (fun _ c => c) (fun p c => c.1) (fun p _ => ctxx (by decide) (by decide)) (by decide) (by decide) (by decide) (by decide) (by decide) (fun q => absurd q (by decide)) (by rw [hk]; decide)
  · exact gd_chain (lst := 6) h1 (gd_of h2 ho) (fun u p _ _ _ => by rw [hk]; rfl) (by decide) (by decide) (by decide) (fun _ c => c) (fun p c => c.1) (fun p _ => ctxx (by decide) (by decide)) (by decide) (by decide) (by decide) (by decide) (by decide) (fun q => absurd q (by decide)) (by rw [hk]; decide)
theorem bd_mul (h1 : Gd X d T L t0 so 6 o a a1 r1) (hk : tK T L a1 = 32 ∨ tK T L a1 = 33) (h2 : BdO X d T L t0 so o (tE T L a1) k q) : Bd X d T L t0 so 6 o a k q := by
  rcases hk with hk | hk
  · exact bd_chain (lst := 6) (x := 8) h1 (bd_of h2) (fun u p _ _ _ => by rw [hk]; rfl) (by decide) (by decide) (by decide) (fun _ c => c) (fun p c => c.1) (fun p _ => ctxx (by decide) (by decide)) (by decide) (by decide) (by rw [hk]; decide)
  · exact bd_chain (lst := 6) (x := 9) h1 (bd_of h2) (fun u p _ _ _ => by rw [hk]; rfl) (by decide) (by decide) (by decide) (fun _ c => c) (fun p c => c.1) (fun p _ => ctxx (by decide) (by decide)) (by decide) (by decide) (by rw [hk]; decide)
theorem gd_add {x : Int} (h1 : Gd X d T L t0 so 5 o a a1 r1) (hk : (tK T L a1 = 30 ∧ x = 6) ∨ (tK T L a1 = 31 ∧ x = 7)) (h2 : Gd X d T L t0 so 6 o (tE T L a1) a2 r2) : Gd X d T L t0 so 5 o a a2 (r1 ++ (r2 ++ [(x, 0)])) := by
  rcases hk with ⟨hk, rfl⟩ | ⟨hk, rfl⟩
  · exact gd_chain (lst := 5) h1 h2 (fun u p _ _ _ => by rw [hk]; rfl) (by decide) (by decide) (by decide) (fun _ c => c) (fun p c => c.1) (fun p _ => ctxx (by decide) (by decide)) (by decide) (by decide) (by decide) (by decide) (by decide) (fun q => absurd q (by decide)) (by rw [hk]; decide)
  · exact gd_chain (lst := 5) h1 h2 (fun u p _ _ _ => by rw [hk]; rfl) (by decide) (by decide) (by decide) (fun _ c => c) (fun p c => c.1) (fun p _ => ctxx (by decide) (by decide)) (by decide) (by decide) (by decide) (by decide) (by decide) (fun q => absurd q (by decide)) (by rw [hk]; decide)
theorem bd_add (h1 : Gd X d T L t0 so 5 o a a1 r1) (hk : tK T L a1 = 30 ∨ tK T L a1 = 31) (h2 : Bd X d T L t0 so 6 o (tE T L a1) k q) : Bd X d T L t0 so 5 o a k q := by
  rcases hk with hk | hk
  · exact bd_chain (lst := 5) (x := 6) h1 h2 (fun u p _ _ _ => by rw [hk]; rfl) (by decide) (by decide) (by decide) (fun _ c => c) (fun p c => c.1) (fun p _ => ctxx (by decide) (by decide)) (by decide) (by decide) (by rw [hk]; decide)
  · exact bd_chain (lst := 5) (x := 7) h1 h2 (fun u p _ _ _ => by rw [hk]; rfl) (by decide) (by decide) (by decide) (fun _ c => c) (fun p c => c.1) (fun p _ => ctxx (by decide) (by decide)) (by decide) (by decide) (by rw [hk]; decide)
/-- the operator behind the first side of a question -/
theorem cmp_x {x : Int} (hk : cmo (tK T L a1) = x) (h0 : x ≠ -1) : ∀ u p, ctx T L 3 a p → (∀ z, z ∈ u → 5 ≤ rk z ∧ rk z ≤ 6) → ((5 : Int) ≤ 3 → cmpd u = true) → btw (tK T L a1) (u ++ p) = x := fun u p c hu _ => by
  rw [btw_cm (cmo_r hk h0).2.2.2.1 (by rw [opn_hi _ (fun z hz => by have := (hu z hz).1; omega)]; exact c.2.1 (by decide)) (by rw [cmpd_hi _ (fun z hz => by have := (hu z hz).1; omega)]; exact cmpd_lo (by decide) c.1)]
  exact hk
theorem gd_ask {x : Int} (h25 : tK T L a ≠ 25) (h1 : Gd X d T L t0 so 5 o a a1 r1) (hk : cmo (tK T L a1) = x) (h0 : x ≠ -1) (h2 : Gd X d T L t0 so 5 o (tE T L a1) a2 r2) : Gd X d T L t0 so 3 o a a2 (r1 ++ (r2 ++ [(x, 0)])) := by
  obtain ⟨e1, e2, e3, e4, e5⟩ := cmo_r hk h0
  exact gd_chain (lst := 5) h1 h2 (cmp_x hk h0) (by omega) (by rw [if_pos e5]) (by decide) (ctx35 h25) (fun p c => blw.mono (show (4 : Int) ≤ 5 by decide) c.1) (fun p _ => ctxx (by omega) (by omega)) (by decide) (by decide) (by decide) (by omega) (by omega) (fun _ => Or.inr ⟨by decide, e5⟩) e3
theorem bd_ask1 (h25 : tK T L a ≠ 25) (h1 : Bd X d T L t0 so 5 o a k q) : Bd X d T L t0 so 3 o a k q := bd_up h1 (ctx35 h25) (by decide)
theorem bd_ask2 (h25 : tK T L a ≠ 25) (h1 : Gd X d T L t0 so 5 o a a1 r1) (hk : cmo (tK T L a1) = -1) (hn1 : na (tK T L a1)) : Bd X d T L t0 so 3 o a 1 (tS T L a1) := by
  intro M p w Q h cc hl hq
  refine h1 M p w Q h (ctx35 h25 p cc) (by have : hbd 3 ≤ hbd 5 := (by decide); omega) (fun M1 s1 u p1 e1 hu _ hl1 ho1 k1 => ?_)
  have eo : opn (u ++ p) = 41 := by rw [opn_hi _ (fun z hz => by have := (hu z hz).1; omega)]; exact cc.2.1 (by decide)
  have ec : cmpd (u ++ p) = false := by rw [cmpd_hi _ (fun z hz => by have := (hu z hz).1; omega)]; exact cmpd_lo (show (4 : Int) ≤ 4 by decide) cc.1
  have w3 := p1.w3
  exact lp_wrong p1 (by omega) (by rw [btw_cm hn1 eo ec]; exact hk) (by rw [eo]; exact prt_41n (fun q => by rw [ec] at q; cases q.2)) (by rw [eo]; decide) (hq M1 p1.rl.e13 (k1.eb h.w0 (by omega)))
theorem bd_ask3 {x : Int} (h25 : tK T L a ≠ 25) (h1 : Gd X d T L t0 so 5 o a a1 r1) (hk : cmo (tK T L a1) = x) (h0 : x ≠ -1) (h2 : Bd X d T L t0 so 5 o (tE T L a1) k q) : Bd X d T L t0 so 3 o a k q := by
  obtain ⟨e1, e2, e3, e4, e5⟩ := cmo_r hk h0
  exact bd_chain (lst := 5) (x := x) h1 h2 (cmp_x hk h0) (by omega) (by rw [if_pos e5]) (by decide) (ctx35 h25) (fun p c => blw.mono (show (4 : Int) ≤ 5 by decide) c.1) (fun p _ => ctxx (by omega) (by omega)) (by decide) (by decide) e3
theorem ctx_n {p : List Int} (c : ctx T L 3 a p) : ctx T L 3 a' (20 :: p) := ⟨show rk 20 < 4 by decide, fun _ => c.2.1 (by decide), fun q => absurd q (by decide)⟩
theorem gd_not (h25 : tK T L a = 25) (ho : o < 8) (h1 : Gd X d T L t0 so 3 (o + 1) (tE T L a) a' rl) : Gd X d T L t0 so 3 o a a' (rl ++ [(20, 0)]) := by
  intro M p w Q h cc hl hq
  have hb3 : hbd 3 = 2 := rfl
  refine lp_open (x := 20) h (by omega) ho (Or.inr ⟨h25, ask_of (cc.2.1 (by decide)) cc.1, rfl⟩) (fun M1 p1 k1 => ?_)
  refine h1 M1 (20 :: p) w Q p1 (ctx_n cc) (by simp only [List.length_cons]; omega) (fun M2 s2 u p2 e2 hu hc hl2 ho2 k2 => ?_)
  have ec : cnt (u ++ [20]) = cnt u + 1 := by rw [cnt_app]; rfl
  have ea : u ++ [20] ++ p = u ++ 20 :: p := by simp
  refine hq M2 s2 (u ++ [20]) ?_ ?_ (fun z hz => ?_) (fun _ => cmpd_app _ (hc (by decide))) ?_ ?_ (k1.z k2)
  · rw [ec, ea, show o + (cnt u + 1) = o + 1 + cnt u by omega]; exact p2
  · rw [ops_app, ← e2]; simp [ops]
  · rcases List.mem_append.mp hz with hz | hz
    · exact hu z hz
    · rw [List.mem_singleton.mp hz]; decide
  · rw [ec, ea]; omega
  · rw [ec]; omega
theorem bd_not1 (h25 : tK T L a = 25) : Bd X d T L t0 so 3 8 a 3 (tS T L a) := by
  intro M p w Q h cc hl hq
  have hb3 : hbd 3 = 2 := rfl
  refine lp_begin h.iw (wc.mono (bg_open (d := d) (x := 20) h (by omega) (by decide) (Or.inr ⟨h25, ask_of (cc.2.1 (by decide)) cc.1, rfl⟩)) ?_)
  rintro r M1 (⟨e, rfl, rfl⟩ | ⟨e, _⟩)
  · exact Or.inl ⟨3, rfl, by decide, hq _ h.rl.e13 Eb.rfl'⟩
  · omega
theorem bd_not2 (h25 : tK T L a = 25) (ho : o < 8) (h1 : Bd X d T L t0 so 3 (o + 1) (tE T L a) k q) : Bd X d T L t0 so 3 o a k q := by
  intro M p w Q h cc hl hq
  have hb3 : hbd 3 = 2 := rfl
  refine lp_open (x := 20) h (by omega) ho (Or.inr ⟨h25, ask_of (cc.2.1 (by decide)) cc.1, rfl⟩) (fun M1 p1 k1 => ?_)
  exact h1 M1 (20 :: p) w Q p1 (ctx_n cc) (by simp only [List.length_cons]; omega) (fun M2 e2 k2 => hq M2 e2 (k1.eb0.tr k2))
theorem join_x {K x n : Int} (hn : n ≤ 3) (h1 : 1 ≤ n) (hk : tK T L a1 = K) (hx : (K = 24 ∧ x = 21) ∨ (K = 23 ∧ x = 22)) : ∀ u p, ctx T L n a p → (∀ z, z ∈ u → n ≤ rk z ∧ rk z ≤ 6) → (n ≤ 3 → cmpd u = true) → btw (tK T L a1) (u ++ p) = x := fun u p c hu hc => by
  have eo : opn (u ++ p) = 41 := by rw [opn_hi _ (fun z hz => by have := (hu z hz).1; omega)]; exact c.2.1 hn
  have ec := cmpd_app p (hc hn)
  rw [hk]
  rcases hx with ⟨rfl, rfl⟩ | ⟨rfl, rfl⟩
  · exact btw_24 eo ec
  · exact btw_23 eo ec
theorem ctx_j {x n m : Int} {p : List Int} (c : ctx T L n a p) (hn : n ≤ 3) (hx : x < 40) (hm : rk x < m) (hm3 : m ≤ 3) : ctx T L m a' (x :: p) := by
  refine ⟨?_, fun _ => ?_, fun q => by omega⟩
  · show rk x < _
    split <;> omega
  · show (if 40 ≤ x then x else opn p) = 41
    rw [if_neg (by omega)]
    exact c.2.1 hn
theorem gd_and (h1 : Gd X d T L t0 so 2 o a a1 r1) (hk : tK T L a1 = 24) (h2 : Gd X d T L t0 so 3 o (tE T L a1) a2 r2) : Gd X d T L t0 so 2 o a a2 (r1 ++ (r2 ++ [(21, 0)])) :=
  gd_chain (lst := 2) h1 h2 (join_x (by decide) (by decide) hk (Or.inl ⟨rfl, rfl⟩)) (by decide) (by decide) (by decide) (fun _ c => c) (fun p c => c.1) (fun p c => ctx_j c (by decide) (by decide) (by decide) (by decide)) (by decide) (by decide) (by decide) (by decide) (by decide) (fun _ => Or.inl (by decide)) (by rw [hk]; decide)
theorem bd_and (h1 : Gd X d T L t0 so 2 o a a1 r1) (hk : tK T L a1 = 24) (h2 : Bd X d T L t0 so 3 o (tE T L a1) k q) : Bd X d T L t0 so 2 o a k q :=
  bd_chain (lst := 2) (x := 21) h1 h2 (join_x (by decide) (by decide) hk (Or.inl ⟨rfl, rfl⟩)) (by decide) (by decide) (by decide) (fun _ c => c) (fun p c => c.1) (fun p c => ctx_j c (by decide) (by decide) (by decide) (by decide)) (by decide) (by decide) (by rw [hk]; decide)
theorem gd_or (h1 : Gd X d T L t0 so 1 o a a1 r1) (hk : tK T L a1 = 23) (h2 : Gd X d T L t0 so 2 o (tE T L a1) a2 r2) : Gd X d T L t0 so 1 o a a2 (r1 ++ (r2 ++ [(22, 0)])) :=
  gd_chain (lst := 1) h1 h2 (join_x (by decide) (by decide) hk (Or.inr ⟨rfl, rfl⟩)) (by decide) (by decide) (by decide) (fun _ c => c) (fun p c => c.1) (fun p c => ctx_j c (by decide) (by decide) (by decide) (by decide)) (by decide) (by decide) (by decide) (by decide) (by decide) (fun _ => Or.inl (by decide)) (by rw [hk]; decide)
theorem bd_or (h1 : Gd X d T L t0 so 1 o a a1 r1) (hk : tK T L a1 = 23) (h2 : Bd X d T L t0 so 2 o (tE T L a1) k q) : Bd X d T L t0 so 1 o a k q :=
  bd_chain (lst := 1) (x := 22) h1 h2 (join_x (by decide) (by decide) hk (Or.inr ⟨rfl, rfl⟩)) (by decide) (by decide) (by decide) (fun _ c => c) (fun p c => c.1) (fun p c => ctx_j c (by decide) (by decide) (by decide) (by decide)) (by decide) (by decide) (by rw [hk]; decide)
end Good3
/-! the code of a law, as deep as it is -/
def EX (b : Int) (cl : List Int) (rl : List (Int × Int)) (t : Bool) (hg : Nat) (f : Env → Int) : Prop := ∃ n, Ex n b cl rl t hg f
theorem Ex_up : ∀ (n n' : Nat) (b : Int) (cl : List Int) (rl : List (Int × Int)) (t : Bool) (hg hg' : Nat) (f : Env → Int), Ex n b cl rl t hg f → n ≤ n' → hg ≤ hg' → Ex n' b cl rl t hg' f
  | 0, _, _, _, _, _, _, _, _, h, _, _ => h.elim
  | n + 1, 0, _, _, _, _, _, _, _, _, h, _ => absurd h (by omega)
  | n + 1, n' + 1, b, cl, rl, t, hg, hg', f, h, hn, hh => by
    have ih : ∀ (b : Int) (cl : List Int) (rl : List (Int × Int)) (t : Bool) (h1 h2 : Nat) (f : Env → Int), Ex n b cl rl t h1 f → h1 ≤ h2 → Ex n' b cl rl t h2 f := fun b cl rl t h1 h2 f q g => Ex_up n n' b cl rl t h1 h2 f q (by omega) g
    rcases h with ⟨v, v0, v9, e1, e2, ht, hg1, hf⟩ | ⟨k, hk, e1, e2, ht, hg1, hf⟩ | ⟨o, cl1, rl1, f1, ho, hto, e1, e2, hf, h1⟩ | ⟨o, cl1, cl2, rl1, rl2, f1, f2, ho, hto, e1, e2, hf, h1, h2, e3, h3⟩ | ⟨c1, c2, c3, r1, r2, r3, f1, f2, f3, ht, e1, e2, hf, h1, h2, h3⟩
    · exact Or.inl ⟨v, v0, v9, e1, e2, ht, by omega, hf⟩
    · exact Or.inr (Or.inl ⟨k, hk, e1, e2, ht, by omega, hf⟩)
    · exact Or.inr (Or.inr (Or.inl ⟨o, cl1, rl1, f1, ho, hto, e1, e2, hf, ih _ _ _ _ _ _ _ h1 hh⟩))
    · exact Or.inr (Or.inr (Or.inr (Or.inl ⟨o, cl1, cl2, rl1, rl2, f1, f2, ho, hto, e1, e2, hf, ih _ _ _ _ _ _ _ h1 hh, hg' - 1, by omega, ih _ _ _ _ _ _ _ h3 (by omega)⟩)))
    · exact Or.inr (Or.inr (Or.inr (Or.inr ⟨c1, c2, c3, r1, r2, r3, f1, f2, f3, ht, e1, e2, hf, ih _ _ _ _ _ _ _ h1 hh, ih _ _ _ _ _ _ _ h2 hh, ih _ _ _ _ _ _ _ h3 hh⟩)))
section EXs
variable {b : Int} {cl cl1 cl2 cl3 : List Int} {rl rl1 rl2 rl3 : List (Int × Int)} {t : Bool} {hg hg' h1 h2 h3 : Nat} {f f1 f2 f3 : Env → Int}
theorem EX.up (h : EX b cl rl t hg f) (g : hg ≤ hg') : EX b cl rl t hg' f := by
  obtain ⟨n, h⟩ := h
  exact ⟨n, Ex_up _ _ _ _ _ _ _ _ _ h (Nat.le_refl _) g⟩
theorem ex_num {v : Int} (v0 : 0 ≤ v) (v9 : v ≤ 9999) (g : 1 ≤ hg) : EX b [39 + 64 * v] [(0, v)] false hg (fun _ => v) := ⟨1, Or.inl ⟨v, v0, v9, rfl, rfl, rfl, g, rfl⟩⟩
theorem ex_name {k : Nat} (hk : k < 8) (g : 1 ≤ hg) : EX b [tkN k] [(1, (k : Int))] false hg (fun E => E.1 k) := ⟨1, Or.inr (Or.inl ⟨k, hk, rfl, rfl, rfl, g, rfl⟩)⟩
theorem ex_one {o : Nat} (ho : o < 4) (ht : t = true ↔ o = 3) (h : EX b cl rl t hg f) : EX b (cl ++ [tk1 o]) (rl ++ [(rk1 o, 0)]) t hg (fun E => v1 o E (f E)) := by
  obtain ⟨n, h⟩ := h
  exact ⟨n + 1, Or.inr (Or.inr (Or.inl ⟨o, cl, rl, f, ho, ht, rfl, rfl, rfl, h⟩))⟩
theorem ex_two {o : Nat} (ho : o < 12) (ht : t = true ↔ 4 ≤ o) (a1 : EX b cl1 rl1 (decide (10 ≤ o)) h1 f1) (a2 : EX (b + cl1.length) cl2 rl2 (decide (10 ≤ o)) h2 f2) (g1 : h1 ≤ hg) (g2 : h2 + 1 ≤ hg) : EX b (cl1 ++ (cl2 ++ [tk2 o])) (rl1 ++ (rl2 ++ [(rk2 o, 0)])) t hg (fun E => v2 o (f1 E) (f2 E)) := by
  obtain ⟨n1, a1⟩ := a1
  obtain ⟨n2, a2⟩ := a2
  exact ⟨max n1 n2 + 1, Or.inr (Or.inr (Or.inr (Or.inl ⟨o, cl1, cl2, rl1, rl2, f1, f2, ho, ht, rfl, rfl, rfl, Ex_up _ _ _ _ _ _ _ _ _ a1 (Nat.le_max_left ..) g1, hg - 1, by omega, Ex_up _ _ _ _ _ _ _ _ _ a2 (Nat.le_max_right ..) (by omega)⟩)))⟩
theorem ex_if (a1 : EX b cl1 rl1 true h1 f1) (a2 : EX (b + cl1.length + 1) cl2 rl2 false h2 f2) (a3 : EX (b + cl1.length + 1 + cl2.length + 1) cl3 rl3 false h3 f3) (g1 : h1 ≤ hg) (g2 : h2 ≤ hg) (g3 : h3 ≤ hg) : EX b (cl1 ++ (20 + 64 * (b + cl1.length + 1 + cl2.length + 1)) :: (cl2 ++ (21 + 64 * (b + cl1.length + 1 + cl2.length + 1 + cl3.length)) :: cl3)) (rl1 ++ (rl2 ++ (rl3 ++ [(3, 0)]))) false hg (fun E => if f1 E = 0 then f3 E else f2 E) := by
  obtain ⟨n1, a1⟩ := a1
  obtain ⟨n2, a2⟩ := a2
  obtain ⟨n3, a3⟩ := a3
  exact ⟨max n1 (max n2 n3) + 1, Or.inr (Or.inr (Or.inr (Or.inr ⟨cl1, cl2, cl3, rl1, rl2, rl3, f1, f2, f3, rfl, rfl, rfl, rfl, Ex_up _ _ _ _ _ _ _ _ _ a1 (by omega) g1, Ex_up _ _ _ _ _ _ _ _ _ a2 (by omega) g2, Ex_up _ _ _ _ _ _ _ _ _ a3 (by omega) g3⟩)))⟩
end EXs
