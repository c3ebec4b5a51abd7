/-! TEXT: larger pieces of a law -/
theorem ik {K : Int} : K = K := rfl
/-- none of + - * / -/
abbrev na (K : Int) : Prop := K ≠ 30 ∧ K ≠ 31 ∧ K ≠ 32 ∧ K ≠ 33
theorem btw_no {K : Int} {p : List Int} (h : na K) (ho : opn p ≠ 41) : btw K p = -1 := by
  unfold btw
  rw [if_neg h.1, if_neg h.2.1, if_neg h.2.2.1, if_neg h.2.2.2, if_neg ho]
theorem btw_as {K : Int} {p : List Int} (h : na K) (ho : opn p = 41) (hc : cmpd p = true) (h1 : K ≠ 24) (h2 : K ≠ 23) : btw K p = -1 := by
  unfold btw
  rw [if_neg h.1, if_neg h.2.1, if_neg h.2.2.1, if_neg h.2.2.2, if_pos ho, if_pos hc, if_neg h1, if_neg h2]
theorem btw_24 {p : List Int} (ho : opn p = 41) (hc : cmpd p = true) : btw 24 p = 21 := by
  unfold btw
  rw [if_neg (by decide), if_neg (by decide), if_neg (by decide), if_neg (by decide), if_pos ho, if_pos hc, if_pos rfl]
theorem btw_23 {p : List Int} (ho : opn p = 41) (hc : cmpd p = true) : btw 23 p = 22 := by
  unfold btw
  rw [if_neg (by decide), if_neg (by decide), if_neg (by decide), if_neg (by decide), if_pos ho, if_pos hc, if_neg (by decide), if_pos rfl]
theorem btw_cm {K : Int} {p : List Int} (h : na K) (ho : opn p = 41) (hc : cmpd p = false) : btw K p = cmo K := by
  unfold btw
  rw [if_neg h.1, if_neg h.2.1, if_neg h.2.2.1, if_neg h.2.2.2, if_pos ho, if_neg (by rw [hc]; decide)]
theorem btw_30 {p : List Int} : btw 30 p = 6 := rfl
theorem btw_31 {p : List Int} : btw 31 p = 7 := rfl
theorem btw_32 {p : List Int} : btw 32 p = 8 := rfl
theorem btw_33 {p : List Int} : btw 33 p = 9 := rfl
theorem prt_40n {K : Int} {p : List Int} (h : K ≠ 35) : prt K p 40 = -1 := by
  unfold prt
  rw [if_pos rfl, if_neg h]
theorem prt_41 {p : List Int} (h : cmpd p = true) : prt 20 p 41 = 42 := by
  unfold prt
  rw [if_neg (by decide), if_pos rfl, if_pos ⟨rfl, h⟩]
theorem prt_41n {K : Int} {p : List Int} (h : ¬ (K = 20 ∧ cmpd p = true)) : prt K p 41 = -1 := by
  unfold prt
  rw [if_neg (by decide), if_pos rfl, if_neg h]
theorem prt_42n {K : Int} {p : List Int} (h : K ≠ 21) : prt K p 42 = -1 := by
  unfold prt
  rw [if_neg (by decide), if_neg (by decide), if_pos rfl, if_neg h]
theorem prt_43n {K : Int} {p : List Int} (h : K ≠ 22) : prt K p 43 = -1 := by
  unfold prt
  rw [if_neg (by decide), if_neg (by decide), if_neg (by decide), if_pos rfl, if_neg h]
theorem cnt_hi {n : Int} (hn : 4 ≤ n) : ∀ {u : List Int}, (∀ x, x ∈ u → n ≤ rk x ∧ rk x ≤ 6) → cnt u = 0
  | [], _ => rfl
  | x :: u, h => by
    have h1 := h x (List.mem_cons_self ..)
    rw [cnt, cnt_hi hn (fun y hy => h y (List.mem_cons_of_mem _ hy)), if_neg]
    · rfl
    · rintro (c | c)
      · omega
      · subst c; exact absurd h1.1 (by rw [show rk 20 = 3 from rfl]; omega)
section Good2
variable {X : mj_X} {d : Nat} {M : mj_M} {Q : Option mj_V → mj_M → Prop} {T : Int → Int} {L t0 so a a' a1 a2 a3 b w o iw k q lA lB lR : Int} {p : List Int} {rl r1 r2 r3 : List (Int × Int)}
theorem gd_of (h1 : GdO X d T L t0 so o a a' rl) (ho : 0 ≤ o ∧ o ≤ 8) : Gd X d T L t0 so 7 o a a' rl := by
  intro M p w Q h c hl hq
  refine h1 M [] p w Q h (fun x hx => absurd hx List.not_mem_nil) c.1 hl (by simp only [List.length_nil]; omega) (fun M1 p1 k1 => ?_)
  have e1 : w + (rl.length : Int) + (([] : List Int).length : Int) = w + (rl.length : Int) := by simp
  have e2 : o - (([] : List Int).length : Int) = o + cnt [] := by simp [cnt]
  rw [e1, e2] at p1
  have hl' : (p.length : Int) ≤ 6 * o + 5 := hl
  refine hq M1 rl [] p1 (List.append_nil _) (fun x hx => absurd hx List.not_mem_nil) (fun q => absurd q (by decide)) ?_ ?_ ?_
  · simp only [List.nil_append, cnt]; omega
  · simp only [cnt]; omega
  · have : Em t0 w (rl ++ []) M M1 := k1
    rw [List.append_nil] at this
    exact this
theorem bd_of (h1 : BdO X d T L t0 so o a k q) : Bd X d T L t0 so 7 o a k q := fun M p w Q h c hl hq => h1 M p w Q h (c.2.2 (by decide)) hl hq
theorem gd_up (h1 : Gd X d T L t0 so lA o a a' rl) (c : ∀ p, ctx T L lR a p → ctx T L lA a p) (h2 : hbd lR ≤ hbd lA) (h3 : lR ≤ lA) (h4 : lR ≤ 3 → lA ≤ 3) : Gd X d T L t0 so lR o a a' rl := by
  intro M p w Q h cc hl hq
  exact h1 M p w Q h (c p cc) (by omega) (fun M1 r1 u p1 e1 hu hc hl1 ho1 k1 => hq M1 r1 u p1 e1 (fun x hx => ⟨by have := (hu x hx).1; omega, (hu x hx).2⟩) (fun q => hc (h4 q)) hl1 ho1 k1)
theorem bd_up (h1 : Bd X d T L t0 so lA o a k q) (c : ∀ p, ctx T L lR a p → ctx T L lA a p) (h2 : hbd lR ≤ hbd lA) : Bd X d T L t0 so lR o a k q := fun M p w Q h cc hl hq => h1 M p w Q h (c p cc) (by omega) hq
/-- the way from a piece over an operator to the next -/
theorem lp_chain {x lst : Int} (h1 : Gd X d T L t0 so lA o a a1 r1) (hx : ∀ u p, ctx T L lR a p → (∀ z, z ∈ u → lA ≤ rk z ∧ rk z ≤ 6) → (lA ≤ 3 → cmpd u = true) → btw (tK T L a1) (u ++ p) = x) (x0 : 0 ≤ x) (hls : lst = if rk x = 4 then 5 else rk x) (hA : lst ≤ lA) (c1 : ∀ p, ctx T L lR a p → ctx T L lA a p) (c2 : ∀ p, ctx T L lR a p → blw lst p) (b1 : hbd lR ≤ hbd lA) (hk : tK T L a1 ≠ 40) (h : PS M T L t0 so a w o p 0) (cc : ctx T L lR a p) (hl : (p.length : Int) ≤ 6 * o + hbd lR) (hq : ∀ M1, PS M1 T L t0 so (tE T L a1) (w + r1.length) o (x :: p) 0 → Em t0 w r1 M M1 → Lp X d M1 Q) : Lp X d M Q := by
  refine h1 M p w Q h (c1 p cc) (by omega) (fun M1 s1 u p1 e1 hu hc hl1 ho1 k1 => ?_)
  have cu := cnt_0 u
  have o0 := h.o0
  refine lp_behind p1.iw (wc.mono (bh_op (d := d) p1 (hx u p cc hu hc) x0 hls (fun z hz => by have := (hu z hz).1; omega) (c2 p cc) (by omega) (by omega) hk) ?_)
  rintro r M2 ⟨rfl, p2, k2⟩
  refine ⟨rfl, hq M2 ?_ (k1.tr k2 rfl e1.symm)⟩
  rw [show w + (r1.length : Int) = w + (s1.length : Int) + (u.length : Int) by rw [← e1, List.length_append, ops_len]; omega, show o = o + cnt u - cnt u by omega]
  exact p2
theorem gd_chain {x lst : Int} (h1 : Gd X d T L t0 so lA o a a1 r1) (h2 : Gd X d T L t0 so lB o (tE T L a1) a2 r2) (hx : ∀ u p, ctx T L lR a p → (∀ z, z ∈ u → lA ≤ rk z ∧ rk z ≤ 6) → (lA ≤ 3 → cmpd u = true) → btw (tK T L a1) (u ++ p) = x) (x0 : 0 ≤ x) (hls : lst = if rk x = 4 then 5 else rk x) (hA : lst ≤ lA) (c1 : ∀ p, ctx T L lR a p → ctx T L lA a p) (c2 : ∀ p, ctx T L lR a p → blw lst p) (c3 : ∀ p, ctx T L lR a p → ctx T L lB (tE T L a1) (x :: p)) (b1 : hbd lR ≤ hbd lA) (b2 : hbd lR + 1 ≤ hbd lB) (hB : lR ≤ lB) (hxr : lR ≤ rk x ∧ rk x ≤ 6) (x20 : x ≠ 20) (cm : lR ≤ 3 → lB ≤ 3 ∨ (5 ≤ lB ∧ rk x = 4)) (hk : tK T L a1 ≠ 40) : Gd X d T L t0 so lR o a a2 (r1 ++ (r2 ++ [(x, 0)])) := by
  intro M p w Q h cc hl hq
  refine lp_chain h1 hx x0 hls hA c1 c2 b1 hk h cc hl (fun M2 p2 k2 => ?_)
  refine h2 M2 (x :: p) _ Q p2 (c3 p cc) (by simp only [List.length_cons]; omega) (fun M3 s3 u p3 e3 hu hc hl3 ho3 k3 => ?_)
  have cx : cnt [x] = 0 := by
    show (if rk x = 7 ∨ x = 20 then 1 else 0) + 0 = (0 : Int)
    rw [if_neg (by omega)]
    rfl
  have ec : cnt (u ++ [x]) = cnt u := by rw [cnt_app, cx]; omega
  have ea : u ++ [x] ++ p = u ++ x :: p := by simp
  refine hq M3 (r1 ++ s3) (u ++ [x]) ?_ ?_ (fun z hz => ?_) (fun q3 => ?_) ?_ ?_ (k2.tr k3 rfl rfl)
  · rw [ec, ea, List.length_append, show w + ((r1.length + s3.length : Nat) : Int) = w + (r1.length : Int) + (s3.length : Int) by omega]
    exact p3
  · rw [ops_app, ← e3]; simp [ops]
  · rcases List.mem_append.mp hz with hz | hz
    · have := hu z hz; omega
    · rw [List.mem_singleton.mp hz]; exact hxr
  · rcases cm q3 with c | ⟨c, c4⟩
    · exact cmpd_app _ (hc c)
    · rw [cmpd_hi _ (fun z hz => by have := (hu z hz).1; omega)]
      show (if 4 < rk x then false else decide (rk x = 4)) = true
      rw [if_neg (by omega)]
      exact decide_eq_true c4
  · rw [ec, ea]; exact hl3
  · rw [ec]; exact ho3
theorem bd_chain {x lst : Int} (h1 : Gd X d T L t0 so lA o a a1 r1) (h2 : Bd X d T L t0 so lB o (tE T L a1) k q) (hx : ∀ u p, ctx T L lR a p → (∀ z, z ∈ u → lA ≤ rk z ∧ rk z ≤ 6) → (lA ≤ 3 → cmpd u = true) → btw (tK T L a1) (u ++ p) = x) (x0 : 0 ≤ x) (hls : lst = if rk x = 4 then 5 else rk x) (hA : lst ≤ lA) (c1 : ∀ p, ctx T L lR a p → ctx T L lA a p) (c2 : ∀ p, ctx T L lR a p → blw lst p) (c3 : ∀ p, ctx T L lR a p → ctx T L lB (tE T L a1) (x :: p)) (b1 : hbd lR ≤ hbd lA) (b2 : hbd lR + 1 ≤ hbd lB) (hk : tK T L a1 ≠ 40) : Bd X d T L t0 so lR o a k q := by
  intro M p w Q h cc hl hq
  refine lp_chain h1 hx x0 hls hA c1 c2 b1 hk h cc hl (fun M2 p2 k2 => ?_)
  have w3 := p2.w3
  simp only [List.length_cons] at w3
  exact h2 M2 (x :: p) _ Q p2 (c3 p cc) (by simp only [List.length_cons]; omega) (fun M3 e3 k3 => hq M3 e3 ((k2.eb h.w0 (by omega)).tr k3))
/-! brackets -/
theorem ctx_o {y n : Int} {p : List Int} (hy : 40 ≤ y) (hn : 3 < n) (h41 : y ≠ 41) : ctx T L n a (y :: p) := by
  refine ⟨?_, fun q => by omega, fun _ _ q => ?_⟩
  · show rk y < _
    rw [rk40 hy]
    split <;> omega
  · have : opn (y :: p) = y := if_pos hy
    exact h41 (this.symm.trans q.1)
theorem gd_par (hk : tK T L a = 34) (ho : 0 ≤ o ∧ o < 8) (h1 : Gd X d T L t0 so 5 (o + 1) (tE T L a) a1 rl) (hk1 : tK T L a1 = 35) : GdO X d T L t0 so o a (tE T L a1) rl := by
  intro M u p w Q h hu hb hl hc hq
  refine lp_open (x := 40) h (by omega) ho.2 (Or.inl ⟨by rw [hk]; rfl, by decide⟩) (fun M1 p1 k1 => ?_)
  refine h1 M1 (40 :: (u ++ p)) w Q p1 (ctx_o (by decide) (by decide) (by decide)) (by simp only [List.length_cons, show hbd 5 = 3 from rfl]; omega) (fun M2 s2 u2 p2 e2 hu2 _ hl2 ho2 k2 => ?_)
  have cu := cnt_hi (by decide) hu2
  have r1 : ∀ z, z ∈ u2 → 1 ≤ rk z := fun z hz => by have := (hu2 z hz).1; omega
  have cv := cnt7 hu
  refine lp_behind p2.iw (wc.mono (bh_close (d := d) (v := u) (y := 40) p2 (btw_no (by rw [hk1]; decide) (by rw [opn_app (by decide) r1]; decide)) (by decide) (by rw [hk1]; rfl) r1 hu hb (by omega) (by omega) (by rw [hk1]; decide)) ?_)
  rintro r M3 ⟨rfl, p3, k3⟩
  refine ⟨rfl, hq M3 ?_ ?_⟩
  · rw [cu, cv] at p3
    simp only [show ¬ (40 : Int) = 43 by decide, if_false] at p3
    rw [show w + (rl.length : Int) + (u.length : Int) = w + (s2.length : Int) + (u2.length : Int) + 0 + (u.length : Int) by rw [← e2, List.length_append, ops_len]; omega, show o - (u.length : Int) = o + 1 + 0 - 0 - 1 - (u.length : Int) by omega]
    exact p3
  · simp only [show ¬ (40 : Int) = 43 by decide, if_false, List.nil_append] at k3
    exact k1.z (k2.tr k3 rfl (by rw [← e2, List.append_assoc]))
theorem bd_par1 (hk : tK T L a = 34) (ho : 0 ≤ o ∧ o < 8) (h1 : Bd X d T L t0 so 5 (o + 1) (tE T L a) k q) : BdO X d T L t0 so o a k q := by
  intro M p w Q h hn hl hq
  refine lp_open (x := 40) h (by omega) ho.2 (Or.inl ⟨by rw [hk]; rfl, by decide⟩) (fun M1 p1 k1 => ?_)
  exact h1 M1 (40 :: p) w Q p1 (ctx_o (by decide) (by decide) (by decide)) (by simp only [List.length_cons, show hbd 5 = 3 from rfl]; omega) (fun M2 e2 k2 => hq M2 e2 (k1.eb0.tr k2))
theorem bd_par2 (hk : tK T L a = 34) (ho : 0 ≤ o ∧ o < 8) (h1 : Gd X d T L t0 so 5 (o + 1) (tE T L a) a1 rl) (hk1 : tK T L a1 ≠ 35) (hn1 : na (tK T L a1)) : BdO X d T L t0 so o a 1 (tS T L a1) := by
  intro M p w Q h hn hl hq
  refine lp_open (x := 40) h (by omega) ho.2 (Or.inl ⟨by rw [hk]; rfl, by decide⟩) (fun M1 p1 k1 => ?_)
  refine h1 M1 (40 :: p) w Q p1 (ctx_o (by decide) (by decide) (by decide)) (by simp only [List.length_cons, show hbd 5 = 3 from rfl]; omega) (fun M2 s2 u2 p2 e2 hu2 _ hl2 ho2 k2 => ?_)
  have r1 : ∀ z, z ∈ u2 → 1 ≤ rk z := fun z hz => by have := (hu2 z hz).1; omega
  have eo := opn_app (p := p) (show (40 : Int) ≤ 40 by decide) r1
  have w3 := p2.w3
  refine lp_wrong p2 (by omega) (btw_no hn1 (by rw [eo]; decide)) (by rw [eo]; exact prt_40n hk1) (by rw [eo]; decide) (hq M2 p2.rl.e13 (k1.eb0.tr (k2.eb h.w0 (by omega))))
/-! if -/
theorem lp_if (hk : tK T L a = 19) (ho : 0 ≤ o ∧ o < 8) (h1 : Gd X d T L t0 so 1 (o + 1) (tE T L a) a1 r1) (hk1 : tK T L a1 = 20) (h : PS M T L t0 so a w o p 0) (hl : (p.length : Int) ≤ 6 * o + 5) (hq : ∀ M1, PS M1 T L t0 so (tE T L a1) (w + r1.length) (o + 1) (42 :: p) 0 → Em t0 w r1 M M1 → Lp X d M1 Q) : Lp X d M Q := by
  refine lp_open (x := 41) h (by omega) ho.2 (Or.inl ⟨by rw [hk]; rfl, by decide⟩) (fun M1 p1 k1 => ?_)
  refine h1 M1 (41 :: p) w Q p1 ⟨show rk 41 < _ by decide, fun _ => rfl, fun q => absurd q (by decide)⟩ (by simp only [List.length_cons, show hbd 1 = 0 from rfl]; omega) (fun M2 s2 u2 p2 e2 hu2 hc2 hl2 ho2 k2 => ?_)
  have g1 : ∀ z, z ∈ u2 → 1 ≤ rk z := fun z hz => (hu2 z hz).1
  have eo := opn_app (p := p) (show (40 : Int) ≤ 41 by decide) g1
  have cc := cmpd_app (41 :: p) (hc2 (by decide))
  have cu := cnt_0 u2
  have w3 := p2.w3
  refine lp_behind p2.iw (wc.mono (bh_mid (d := d) (y := 41) (x := 42) p2 (by rw [hk1]; exact btw_as (by decide) eo cc (by decide) (by decide)) (by decide) (by rw [hk1]; exact prt_41 cc) (by decide) g1 (by omega) (by omega) (by rw [hk1]; decide)) ?_)
  rintro r M3 ⟨rfl, p3, k3⟩
  refine ⟨rfl, hq M3 ?_ (k1.z (k2.tr k3 rfl e2.symm))⟩
  rw [show w + (r1.length : Int) = w + (s2.length : Int) + (u2.length : Int) by rw [← e2, List.length_append, ops_len]; omega, show o + 1 = o + 1 + cnt u2 - cnt u2 by omega]
  exact p3
theorem lp_then (ho : 0 ≤ o ∧ o < 8) (h1 : Gd X d T L t0 so 5 (o + 1) b a2 r2) (hk1 : tK T L a2 = 21) (h : PS M T L t0 so b w (o + 1) (42 :: p) 0) (hl : (p.length : Int) ≤ 6 * o + 5) (hq : ∀ M1, PS M1 T L t0 so (tE T L a2) (w + r2.length) (o + 1) (43 :: p) 0 → Em t0 w r2 M M1 → Lp X d M1 Q) : Lp X d M Q := by
  refine h1 M (42 :: p) w Q h (ctx_o (by decide) (by decide) (by decide)) (by simp only [List.length_cons, show hbd 5 = 3 from rfl]; omega) (fun M2 s2 u2 p2 e2 hu2 hc2 hl2 ho2 k2 => ?_)
  have g1 : ∀ z, z ∈ u2 → 1 ≤ rk z := fun z hz => by have := (hu2 z hz).1; omega
  have eo := opn_app (p := p) (show (40 : Int) ≤ 42 by decide) g1
  have cu := cnt_0 u2
  refine lp_behind p2.iw (wc.mono (bh_mid (d := d) (y := 42) (x := 43) p2 (btw_no (by rw [hk1]; decide) (by rw [eo]; decide)) (by decide) (by rw [hk1]; rfl) (by decide) g1 (by omega) (by omega) (by rw [hk1]; decide)) ?_)
  rintro r M3 ⟨rfl, p3, k3⟩
  refine ⟨rfl, hq M3 ?_ (k2.tr k3 rfl e2.symm)⟩
  rw [show w + (r2.length : Int) = w + (s2.length : Int) + (u2.length : Int) by rw [← e2, List.length_append, ops_len]; omega, show o + 1 = o + 1 + cnt u2 - cnt u2 by omega]
  exact p3
theorem gd_if (hk : tK T L a = 19) (ho : 0 ≤ o ∧ o < 8) (h1 : Gd X d T L t0 so 1 (o + 1) (tE T L a) a1 r1) (hk1 : tK T L a1 = 20) (h2 : Gd X d T L t0 so 5 (o + 1) (tE T L a1) a2 r2) (hk2 : tK T L a2 = 21) (h3 : Gd X d T L t0 so 5 (o + 1) (tE T L a2) a3 r3) (hk3 : tK T L a3 = 22) : GdO X d T L t0 so o a (tE T L a3) (r1 ++ (r2 ++ (r3 ++ [(3, 0)]))) := by
  intro M u p w Q h hu hb hl hc hq
  refine lp_if hk ho h1 hk1 h hl (fun M1 p1 k1 => ?_)
  refine lp_then ho h2 hk2 p1 hl (fun M2 p2 k2 => ?_)
  refine h3 M2 (43 :: (u ++ p)) _ Q p2 (ctx_o (by decide) (by decide) (by decide)) (by simp only [List.length_cons, show hbd 5 = 3 from rfl]; omega) (fun M3 s3 u3 p3 e3 hu3 _ hl3 ho3 k3 => ?_)
  have cu := cnt_hi (by decide) hu3
  have g1 : ∀ z, z ∈ u3 → 1 ≤ rk z := fun z hz => by have := (hu3 z hz).1; omega
  have cv := cnt7 hu
  refine lp_behind p3.iw (wc.mono (bh_close (d := d) (v := u) (y := 43) p3 (btw_no (by rw [hk3]; decide) (by rw [opn_app (by decide) g1]; decide)) (by decide) (by rw [hk3]; rfl) g1 hu hb (by omega) (by omega) (by rw [hk3]; decide)) ?_)
  rintro r M4 ⟨rfl, p4, k4⟩
  refine ⟨rfl, hq M4 ?_ ?_⟩
  · rw [cu, cv] at p4
    simp only [if_true] at p4
    rw [show w + ((r1 ++ (r2 ++ (r3 ++ [((3 : Int), (0 : Int))]))).length : Int) + (u.length : Int) = w + (r1.length : Int) + (r2.length : Int) + (s3.length : Int) + (u3.length : Int) + 1 + (u.length : Int) by rw [← e3]; simp only [List.length_append, ops_len, List.length_cons, List.length_nil]; omega, show o - (u.length : Int) = o + 1 + 0 - 0 - 1 - (u.length : Int) by omega]
    exact p4
  · simp only [if_true] at k4
    refine k1.tr (k2.tr (k3.tr k4 rfl rfl) rfl rfl) rfl ?_
    rw [← e3]
    simp only [List.append_assoc]
theorem bd_if1 (hk : tK T L a = 19) (ho : 0 ≤ o ∧ o < 8) (h1 : Bd X d T L t0 so 1 (o + 1) (tE T L a) k q) : BdO X d T L t0 so o a k q := by
  intro M p w Q h hn hl hq
  refine lp_open (x := 41) h (by omega) ho.2 (Or.inl ⟨by rw [hk]; rfl, by decide⟩) (fun M1 p1 k1 => ?_)
  exact h1 M1 (41 :: p) w Q p1 ⟨show rk 41 < _ by decide, fun _ => rfl, fun q => absurd q (by decide)⟩ (by simp only [List.length_cons, show hbd 1 = 0 from rfl]; omega) (fun M2 e2 k2 => hq M2 e2 (k1.eb0.tr k2))
theorem bd_if2 (hk : tK T L a = 19) (ho : 0 ≤ o ∧ o < 8) (h1 : Gd X d T L t0 so 1 (o + 1) (tE T L a) a1 r1) (hk1 : tK T L a1 ≠ 20) (hn1 : na (tK T L a1)) (n24 : tK T L a1 ≠ 24) (n23 : tK T L a1 ≠ 23) : BdO X d T L t0 so o a 1 (tS T L a1) := by
  intro M p w Q h hn hl hq
  refine lp_open (x := 41) h (by omega) ho.2 (Or.inl ⟨by rw [hk]; rfl, by decide⟩) (fun M1 p1 k1 => ?_)
  refine h1 M1 (41 :: p) w Q p1 ⟨show rk 41 < _ by decide, fun _ => rfl, fun q => absurd q (by decide)⟩ (by simp only [List.length_cons, show hbd 1 = 0 from rfl]; omega) (fun M2 s2 u2 p2 e2 hu2 hc2 hl2 ho2 k2 => ?_)
  have g1 : ∀ z, z ∈ u2 → 1 ≤ rk z := fun z hz => (hu2 z hz).1
  have eo := opn_app (p := p) (show (40 : Int) ≤ 41 by decide) g1
  have cc := cmpd_app (41 :: p) (hc2 (by decide))
  have w3 := p2.w3
  refine lp_wrong p2 (by omega) (btw_as hn1 eo cc n24 n23) (by rw [eo]; exact prt_41n (fun q => hk1 q.1)) (by rw [eo]; decide) (hq M2 p2.rl.e13 (k1.eb0.tr (k2.eb h.w0 (by omega))))
theorem bd_if3 (hk : tK T L a = 19) (ho : 0 ≤ o ∧ o < 8) (h1 : Gd X d T L t0 so 1 (o + 1) (tE T L a) a1 r1) (hk1 : tK T L a1 = 20) (h2 : Bd X d T L t0 so 5 (o + 1) (tE T L a1) k q) : BdO X d T L t0 so o a k q := by
  intro M p w Q h hn hl hq
  refine lp_if hk ho h1 hk1 h hl (fun M1 p1 k1 => ?_)
  have w3 := p1.w3
  exact h2 M1 (42 :: p) _ Q p1 (ctx_o (by decide) (by decide) (by decide)) (by simp only [List.length_cons, show hbd 5 = 3 from rfl]; omega) (fun M2 e2 k2 => hq M2 e2 ((k1.eb h.w0 (by omega)).tr k2))
theorem bd_if4 (hk : tK T L a = 19) (ho : 0 ≤ o ∧ o < 8) (h1 : Gd X d T L t0 so 1 (o + 1) (tE T L a) a1 r1) (hk1 : tK T L a1 = 20) (h2 : Gd X d T L t0 so 5 (o + 1) (tE T L a1) a2 r2) (hk2 : tK T L a2 ≠ 21) (hn2 : na (tK T L a2)) : BdO X d T L t0 so o a 1 (tS T L a2) := by
  intro M p w Q h hn hl hq
  refine lp_if hk ho h1 hk1 h hl (fun M1 p1 k1 => ?_)
  refine h2 M1 (42 :: p) _ Q p1 (ctx_o (by decide) (by decide) (by decide)) (by simp only [List.length_cons, show hbd 5 = 3 from rfl]; omega) (fun M2 s2 u2 p2 e2 hu2 hc2 hl2 ho2 k2 => ?_)
  have g1 : ∀ z, z ∈ u2 → 1 ≤ rk z := fun z hz => by have := (hu2 z hz).1; omega
  have eo := opn_app (p := p) (show (40 : Int) ≤ 42 by decide) g1
  have w1 := p1.w3
  have w3 := p2.w3
  have w0 := p1.w0
  refine lp_wrong p2 (by omega) (btw_no hn2 (by rw [eo]; decide)) (by rw [eo]; exact prt_42n hk2) (by rw [eo]; decide) (hq M2 p2.rl.e13 ((k1.eb h.w0 (by omega)).tr (k2.eb w0 (by omega))))
theorem bd_if5 (hk : tK T L a = 19) (ho : 0 ≤ o ∧ o < 8) (h1 : Gd X d T L t0 so 1 (o + 1) (tE T L a) a1 r1) (hk1 : tK T L a1 = 20) (h2 : Gd X d T L t0 so 5 (o + 1) (tE T L a1) a2 r2) (hk2 : tK T L a2 = 21) (h3 : Bd X d T L t0 so 5 (o + 1) (tE T L a2) k q) : BdO X d T L t0 so o a k q := by
  intro M p w Q h hn hl hq
  refine lp_if hk ho h1 hk1 h hl (fun M1 p1 k1 => ?_)
  refine lp_then ho h2 hk2 p1 hl (fun M2 p2 k2 => ?_)
  have w1 := p1.w3
  have w3 := p2.w3
  exact h3 M2 (43 :: p) _ Q p2 (ctx_o (by decide) (by decide) (by decide)) (by simp only [List.length_cons, show hbd 5 = 3 from rfl]; omega) (fun M3 e3 k3 => hq M3 e3 (((k1.eb h.w0 (by omega)).tr (k2.eb p1.w0 (by omega))).tr k3))
theorem bd_if6 (hk : tK T L a = 19) (ho : 0 ≤ o ∧ o < 8) (h1 : Gd X d T L t0 so 1 (o + 1) (tE T L a) a1 r1) (hk1 : tK T L a1 = 20) (h2 : Gd X d T L t0 so 5 (o + 1) (tE T L a1) a2 r2) (hk2 : tK T L a2 = 21) (h3 : Gd X d T L t0 so 5 (o + 1) (tE T L a2) a3 r3) (hk3 : tK T L a3 ≠ 22) (hn3 : na (tK T L a3)) : BdO X d T L t0 so o a 1 (tS T L a3) := by
  intro M p w Q h hn hl hq
  refine lp_if hk ho h1 hk1 h hl (fun M1 p1 k1 => ?_)
  refine lp_then ho h2 hk2 p1 hl (fun M2 p2 k2 => ?_)
  refine h3 M2 (43 :: p) _ Q p2 (ctx_o (by decide) (by decide) (by decide)) (by simp only [List.length_cons, show hbd 5 = 3 from rfl]; omega) (fun M3 s3 u3 p3 e3 hu3 hc3 hl3 ho3 k3 => ?_)
  have g1 : ∀ z, z ∈ u3 → 1 ≤ rk z := fun z hz => by have := (hu3 z hz).1; omega
  have eo := opn_app (p := p) (show (40 : Int) ≤ 43 by decide) g1
  have w1 := p1.w3
  have w2 := p2.w3
  have w3 := p3.w3
  refine lp_wrong p3 (by omega) (btw_no hn3 (by rw [eo]; decide)) (by rw [eo]; exact prt_43n hk3) (by rw [eo]; decide) (hq M3 p3.rl.e13 (((k1.eb h.w0 (by omega)).tr (k2.eb p1.w0 (by omega))).tr (k3.eb p2.w0 (by omega))))
end Good2
