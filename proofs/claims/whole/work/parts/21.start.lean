/-! THE START: from the law's entry the small machine's run is the machine's -/
theorem mj_eqval {args : Array Value} {s : State} {t : Term} {v : Int32} (h : (Cond.eq t (.int v)).before args s = true) : t.eval args s none [] s = some (.int v) := by
  exact va_eqt h
theorem mj_ga0 {args : Array Value} {s : State} {ty : FieldType} (h : (Cond.arrayClass ty).before args s = true) : ∃ cA : ClassId, ArrOfT s cA ty ∧ s.vm.findClass ("[" ++ ty.toString) = some cA := by
  obtain ⟨cA, kA, comp, hfind, hk, hkind⟩ := Cond.arrayClass_spec h
  exact ⟨cA, fun n z => ⟨(fun k q => by cases q), kA, hk, comp, hkind⟩, hfind⟩
theorem mj_gaq {s : State} {C : String} (h : va_AO C s) : ∃ cA : ClassId, ArrOfT s cA (.object C) ∧ va_RA s cA (.object C) := by
  obtain ⟨comp, cA, kA, h1, h2, h3, h4, h5⟩ := Cond.arrayOver_spec h
  exact ⟨cA, fun n z => ⟨(fun k q => by cases q), kA, h3, comp, h4⟩, kA, comp, h3, h4, h1, h5⟩
theorem mj_start {p : Program} {s : State} {m : MethodId} {meth : Method} {c : Code} {b L : Nat} {xs : Nat → Int32} (C0 : lw_At p s m meth c b L xs) : ∃ G : mj_G, mj_E G s ∧ mj_sc G = b ∧ mj_sL G = L ∧ mj_sx G = xs ∧ mj_lo G = s.heap.size := by
  obtain ⟨hx, hb, hr, hml, hown, hts, hX, hbl, hlocks, hgv⟩ := C0
  have htt : ∀ w ∈ tables_1, w.before #[Value.ref b] s = true := fun w hw => hts w (List.mem_append_right _ hw)
  have hnn : ∀ w ∈ mj_nw1, w.before #[Value.ref b] s = true := flat_of_before _ hgv
  have hA : ∀ a : Nat, a < s.heap.size → ¬ (fun q : Nat => s.heap.size ≤ q) a := fun a h => Nat.not_le.mpr h
  -- classes
  have hD : ∀ q : Nat, ∃ z : ClassId × (Nat → Nat), q < 13 → u_Kn s (mj_vw q).1 (mj_vw q).2.1 (mj_vw q).2.2 z.1 z.2 := by
    intro q
    by_cases h13 : q < 13
    · obtain ⟨cC, iS, h⟩ := u_known (C := (mj_vw q).1) (T := (mj_vw q).2.1) (N := (mj_vw q).2.2) (n := mj_fN q) htt (mj_uws_ok0 q h13) (by rw [(mj_own_ok q h13).1]; exact htt _ (mj_ins13_ok q h13).1)
      exact ⟨(cC, iS), fun _ => h⟩
    · exact ⟨(0, fun _ => 0), fun h => absurd h h13⟩
  obtain ⟨f, hf⟩ := Classical.axiomOfChoice hD
  obtain ⟨c3, a3, n3⟩ := mj_ga0 (htt _ mj_arrs.1)
  obtain ⟨c4, a4, n4⟩ := mj_ga0 (htt _ mj_arrs.2.1)
  obtain ⟨c5, a5, n5⟩ := mj_ga0 (htt _ mj_arrs.2.2)
  have w2 : va_AO "PerfectFerried$Moment" s := va_AO.of (htt _ mj_t_ao.1)
  have w3 : va_AO "PerfectFerried$Text" s := va_AO.of (htt _ mj_t_ao.2.1)
  obtain ⟨c6, a6, n6⟩ := mj_gaq w2
  obtain ⟨c7, a7, n7⟩ := mj_gaq w3
  -- statics
  have z1 : va_Z "java/lang/String" "COMPACT_STRINGS" "Z" (.int 1) (fun q : Nat => s.heap.size ≤ q) s s.heap := va_Zof (htt _ mj_t_st.1) (htt _ mj_t_st.2.2.2.1) (mj_eqval (hnn _ mj_n_wayl.2.2.1)) hA
  obtain ⟨wa, hwa, z3⟩ := va_Tof (ty := .int) (N := 40) (f := fun j => .int (Int32.ofInt (mj_ways.getD j 0))) (A := fun q : Nat => s.heap.size ≤ q) (by decide) (hnn _ mj_n_wayl.2.1) (mj_eqval (hnn _ mj_n_wayl.1)) (fun j hj => mj_eqval (hnn _ (mj_n_ways j hj))) hA
  have z2 : va_Z "PerfectFerried$Tongue" "WAYS" "[I" (.ref wa) (fun q : Nat => s.heap.size ≤ q) s s.heap := va_Zof (htt _ mj_t_st.2.1) (htt _ mj_t_st.2.2.2.2.1) hwa hA
  have z4 : ∃ fo : Value, va_Z "jdk/internal/util/Preconditions" "SIOOBE_FORMATTER" "Ljava/util/function/BiFunction;" fo (fun q : Nat => s.heap.size ≤ q) s s.heap ∧ (fo = .null ∨ ∃ a, fo = .ref a) := by
    rcases va_Zqof (A := fun q : Nat => s.heap.size ≤ q) (htt _ mj_t_st.2.2.1) (htt _ mj_t_st.2.2.2.2.2) (hnn _ mj_n_wayl.2.2.2) hA with q | ⟨t, q⟩
    · exact ⟨_, q, Or.inl rfl⟩
    · exact ⟨_, q, Or.inr ⟨t, rfl⟩⟩
  obtain ⟨fo, z4, hfo⟩ := z4
  -- texts
  obtain ⟨tK, tV, t1, t2⟩ := vk_Sof (N := 2) (tm := mj_tm) (len := [156, 11]) (byt := mj_byt) (A := fun q : Nat => s.heap.size ≤ q) (args := #[Value.ref b]) (s := s) (fun i hi => by
      rcases (show i = 0 ∨ i = 1 by omega) with rfl | rfl <;> decide) (fun i hi => hnn _ (mj_n_tx i hi).1) (fun i hi => hnn _ (mj_n_tx i hi).2.1) (fun i hi => hnn _ (mj_n_tx i hi).2.2.1) (fun i hi => hnn _ (mj_n_tx i hi).2.2.2) (fun i hi j hj => by
      rcases (show i = 0 ∨ i = 1 by omega) with rfl | rfl
      · exact hnn _ (mj_n_b0 j hj)
      · exact hnn _ (mj_n_b1 j hj)) (fun i j hi hj hij => by
      rcases (show i = 0 ∨ i = 1 by omega) with rfl | rfl <;> rcases (show j = 0 ∨ j = 1 by omega) with rfl | rfl
      · exact absurd rfl hij
      · exact Or.inl (hnn _ mj_n_ne)
      · exact Or.inr (hnn _ mj_n_ne)
      · exact absurd rfl hij) hA
  have r1 : vk_R "PerfectFerried$Reader" 121 mj_tx0 (tK 0) s := vk_R.of (A := #[Value.ref b]) (htt _ mj_t_ao.2.2.2.1) (t2 0 (by omega))
  have r2 : vk_R "PerfectFerried$Reader" 129 mj_tx1 (tK 1) s := vk_R.of (A := #[Value.ref b]) (htt _ mj_t_ao.2.2.2.2) (t2 1 (by omega))
  refine ⟨((fun q => (f q).1, fun q => (f q).2), fun t => if t = 3 then c3 else if t = 4 then c4 else if t = 5 then c5 else if t = 6 then c6 else c7, s.heap.size, (b, L, xs), wa, tK, tV, fo), ⟨⟨?_, ?_⟩, hX, ⟨hbl, Nat.le_refl _⟩, ⟨z1, z2, z3, z4⟩, ⟨t1, r1, r2⟩, ⟨?_, w2, w3, ?_⟩, hfo⟩, rfl, rfl, rfl, rfl⟩
  · intro k q hq
    have hk : k < 13 := (List.getElem?_eq_some_iff.mp hq).1
    have := mj_vw_ok k hk
    rw [this] at hq
    cases hq
    exact hf k hk
  · intro k q hq
    have hk : k < 5 := (List.getElem?_eq_some_iff.mp hq).1
    rcases (show k = 0 ∨ k = 1 ∨ k = 2 ∨ k = 3 ∨ k = 4 by omega) with rfl | rfl | rfl | rfl | rfl
    · cases hq; exact ⟨a3, n3⟩
    · cases hq; exact ⟨a4, n4⟩
    · cases hq; exact ⟨a5, n5⟩
    · cases hq; exact ⟨a6, n6⟩
    · cases hq; exact ⟨a7, n7⟩
  · intro c q hc hq hk
    have z := mj_lks_ok c hc q hq
    obtain ⟨i, kd, j⟩ := q
    rcases hk with hk | hk
    · dsimp only at hk
      subst hk
      exact va_Nw.of rfl (htt _ z.2)
    · dsimp only at hk
      subst hk
      exact va_Nw.of rfl (htt _ z.2)
  · exact va_Nw.of rfl (htt _ mj_t_ao.2.2.1)
/-- the empty memory -/
def mj_M0 : mj_M := (0, 0, fun _ => 0, fun _ => 0, fun _ _ => 0)
/-- the script as the small machine takes it -/
def mj_Xs (L : Nat) (xs : Nat → Int32) : mj_X := ((L : Int), fun i => (xs i.toNat).toInt)
theorem mj_H0 {G : mj_G} {H : Heap} : mj_H G [] mj_M0 H := ⟨rfl, (fun k q h => by cases h), ⟨(fun i j p q h => by cases h), (fun k q h => by cases h)⟩, fun x h1 h2 => by
  have : x ≤ (0 : Int) := h2
  omega⟩
/-- THE CLAIM OUT OF THE SMALL MACHINE: if its run of the law answers 1 within the room, the machine's does -/
theorem mj_whole {p : Program} {e : Env} {s : State} {m : MethodId} {below : List Frame} {meth : Method} {c : Code} (l : Launch) {b L : Nat} {xs : Nat → Int32} (hL : L ≤ 3072) (C0 : lw_At p s m meth c b L xs) {n d : Nat} {M' : mj_M} (hrun : mj_x (mj_Xs L xs) n d 335 0 [(8, 0), (9, 0), (9, 0), (9, 0)] [] mj_M0 = some (some (0, 1), M')) (hd : d ≤ 1000) (hM1 : M'.1 ≤ 600000) (hM2 : M'.2.1 ≤ 7302250) : W p l e room_1 s m #[Value.ref b] below meth c s.heap [] 0 0 (lw_Z below #[Value.ref b] s) (entryFrame m ([Value.ref b] : List Value).toArray 4) := by
  obtain ⟨G, hE, g1, g2, g3, g4⟩ := mj_start C0
  obtain ⟨hx, hb, hr, hml, hown, hts, hX, hbl, hlocks, hgv⟩ := C0
  have hXG : mj_XG (mj_Xs L xs) G := ⟨by rw [g2]; rfl, by omega, fun i _ _ => by rw [g3]; rfl⟩
  have F : mj_F G 335 p s m #[Value.ref b] meth c := ⟨hx, hb, hml, hown, fun w hw => hts w (List.mem_filter.mp hw).1, (fun q => by cases q), hE⟩
  have hL0 := mj_ent_L (G := G) (ad := []) hE.2.2.2.2.2.2 (n := 4) (as := [(8, 0)]) (by decide)
  rw [lg_entry_eq]
  have hcv : ([(8, 0)] : List mj_V).map (mj_cv G []) = [Value.ref b] := by
    show [Value.ref (if (0 : Int) = 0 then mj_sc G else mj_wa G)] = _
    rw [if_pos rfl, g1]
  rw [hcv] at hL0
  refine mj_snd hXG n d 335 0 _ [] mj_M0 (some (0, 1)) M' hrun (by decide) p l e room_1 s m _ below meth c s.heap [] 0 0 _ [] _ F mj_H0 va_S.rf hL0 (fun v hv => ?_) (fun v hv => absurd hv List.not_mem_nil) (by show d + 1 ≤ 2048; omega) (by show 60 * (d + 1) ≤ 84000; omega) (by show 0 + (M'.1 - 0) ≤ 600000; omega) (by show 0 + (M'.2.1 - 0) ≤ 7302250; omega) ?_
  · simp only [List.mem_cons, List.not_mem_nil, or_false] at hv
    rcases hv with rfl | rfl | rfl | rfl
    · exact Or.inl rfl
    · trivial
    · trivial
    · trivial
  · intro ad' H' locs' lr' pc' op ln st' hap hH' hS' hdg hln hret hok
    refine va_forget (fun q hq => by rw [← g4]; exact hS'.2.2 q hq) ?_
    refine W.widen (k := 600000) (n := 7302250) (by show 0 + (M'.1 - 0) ≤ 600000; omega) (by show 0 + (M'.2.1 - 0) ≤ 7302250; omega) ?_
    unfold mj_ret at hret
    split at hret
    · split at hret
      · split at hret <;> cases hret
      · cases hret
    · obtain rfl : ln = 1 := of_decide_eq_true hln
      split at hret
      · split at hret
        · cases hret
          exact lw_ret hx hb hr hlocks hdg
        · cases hret
      · cases hret
    · split at hret
      · split at hret
        · cases hret
        · cases hret
      · cases hret
    · split at hret
      · rw [if_pos (by decide +kernel)] at hret
        cases hret
      · cases hret
    · cases hret
