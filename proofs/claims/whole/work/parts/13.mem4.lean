section Mem4
variable {p : Program} {l : Launch} {e : Env} {R : Room} {s : State} {m : MethodId} {args : Array Value} {below : List Frame} {meth : Method} {c : Code} {H : Heap} {locs : List Loc} {cells slots : Nat} {Q : State → Prop}
variable {G : mj_G} {ad : List Nat} {M : mj_M} {ls st : List mj_V} {lr : Array Slot} {n pc pc2 c0 idx : Nat} {s' : mj_St} {cc : ByteArray} {X : mj_X}
theorem mj_upd32 {x i v : Int} (hi : 0 ≤ i) : (fun j : Nat => Int32.ofInt ((mj_wr M x i v).2.2.2.2 x j)) = upd (fun j : Nat => Int32.ofInt (M.2.2.2.2 x j)) i.toNat (Int32.ofInt v) := by
  funext j
  show Int32.ofInt (mj_up M.2.2.2.2 x i v x j) = _
  unfold mj_up upd
  by_cases h : j = i.toNat
  · rw [if_pos ⟨rfl, by omega⟩, if_pos h]
  · rw [if_neg (by rintro ⟨-, q⟩; omega), if_neg h]
theorem mj_upd64 {x i v : Int} (hi : 0 ≤ i) : (fun j : Nat => Int64.ofInt ((mj_wr M x i v).2.2.2.2 x j)) = vp_updL (fun j : Nat => Int64.ofInt (M.2.2.2.2 x j)) i.toNat (Int64.ofInt v) := by
  funext j
  show Int64.ofInt (mj_up M.2.2.2.2 x i v x j) = _
  unfold mj_up vp_updL
  by_cases h : j = i.toNat
  · rw [if_pos ⟨rfl, by omega⟩, if_pos h]
  · rw [if_neg (by rintro ⟨-, q⟩; omega), if_neg h]
theorem mj_updq {x i v : Int} (hi : 0 ≤ i) (hv : v ≠ 0) : (fun j : Nat => mj_rf ad ((mj_wr M x i v).2.2.2.2 x j)) = va_up (fun j : Nat => mj_rf ad (M.2.2.2.2 x j)) i.toNat (some (ad.getD (v - 1).toNat 0)) := by
  funext j
  show mj_rf ad (mj_up M.2.2.2.2 x i v x j) = _
  unfold mj_up va_up
  by_cases h : j = i.toNat
  · rw [if_pos ⟨rfl, by omega⟩, if_pos h]
    unfold mj_rf
    rw [if_neg hv]
  · rw [if_neg (by rintro ⟨-, q⟩; omega), if_neg h]
theorem mj_s_iast (hx : p.tables.exec = Jvm.exec) (hb : c.code = cc) (hE : mj_E G s) (hH : mj_H G ad M H) (hS : va_S (mj_A G) s.heap H locs)
    (hL : mj_L G ad n ls lr) (h1 : ∀ u ∈ ls, mj_ok M u) (h2 : ∀ u ∈ st, mj_ok M u) (hdg : decode cc pc = .ok (.iastore, 1)) (h : mj_iast pc ls st M = some s') (kk : mj_kk p l e R s m args below meth c cells slots Q G ad M n s') : W p l e R s m args below meth c H locs cells slots Q (F0 m pc lr (st.map (mj_cv G ad))) := by
  unfold mj_iast at h
  split at h
  · next v i x r =>
    have hr : ∀ u ∈ r, mj_ok M u := fun u hu => h2 u (List.mem_cons_of_mem _ (List.mem_cons_of_mem _ (List.mem_cons_of_mem _ hu)))
    have hvo : mj_in32 v := h2 _ List.mem_cons_self
    have hio : mj_in32 i := h2 _ (List.mem_cons_of_mem _ List.mem_cons_self)
    have hxo := h2 _ (List.mem_cons_of_mem _ (List.mem_cons_of_mem _ List.mem_cons_self))
    split at h
    · next hcd =>
      cases h
      obtain ⟨hx0, hi0, hi1⟩ := hcd
      obtain ⟨r1, r2, r3⟩ := mj_ok3 (by omega) (by omega) hxo hx0
      have he := mj_ws_at G ad M r1 r2
      rw [mj_en_3 r3] at he
      obtain ⟨v1, v2⟩ := mj_idx hi0 hi1 hio
      rw [List.map_cons, List.map_cons, List.map_cons, mj_cv_ref (t := 3) (Or.inl ⟨by omega, by omega⟩) hx0]
      refine va_iast (x := Int32.ofInt v) hx hb hE.1 hH.2.1 hH.2.2.1 hS (x - 1).toNat 0 he rfl v1 hdg (fun H1 locs1 hP hD hS1 => ?_)
      rw [v2, ← mj_upd32 hi0] at hP hD
      exact mj_kk.wr hH kk ⟨r1, r2⟩ (by rw [r3]; exact hvo) hL h1 hr (mj_en_3 (M := mj_wr M x i v) r3) hP hD hS1
    · cases h
  · cases h
theorem mj_s_last (hx : p.tables.exec = Jvm.exec) (hb : c.code = cc) (hE : mj_E G s) (hH : mj_H G ad M H) (hS : va_S (mj_A G) s.heap H locs)
    (hL : mj_L G ad n ls lr) (h1 : ∀ u ∈ ls, mj_ok M u) (h2 : ∀ u ∈ st, mj_ok M u) (hdg : decode cc pc = .ok (.lastore, 1)) (h : mj_last pc ls st M = some s') (kk : mj_kk p l e R s m args below meth c cells slots Q G ad M n s') : W p l e R s m args below meth c H locs cells slots Q (F0 m pc lr (st.map (mj_cv G ad))) := by
  unfold mj_last at h
  split at h
  · next v i x r =>
    have hr : ∀ u ∈ r, mj_ok M u := fun u hu => h2 u (List.mem_cons_of_mem _ (List.mem_cons_of_mem _ (List.mem_cons_of_mem _ hu)))
    have hvo : mj_in64 v := h2 _ List.mem_cons_self
    have hio : mj_in32 i := h2 _ (List.mem_cons_of_mem _ List.mem_cons_self)
    have hxo := h2 _ (List.mem_cons_of_mem _ (List.mem_cons_of_mem _ List.mem_cons_self))
    split at h
    · next hcd =>
      cases h
      obtain ⟨hx0, hi0, hi1⟩ := hcd
      obtain ⟨r1, r2, r3⟩ := mj_ok3 (by omega) (by omega) hxo hx0
      have he := mj_ws_at G ad M r1 r2
      rw [mj_en_4 r3] at he
      obtain ⟨v1, v2⟩ := mj_idx hi0 hi1 hio
      rw [List.map_cons, List.map_cons, List.map_cons, mj_cv_ref (t := 4) (Or.inl ⟨by omega, by omega⟩) hx0]
      refine va_last (x := Int64.ofInt v) hx hb hE.1 hH.2.1 hH.2.2.1 hS (x - 1).toNat 1 he rfl v1 hdg (fun H1 locs1 hP hD hS1 => ?_)
      rw [v2, ← mj_upd64 hi0] at hP hD
      exact mj_kk.wr hH kk ⟨r1, r2⟩ (by rw [r3]; exact hvo) hL h1 hr (mj_en_4 (M := mj_wr M x i v) r3) hP hD hS1
    · cases h
  · cases h
theorem mj_s_bast (hx : p.tables.exec = Jvm.exec) (hb : c.code = cc) (hE : mj_E G s) (hH : mj_H G ad M H) (hS : va_S (mj_A G) s.heap H locs)
    (hL : mj_L G ad n ls lr) (h1 : ∀ u ∈ ls, mj_ok M u) (h2 : ∀ u ∈ st, mj_ok M u) (hdg : decode cc pc = .ok (.bastore, 1)) (h : mj_bast pc ls st M = some s') (kk : mj_kk p l e R s m args below meth c cells slots Q G ad M n s') : W p l e R s m args below meth c H locs cells slots Q (F0 m pc lr (st.map (mj_cv G ad))) := by
  unfold mj_bast at h
  split at h
  · next v i x r =>
    have hr : ∀ u ∈ r, mj_ok M u := fun u hu => h2 u (List.mem_cons_of_mem _ (List.mem_cons_of_mem _ (List.mem_cons_of_mem _ hu)))
    have hvo : mj_in32 v := h2 _ List.mem_cons_self
    have hio : mj_in32 i := h2 _ (List.mem_cons_of_mem _ List.mem_cons_self)
    have hxo := h2 _ (List.mem_cons_of_mem _ (List.mem_cons_of_mem _ List.mem_cons_self))
    split at h
    · next hcd =>
      cases h
      obtain ⟨hv01, hx0, hi0, hi1⟩ := hcd
      obtain ⟨r1, r2, r3⟩ := mj_ok3 (by omega) (by omega) hxo hx0
      have he := mj_ws_at G ad M r1 r2
      rw [mj_en_5 r3] at he
      obtain ⟨v1, v2⟩ := mj_idx hi0 hi1 hio
      have hnar : vp_nar .boolean (Int32.ofInt v) = Int32.ofInt v := by rcases hv01 with rfl | rfl <;> rfl
      rw [List.map_cons, List.map_cons, List.map_cons, mj_cv_ref (t := 5) (Or.inl ⟨by omega, by omega⟩) hx0]
      refine va_zast (x := Int32.ofInt v) hx hb hE.1 hH.2.1 hH.2.2.1 hS (x - 1).toNat 2 he rfl v1 hdg (fun H1 locs1 hP hD hS1 => ?_)
      rw [v2, hnar, ← mj_upd32 hi0] at hP hD
      exact mj_kk.wr hH kk ⟨r1, r2⟩ (by rw [r3]; exact hvo) hL h1 hr (mj_en_5 (M := mj_wr M x i v) r3) hP hD hS1
    · cases h
  · cases h
theorem mj_s_aast (hx : p.tables.exec = Jvm.exec) (hb : c.code = cc) (hE : mj_E G s) (hH : mj_H G ad M H) (hS : va_S (mj_A G) s.heap H locs)
    (hL : mj_L G ad n ls lr) (h1 : ∀ u ∈ ls, mj_ok M u) (h2 : ∀ u ∈ st, mj_ok M u) (hdg : decode cc pc = .ok (.aastore, 1)) (h : mj_aast pc ls st M = some s') (kk : mj_kk p l e R s m args below meth c cells slots Q G ad M n s') : W p l e R s m args below meth c H locs cells slots Q (F0 m pc lr (st.map (mj_cv G ad))) := by
  unfold mj_aast at h
  split at h
  · next v i x r =>
    have hr : ∀ u ∈ r, mj_ok M u := fun u hu => h2 u (List.mem_cons_of_mem _ (List.mem_cons_of_mem _ (List.mem_cons_of_mem _ hu)))
    have hvo := h2 _ List.mem_cons_self
    have hio : mj_in32 i := h2 _ (List.mem_cons_of_mem _ List.mem_cons_self)
    have hxo := h2 _ (List.mem_cons_of_mem _ (List.mem_cons_of_mem _ List.mem_cons_self))
    split at h
    · next hcd =>
      cases h
      obtain ⟨hv0, hx0, hi0, hi1⟩ := hcd
      obtain ⟨r1, r2, r3⟩ := mj_ok3 (by omega) (by omega) hxo hx0
      obtain ⟨q1, q2, q3⟩ := mj_ok_ref (t := 24) (Or.inr (by omega)) hvo hv0
      have he := mj_ws_at G ad M r1 r2
      rw [mj_en_q (Or.inl rfl) r3] at he
      have he2 := mj_ws_at G ad M q1 q2
      rw [mj_en_obj (ci := 4) q3] at he2
      obtain ⟨v1, v2⟩ := mj_idx hi0 hi1 hio
      rw [List.map_cons, List.map_cons, List.map_cons, mj_cv_ref (t := 6) (Or.inl ⟨by omega, by omega⟩) hx0, mj_cv_ref (t := 24) (Or.inr (by omega)) hv0]
      refine va_astq (r := mj_vw 4) hx hb hE.1 hH.2.1 hH.2.2.1 hS (x - 1).toNat 3 (v - 1).toNat 4 he rfl he2 (mj_vw_ok 4 (by omega)) v1 hdg (fun H1 locs1 hP hD hS1 => ?_)
      rw [v2, ← mj_updq hi0 hv0] at hP hD
      exact mj_kk.wr hH kk ⟨r1, r2⟩ (by rw [r3]; exact hvo) hL h1 hr (mj_en_q (M := mj_wr M x i v) (Or.inl rfl) r3) hP hD hS1
    · cases h
  · next v i x r =>
    have hr : ∀ u ∈ r, mj_ok M u := fun u hu => h2 u (List.mem_cons_of_mem _ (List.mem_cons_of_mem _ (List.mem_cons_of_mem _ hu)))
    have hvo := h2 _ List.mem_cons_self
    have hio : mj_in32 i := h2 _ (List.mem_cons_of_mem _ List.mem_cons_self)
    have hxo := h2 _ (List.mem_cons_of_mem _ (List.mem_cons_of_mem _ List.mem_cons_self))
    split at h
    · next hcd =>
      cases h
      obtain ⟨hv0, hx0, hi0, hi1⟩ := hcd
      obtain ⟨r1, r2, r3⟩ := mj_ok3 (by omega) (by omega) hxo hx0
      obtain ⟨q1, q2, q3⟩ := mj_ok_ref (t := 28) (Or.inr (by omega)) hvo hv0
      have he := mj_ws_at G ad M r1 r2
      rw [mj_en_q (Or.inr rfl) r3] at he
      have he2 := mj_ws_at G ad M q1 q2
      rw [mj_en_obj (ci := 8) q3] at he2
      obtain ⟨v1, v2⟩ := mj_idx hi0 hi1 hio
      rw [List.map_cons, List.map_cons, List.map_cons, mj_cv_ref (t := 7) (Or.inl ⟨by omega, by omega⟩) hx0, mj_cv_ref (t := 28) (Or.inr (by omega)) hv0]
      refine va_astq (r := mj_vw 8) hx hb hE.1 hH.2.1 hH.2.2.1 hS (x - 1).toNat 4 (v - 1).toNat 8 he rfl he2 (mj_vw_ok 8 (by omega)) v1 hdg (fun H1 locs1 hP hD hS1 => ?_)
      rw [v2, ← mj_updq hi0 hv0] at hP hD
      exact mj_kk.wr hH kk ⟨r1, r2⟩ (by rw [r3]; exact hvo) hL h1 hr (mj_en_q (M := mj_wr M x i v) (Or.inr rfl) r3) hP hD hS1
    · cases h
  · cases h
/-- behind a new cell -/
theorem mj_kk.nw {ls' st' : List mj_V} {t : Nat} {k : Int} {f : Int → Int} (hH : mj_H G ad M H) (h : mj_kk p l e R s m args below meth c cells slots Q G ad M n (pc2, ls', (t, (M.1 : Int) + 1) :: st', mj_nw M t k f)) (ht : (3 ≤ t ∧ t ≤ 7) ∨ (20 ≤ t ∧ t < 33 ∧ k = (mj_fN (t - 20) : Int))) (hk : 0 ≤ k ∧ k ≤ 100000) (hf : ∀ j : Int, mj_ok M (mj_sg t j, f j)) (hL : mj_L G ad n ls' lr) (h1 : ∀ v ∈ ls', mj_ok M v) (h2 : ∀ v ∈ st', mj_ok M v) {q : Nat} {E1 : va_E} (hE1 : mj_en G (ad ++ [q]) (mj_nw M t k f) ((M.1 : Int) + 1) = E1) {H1 : Heap} {locs1 : List Loc} {N' : Nat} (hN : N' = k.toNat)
    (hP : va_P (mj_gD G) vwCl (mj_ws G ad M ++ [(q, E1)]) H1) (hD : va_D (mj_A G) (mj_ws G ad M ++ [(q, E1)])) (hS : va_S (mj_A G) s.heap H1 locs1) :
    W p l e R s m args below meth c H1 locs1 (cells + 1) (slots + N') Q (F0 m pc2 lr (.ref q :: st'.map (mj_cv G ad))) := by
  have e1 := mj_ws_nw (G := G) (q := q) (t := t) (n := k) (f := f) hH.1 hH.2.2.2
  rw [hE1] at e1
  have hok : mj_ok (mj_nw M t k f) (t, (M.1 : Int) + 1) := by
    have z : (mj_nw M t k f).2.2.1 ((M.1 : Int) + 1) = t := if_pos rfl
    have z1 : ((mj_nw M t k f).1 : Int) = (M.1 : Int) + 1 := by show ((M.1 + 1 : Nat) : Int) = _; omega
    unfold mj_ok
    dsimp only
    split <;> first | (exfalso; omega) | (exact Or.inr ⟨by omega, by omega, z⟩)
  have k1 := h (ad ++ [q]) H1 locs1 lr ⟨[q], rfl⟩ ⟨by rw [List.length_append, hH.1]; rfl, by rw [e1]; exact hP, by rw [e1]; exact hD, mj_T_nw hH.2.2.2 hk ht hf⟩ hS (hL.app hH.1 h1) (fun v hv => mj_ok_nw (h1 v hv)) (mj_all_cons hok (fun v hv => mj_ok_nw (h2 v hv)))
  have z1 : (mj_nw M t k f).1 - M.1 = 1 := by show M.1 + 1 - M.1 = 1; omega
  have z2 : (mj_nw M t k f).2.1 - M.2.1 = N' := by show M.2.1 + k.toNat - M.2.1 = N'; omega
  dsimp only at k1
  rw [z1, z2, List.map_cons, mj_cv_ref (by omega) (by omega), mj_map_app hH.1 h2] at k1
  have z3 : (ad ++ [q]).getD ((M.1 : Int) + 1 - 1).toNat 0 = q := by
    rw [show ((M.1 : Int) + 1 - 1).toNat = ad.length by rw [hH.1]; omega]
    simp [List.getD_eq_getElem?_getD]
  rw [z3] at k1
  exact k1
end Mem4
