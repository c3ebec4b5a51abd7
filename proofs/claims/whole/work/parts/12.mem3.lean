section Mem3
variable {p : Program} {l : Launch} {e : Env} {R : Room} {s : State} {m : MethodId} {args : Array Value} {below : List Frame} {meth : Method} {c : Code} {H : Heap} {locs : List Loc} {cells slots : Nat} {Q : State → Prop}
variable {G : mj_G} {ad : List Nat} {M : mj_M} {ls st : List mj_V} {lr : Array Slot} {n pc pc2 c0 idx : Nat} {s' : mj_St} {cc : ByteArray} {X : mj_X}
/-- the script of the small machine is the script -/
def mj_XG (X : mj_X) (G : mj_G) : Prop := X.1 = (mj_sL G : Int) ∧ mj_sL G ≤ 100000 ∧ ∀ i : Int, 0 ≤ i → i < X.1 → X.2 i = (mj_sx G i.toNat).toInt
theorem mj_ok3 {t : Nat} {x : Int} (h1 : 3 ≤ t) (h2 : t ≤ 7) (h : mj_ok M (t, x)) (hx : x ≠ 0) : 1 ≤ x ∧ x ≤ (M.1 : Int) ∧ M.2.2.1 x = t := mj_ok_ref (Or.inl ⟨h1, h2⟩) h hx
theorem mj_i32_of {x : Int} (h : mj_in32 x) : Int32.ofInt x = Int32.ofInt x := rfl
theorem mj_s_iald (hXG : mj_XG X G) (hx : p.tables.exec = Jvm.exec) (hb : c.code = cc) (hE : mj_E G s) (hH : mj_H G ad M H) (hS : va_S (mj_A G) s.heap H locs)
    (hL : mj_L G ad n ls lr) (h1 : ∀ u ∈ ls, mj_ok M u) (h2 : ∀ u ∈ st, mj_ok M u) (hdg : decode cc pc = .ok (.iaload, 1)) (h : mj_iald X pc ls st M = some s') (kk : mj_kk p l e R s m args below meth c cells slots Q G ad M n s') : W p l e R s m args below meth c H locs cells slots Q (F0 m pc lr (st.map (mj_cv G ad))) := by
  have kp := kk.kp hH hS
  unfold mj_iald at h
  split at h
  · next i x r =>
    have hr : ∀ u ∈ r, mj_ok M u := fun u hu => h2 u (List.mem_cons_of_mem _ (List.mem_cons_of_mem _ hu))
    have hio : mj_in32 i := h2 _ List.mem_cons_self
    have hxo := h2 _ (List.mem_cons_of_mem _ List.mem_cons_self)
    split at h
    · next hcd =>
      cases h
      obtain ⟨hx0, hi0, hi1⟩ := hcd
      obtain ⟨r1, r2, r3⟩ := mj_ok3 (by omega) (by omega) hxo hx0
      have he := mj_ws_at G ad M r1 r2
      rw [mj_en_3 r3] at he
      obtain ⟨v1, v2⟩ := mj_idx hi0 hi1 hio
      have hok : mj_ok M (0, M.2.2.2.2 x i) := by
        have q := (hH.2.2.2 x r1 r2).2.2 i
        rw [r3] at q
        exact q
      rw [List.map_cons, List.map_cons, mj_cv_ref (t := 3) (Or.inl ⟨by omega, by omega⟩) hx0]
      have k := kp (pc + 1) ls ((0, M.2.2.2.2 x i) :: r) lr rfl hL h1 (mj_all_cons hok hr)
      refine va_iald hx hb hE.1 hH.2.1 (x - 1).toNat 0 he rfl v1 hdg ?_
      rw [v2]
      show W p l e R s m args below meth c H locs cells slots Q (F0 m (pc + 1) lr (.int (Int32.ofInt (M.2.2.2.2 x ((i.toNat : Nat) : Int))) :: r.map (mj_cv G ad)))
      rw [mj_toN hi0]
      exact k
    · cases h
  · next i x r =>
    have hr : ∀ u ∈ r, mj_ok M u := fun u hu => h2 u (List.mem_cons_of_mem _ (List.mem_cons_of_mem _ hu))
    have hio : mj_in32 i := h2 _ List.mem_cons_self
    split at h
    · next hx0 =>
      subst hx0
      split at h
      · next hcd =>
        cases h
        obtain ⟨hi0, hi1⟩ := hcd
        have e0 := hXG.2.2 i hi0 hi1
        rw [hXG.1] at hi1
        obtain ⟨v1, v2⟩ := mj_idx hi0 hi1 hio
        have k := kp (pc + 1) ls ((0, X.2 i) :: r) lr rfl hL h1 (mj_all_cons (by rw [e0]; exact mj_in32_t _) hr)
        rw [List.map_cons, e0, mj_cv0] at k
        have hlo := hE.2.2.1
        refine va_sld hx hb hE.2.1 (by omega) (by show ¬ mj_lo G ≤ mj_sc G; omega) hS (by simpa using v1) hdg ?_
        rw [v2]
        exact k
      · cases h
    · next hx0 =>
      split at h
      · next hcd =>
        cases h
        obtain ⟨hx1, hi0, hi1⟩ := hcd
        subst hx1
        obtain ⟨v1, v2⟩ := mj_idx hi0 hi1 hio
        have hal : ∀ j, j < 40 → mj_in32 (mj_ways.getD j 0) := by
          intro j hj
          have : ∀ j, j < 40 → -2147483648 ≤ mj_ways.getD j 0 ∧ mj_ways.getD j 0 ≤ 2147483647 := by decide +kernel
          exact this j hj
        have k := kp (pc + 1) ls ((0, mj_ways.getD i.toNat 0) :: r) lr rfl hL h1 (mj_all_cons (hal _ (by omega)) hr)
        refine va_ti hx hb hE.2.2.2.1.2.2.1 hS v1 rfl hdg ?_
        rw [v2]
        exact k
      · cases h
  · cases h
theorem mj_s_lald (hx : p.tables.exec = Jvm.exec) (hb : c.code = cc) (hE : mj_E G s) (hH : mj_H G ad M H) (hS : va_S (mj_A G) s.heap H locs)
    (hL : mj_L G ad n ls lr) (h1 : ∀ u ∈ ls, mj_ok M u) (h2 : ∀ u ∈ st, mj_ok M u) (hdg : decode cc pc = .ok (.laload, 1)) (h : mj_lald pc ls st M = some s') (kk : mj_kk p l e R s m args below meth c cells slots Q G ad M n s') : W p l e R s m args below meth c H locs cells slots Q (F0 m pc lr (st.map (mj_cv G ad))) := by
  have kp := kk.kp hH hS
  unfold mj_lald at h
  split at h
  · next i x r =>
    have hr : ∀ u ∈ r, mj_ok M u := fun u hu => h2 u (List.mem_cons_of_mem _ (List.mem_cons_of_mem _ hu))
    have hio : mj_in32 i := h2 _ List.mem_cons_self
    have hxo := h2 _ (List.mem_cons_of_mem _ List.mem_cons_self)
    split at h
    · next hcd =>
      cases h
      obtain ⟨hx0, hi0, hi1⟩ := hcd
      obtain ⟨r1, r2, r3⟩ := mj_ok3 (by omega) (by omega) hxo hx0
      have he := mj_ws_at G ad M r1 r2
      rw [mj_en_4 r3] at he
      obtain ⟨v1, v2⟩ := mj_idx hi0 hi1 hio
      have hok : mj_ok M (1, M.2.2.2.2 x i) := by
        have q := (hH.2.2.2 x r1 r2).2.2 i
        rw [r3] at q
        exact q
      rw [List.map_cons, List.map_cons, mj_cv_ref (t := 4) (Or.inl ⟨by omega, by omega⟩) hx0]
      have k := kp (pc + 1) ls ((1, M.2.2.2.2 x i) :: r) lr rfl hL h1 (mj_all_cons hok hr)
      refine va_lald hx hb hE.1 hH.2.1 (x - 1).toNat 1 he rfl v1 hdg ?_
      rw [v2]
      show W p l e R s m args below meth c H locs cells slots Q (F0 m (pc + 1) lr (.long (Int64.ofInt (M.2.2.2.2 x ((i.toNat : Nat) : Int))) :: r.map (mj_cv G ad)))
      rw [mj_toN hi0]
      exact k
    · cases h
  · cases h
theorem mj_s_bald (hx : p.tables.exec = Jvm.exec) (hb : c.code = cc) (hE : mj_E G s) (hH : mj_H G ad M H) (hS : va_S (mj_A G) s.heap H locs)
    (hL : mj_L G ad n ls lr) (h1 : ∀ u ∈ ls, mj_ok M u) (h2 : ∀ u ∈ st, mj_ok M u) (hdg : decode cc pc = .ok (.baload, 1)) (h : mj_bald pc ls st M = some s') (kk : mj_kk p l e R s m args below meth c cells slots Q G ad M n s') : W p l e R s m args below meth c H locs cells slots Q (F0 m pc lr (st.map (mj_cv G ad))) := by
  have kp := kk.kp hH hS
  unfold mj_bald at h
  split at h
  · next i x r =>
    have hr : ∀ u ∈ r, mj_ok M u := fun u hu => h2 u (List.mem_cons_of_mem _ (List.mem_cons_of_mem _ hu))
    have hio : mj_in32 i := h2 _ List.mem_cons_self
    have hxo := h2 _ (List.mem_cons_of_mem _ List.mem_cons_self)
    split at h
    · next hcd =>
      cases h
      obtain ⟨hx0, hi0, hi1⟩ := hcd
      obtain ⟨r1, r2, r3⟩ := mj_ok3 (by omega) (by omega) hxo hx0
      have he := mj_ws_at G ad M r1 r2
      rw [mj_en_5 r3] at he
      obtain ⟨v1, v2⟩ := mj_idx hi0 hi1 hio
      have hok : mj_ok M (0, M.2.2.2.2 x i) := by
        have q := (hH.2.2.2 x r1 r2).2.2 i
        rw [r3] at q
        exact q
      rw [List.map_cons, List.map_cons, mj_cv_ref (t := 5) (Or.inl ⟨by omega, by omega⟩) hx0]
      have k := kp (pc + 1) ls ((0, M.2.2.2.2 x i) :: r) lr rfl hL h1 (mj_all_cons hok hr)
      refine va_zald hx hb hE.1 hH.2.1 (x - 1).toNat 2 he rfl v1 hdg ?_
      rw [v2]
      show W p l e R s m args below meth c H locs cells slots Q (F0 m (pc + 1) lr (.int (Int32.ofInt (M.2.2.2.2 x ((i.toNat : Nat) : Int))) :: r.map (mj_cv G ad)))
      rw [mj_toN hi0]
      exact k
    · cases h
  · next i x r =>
    have hr : ∀ u ∈ r, mj_ok M u := fun u hu => h2 u (List.mem_cons_of_mem _ (List.mem_cons_of_mem _ hu))
    have hio : mj_in32 i := h2 _ List.mem_cons_self
    have hxo : x = 0 ∨ x = 1 := h2 _ (List.mem_cons_of_mem _ List.mem_cons_self)
    split at h
    · next hcd =>
      cases h
      obtain ⟨hi0, hi1⟩ := hcd
      obtain ⟨v1, v2⟩ := mj_idx hi0 hi1 hio
      have hx2 : x.toNat < 2 := by rcases hxo with q | q <;> rw [q] <;> decide
      have hT := (hE.2.2.2.2.1.1.1 x.toNat hx2).2.2.2
      have hlen : ([156, 11] : List Nat).getD x.toNat 0 = ((mj_tl x).length : Int).toNat := by rcases hxo with q | q <;> rw [q] <;> decide +kernel
      have hbyt : ∀ j, j < (mj_tl x).length → (mj_byt.getD x.toNat []).getD j 0 = Int32.ofInt ((mj_tl x).getD j 0) ∧ mj_in32 ((mj_tl x).getD j 0) := by
        have z0 : ∀ j, j < (mj_tl 0).length → (mj_byt.getD 0 []).getD j 0 = Int32.ofInt ((mj_tl 0).getD j 0) ∧ (-2147483648 ≤ (mj_tl 0).getD j 0 ∧ (mj_tl 0).getD j 0 ≤ 2147483647) := by decide +kernel
        have z1 : ∀ j, j < (mj_tl 1).length → (mj_byt.getD 1 []).getD j 0 = Int32.ofInt ((mj_tl 1).getD j 0) ∧ (-2147483648 ≤ (mj_tl 1).getD j 0 ∧ (mj_tl 1).getD j 0 ≤ 2147483647) := by decide +kernel
        rcases hxo with q | q <;> rw [q]
        · exact z0
        · exact z1
      obtain ⟨b1, b2⟩ := hbyt i.toNat (by omega)
      have k := kp (pc + 1) ls ((0, (mj_tl x).getD i.toNat 0) :: r) lr rfl hL h1 (mj_all_cons b2 hr)
      refine va_tb hx hb hT hS (by rw [hlen]; exact v1) rfl hdg ?_
      rw [v2, b1]
      exact k
    · cases h
  · cases h
theorem mj_s_aald (hx : p.tables.exec = Jvm.exec) (hb : c.code = cc) (hE : mj_E G s) (hH : mj_H G ad M H) (hS : va_S (mj_A G) s.heap H locs)
    (hL : mj_L G ad n ls lr) (h1 : ∀ u ∈ ls, mj_ok M u) (h2 : ∀ u ∈ st, mj_ok M u) (hdg : decode cc pc = .ok (.aaload, 1)) (h : mj_aald pc ls st M = some s') (kk : mj_kk p l e R s m args below meth c cells slots Q G ad M n s') : W p l e R s m args below meth c H locs cells slots Q (F0 m pc lr (st.map (mj_cv G ad))) := by
  have kp := kk.kp hH hS
  unfold mj_aald at h
  split at h
  · next i x r =>
    have hr : ∀ u ∈ r, mj_ok M u := fun u hu => h2 u (List.mem_cons_of_mem _ (List.mem_cons_of_mem _ hu))
    have hio : mj_in32 i := h2 _ List.mem_cons_self
    have hxo := h2 _ (List.mem_cons_of_mem _ List.mem_cons_self)
    split at h
    · next hcd =>
      cases h
      obtain ⟨hx0, hi0, hi1⟩ := hcd
      obtain ⟨r1, r2, r3⟩ := mj_ok3 (by omega) (by omega) hxo hx0
      have he := mj_ws_at G ad M r1 r2
      rw [mj_en_q (Or.inl rfl) r3] at he
      obtain ⟨v1, v2⟩ := mj_idx hi0 hi1 hio
      have hok : mj_ok M (24, M.2.2.2.2 x i) := by
        have q := (hH.2.2.2 x r1 r2).2.2 i
        rw [r3] at q
        exact q
      rw [List.map_cons, List.map_cons, mj_cv_ref (t := 6) (Or.inl ⟨by omega, by omega⟩) hx0]
      have k := kp (pc + 1) ls ((24, M.2.2.2.2 x i) :: r) lr rfl hL h1 (mj_all_cons hok hr)
      refine va_aldq hx hb hE.1 hH.2.1 (x - 1).toNat 3 he rfl v1 hdg ?_
      rw [v2]
      show W p l e R s m args below meth c H locs cells slots Q (F0 m (pc + 1) lr (va_rf (mj_rf ad (M.2.2.2.2 x ((i.toNat : Nat) : Int))) :: r.map (mj_cv G ad)))
      rw [mj_toN hi0]
      exact k
    · cases h
  · next i x r =>
    have hr : ∀ u ∈ r, mj_ok M u := fun u hu => h2 u (List.mem_cons_of_mem _ (List.mem_cons_of_mem _ hu))
    have hio : mj_in32 i := h2 _ List.mem_cons_self
    have hxo := h2 _ (List.mem_cons_of_mem _ List.mem_cons_self)
    split at h
    · next hcd =>
      cases h
      obtain ⟨hx0, hi0, hi1⟩ := hcd
      obtain ⟨r1, r2, r3⟩ := mj_ok3 (by omega) (by omega) hxo hx0
      have he := mj_ws_at G ad M r1 r2
      rw [mj_en_q (Or.inr rfl) r3] at he
      obtain ⟨v1, v2⟩ := mj_idx hi0 hi1 hio
      have hok : mj_ok M (28, M.2.2.2.2 x i) := by
        have q := (hH.2.2.2 x r1 r2).2.2 i
        rw [r3] at q
        exact q
      rw [List.map_cons, List.map_cons, mj_cv_ref (t := 7) (Or.inl ⟨by omega, by omega⟩) hx0]
      have k := kp (pc + 1) ls ((28, M.2.2.2.2 x i) :: r) lr rfl hL h1 (mj_all_cons hok hr)
      refine va_aldq hx hb hE.1 hH.2.1 (x - 1).toNat 4 he rfl v1 hdg ?_
      rw [v2]
      show W p l e R s m args below meth c H locs cells slots Q (F0 m (pc + 1) lr (va_rf (mj_rf ad (M.2.2.2.2 x ((i.toNat : Nat) : Int))) :: r.map (mj_cv G ad)))
      rw [mj_toN hi0]
      exact k
    · cases h
  · cases h
theorem mj_s_alen (hXG : mj_XG X G) (hx : p.tables.exec = Jvm.exec) (hb : c.code = cc) (hE : mj_E G s) (hH : mj_H G ad M H) (hS : va_S (mj_A G) s.heap H locs)
    (hL : mj_L G ad n ls lr) (h1 : ∀ u ∈ ls, mj_ok M u) (h2 : ∀ u ∈ st, mj_ok M u) (hdg : decode cc pc = .ok (.arraylength, 1)) (h : mj_alen X pc ls st M = some s') (kk : mj_kk p l e R s m args below meth c cells slots Q G ad M n s') : W p l e R s m args below meth c H locs cells slots Q (F0 m pc lr (st.map (mj_cv G ad))) := by
  have kp := kk.kp hH hS
  have hnat : ∀ z : Int, 0 ≤ z → Int32.ofNat z.toNat = Int32.ofInt z := fun z hz => by
    rw [← Int32.ofInt_eq_ofNat, mj_toN hz]
  unfold mj_alen at h
  split at h
  · next x r =>
    have hr : ∀ u ∈ r, mj_ok M u := fun u hu => h2 u (List.mem_cons_of_mem _ hu)
    split at h
    · next hx0 =>
      subst hx0
      cases h
      have h0 : (0 : Int) ≤ X.1 := by rw [hXG.1]; omega
      have k := kp (pc + 1) ls ((0, X.1) :: r) lr rfl hL h1 (mj_all_cons (show mj_in32 X.1 by rw [hXG.1]; have := hXG.2.1; constructor <;> omega) hr)
      have hlo := hE.2.2.1
      refine va_slen hx hb hE.2.1 (show mj_sc G < s.heap.size by omega) (by show ¬ mj_lo G ≤ mj_sc G; omega) hS hdg ?_
      rw [List.map_cons, hXG.1] at k
      rw [← Int32.ofInt_eq_ofNat]
      exact k
    · split at h
      · next hx1 =>
        subst hx1
        cases h
        exact va_tlen hx hb hE.2.2.2.1.2.2.1 hS rfl hdg (kp (pc + 1) ls ((0, 40) :: r) lr rfl hL h1 (mj_all_cons (show mj_in32 40 from ⟨by decide, by decide⟩) hr))
      · cases h
  · next x r =>
    have hr : ∀ u ∈ r, mj_ok M u := fun u hu => h2 u (List.mem_cons_of_mem _ hu)
    have hxo : x = 0 ∨ x = 1 := h2 _ List.mem_cons_self
    cases h
    have hx2 : x.toNat < 2 := by rcases hxo with q | q <;> rw [q] <;> decide
    have hlen : Int32.ofNat (([156, 11] : List Nat).getD x.toNat 0) = Int32.ofInt ((mj_tl x).length : Int) ∧ mj_in32 ((mj_tl x).length : Int) := by
      rcases hxo with q | q <;> rw [q] <;> exact ⟨by decide +kernel, by decide +kernel, by decide +kernel⟩
    exact va_tlen hx hb (hE.2.2.2.2.1.1.1 x.toNat hx2).2.2.2 hS hlen.1 hdg (kp (pc + 1) ls ((0, ((mj_tl x).length : Int)) :: r) lr rfl hL h1 (mj_all_cons hlen.2 hr))
  · next t x r _ _ =>
    have hr : ∀ u ∈ r, mj_ok M u := fun u hu => h2 u (List.mem_cons_of_mem _ hu)
    have hxo := h2 _ List.mem_cons_self
    split at h
    · next hcd =>
      cases h
      obtain ⟨ht1, ht2, hx0⟩ := hcd
      obtain ⟨r1, r2, r3⟩ := mj_ok3 ht1 ht2 hxo hx0
      have he := mj_ws_at G ad M r1 r2
      have hT := hH.2.2.2 x r1 r2
      have hin : mj_in32 (M.2.2.2.1 x) := ⟨by omega, by omega⟩
      have k := kp (pc + 1) ls ((0, M.2.2.2.1 x) :: r) lr rfl hL h1 (mj_all_cons hin hr)
      rw [List.map_cons, mj_cv_ref (Or.inl ⟨ht1, ht2⟩) hx0]
      rcases (show t = 3 ∨ t = 4 ∨ t = 5 ∨ t = 6 ∨ t = 7 by omega) with rfl | rfl | rfl | rfl | rfl
      · rw [mj_en_3 r3] at he
        exact va_alen hx hb hE.1 hH.2.1 _ 0 he rfl (hnat _ hT.1.1) hdg k
      · rw [mj_en_4 r3] at he
        exact va_alen hx hb hE.1 hH.2.1 _ 1 he rfl (hnat _ hT.1.1) hdg k
      · rw [mj_en_5 r3] at he
        exact va_alen hx hb hE.1 hH.2.1 _ 2 he rfl (hnat _ hT.1.1) hdg k
      · rw [mj_en_q (Or.inl rfl) r3] at he
        exact va_alen hx hb hE.1 hH.2.1 _ 3 he rfl (hnat _ hT.1.1) hdg k
      · rw [mj_en_q (Or.inr rfl) r3] at he
        exact va_alen hx hb hE.1 hH.2.1 _ 4 he rfl (hnat _ hT.1.1) hdg k
    · cases h
  · cases h
end Mem3
