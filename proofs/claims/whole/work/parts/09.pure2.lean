/-! LOADS, STORES, JUMPS OF THE SMALL MACHINE -/
theorem mj_eq32 {x y : Int} (hx : mj_in32 x) (hy : mj_in32 y) : Int32.ofInt x = Int32.ofInt y ↔ x = y := ⟨fun h => by rw [← mj_i32 hx, ← mj_i32 hy, h], fun h => by rw [h]⟩
theorem mj_lt32 {x y : Int} (hx : mj_in32 x) (hy : mj_in32 y) : Int32.ofInt x < Int32.ofInt y ↔ x < y := by rw [Int32.lt_iff_toInt_lt, mj_i32 hx, mj_i32 hy]
theorem mj_le32 {x y : Int} (hx : mj_in32 x) (hy : mj_in32 y) : Int32.ofInt x ≤ Int32.ofInt y ↔ x ≤ y := by rw [Int32.le_iff_toInt_le, mj_i32 hx, mj_i32 hy]
theorem mj_0in : mj_in32 0 := ⟨by decide, by decide⟩
theorem mj_cv_isR {G : mj_G} (hf : mj_fok G) {ad : List Nat} {v : mj_V} (h : mj_isR v.1 = true) : mj_cv G ad v = .null ∨ ∃ a, mj_cv G ad v = .ref a := by
  obtain ⟨t, x⟩ := v
  unfold mj_cv
  split
  · simp_all [mj_isR]
  · simp_all [mj_isR]
  · exact Or.inr ⟨_, rfl⟩
  · exact Or.inl rfl
  · exact Or.inr ⟨_, rfl⟩
  · exact Or.inr ⟨_, rfl⟩
  · exact hf
  · cases mj_rf ad x with
    | none => exact Or.inl rfl
    | some a => exact Or.inr ⟨a, rfl⟩
section Pure2
variable {p : Program} {l : Launch} {e : Env} {R : Room} {s : State} {m : MethodId} {args : Array Value} {below : List Frame} {meth : Method} {c : Code} {H : Heap} {locs : List Loc} {cells slots : Nat} {Q : State → Prop}
variable {G : mj_G} {ad : List Nat} {M : mj_M} {ls st : List mj_V} {lr : Array Slot} {n pc pc2 : Nat} {s' : mj_St}
theorem mj_s_ild {i : Nat} (hL : mj_L G ad n ls lr) (h1 : ∀ u ∈ ls, mj_ok M u) (h2 : ∀ u ∈ st, mj_ok M u)
    (row : ∀ (x : Int32) rest, lr[i]? = some (.val (.int x)) → W p l e R s m args below meth c H locs cells slots Q (F0 m pc2 lr (.int x :: rest)) → W p l e R s m args below meth c H locs cells slots Q (F0 m pc lr rest))
    (h : mj_ild i pc2 ls st M = some s') (kp : mj_kp p l e R s m args below meth c H locs cells slots Q G ad M n s') : W p l e R s m args below meth c H locs cells slots Q (F0 m pc lr (st.map (mj_cv G ad))) := by
  unfold mj_ild at h
  split at h
  · next x hx =>
    cases h
    exact row _ _ (hL.2.2.2 i (0, x) hx (by simp)) (kp pc2 ls ((0, x) :: st) lr rfl hL h1 (mj_all_cons (h1 _ (List.mem_of_getElem? hx)) h2))
  · cases h
theorem mj_s_lld {i : Nat} (hL : mj_L G ad n ls lr) (h1 : ∀ u ∈ ls, mj_ok M u) (h2 : ∀ u ∈ st, mj_ok M u)
    (row : ∀ (x : Int64) rest, lr[i]? = some (.val (.long x)) → W p l e R s m args below meth c H locs cells slots Q (F0 m pc2 lr (.long x :: rest)) → W p l e R s m args below meth c H locs cells slots Q (F0 m pc lr rest))
    (h : mj_lld i pc2 ls st M = some s') (kp : mj_kp p l e R s m args below meth c H locs cells slots Q G ad M n s') : W p l e R s m args below meth c H locs cells slots Q (F0 m pc lr (st.map (mj_cv G ad))) := by
  unfold mj_lld at h
  split at h
  · next x hx =>
    cases h
    exact row _ _ (hL.2.2.2 i (1, x) hx (by simp)) (kp pc2 ls ((1, x) :: st) lr rfl hL h1 (mj_all_cons (h1 _ (List.mem_of_getElem? hx)) h2))
  · cases h
theorem mj_s_ald {i : Nat} (hf : mj_fok G) (hL : mj_L G ad n ls lr) (h1 : ∀ u ∈ ls, mj_ok M u) (h2 : ∀ u ∈ st, mj_ok M u)
    (rowR : ∀ (x : Nat) rest, lr[i]? = some (.val (.ref x)) → W p l e R s m args below meth c H locs cells slots Q (F0 m pc2 lr (.ref x :: rest)) → W p l e R s m args below meth c H locs cells slots Q (F0 m pc lr rest))
    (rowN : ∀ rest, lr[i]? = some (.val .null) → W p l e R s m args below meth c H locs cells slots Q (F0 m pc2 lr (.null :: rest)) → W p l e R s m args below meth c H locs cells slots Q (F0 m pc lr rest))
    (h : mj_ald i pc2 ls st M = some s') (kp : mj_kp p l e R s m args below meth c H locs cells slots Q G ad M n s') : W p l e R s m args below meth c H locs cells slots Q (F0 m pc lr (st.map (mj_cv G ad))) := by
  unfold mj_ald at h
  split at h
  · next v hx =>
    cases hb : mj_isR v.1 with
    | false => rw [hb] at h; cases h
    | true =>
      rw [hb] at h
      cases h
      have h9 : v.1 ≠ 9 := fun q => by rw [q] at hb; cases hb
      have k := kp pc2 ls (v :: st) lr rfl hL h1 (mj_all_cons (h1 _ (List.mem_of_getElem? hx)) h2)
      have q := hL.2.2.2 i v hx h9
      rw [List.map_cons] at k
      rcases mj_cv_isR hf (ad := ad) hb with z | ⟨a, z⟩
      · rw [z] at q k
        exact rowN _ q k
      · rw [z] at q k
        exact rowR _ _ q k
  · cases h
theorem mj_s_ist {i : Nat} (hf : mj_fok G) (hL : mj_L G ad n ls lr) (h1 : ∀ u ∈ ls, mj_ok M u) (h2 : ∀ u ∈ st, mj_ok M u)
    (row : ∀ (x : Int32) rest, i < n → (∀ lr', lv_has lr' n ((i, Value.int x) :: (mj_lv G ad ls).filter (fun q => !(q.1 == i) && !(q.1 + 1 == i && q.2.category == 2))) → W p l e R s m args below meth c H locs cells slots Q (F0 m pc2 lr' rest)) → W p l e R s m args below meth c H locs cells slots Q (F0 m pc lr (.int x :: rest)))
    (h : mj_ist i pc2 ls st M = some s') (kp : mj_kp p l e R s m args below meth c H locs cells slots Q G ad M n s') : W p l e R s m args below meth c H locs cells slots Q (F0 m pc lr (st.map (mj_cv G ad))) := by
  unfold mj_ist at h
  split at h
  · next x r =>
    split at h
    · next hi =>
      cases h
      exact row _ _ (by rw [← hL.1]; exact hi) (fun lr' hl => kp pc2 _ r lr' rfl (hL.st hf (v := (0, x)) hl) (mj_set_ok h1 (h2 _ List.mem_cons_self)) (fun u hu => h2 u (List.mem_cons_of_mem _ hu)))
    · cases h
  · cases h
theorem mj_s_lst {i : Nat} (hf : mj_fok G) (hL : mj_L G ad n ls lr) (h1 : ∀ u ∈ ls, mj_ok M u) (h2 : ∀ u ∈ st, mj_ok M u)
    (row : ∀ (x : Int64) rest, i + 1 < n → (∀ lr', lv_has lr' n ((i, Value.long x) :: (mj_lv G ad ls).filter (fun q => !(q.1 == i) && (!(q.1 == i + 1) && !(q.1 + 1 == i && q.2.category == 2)))) → W p l e R s m args below meth c H locs cells slots Q (F0 m pc2 lr' rest)) → W p l e R s m args below meth c H locs cells slots Q (F0 m pc lr (.long x :: rest)))
    (h : mj_lst i pc2 ls st M = some s') (kp : mj_kp p l e R s m args below meth c H locs cells slots Q G ad M n s') : W p l e R s m args below meth c H locs cells slots Q (F0 m pc lr (st.map (mj_cv G ad))) := by
  unfold mj_lst at h
  split at h
  · next x r =>
    split at h
    · next hi =>
      cases h
      exact row _ _ (by rw [← hL.1]; exact hi) (fun lr' hl => kp pc2 _ r lr' rfl (hL.st2 hf (v := (1, x)) hl) (mj_set2_ok h1 (h2 _ List.mem_cons_self)) (fun u hu => h2 u (List.mem_cons_of_mem _ hu)))
    · cases h
  · cases h
theorem mj_s_ast {i : Nat} (hf : mj_fok G) (hL : mj_L G ad n ls lr) (h1 : ∀ u ∈ ls, mj_ok M u) (h2 : ∀ u ∈ st, mj_ok M u)
    (rowR : ∀ (x : Nat) rest, i < n → (∀ lr', lv_has lr' n ((i, Value.ref x) :: (mj_lv G ad ls).filter (fun q => !(q.1 == i) && !(q.1 + 1 == i && q.2.category == 2))) → W p l e R s m args below meth c H locs cells slots Q (F0 m pc2 lr' rest)) → W p l e R s m args below meth c H locs cells slots Q (F0 m pc lr (.ref x :: rest)))
    (rowN : ∀ rest, i < n → (∀ lr', lv_has lr' n ((i, Value.null) :: (mj_lv G ad ls).filter (fun q => !(q.1 == i) && !(q.1 + 1 == i && q.2.category == 2))) → W p l e R s m args below meth c H locs cells slots Q (F0 m pc2 lr' rest)) → W p l e R s m args below meth c H locs cells slots Q (F0 m pc lr (.null :: rest)))
    (h : mj_ast i pc2 ls st M = some s') (kp : mj_kp p l e R s m args below meth c H locs cells slots Q G ad M n s') : W p l e R s m args below meth c H locs cells slots Q (F0 m pc lr (st.map (mj_cv G ad))) := by
  unfold mj_ast at h
  split at h
  · next v r =>
    cases hb : mj_isR v.1 with
    | false => rw [hb] at h; cases h
    | true =>
      rw [hb, cond_true] at h
      split at h
      · next hi =>
        cases h
        have hi : i < n := by rw [← hL.1]; exact hi
        have k : ∀ lr', lv_has lr' n ((i, mj_cv G ad v) :: (mj_lv G ad ls).filter (fun q => !(q.1 == i) && !(q.1 + 1 == i && q.2.category == 2))) → W p l e R s m args below meth c H locs cells slots Q (F0 m pc2 lr' (r.map (mj_cv G ad))) := fun lr' hl => kp pc2 _ r lr' rfl (hL.st hf (v := v) hl) (mj_set_ok h1 (h2 _ List.mem_cons_self)) (fun u hu => h2 u (List.mem_cons_of_mem _ hu))
        rw [List.map_cons]
        rcases mj_cv_isR hf (ad := ad) hb with z | ⟨a, z⟩
        · rw [z] at k ⊢
          exact rowN _ hi k
        · rw [z] at k ⊢
          exact rowR _ _ hi k
      · cases h
  · cases h
theorem mj_s_inc {i : Nat} {k0 : Int} (hf : mj_fok G) (hL : mj_L G ad n ls lr) (h1 : ∀ u ∈ ls, mj_ok M u) (h2 : ∀ u ∈ st, mj_ok M u)
    (row : ∀ (x : Int32) (k : Nat) rest, i < n → (mj_lv G ad ls)[k]? = some (i, .int x) → (∀ lr', lv_has lr' n ((i, Value.int (x + Int32.ofInt k0)) :: (mj_lv G ad ls).filter (fun q => !(q.1 == i) && !(q.1 + 1 == i && q.2.category == 2))) → W p l e R s m args below meth c H locs cells slots Q (F0 m pc2 lr' rest)) → W p l e R s m args below meth c H locs cells slots Q (F0 m pc lr rest))
    (h : mj_inc i k0 pc2 ls st M = some s') (kp : mj_kp p l e R s m args below meth c H locs cells slots Q G ad M n s') : W p l e R s m args below meth c H locs cells slots Q (F0 m pc lr (st.map (mj_cv G ad))) := by
  unfold mj_inc at h
  split at h
  · next x hx =>
    split at h
    · next hi =>
      cases h
      obtain ⟨k, hk⟩ := List.getElem?_of_mem (mj_lv_mem (G := G) (ad := ad) (q := (i, mj_cv G ad (0, x))) |>.mpr ⟨(0, x), hx, by simp, rfl⟩)
      refine row (Int32.ofInt x) k _ (by rw [← hL.1]; exact hi) hk (fun lr' hl => kp pc2 _ st lr' rfl (hL.st hf (v := (0, ji_add x k0)) ?_) (mj_set_ok h1 (mj_in32_t _)) h2)
      unfold ji_add
      rw [mj_cv0]
      exact hl
    · cases h
  · cases h
theorem mj_s_to {off : Int} (hL : mj_L G ad n ls lr) (h1 : ∀ u ∈ ls, mj_ok M u) (h2 : ∀ u ∈ st, mj_ok M u) (h : mj_to pc off ls st M = some s') (kp : mj_kp p l e R s m args below meth c H locs cells slots Q G ad M n s') : ∃ tgt : Nat, (pc : Int) + off = (tgt : Int) ∧ W p l e R s m args below meth c H locs cells slots Q (F0 m tgt lr (st.map (mj_cv G ad))) := by
  unfold mj_to at h
  split at h
  · next h0 =>
    cases h
    exact ⟨((pc : Int) + off).toNat, by omega, kp _ ls st lr rfl hL h1 h2⟩
  · cases h
theorem mj_s_if {cd : ClassFile.Cond} {off : Int} (hL : mj_L G ad n ls lr) (h1 : ∀ u ∈ ls, mj_ok M u) (h2 : ∀ u ∈ st, mj_ok M u) (hx : p.tables.exec = Jvm.exec) {cc : ByteArray} (hb : c.code = cc) (hdg : decode cc pc = .ok (.ifCond cd off, 3))
    (h : mj_if cd pc off ls st M = some s') (kp : mj_kp p l e R s m args below meth c H locs cells slots Q G ad M n s') : W p l e R s m args below meth c H locs cells slots Q (F0 m pc lr (st.map (mj_cv G ad))) := by
  unfold mj_if at h
  split at h
  · next x r =>
    have hr : ∀ u ∈ r, mj_ok M u := fun u hu => h2 u (List.mem_cons_of_mem _ hu)
    have hxx : mj_in32 x := h2 _ List.mem_cons_self
    have hyy := mj_0in
    have e1 := mj_eq32 hxx hyy
    have e2 := mj_lt32 hxx hyy
    have e3 := mj_lt32 hyy hxx
    have e4 := mj_le32 hxx hyy
    have e5 := mj_le32 hyy hxx
    split at h
    · next h0 =>
      have ht : (pc : Int) + off = (((pc : Int) + off).toNat : Int) := by omega
      show W p l e R s m args below meth c H locs cells slots Q (F0 m pc lr (.int (Int32.ofInt x) :: r.map (mj_cv G ad)))
      cases hc : mj_cnd cd x 0 with
      | true =>
        rw [hc, cond_true] at h
        cases h
        have k := kp _ ls r lr rfl hL h1 hr
        cases cd <;> simp only [mj_cnd, decide_eq_true_eq, Bool.not_eq_true', decide_eq_false_iff_not] at hc
        · exact lv_if_eq hx hb hdg ht (fun _ => k) (fun q => absurd (e1.mpr hc) q)
        · exact lv_if_ne hx hb hdg ht (fun _ => k) (fun q => absurd (e1.mp q) hc)
        · exact lv_if_lt hx hb hdg ht (fun _ => k) (fun q => absurd (e2.mpr hc) q)
        · exact lv_if_ge hx hb hdg ht (fun _ => k) (fun q => absurd (e5.mpr hc) q)
        · exact lv_if_gt hx hb hdg ht (fun _ => k) (fun q => absurd (e3.mpr hc) q)
        · exact lv_if_le hx hb hdg ht (fun _ => k) (fun q => absurd (e4.mpr hc) q)
      | false =>
        rw [hc, cond_false] at h
        cases h
        have k := kp _ ls r lr rfl hL h1 hr
        cases cd <;> simp only [mj_cnd, decide_eq_false_iff_not, Bool.not_eq_false', decide_eq_true_eq] at hc
        · exact lv_if_eq hx hb hdg ht (fun q => absurd (e1.mp q) hc) (fun _ => k)
        · exact lv_if_ne hx hb hdg ht (fun q => absurd (e1.mpr hc) q) (fun _ => k)
        · exact lv_if_lt hx hb hdg ht (fun q => absurd (e2.mp q) hc) (fun _ => k)
        · exact lv_if_ge hx hb hdg ht (fun q => absurd (e5.mp q) hc) (fun _ => k)
        · exact lv_if_gt hx hb hdg ht (fun q => absurd (e3.mp q) hc) (fun _ => k)
        · exact lv_if_le hx hb hdg ht (fun q => absurd (e4.mp q) hc) (fun _ => k)
    · cases h
  · cases h
theorem mj_s_ifc {cd : ClassFile.Cond} {off : Int} (hL : mj_L G ad n ls lr) (h1 : ∀ u ∈ ls, mj_ok M u) (h2 : ∀ u ∈ st, mj_ok M u) (hx : p.tables.exec = Jvm.exec) {cc : ByteArray} (hb : c.code = cc) (hdg : decode cc pc = .ok (.if_icmp cd off, 3))
    (h : mj_ifc cd pc off ls st M = some s') (kp : mj_kp p l e R s m args below meth c H locs cells slots Q G ad M n s') : W p l e R s m args below meth c H locs cells slots Q (F0 m pc lr (st.map (mj_cv G ad))) := by
  unfold mj_ifc at h
  split at h
  · next y x r =>
    have hr : ∀ u ∈ r, mj_ok M u := fun u hu => h2 u (List.mem_cons_of_mem _ (List.mem_cons_of_mem _ hu))
    have hyy : mj_in32 y := h2 _ List.mem_cons_self
    have hxx : mj_in32 x := h2 _ (List.mem_cons_of_mem _ List.mem_cons_self)
    have e1 := mj_eq32 hxx hyy
    have e2 := mj_lt32 hxx hyy
    have e3 := mj_lt32 hyy hxx
    have e4 := mj_le32 hxx hyy
    have e5 := mj_le32 hyy hxx
    split at h
    · next h0 =>
      have ht : (pc : Int) + off = (((pc : Int) + off).toNat : Int) := by omega
      show W p l e R s m args below meth c H locs cells slots Q (F0 m pc lr (.int (Int32.ofInt y) :: .int (Int32.ofInt x) :: r.map (mj_cv G ad)))
      cases hc : mj_cnd cd x y with
      | true =>
        rw [hc, cond_true] at h
        cases h
        have k := kp _ ls r lr rfl hL h1 hr
        cases cd <;> simp only [mj_cnd, decide_eq_true_eq, Bool.not_eq_true', decide_eq_false_iff_not] at hc
        · exact lv_icmp_eq hx hb hdg ht (fun _ => k) (fun q => absurd (e1.mpr hc) q)
        · exact lv_icmp_ne hx hb hdg ht (fun _ => k) (fun q => absurd (e1.mp q) hc)
        · exact lv_icmp_lt hx hb hdg ht (fun _ => k) (fun q => absurd (e2.mpr hc) q)
        · exact lv_icmp_ge hx hb hdg ht (fun _ => k) (fun q => absurd (e5.mpr hc) q)
        · exact lv_icmp_gt hx hb hdg ht (fun _ => k) (fun q => absurd (e3.mpr hc) q)
        · exact lv_icmp_le hx hb hdg ht (fun _ => k) (fun q => absurd (e4.mpr hc) q)
      | false =>
        rw [hc, cond_false] at h
        cases h
        have k := kp _ ls r lr rfl hL h1 hr
        cases cd <;> simp only [mj_cnd, decide_eq_false_iff_not, Bool.not_eq_false', decide_eq_true_eq] at hc
        · exact lv_icmp_eq hx hb hdg ht (fun q => absurd (e1.mp q) hc) (fun _ => k)
        · exact lv_icmp_ne hx hb hdg ht (fun q => absurd (e1.mpr hc) q) (fun _ => k)
        · exact lv_icmp_lt hx hb hdg ht (fun q => absurd (e2.mp q) hc) (fun _ => k)
        · exact lv_icmp_ge hx hb hdg ht (fun q => absurd (e5.mp q) hc) (fun _ => k)
        · exact lv_icmp_gt hx hb hdg ht (fun q => absurd (e3.mp q) hc) (fun _ => k)
        · exact lv_icmp_le hx hb hdg ht (fun q => absurd (e4.mp q) hc) (fun _ => k)
    · cases h
  · cases h
theorem mj_cv_N {G : mj_G} {ad : List Nat} {t : Nat} {x : Int} (ht : mj_isN t = true) (hx : x ≠ 0) : ∃ a, mj_cv G ad (t, x) = .ref a := by
  unfold mj_cv
  split
  · simp_all [mj_isN, mj_isR]
  · simp_all [mj_isN, mj_isR]
  · exact ⟨_, rfl⟩
  · simp_all [mj_isN, mj_isR]
  · exact ⟨_, rfl⟩
  · exact ⟨_, rfl⟩
  · simp_all [mj_isN, mj_isR]
  · exact ⟨_, by unfold mj_rf; rw [if_neg hx]; rfl⟩
theorem mj_s_ifn {b : Bool} {off : Int} (hL : mj_L G ad n ls lr) (h1 : ∀ u ∈ ls, mj_ok M u) (h2 : ∀ u ∈ st, mj_ok M u) (hx : p.tables.exec = Jvm.exec) {cc : ByteArray} (hb : c.code = cc) (hdg : decode cc pc = .ok (bif b then .ifnull off else .ifnonnull off, 3))
    (h : mj_ifn b pc off ls st M = some s') (kp : mj_kp p l e R s m args below meth c H locs cells slots Q G ad M n s') : W p l e R s m args below meth c H locs cells slots Q (F0 m pc lr (st.map (mj_cv G ad))) := by
  unfold mj_ifn at h
  split at h
  · next t x r =>
    have hr : ∀ u ∈ r, mj_ok M u := fun u hu => h2 u (List.mem_cons_of_mem _ hu)
    cases hN : mj_isN t with
    | false => rw [hN] at h; cases h
    | true =>
      rw [hN, cond_true] at h
      rw [List.map_cons]
      by_cases h0 : x = 0
      · subst h0
        rw [mj_cv_null hN]
        cases b
        · rw [show (decide ((0 : Int) = 0) == false) = false from rfl, cond_false] at h
          cases h
          exact lv_ifnonnullN hx hb hdg (kp _ ls r lr rfl hL h1 hr)
        · rw [show (decide ((0 : Int) = 0) == true) = true from rfl, cond_true] at h
          obtain ⟨tgt, ht, k⟩ := mj_s_to hL h1 hr h kp
          exact lv_ifnullN hx hb hdg ht k
      · obtain ⟨a, ea⟩ := mj_cv_N (G := G) (ad := ad) hN h0
        rw [ea]
        cases b
        · rw [show (decide (x = 0) == false) = true by simp [h0], cond_true] at h
          obtain ⟨tgt, ht, k⟩ := mj_s_to hL h1 hr h kp
          exact lv_ifnonnull hx hb hdg ht k
        · rw [show (decide (x = 0) == true) = false by simp [h0], cond_false] at h
          cases h
          exact lv_ifnull hx hb hdg (kp _ ls r lr rfl hL h1 hr)
  · cases h
theorem mj_s_goto {off : Int} (hL : mj_L G ad n ls lr) (h1 : ∀ u ∈ ls, mj_ok M u) (h2 : ∀ u ∈ st, mj_ok M u) (hx : p.tables.exec = Jvm.exec) {cc : ByteArray} (hb : c.code = cc) (hdg : decode cc pc = .ok (.goto off, 3))
    (h : mj_to pc off ls st M = some s') (kp : mj_kp p l e R s m args below meth c H locs cells slots Q G ad M n s') : W p l e R s m args below meth c H locs cells slots Q (F0 m pc lr (st.map (mj_cv G ad))) := by
  obtain ⟨tgt, ht, k⟩ := mj_s_to hL h1 h2 h kp
  exact lv_goto hx hb hdg ht k
theorem mj_s_tsw {d lo hi : Int} {offs : Array Int} {ln : Nat} (hL : mj_L G ad n ls lr) (h1 : ∀ u ∈ ls, mj_ok M u) (h2 : ∀ u ∈ st, mj_ok M u) (hx : p.tables.exec = Jvm.exec) {cc : ByteArray} (hb : c.code = cc) (hdg : decode cc pc = .ok (.tableswitch d lo hi offs, ln))
    (h : mj_tsw d lo hi offs pc ls st M = some s') (kp : mj_kp p l e R s m args below meth c H locs cells slots Q G ad M n s') : W p l e R s m args below meth c H locs cells slots Q (F0 m pc lr (st.map (mj_cv G ad))) := by
  unfold mj_tsw at h
  split at h
  · next x r =>
    have hr : ∀ u ∈ r, mj_ok M u := fun u hu => h2 u (List.mem_cons_of_mem _ hu)
    have hxx : mj_in32 x := h2 _ List.mem_cons_self
    show W p l e R s m args below meth c H locs cells slots Q (F0 m pc lr (.int (Int32.ofInt x) :: r.map (mj_cv G ad)))
    split at h
    · next ho =>
      obtain ⟨tgt, ht, k⟩ := mj_s_to hL h1 hr h kp
      exact lv_tableOut hx hb hdg (by rw [mj_i32 hxx]; exact ho) ht k
    · next ho =>
      split at h
      · next off e =>
        obtain ⟨tgt, ht, k⟩ := mj_s_to hL h1 hr h kp
        exact lv_tableIn hx hb hdg (by rw [mj_i32 hxx]; exact fun q => ho (Or.inl q)) (by rw [mj_i32 hxx]; exact fun q => ho (Or.inr q)) (by rw [mj_i32 hxx]; exact e) ht k
      · cases h
  · cases h
theorem mj_s_lsw {d : Int} {ps : Array (Int × Int)} {ln : Nat} (hL : mj_L G ad n ls lr) (h1 : ∀ u ∈ ls, mj_ok M u) (h2 : ∀ u ∈ st, mj_ok M u) (hx : p.tables.exec = Jvm.exec) {cc : ByteArray} (hb : c.code = cc) (hdg : decode cc pc = .ok (.lookupswitch d ps, ln))
    (h : mj_lsw d ps pc ls st M = some s') (kp : mj_kp p l e R s m args below meth c H locs cells slots Q G ad M n s') : W p l e R s m args below meth c H locs cells slots Q (F0 m pc lr (st.map (mj_cv G ad))) := by
  unfold mj_lsw at h
  split at h
  · next x r =>
    have hr : ∀ u ∈ r, mj_ok M u := fun u hu => h2 u (List.mem_cons_of_mem _ hu)
    have hxx : mj_in32 x := h2 _ List.mem_cons_self
    show W p l e R s m args below meth c H locs cells slots Q (F0 m pc lr (.int (Int32.ofInt x) :: r.map (mj_cv G ad)))
    cases ha : (ps.toList.zip (ps.toList.drop 1)).all (fun (a, next) => a.1 < next.1) with
    | false => rw [ha] at h; cases h
    | true =>
      rw [ha, cond_true] at h
      obtain ⟨tgt, ht, k⟩ := mj_s_to hL h1 hr h kp
      exact lv_lookup hx hb hdg ha (by rw [mj_i32 hxx]) ht k
  · cases h
theorem mj_cat1 {G : mj_G} (hf : mj_fok G) {ad : List Nat} {v : mj_V} (h : ¬ v.1 = 1) : (mj_cv G ad v).category = 1 := by rw [mj_cat hf, if_neg h]
theorem mj_s_pop (hf : mj_fok G) (hL : mj_L G ad n ls lr) (h1 : ∀ u ∈ ls, mj_ok M u) (h2 : ∀ u ∈ st, mj_ok M u) (hx : p.tables.exec = Jvm.exec) {cc : ByteArray} (hb : c.code = cc) (hdg : decode cc pc = .ok (.pop, 1))
    (h : mj_pop pc ls st M = some s') (kp : mj_kp p l e R s m args below meth c H locs cells slots Q G ad M n s') : W p l e R s m args below meth c H locs cells slots Q (F0 m pc lr (st.map (mj_cv G ad))) := by
  unfold mj_pop at h
  split at h
  · next v r =>
    split at h
    · cases h
    · next hn =>
      cases h
      exact lv_pop hx hb hdg (mj_cat1 hf (fun q => hn (Or.inl q))) (kp _ ls r lr rfl hL h1 (fun u hu => h2 u (List.mem_cons_of_mem _ hu)))
  · cases h
theorem mj_s_dup (hf : mj_fok G) (hL : mj_L G ad n ls lr) (h1 : ∀ u ∈ ls, mj_ok M u) (h2 : ∀ u ∈ st, mj_ok M u) (hx : p.tables.exec = Jvm.exec) {cc : ByteArray} (hb : c.code = cc) (hdg : decode cc pc = .ok (.dup, 1))
    (h : mj_dup pc ls st M = some s') (kp : mj_kp p l e R s m args below meth c H locs cells slots Q G ad M n s') : W p l e R s m args below meth c H locs cells slots Q (F0 m pc lr (st.map (mj_cv G ad))) := by
  unfold mj_dup at h
  split at h
  · next v r =>
    split at h
    · cases h
    · next hn =>
      cases h
      exact lv_dup hx hb hdg (mj_cat1 hf (fun q => hn (Or.inl q))) (kp _ ls (v :: v :: r) lr rfl hL h1 (mj_all_cons (h2 _ List.mem_cons_self) h2))
  · cases h
theorem mj_s_dup2 (hf : mj_fok G) (hL : mj_L G ad n ls lr) (h1 : ∀ u ∈ ls, mj_ok M u) (h2 : ∀ u ∈ st, mj_ok M u) (hx : p.tables.exec = Jvm.exec) {cc : ByteArray} (hb : c.code = cc) (hdg : decode cc pc = .ok (.dup2, 1))
    (h : mj_dup2 pc ls st M = some s') (kp : mj_kp p l e R s m args below meth c H locs cells slots Q G ad M n s') : W p l e R s m args below meth c H locs cells slots Q (F0 m pc lr (st.map (mj_cv G ad))) := by
  unfold mj_dup2 at h
  split at h
  · next x r =>
    cases h
    exact lv_dup2_2 hx hb hdg rfl (kp _ ls ((1, x) :: (1, x) :: r) lr rfl hL h1 (mj_all_cons (h2 _ List.mem_cons_self) h2))
  · next v w r _ =>
    split at h
    · cases h
    · next hn =>
      cases h
      exact lv_dup2_11 hx hb hdg (mj_cat1 hf (fun q => hn (Or.inl q))) (mj_cat1 hf (fun q => hn (Or.inr (Or.inr (Or.inl q))))) (kp _ ls (v :: w :: v :: w :: r) lr rfl hL h1 (mj_all_cons (h2 _ List.mem_cons_self) (mj_all_cons (h2 _ (List.mem_cons_of_mem _ List.mem_cons_self)) h2)))
  · cases h
end Pure2
