section Mem5
variable {p : Program} {l : Launch} {e : Env} {R : Room} {s : State} {m : MethodId} {args : Array Value} {below : List Frame} {meth : Method} {c : Code} {H : Heap} {locs : List Loc} {cells slots : Nat} {Q : State → Prop}
variable {G : mj_G} {ad : List Nat} {M : mj_M} {ls st : List mj_V} {lr : Array Slot} {n pc pc2 c0 idx : Nat} {s' : mj_St} {cc : ByteArray} {X : mj_X}
theorem mj_ok_zero {t : Nat} : mj_ok M (t, 0) := by
  unfold mj_ok
  have z : mj_in64 0 := ⟨by decide, by decide⟩
  split <;> first | exact mj_0in | exact z | exact Or.inl rfl | trivial | rfl
theorem mj_hA (hE : mj_E G s) : ∀ q, s.heap.size ≤ q → mj_A G q := fun q h => Nat.le_trans hE.2.2.1.2 h
theorem mj_dflt {ci fi : Nat} (h13 : ci < 13) (hfi : fi < (mj_vw ci).2.2) : defaultValue (mj_ty ci fi) = mj_cv G ad (mj_ft ci fi, 0) := by
  have hk := mj_fk_ok ci h13 fi hfi
  rcases mj_fk_ft ci h13 fi hfi with ⟨a, b⟩ | ⟨a, b⟩ | ⟨a, b⟩ | ⟨a, b⟩
  · rw [a] at hk
    rw [b, show mj_ty ci fi = .int from of_decide_eq_true hk]
    rfl
  · rw [a] at hk
    rw [b, show mj_ty ci fi = .boolean from of_decide_eq_true hk]
    rfl
  · rw [a] at hk
    rw [b, show mj_ty ci fi = .long from of_decide_eq_true hk]
    rfl
  · rw [mj_cv_null (mj_isRN b).2]
    rw [a] at hk
    unfold mj_kty at hk
    split at hk
    · omega
    · omega
    · omega
    · split at hk
      · next z q => rw [q]; rfl
      · next z q => rw [q]; rfl
      · cases hk
theorem mj_fN100 : ∀ c, c < 13 → mj_fN c ≤ 100 := by decide +kernel
theorem mj_s_new (hc0 : c0 < 20) (hx : p.tables.exec = Jvm.exec) (hb : c.code = cc) (hown : s.vm.findClass (mj_cn c0) = some m.cls) (hts : ∀ w ∈ mj_tb, w.before args s = true) (hE : mj_E G s) (hH : mj_H G ad M H) (hS : va_S (mj_A G) s.heap H locs)
    (hL : mj_L G ad n ls lr) (h1 : ∀ u ∈ ls, mj_ok M u) (h2 : ∀ u ∈ st, mj_ok M u) (hdg : decode cc pc = .ok (.new idx, 3)) (h : mj_new c0 idx pc ls st M = some s') (hR1 : cells + (s'.2.2.2.1 - M.1) ≤ R.cells) (hR2 : slots + (s'.2.2.2.2.1 - M.2.1) ≤ R.slots) (kk : mj_kk p l e R s m args below meth c cells slots Q G ad M n s') : W p l e R s m args below meth c H locs cells slots Q (F0 m pc lr (st.map (mj_cv G ad))) := by
  unfold mj_new at h
  split at h
  · next ci hci =>
    split at h
    · next h13 =>
      cases h
      obtain ⟨-, hm, -⟩ := mj_cls_ok c0 hc0 _ (mj_lookup hci)
      obtain ⟨i1, i2⟩ := mj_ins13_ok ci h13
      have hN := mj_fN_ok ci h13
      have ho := (mj_own_ok ci h13).1
      have hc1 : cells + 1 ≤ R.cells := by
        have : cells + (M.1 + 1 - M.1) ≤ R.cells := hR1
        omega
      have hc2 : slots + mj_fN ci ≤ R.slots := by
        have : slots + (M.2.1 + (mj_fN ci : Int).toNat - M.2.1) ≤ R.slots := hR2
        omega
      refine va_new (C := (mj_vw ci).1) (T := (mj_vw ci).2.1) (N := (mj_vw ci).2.2) (fs := (List.range (mj_fN ci)).map (fun j : Nat => mj_cv G ad (mj_ft ci j, 0))) hx hb hts (mj_uws_ok ci h13) (mj_ty ci) (mj_ty_ok ci h13) hown (by rw [ho]; exact hts _ (mj_tb_in hm rfl)) (by rw [ho, hN]; exact hts _ (mj_tb_in i1 rfl)) (by rw [ho]; exact hts _ (mj_tb_in i2 rfl)) hE.1 hH.2.1 hH.2.2.1 hS (mj_hA hE) (mj_vw_ok ci h13) (fun j hj => ?_) hc1 (by rw [hN]; exact hc2) hdg (fun q H1 hP hD hS1 => ?_)
      · rw [mj_dflt (G := G) (ad := ad) h13 hj]
        unfold vp_V
        rw [List.getD_eq_getElem?_getD, List.getElem?_map, List.getElem?_range (by rw [← hN]; exact hj)]
        rfl
      · refine mj_kk.nw hH kk (Or.inr ⟨by omega, by omega, by rw [show 20 + ci - 20 = ci by omega]⟩) ⟨by omega, by have := mj_fN100 ci h13; omega⟩ (fun j => mj_ok_zero) hL h1 h2 (E1 := .inr (ci, (List.range (mj_fN ci)).map (fun j : Nat => mj_cv G ad (mj_ft ci j, 0)))) ?_ (by rw [hN]; omega) hP hD hS1
        rw [mj_en_obj (ci := ci) (if_pos rfl)]
        congr 2
        unfold mj_fs
        apply List.map_congr_left
        intro j _
        show mj_cv G (ad ++ [q]) (mj_ft ci j, if (M.1 : Int) + 1 = (M.1 : Int) + 1 then 0 else _) = _
        rw [if_pos rfl]
        exact mj_cv_app hH.1 mj_ok_zero
    · cases h
  · cases h
theorem mj_tgt {t : Nat} {k : Int} {f : Int → Int} : (mj_nw M t k f).2.2.1 ((M.1 : Int) + 1) = t := if_pos rfl
theorem mj_ln1 {t : Nat} {k : Int} {f : Int → Int} : (mj_nw M t k f).2.2.2.1 ((M.1 : Int) + 1) = k := if_pos rfl
theorem mj_hp1 {t : Nat} {k : Int} {f : Int → Int} (j : Int) : (mj_nw M t k f).2.2.2.2 ((M.1 : Int) + 1) j = f j := if_pos rfl
theorem mj_find3 (hE : mj_E G s) {cA : ClassId} (h : va_K (mj_gD G) vwCl (mj_tys G ++ [(cA, .int)]) s) : cA = mj_ga G 3 := by
  have a := (h.2 5 (cA, .int) rfl).2
  have b := (hE.1.2 0 (mj_ga G 3, .int) rfl).2
  have q : some cA = some (mj_ga G 3) := a.symm.trans b
  exact Option.some.inj q
theorem mj_find4 (hE : mj_E G s) {cA : ClassId} (h : va_K (mj_gD G) vwCl (mj_tys G ++ [(cA, .long)]) s) : cA = mj_ga G 4 := by
  have a := (h.2 5 (cA, .long) rfl).2
  have b := (hE.1.2 1 (mj_ga G 4, .long) rfl).2
  have q : some cA = some (mj_ga G 4) := a.symm.trans b
  exact Option.some.inj q
theorem mj_find5 (hE : mj_E G s) {cA : ClassId} (h : va_K (mj_gD G) vwCl (mj_tys G ++ [(cA, .boolean)]) s) : cA = mj_ga G 5 := by
  have a := (h.2 5 (cA, .boolean) rfl).2
  have b := (hE.1.2 2 (mj_ga G 5, .boolean) rfl).2
  have q : some cA = some (mj_ga G 5) := a.symm.trans b
  exact Option.some.inj q
theorem mj_find6 (hE : mj_E G s) {cA : ClassId} (h : va_K (mj_gD G) vwCl (mj_tys G ++ [(cA, .object "PerfectFerried$Moment")]) s) : cA = mj_ga G 6 := by
  obtain ⟨_, _, -, -, -, a⟩ := (h.2 5 (cA, .object "PerfectFerried$Moment") rfl).2
  obtain ⟨_, _, -, -, -, b⟩ := (hE.1.2 3 (mj_ga G 6, .object "PerfectFerried$Moment") rfl).2
  exact Option.some.inj (a.symm.trans b)
theorem mj_find7 (hE : mj_E G s) {cA : ClassId} (h : va_K (mj_gD G) vwCl (mj_tys G ++ [(cA, .object "PerfectFerried$Text")]) s) : cA = mj_ga G 7 := by
  obtain ⟨_, _, -, -, -, a⟩ := (h.2 5 (cA, .object "PerfectFerried$Text") rfl).2
  obtain ⟨_, _, -, -, -, b⟩ := (hE.1.2 4 (mj_ga G 7, .object "PerfectFerried$Text") rfl).2
  exact Option.some.inj (a.symm.trans b)
theorem mj_arrs : Cond.arrayClass .int ∈ tables_1 ∧ Cond.arrayClass .long ∈ tables_1 ∧ Cond.arrayClass .boolean ∈ tables_1 := by decide +kernel
theorem mj_nneg {k : Int} (h : 0 ≤ k) (hk : k ≤ 100000) : ¬ Int32.ofInt k < 0 ∧ (Int32.ofInt k).toNatClampNeg = k.toNat := by
  have hi : mj_in32 k := ⟨by omega, by omega⟩
  refine ⟨fun q => ?_, ?_⟩
  · have := (mj_lt32 hi mj_0in).mp q
    omega
  · show (Int32.ofInt k).toInt.toNat = _
    rw [mj_i32 hi]
theorem mj_s_newa {a : ArrayType} (hx : p.tables.exec = Jvm.exec) (hb : c.code = cc) (hts : ∀ w ∈ mj_tb, w.before args s = true) (hE : mj_E G s) (hH : mj_H G ad M H) (hS : va_S (mj_A G) s.heap H locs)
    (hL : mj_L G ad n ls lr) (h1 : ∀ u ∈ ls, mj_ok M u) (h2 : ∀ u ∈ st, mj_ok M u) (hdg : decode cc pc = .ok (.newarray a, 2)) (h : mj_newa a pc ls st M = some s') (hR1 : cells + (s'.2.2.2.1 - M.1) ≤ R.cells) (hR2 : slots + (s'.2.2.2.2.1 - M.2.1) ≤ R.slots) (kk : mj_kk p l e R s m args below meth c cells slots Q G ad M n s') : W p l e R s m args below meth c H locs cells slots Q (F0 m pc lr (st.map (mj_cv G ad))) := by
  unfold mj_newa at h
  split at h
  · next k r =>
    have hr : ∀ u ∈ r, mj_ok M u := fun u hu => h2 u (List.mem_cons_of_mem _ hu)
    split at h
    · next hk =>
      obtain ⟨n1, n2⟩ := mj_nneg hk.1 hk.2
      have hcc : ∀ (z : Nat × Nat), cells + (z.1 + 1 - z.1) ≤ R.cells → cells + 1 ≤ R.cells := fun z q => by omega
      have hss : ∀ (z : Nat), slots + (z + k.toNat - z) ≤ R.slots → slots + k.toNat ≤ R.slots := fun z q => by omega
      split at h
      · cases h
        refine va_newa (atype := .int) (a0 := (k.toNat, .inl (fun _ => 0))) hx hb (hts _ (mj_tb_in mj_arrs.1 rfl)) rfl hE.1 hH.2.1 hH.2.2.1 hS (mj_hA hE) (fun _ => rfl) n1 n2 (by show k.toNat * 4 ≤ _; omega) (hcc (M.1, 0) hR1) (hss _ hR2) hdg (fun q cA H1 hK hP hD hS1 => ?_)
        have := mj_find3 hE hK
        subst this
        refine mj_kk.nw hH kk (Or.inl ⟨by omega, by omega⟩) hk (fun _ => mj_ok_zero) hL h1 hr ?_ rfl hP hD hS1
        rw [mj_en_3 mj_tgt, mj_ln1]
        simp only [mj_hp1]
        rfl
      · cases h
        refine va_newa (atype := .long) (a0 := (k.toNat, .inr (.inl (fun _ => 0)))) hx hb (hts _ (mj_tb_in mj_arrs.2.1 rfl)) rfl hE.1 hH.2.1 hH.2.2.1 hS (mj_hA hE) (fun _ => rfl) n1 n2 (by show k.toNat * 8 ≤ _; omega) (hcc (M.1, 0) hR1) (hss _ hR2) hdg (fun q cA H1 hK hP hD hS1 => ?_)
        have := mj_find4 hE hK
        subst this
        refine mj_kk.nw hH kk (Or.inl ⟨by omega, by omega⟩) hk (fun _ => mj_ok_zero) hL h1 hr ?_ rfl hP hD hS1
        rw [mj_en_4 mj_tgt, mj_ln1]
        simp only [mj_hp1]
        rfl
      · cases h
        refine va_newa (atype := .boolean) (a0 := (k.toNat, .inl (fun _ => 0))) hx hb (hts _ (mj_tb_in mj_arrs.2.2 rfl)) rfl hE.1 hH.2.1 hH.2.2.1 hS (mj_hA hE) (fun _ => rfl) n1 n2 (by show k.toNat * 1 ≤ _; omega) (hcc (M.1, 0) hR1) (hss _ hR2) hdg (fun q cA H1 hK hP hD hS1 => ?_)
        have := mj_find5 hE hK
        subst this
        refine mj_kk.nw hH kk (Or.inl ⟨by omega, by omega⟩) hk (fun _ => mj_ok_zero) hL h1 hr ?_ rfl hP hD hS1
        rw [mj_en_5 mj_tgt, mj_ln1]
        simp only [mj_hp1]
        rfl
      · cases h
    · cases h
  · cases h
theorem mj_s_newq (hc0 : c0 < 20) (hx : p.tables.exec = Jvm.exec) (hb : c.code = cc) (hown : s.vm.findClass (mj_cn c0) = some m.cls) (hts : ∀ w ∈ mj_tb, w.before args s = true) (hE : mj_E G s) (hH : mj_H G ad M H) (hS : va_S (mj_A G) s.heap H locs)
    (hL : mj_L G ad n ls lr) (h1 : ∀ u ∈ ls, mj_ok M u) (h2 : ∀ u ∈ st, mj_ok M u) (hdg : decode cc pc = .ok (.anewarray idx, 3)) (h : mj_newq c0 idx pc ls st M = some s') (hR1 : cells + (s'.2.2.2.1 - M.1) ≤ R.cells) (hR2 : slots + (s'.2.2.2.2.1 - M.2.1) ≤ R.slots) (kk : mj_kk p l e R s m args below meth c cells slots Q G ad M n s') : W p l e R s m args below meth c H locs cells slots Q (F0 m pc lr (st.map (mj_cv G ad))) := by
  unfold mj_newq at h
  split at h
  · next k r =>
    have hr : ∀ u ∈ r, mj_ok M u := fun u hu => h2 u (List.mem_cons_of_mem _ hu)
    split at h
    · next hk =>
      obtain ⟨n1, n2⟩ := mj_nneg hk.1 hk.2
      have hcc : ∀ (z : Nat × Nat), cells + (z.1 + 1 - z.1) ≤ R.cells → cells + 1 ≤ R.cells := fun z q => by omega
      have hss : ∀ (z : Nat), slots + (z + k.toNat - z) ≤ R.slots → slots + k.toNat ≤ R.slots := fun z q => by omega
      split at h
      · next hci =>
        cases h
        obtain ⟨-, hm, -⟩ := mj_cls_ok c0 hc0 _ (mj_lookup hci)
        refine va_newq (C := "PerfectFerried$Moment") hx hb hown (hts _ (mj_tb_in hm rfl)) hE.2.2.2.2.2.1.2.1 hE.1 hH.2.1 hH.2.2.1 hS (mj_hA hE) n1 n2 (by omega) (hcc (M.1, 0) hR1) (hss _ hR2) hdg (fun q cA H1 hK hP hD hS1 => ?_)
        have := mj_find6 hE hK
        subst this
        refine mj_kk.nw hH kk (Or.inl ⟨by omega, by omega⟩) hk (fun _ => mj_ok_zero) hL h1 hr ?_ rfl hP hD hS1
        rw [mj_en_q (Or.inl rfl) mj_tgt, mj_ln1]
        simp only [mj_hp1]
        rfl
      · next hci =>
        cases h
        obtain ⟨-, hm, -⟩ := mj_cls_ok c0 hc0 _ (mj_lookup hci)
        refine va_newq (C := "PerfectFerried$Text") hx hb hown (hts _ (mj_tb_in hm rfl)) hE.2.2.2.2.2.1.2.2.1 hE.1 hH.2.1 hH.2.2.1 hS (mj_hA hE) n1 n2 (by omega) (hcc (M.1, 0) hR1) (hss _ hR2) hdg (fun q cA H1 hK hP hD hS1 => ?_)
        have := mj_find7 hE hK
        subst this
        refine mj_kk.nw hH kk (Or.inl ⟨by omega, by omega⟩) hk (fun _ => mj_ok_zero) hL h1 hr ?_ rfl hP hD hS1
        rw [mj_en_q (Or.inr rfl) mj_tgt, mj_ln1]
        simp only [mj_hp1]
        rfl
      · cases h
    · cases h
  · cases h
theorem mj_s_gst (hc0 : c0 < 20) (hx : p.tables.exec = Jvm.exec) (hb : c.code = cc) (hown : s.vm.findClass (mj_cn c0) = some m.cls) (hts : ∀ w ∈ mj_tb, w.before args s = true) (hE : mj_E G s) (hH : mj_H G ad M H) (hS : va_S (mj_A G) s.heap H locs)
    (hL : mj_L G ad n ls lr) (h1 : ∀ u ∈ ls, mj_ok M u) (h2 : ∀ u ∈ st, mj_ok M u) (hdg : decode cc pc = .ok (.getstatic idx, 3)) (h : mj_gst c0 idx pc ls st M = some s') (kk : mj_kk p l e R s m args below meth c cells slots Q G ad M n s') : W p l e R s m args below meth c H locs cells slots Q (F0 m pc lr (st.map (mj_cv G ad))) := by
  have kp := kk.kp hH hS
  unfold mj_gst at h
  split at h
  · next hci =>
    cases h
    rcases mj_sts_ok c0 hc0 _ (mj_lookup hci) with ⟨-, hm⟩ | ⟨q, -⟩ | ⟨q, -⟩
    · exact va_gets hx hb hE.2.2.2.1.1 hS hown (hts _ (mj_tb_in hm rfl)) (fun _ z => z) hdg (kp (pc + 3) ls ((0, 1) :: st) lr rfl hL h1 (mj_all_cons (show mj_in32 1 from ⟨by decide, by decide⟩) h2))
    · cases q
    · cases q
  · next hci =>
    cases h
    rcases mj_sts_ok c0 hc0 _ (mj_lookup hci) with ⟨q, -⟩ | ⟨-, hm⟩ | ⟨q, -⟩
    · cases q
    · exact va_gets hx hb hE.2.2.2.1.2.1 hS hown (hts _ (mj_tb_in hm rfl)) (fun _ z => z) hdg (kp (pc + 3) ls ((8, 1) :: st) lr rfl hL h1 (mj_all_cons (show (1 : Int) = 0 ∨ (1 : Int) = 1 from Or.inr rfl) h2))
    · cases q
  · next hci =>
    cases h
    rcases mj_sts_ok c0 hc0 _ (mj_lookup hci) with ⟨q, -⟩ | ⟨q, -⟩ | ⟨-, hm⟩
    · cases q
    · cases q
    · exact va_gets hx hb hE.2.2.2.1.2.2.2 hS hown (hts _ (mj_tb_in hm rfl)) (fun _ z => z) hdg (kp (pc + 3) ls ((12, 0) :: st) lr rfl hL h1 (mj_all_cons trivial h2))
  · cases h
end Mem5
