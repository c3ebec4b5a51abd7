section Mem6
variable {p : Program} {l : Launch} {e : Env} {R : Room} {s : State} {m : MethodId} {args : Array Value} {below : List Frame} {meth : Method} {c : Code} {H : Heap} {locs : List Loc} {cells slots : Nat} {Q : State → Prop}
variable {G : mj_G} {ad : List Nat} {M : mj_M} {ls st : List mj_V} {lr : Array Slot} {n pc pc2 c0 idx : Nat} {s' : mj_St} {cc : ByteArray} {X : mj_X}
theorem mj_s_ldc {b : Nat} (hc0 : c0 < 20) (hx : p.tables.exec = Jvm.exec) (hb : c.code = cc) (hown : s.vm.findClass (mj_cn c0) = some m.cls) (hts : ∀ w ∈ mj_tb, w.before args s = true) (hE : mj_E G s) (hH : mj_H G ad M H) (hS : va_S (mj_A G) s.heap H locs)
    (hL : mj_L G ad n ls lr) (h1 : ∀ u ∈ ls, mj_ok M u) (h2 : ∀ u ∈ st, mj_ok M u) (hdg : decode cc pc = .ok (if b = 2 then (.ldc idx, 2) else if b = 3 then (.ldc_w idx, 3) else (.ldc2_w idx, 3))) (h : mj_ldc c0 idx b pc ls st M = some s') (kk : mj_kk p l e R s m args below meth c cells slots Q G ad M n s') : W p l e R s m args below meth c H locs cells slots Q (F0 m pc lr (st.map (mj_cv G ad))) := by
  have kp := kk.kp hH hS
  unfold mj_ldc at h
  split at h
  · next v hci =>
    have hq := mj_cks_ok c0 hc0 _ (mj_lookup hci)
    obtain ⟨hm, hin⟩ := hq
    split at h
    · next hbb =>
      cases h
      rcases hbb with rfl | rfl
      · exact lv_ldc hx hb hown (hts _ hm) hdg (kp (pc + 2) ls ((0, v) :: st) lr rfl hL h1 (mj_all_cons hin h2))
      · exact lv_ldcw hx hb hown (hts _ hm) hdg (kp (pc + 3) ls ((0, v) :: st) lr rfl hL h1 (mj_all_cons hin h2))
    · cases h
  · next v hci =>
    have hq := mj_cks_ok c0 hc0 _ (mj_lookup hci)
    obtain ⟨hc6, hv⟩ := hq
    split at h
    · next hbb =>
      cases h
      subst hbb
      subst hc6
      rcases hv with ⟨q1, q2⟩ | ⟨q1, q2⟩
      · dsimp only at q1 q2
        subst q1; subst q2
        exact va_ldcS hx hb hown hE.2.2.2.2.1.2.1 hdg (kp (pc + 2) ls ((10, 0) :: st) lr rfl hL h1 (mj_all_cons (Or.inl rfl) h2))
      · dsimp only at q1 q2
        subst q1; subst q2
        exact va_ldcS hx hb hown hE.2.2.2.2.1.2.2 hdg (kp (pc + 2) ls ((10, 1) :: st) lr rfl hL h1 (mj_all_cons (Or.inr rfl) h2))
    · cases h
  · next v hci =>
    have hq := mj_cks_ok c0 hc0 _ (mj_lookup hci)
    obtain ⟨hm, hin⟩ := hq
    split at h
    · next hbb =>
      cases h
      subst hbb
      exact lv_ldc2 hx hb hown (hts _ hm) hdg (kp (pc + 3) ls ((1, v) :: st) lr rfl hL h1 (mj_all_cons hin h2))
    · cases h
  · cases h
theorem mj_cast317 : Cond.classLink "java/util/Arrays" 317 "[I" ∈ tables_1 := by decide +kernel
theorem mj_s_cast (hx : p.tables.exec = Jvm.exec) (hb : c.code = cc) (hown : s.vm.findClass (mj_cn c0) = some m.cls) (hts : ∀ w ∈ mj_tb, w.before args s = true) (hE : mj_E G s) (hH : mj_H G ad M H) (hS : va_S (mj_A G) s.heap H locs)
    (hL : mj_L G ad n ls lr) (h1 : ∀ u ∈ ls, mj_ok M u) (h2 : ∀ u ∈ st, mj_ok M u) (hdg : decode cc pc = .ok (.checkcast idx, 3)) (h : mj_cast c0 idx pc ls st M = some s') (kk : mj_kk p l e R s m args below meth c cells slots Q G ad M n s') : W p l e R s m args below meth c H locs cells slots Q (F0 m pc lr (st.map (mj_cv G ad))) := by
  have kp := kk.kp hH hS
  unfold mj_cast at h
  split at h
  · next x r =>
    have hxo := h2 _ List.mem_cons_self
    split at h
    · next hcd =>
      cases h
      obtain ⟨rfl, rfl, hx0⟩ := hcd
      obtain ⟨r1, r2, r3⟩ := mj_ok3 (by omega) (by omega) hxo hx0
      have he := mj_ws_at G ad M r1 r2
      rw [mj_en_3 r3] at he
      have k := kp (pc + 3) ls ((3, x) :: r) lr rfl hL h1 h2
      rw [List.map_cons, mj_cv_ref (t := 3) (Or.inl ⟨by omega, by omega⟩) hx0] at k ⊢
      exact va_castA (nm := "[I") hx hb hown (hts _ (mj_tb_in mj_cast317 rfl)) hH.2.1 (x - 1).toNat he (hE.1.2 0 (mj_ga G 3, .int) rfl).2 hdg k
    · cases h
  · cases h
theorem mj_cs_sum (hf : mj_fok G) (r : List mj_V) : ((r.map (mj_cv G ad)).map fun v => v.category).sum = mj_cs r := by
  unfold mj_cs
  rw [List.map_map]
  congr 1
  apply List.map_congr_left
  intro v _
  exact mj_cat hf ad v
theorem mj_oi : Cond.instanceMethod objectInit ∈ tables_1 ∧ Cond.code objectInit ⟨#[0xb1]⟩ 1 none ∈ tables_1 := by decide +kernel
theorem mj_s_oin {j : Nat} (hc0 : c0 < 20) (hx : p.tables.exec = Jvm.exec) (hb : c.code = cc) (hml : c.maxLocals = n) (hown : s.vm.findClass (mj_cn c0) = some m.cls) (hts : ∀ w ∈ mj_tb, w.before args s = true) (hE : mj_E G s) (hH : mj_H G ad M H) (hS : va_S (mj_A G) s.heap H locs) (hR3 : 1 ≤ R.frames) (hR4 : 60 ≤ R.locals)
    (hL : mj_L G ad n ls lr) (h1 : ∀ u ∈ ls, mj_ok M u) (h2 : ∀ u ∈ st, mj_ok M u) (hdg : decode cc pc = .ok (.invokespecial idx, 3)) (hlk : mj_lk c0 idx = some (0, j)) (h : mj_oin pc ls st M = some s') (kk : mj_kk p l e R s m args below meth c cells slots Q G ad M n s') : W p l e R s m args below meth c H locs cells slots Q (F0 m pc lr (st.map (mj_cv G ad))) := by
  have kp := kk.kp hH hS
  have hf := hE.2.2.2.2.2.2
  unfold mj_oin at h
  split at h
  · next t x r =>
    have hr : ∀ u ∈ r, mj_ok M u := fun u hu => h2 u (List.mem_cons_of_mem _ hu)
    split at h
    · next hcd =>
      cases h
      obtain ⟨ht, hx0, hcs⟩ := hcd
      have hq := mj_lks_ok c0 hc0 _ (mj_lookup hlk)
      have k := kp (pc + 3) ls r lr rfl hL h1 hr
      rw [List.map_cons, mj_cv_ref (Or.inr ht) hx0]
      have hcs2 := mj_cs_sum (G := G) (ad := ad) hf r
      exact W.objInit hx hb hown (hts _ hq) (hts _ (mj_tb_in mj_oi.1 rfl)) (hts _ (mj_tb_in mj_oi.2 rfl)) rfl (by rw [hml]; exact hL.2.1) rfl hdg hR3 (by show 2 * 0 + _ + 12 ≤ _; rw [hcs2]; omega) k
    · cases h
  · cases h
theorem mj_nfw : nativeFrameWords "java/lang/System" "arraycopy" 5 ≤ 40 := by decide +kernel
theorem mj_acn : Cond.native arraycopyName ∈ tables_1 ∧ Cond.static arraycopyName ∈ tables_1 ∧ Cond.initialized "java/lang/System" ∈ tables_1 := by decide +kernel
theorem mj_cpy {a sp b dp k : Int} (hsp : 0 ≤ sp) (hdp : 0 ≤ dp) (hk : 0 ≤ k) : (fun j : Nat => Int32.ofInt ((mj_cp M a sp b dp k).2.2.2.2 b j)) = va_cpy (fun j : Nat => Int32.ofInt (M.2.2.2.2 a j)) (fun j : Nat => Int32.ofInt (M.2.2.2.2 b j)) sp.toNat dp.toNat k.toNat := by
  funext j
  show Int32.ofInt (if b = b ∧ dp ≤ (j : Int) ∧ (j : Int) < dp + k then M.2.2.2.2 a (sp + ((j : Int) - dp)) else M.2.2.2.2 b j) = _
  unfold va_cpy
  by_cases h : dp ≤ (j : Int) ∧ (j : Int) < dp + k
  · rw [if_pos ⟨rfl, h⟩, if_pos (by omega)]
    rw [show sp + ((j : Int) - dp) = ((sp.toNat + (j - dp.toNat) : Nat) : Int) by omega]
  · rw [if_neg (fun q => h q.2), if_neg (by omega)]
theorem mj_s_acp {j : Nat} (hc0 : c0 < 20) (hx : p.tables.exec = Jvm.exec) (hb : c.code = cc) (hml : c.maxLocals = n) (hown : s.vm.findClass (mj_cn c0) = some m.cls) (hts : ∀ w ∈ mj_tb, w.before args s = true) (hE : mj_E G s) (hH : mj_H G ad M H) (hS : va_S (mj_A G) s.heap H locs) (hR3 : 1 ≤ R.frames) (hR4 : 60 ≤ R.locals)
    (hL : mj_L G ad n ls lr) (h1 : ∀ u ∈ ls, mj_ok M u) (h2 : ∀ u ∈ st, mj_ok M u) (hdg : decode cc pc = .ok (.invokestatic idx, 3)) (hlk : mj_lk c0 idx = some (4, j)) (h : mj_acp pc ls st M = some s') (kk : mj_kk p l e R s m args below meth c cells slots Q G ad M n s') : W p l e R s m args below meth c H locs cells slots Q (F0 m pc lr (st.map (mj_cv G ad))) := by
  have hf := hE.2.2.2.2.2.2
  unfold mj_acp at h
  split at h
  · next k dp b sp a r =>
    have hr : ∀ u ∈ r, mj_ok M u := fun u hu => h2 u (List.mem_cons_of_mem _ (List.mem_cons_of_mem _ (List.mem_cons_of_mem _ (List.mem_cons_of_mem _ (List.mem_cons_of_mem _ hu)))))
    have hko : mj_in32 k := h2 _ List.mem_cons_self
    have hdo : mj_in32 dp := h2 _ (List.mem_cons_of_mem _ List.mem_cons_self)
    have hbo := h2 _ (List.mem_cons_of_mem _ (List.mem_cons_of_mem _ List.mem_cons_self))
    have hso : mj_in32 sp := h2 _ (List.mem_cons_of_mem _ (List.mem_cons_of_mem _ (List.mem_cons_of_mem _ List.mem_cons_self)))
    have hao := h2 _ (List.mem_cons_of_mem _ (List.mem_cons_of_mem _ (List.mem_cons_of_mem _ (List.mem_cons_of_mem _ List.mem_cons_self))))
    split at h
    · next hcd =>
      cases h
      obtain ⟨ha0, hb0, hk0, hd0, hs0, hl1, hl2, hcs⟩ := hcd
      have hq := mj_lks_ok c0 hc0 _ (mj_lookup hlk)
      obtain ⟨a1, a2, a3⟩ := mj_ok3 (by omega) (by omega) hao ha0
      obtain ⟨b1, b2, b3⟩ := mj_ok3 (by omega) (by omega) hbo hb0
      have hea := mj_ws_at G ad M a1 a2
      rw [mj_en_3 a3] at hea
      have heb := mj_ws_at G ad M b1 b2
      rw [mj_en_3 b3] at heb
      have hcs2 := mj_cs_sum (G := G) (ad := ad) hf r
      have nn : ∀ {z : Int}, mj_in32 z → 0 ≤ z → ¬ Int32.ofInt z < 0 ∧ (Int32.ofInt z).toNatClampNeg = z.toNat := fun {z} hz h0 => ⟨fun q => by have := (mj_lt32 hz mj_0in).mp q; omega, by show (Int32.ofInt z).toInt.toNat = _; rw [mj_i32 hz]⟩
      obtain ⟨k1, k2⟩ := nn hko hk0
      obtain ⟨d1, d2⟩ := nn hdo hd0
      obtain ⟨s1, s2⟩ := nn hso hs0
      simp only [List.map_cons]
      rw [mj_cv_ref (t := 3) (x := a) (Or.inl ⟨by omega, by omega⟩) ha0, mj_cv_ref (t := 3) (x := b) (Or.inl ⟨by omega, by omega⟩) hb0]
      refine va_copyi (ty := .int) hx hb (by rw [hml]; exact hL.2.1.symm) hown (hts _ hq) (hts _ (mj_tb_in mj_acn.1 rfl)) (hts _ (mj_tb_in mj_acn.2.1 rfl)) (hts _ (mj_tb_in mj_acn.2.2 rfl)) hE.1 hH.2.1 hH.2.2.1 hS (a - 1).toNat (b - 1).toNat 0 0 hea heb rfl rfl rfl s1 d1 k1 (by rw [s2, k2]; omega) (by rw [d2, k2]; omega) (fun _ _ => rfl) hR3 (by rw [hcs2]; have := mj_nfw; omega) hdg (fun H1 locs1 hP hD hS1 => ?_)
      rw [s2, d2, k2, ← mj_cpy hs0 hd0 hk0] at hP hD
      have e1 := mj_ws_cp (G := G) (ad := ad) (a := a) (sp := sp) (dp := dp) (n := k) b1 b2
      rw [mj_en_3 (M := mj_cp M a sp b dp k) b3] at e1
      have kk1 := kk ad H1 locs1 lr ⟨[], by simp⟩ ⟨hH.1, by rw [e1]; exact hP, by rw [e1]; exact hD, mj_T_cp hH.2.2.2 ⟨a1, a2, a3⟩ b3⟩ hS1 hL (fun v hv => mj_ok_cp (h1 v hv)) (fun v hv => mj_ok_cp (hr v hv))
      have z1 : (mj_cp M a sp b dp k).1 - M.1 = 0 := Nat.sub_self _
      have z2 : (mj_cp M a sp b dp k).2.1 - M.2.1 = 0 := Nat.sub_self _
      dsimp only at kk1
      rw [z1, z2] at kk1
      exact kk1
    · cases h
  · cases h
theorem mj_cl316 : Cond.methodLink "java/util/Arrays" 316 ⟨"[I", "clone", "()Ljava/lang/Object;"⟩ ∈ tables_1 ∧ Cond.sameMethod "[I" "java/lang/Object" "clone" "()Ljava/lang/Object;" ∈ tables_1 ∧ Cond.native ⟨"java/lang/Object", "clone", "()Ljava/lang/Object;"⟩ ∈ tables_1 ∧ Cond.instanceMethod ⟨"java/lang/Object", "clone", "()Ljava/lang/Object;"⟩ ∈ tables_1 ∧ Cond.selects "[I" ⟨"[I", "clone", "()Ljava/lang/Object;"⟩ ⟨"java/lang/Object", "clone", "()Ljava/lang/Object;"⟩ ∈ tables_1 := by decide +kernel
theorem mj_s_cln (hc0 : c0 = 16) (hi : idx = 316) (hx : p.tables.exec = Jvm.exec) (hb : c.code = cc) (hml : c.maxLocals = n) (hown : s.vm.findClass (mj_cn c0) = some m.cls) (hts : ∀ w ∈ mj_tb, w.before args s = true) (hE : mj_E G s) (hH : mj_H G ad M H) (hS : va_S (mj_A G) s.heap H locs) (hR3 : 1 ≤ R.frames) (hR4 : 60 ≤ R.locals)
    (hL : mj_L G ad n ls lr) (h1 : ∀ u ∈ ls, mj_ok M u) (h2 : ∀ u ∈ st, mj_ok M u) (hdg : decode cc pc = .ok (.invokevirtual idx, 3)) (h : mj_cln pc ls st M = some s') (hR1 : cells + (s'.2.2.2.1 - M.1) ≤ R.cells) (hR2 : slots + (s'.2.2.2.2.1 - M.2.1) ≤ R.slots) (kk : mj_kk p l e R s m args below meth c cells slots Q G ad M n s') : W p l e R s m args below meth c H locs cells slots Q (F0 m pc lr (st.map (mj_cv G ad))) := by
  have hf := hE.2.2.2.2.2.2
  subst hc0; subst hi
  unfold mj_cln at h
  split at h
  · next x r =>
    have hr : ∀ u ∈ r, mj_ok M u := fun u hu => h2 u (List.mem_cons_of_mem _ hu)
    have hxo := h2 _ List.mem_cons_self
    split at h
    · next hcd =>
      cases h
      obtain ⟨hx0, hcs⟩ := hcd
      obtain ⟨r1, r2, r3⟩ := mj_ok3 (by omega) (by omega) hxo hx0
      have he := mj_ws_at G ad M r1 r2
      rw [mj_en_3 r3] at he
      have hT := hH.2.2.2 x r1 r2
      have hcs2 := mj_cs_sum (G := G) (ad := ad) hf r
      have hc1 : cells + 1 ≤ R.cells := by
        have : cells + (M.1 + 1 - M.1) ≤ R.cells := hR1
        omega
      have hc2 : slots + (M.2.2.2.1 x).toNat ≤ R.slots := by
        have : slots + (M.2.1 + (M.2.2.2.1 x).toNat - M.2.1) ≤ R.slots := hR2
        omega
      rw [List.map_cons, mj_cv_ref (t := 3) (Or.inl ⟨by omega, by omega⟩) hx0]
      obtain ⟨c1, c2, c3, c4, c5⟩ := mj_cl316
      refine va_clone (ty := .int) (ad := "[I") hx hb (by rw [hml]; exact hL.2.1.symm) hown (hts _ (mj_tb_in c1 rfl)) (hts _ (mj_tb_in c2 rfl)) (hts _ (mj_tb_in c3 rfl)) (hts _ (mj_tb_in c4 rfl)) (hts _ (mj_tb_in c5 rfl)) hE.2.2.2.2.2.1.2.2.2 hE.1 hH.2.1 hH.2.2.1 hS (mj_hA hE) (x - 1).toNat 0 he rfl (hE.1.2 0 (mj_ga G 3, .int) rfl).2 ?_ hR3 (by rw [hcs2]; omega) hc1 hc2 hdg (fun q H1 hK hP hD hS1 => ?_)
      · intro i v hv
        simp only [vp_cell, arrV] at hv
        rw [Array.getElem?_eq_some_iff] at hv
        obtain ⟨hi, hv⟩ := hv
        simp at hv
        rw [← hv]
        rfl
      · refine mj_kk.nw hH kk (Or.inl ⟨by omega, by omega⟩) hT.1 (fun j => ?_) hL h1 hr ?_ rfl hP hD hS1
        · have q := hT.2.2 j
          rw [r3] at q
          exact q
        · rw [mj_en_3 mj_tgt, mj_ln1]
          simp only [mj_hp1]
    · cases h
  · cases h
end Mem6
