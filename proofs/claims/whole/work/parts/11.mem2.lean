section Mem
variable {p : Program} {l : Launch} {e : Env} {R : Room} {s : State} {m : MethodId} {args : Array Value} {below : List Frame} {meth : Method} {c : Code} {H : Heap} {locs : List Loc} {cells slots : Nat} {Q : State → Prop}
variable {G : mj_G} {ad : List Nat} {M : mj_M} {ls st : List mj_V} {lr : Array Slot} {n pc pc2 c0 idx : Nat} {s' : mj_St} {cc : ByteArray}
/-- how it goes on behind any step -/
def mj_kk (p : Program) (l : Launch) (e : Env) (R : Room) (s : State) (m : MethodId) (args : Array Value) (below : List Frame) (meth : Method) (c : Code) (cells slots : Nat) (Q : State → Prop) (G : mj_G) (ad : List Nat) (M : mj_M) (n : Nat) (s' : mj_St) : Prop :=
  ∀ (ad' : List Nat) (H' : Heap) (locs' : List Loc) (lr' : Array Slot), (∃ a2, ad' = ad ++ a2) → mj_H G ad' s'.2.2.2 H' → va_S (mj_A G) s.heap H' locs' → mj_L G ad' n s'.2.1 lr' → (∀ v ∈ s'.2.1, mj_ok s'.2.2.2 v) → (∀ v ∈ s'.2.2.1, mj_ok s'.2.2.2 v) → W p l e R s m args below meth c H' locs' (cells + (s'.2.2.2.1 - M.1)) (slots + (s'.2.2.2.2.1 - M.2.1)) Q (F0 m s'.1 lr' (s'.2.2.1.map (mj_cv G ad')))
theorem mj_kk.kp (hH : mj_H G ad M H) (hS : va_S (mj_A G) s.heap H locs) (h : mj_kk p l e R s m args below meth c cells slots Q G ad M n s') : mj_kp p l e R s m args below meth c H locs cells slots Q G ad M n s' := by
  intro pc' ls' st' lr' e0 hL h1 h2
  subst e0
  have k := h ad H locs lr' ⟨[], by simp⟩ hH hS hL h1 h2
  simpa using k
/-- behind a write into a cell -/
theorem mj_kk.wr {ls' st' : List mj_V} {x i w : Int} (hH : mj_H G ad M H) (h : mj_kk p l e R s m args below meth c cells slots Q G ad M n (pc2, ls', st', mj_wr M x i w)) (hx : 1 ≤ x ∧ x ≤ (M.1 : Int)) (hw : mj_ok M (mj_sg (M.2.2.1 x) i, w)) (hL : mj_L G ad n ls' lr) (h1 : ∀ v ∈ ls', mj_ok M v) (h2 : ∀ v ∈ st', mj_ok M v) {E1 : va_E} (hE1 : mj_en G ad (mj_wr M x i w) x = E1) {H1 : Heap} {locs1 : List Loc}
    (hP : va_P (mj_gD G) vwCl ((mj_ws G ad M).set (x - 1).toNat (ad.getD (x - 1).toNat 0, E1)) H1) (hD : va_D (mj_A G) ((mj_ws G ad M).set (x - 1).toNat (ad.getD (x - 1).toNat 0, E1))) (hS : va_S (mj_A G) s.heap H1 locs1) :
    W p l e R s m args below meth c H1 locs1 cells slots Q (F0 m pc2 lr (st'.map (mj_cv G ad))) := by
  have e1 := mj_ws_wr (G := G) (ad := ad) (i := i) (w := w) hx.1 hx.2
  rw [hE1] at e1
  have k := h ad H1 locs1 lr ⟨[], by simp⟩ ⟨hH.1, by rw [e1]; exact hP, by rw [e1]; exact hD, mj_T_wr hH.2.2.2 hw⟩ hS hL (fun v hv => mj_ok_wr (h1 v hv)) (fun v hv => mj_ok_wr (h2 v hv))
  have z1 : (mj_wr M x i w).1 - M.1 = 0 := Nat.sub_self _
  have z2 : (mj_wr M x i w).2.1 - M.2.1 = 0 := Nat.sub_self _
  dsimp only at k
  rw [z1, z2] at k
  exact k
theorem mj_s_get (hc0 : c0 < 20) (hx : p.tables.exec = Jvm.exec) (hb : c.code = cc) (hown : s.vm.findClass (mj_cn c0) = some m.cls) (hts : ∀ w ∈ mj_tb, w.before args s = true) (hE : mj_E G s) (hH : mj_H G ad M H) (hS : va_S (mj_A G) s.heap H locs)
    (hL : mj_L G ad n ls lr) (h1 : ∀ u ∈ ls, mj_ok M u) (h2 : ∀ u ∈ st, mj_ok M u) (hdg : decode cc pc = .ok (.getfield idx, 3)) (h : mj_get c0 idx pc ls st M = some s') (kk : mj_kk p l e R s m args below meth c cells slots Q G ad M n s') : W p l e R s m args below meth c H locs cells slots Q (F0 m pc lr (st.map (mj_cv G ad))) := by
  have kp := kk.kp hH hS
  unfold mj_get at h
  split at h
  · next t x r =>
    have hr : ∀ u ∈ r, mj_ok M u := fun u hu => h2 u (List.mem_cons_of_mem _ hu)
    have hxo := h2 _ List.mem_cons_self
    split at h
    · next ci fi hfl =>
      split at h
      · next hcd =>
        cases h
        obtain ⟨ht, hx0⟩ := hcd
        subst ht
        obtain ⟨h13, hfi, hmem⟩ := mj_fls_ok0 c0 hc0 _ (mj_lookup hfl)
        obtain ⟨r1, r2, r3⟩ := mj_ok_ref (Or.inr (by omega)) hxo hx0
        have he := mj_ws_at G ad M r1 r2
        rw [mj_en_obj r3] at he
        have hN := mj_fN_ok ci h13
        have hv : (mj_fs G ad M ci x)[fi]? = some (mj_cv G ad (mj_ft ci fi, M.2.2.2.2 x fi)) := by
          unfold mj_fs
          rw [List.getElem?_map, List.getElem?_range (by rw [← hN]; exact hfi)]
          rfl
        have hok : mj_ok M (mj_ft ci fi, M.2.2.2.2 x fi) := by
          have q := (hH.2.2.2 x r1 r2).2.2 (fi : Int)
          rw [r3, mj_sg_obj] at q
          exact q
        rw [List.map_cons, mj_cv_ref (Or.inr (by omega)) hx0]
        exact va_get (C := (mj_vw ci).1) (T := (mj_vw ci).2.1) (N := (mj_vw ci).2.2) (Ts := mj_tb) hx hb hts (mj_uws_ok ci h13) hown hE.1 hH.2.1 (x - 1).toNat he (mj_vw_ok ci h13) fi hfi (hts _ (mj_tb_in hmem rfl)) (fun _ z => z) hv hdg (kp (pc + 3) ls ((mj_ft ci fi, M.2.2.2.2 x fi) :: r) lr rfl hL h1 (mj_all_cons hok hr))
      · cases h
    · next hfl =>
      split at h
      · next hxf =>
        split at h
        · next ht =>
          cases h
          subst ht
          rcases mj_xfs_ok c0 hc0 _ (mj_lookup hxf) with ⟨-, hm⟩ | ⟨q, -⟩
          · have hx2 : x.toNat < 2 := by rcases (show x = 0 ∨ x = 1 from hxo) with q | q <;> rw [q] <;> decide
            exact vk_getf hx hb ((hE.2.2.2.2.1.1.1 x.toNat hx2).2.2.1) hS hown (hts _ (mj_tb_in hm rfl)) (fun _ z => z) hdg (kp (pc + 3) ls ((11, x) :: r) lr rfl hL h1 (mj_all_cons hxo hr))
          · cases q
        · cases h
      · next w hw hxf =>
        split at h
        · next ht =>
          cases h
          subst ht
          rcases mj_xfs_ok c0 hc0 _ (mj_lookup hxf) with ⟨q, -⟩ | ⟨-, hm⟩
          · exact absurd q hw
          · have hx2 : x.toNat < 2 := by rcases (show x = 0 ∨ x = 1 from hxo) with q | q <;> rw [q] <;> decide
            exact vk_getf hx hb ((hE.2.2.2.2.1.1.1 x.toNat hx2).2.1) hS hown (hts _ (mj_tb_in hm rfl)) (fun _ z => z) hdg (kp (pc + 3) ls ((0, 0) :: r) lr rfl hL h1 (mj_all_cons mj_0in hr))
        · cases h
      · cases h
  · cases h
theorem mj_fs_wr {x w : Int} {ci fi : Nat} (hfi : fi < mj_fN ci) : mj_fs G ad (mj_wr M x fi w) ci x = (mj_fs G ad M ci x).set fi (mj_cv G ad (mj_ft ci fi, w)) := by
  unfold mj_fs
  rw [mj_list_set (g := fun j : Nat => mj_cv G ad (mj_ft ci j, M.2.2.2.2 x j)) (k := fi) hfi]
  · congr 3
    show mj_up M.2.2.2.2 x fi w x fi = w
    unfold mj_up
    rw [if_pos ⟨rfl, rfl⟩]
  · intro j hj
    congr 2
    show mj_up M.2.2.2.2 x fi w x j = M.2.2.2.2 x j
    unfold mj_up
    rw [if_neg (by rintro ⟨-, q⟩; omega)]
theorem mj_s_put {k : Nat} (hc0 : c0 < 20) (hx : p.tables.exec = Jvm.exec) (hb : c.code = cc) (hown : s.vm.findClass (mj_cn c0) = some m.cls) (hts : ∀ w ∈ mj_tb, w.before args s = true) (hin : (mj_mi k).2.2.2.2 = true → meth.name = "<init>") (hE : mj_E G s) (hH : mj_H G ad M H) (hS : va_S (mj_A G) s.heap H locs)
    (hL : mj_L G ad n ls lr) (h1 : ∀ u ∈ ls, mj_ok M u) (h2 : ∀ u ∈ st, mj_ok M u) (hdg : decode cc pc = .ok (.putfield idx, 3)) (h : mj_put k c0 idx pc ls st M = some s') (kk : mj_kk p l e R s m args below meth c cells slots Q G ad M n s') : W p l e R s m args below meth c H locs cells slots Q (F0 m pc lr (st.map (mj_cv G ad))) := by
  unfold mj_put at h
  split at h
  · next v t x r =>
    have hr : ∀ u ∈ r, mj_ok M u := fun u hu => h2 u (List.mem_cons_of_mem _ (List.mem_cons_of_mem _ hu))
    have hxo := h2 _ (List.mem_cons_of_mem _ List.mem_cons_self)
    have hvo := h2 _ List.mem_cons_self
    split at h
    · next ci fi hfl =>
      split at h
      · next hcd =>
        obtain ⟨ht, hx0, hfin⟩ := hcd
        subst ht
        split at h
        · next w hw =>
          cases h
          obtain ⟨h13, hfi, hmem⟩ := mj_fls_ok0 c0 hc0 _ (mj_lookup hfl)
          obtain ⟨r1, r2, r3⟩ := mj_ok_ref (Or.inr (by omega)) hxo hx0
          have he := mj_ws_at G ad M r1 r2
          rw [mj_en_obj r3] at he
          have hN := mj_fN_ok ci h13
          obtain ⟨f1, f2, f3, f4⟩ := mj_fit_ok (G := G) (ad := ad) hE.2.2.2.2.2.2 h13 hfi hw hvo
          have hE1 : mj_en G ad (mj_wr M x fi w) x = .inr (ci, (mj_fs G ad M ci x).set fi (mj_cv G ad v)) := by
            rw [mj_en_obj (M := mj_wr M x fi w) r3, mj_fs_wr (by rw [← hN]; exact hfi), f2]
          have hl : fi < (mj_fs G ad M ci x).length := by
            unfold mj_fs
            rw [List.length_map, List.length_range, ← hN]
            exact hfi
          have hso : mj_ok M (mj_sg (M.2.2.1 x) (fi : Int), w) := by rw [r3, mj_sg_obj]; exact f1
          rw [List.map_cons, List.map_cons, mj_cv_ref (t := 20 + ci) (Or.inr (by omega)) hx0]
          have hoo := mj_own_ok ci h13
          cases hf : mj_fn ci fi with
          | false =>
            exact va_put (C := (mj_vw ci).1) (T := (mj_vw ci).2.1) (N := (mj_vw ci).2.2) (Ts := mj_tb) hx hb hts (mj_uws_ok ci h13) (mj_ty ci) (mj_ty_ok ci h13) (mj_nm_ok ci h13) hown hE.1 hH.2.1 hH.2.2.1 hS (x - 1).toNat he (mj_vw_ok ci h13) fi hfi (hts _ (mj_tb_in hmem rfl)) (fun _ z => z) (by rw [(hoo.2 fi hfi).2]; exact hf) (mj_ty_ok ci h13 fi hfi) f3 f4 hl hdg (fun H1 locs1 hP hD hS1 => mj_kk.wr hH kk ⟨r1, r2⟩ hso hL h1 hr hE1 hP hD hS1)
          | true =>
            rcases hfin with q | ⟨q1, q2⟩
            · rw [hf] at q; cases q
            · exact va_putF (C := (mj_vw ci).1) (T := (mj_vw ci).2.1) (N := (mj_vw ci).2.2) (Ts := mj_tb) hx hb hts (mj_uws_ok ci h13) (mj_ty ci) (mj_ty_ok ci h13) (mj_nm_ok ci h13) hown hE.1 hH.2.1 hH.2.2.1 hS (x - 1).toNat he (mj_vw_ok ci h13) fi hfi (hts _ (mj_tb_in hmem rfl)) (fun _ z => z) (by rw [(hoo.2 fi hfi).2]; exact hf) (hin q1) (by rw [(hoo.2 fi hfi).1, q2]) (mj_ty_ok ci h13 fi hfi) f3 f4 hl hdg (fun H1 locs1 hP hD hS1 => mj_kk.wr hH kk ⟨r1, r2⟩ hso hL h1 hr hE1 hP hD hS1)
        · cases h
      · cases h
    · cases h
  · cases h
end Mem
