/-! THE STEPS THAT READ AND WRITE CELLS -/
def mj_tys (G : mj_G) : List (ClassId × FieldType) := [(mj_ga G 3, .int), (mj_ga G 4, .long), (mj_ga G 5, .boolean), (mj_ga G 6, .object "PerfectFerried$Moment"), (mj_ga G 7, .object "PerfectFerried$Text")]
def mj_byt : List (List Int32) := mj_txt.map (fun l => l.map Int32.ofInt)
def mj_tx0 : String := "fades learnsform  lengthpersonknows story teach by    to    forgettell  year  kind  age   who   breathhalf  known if    then  else  end   or    and   not   "
def mj_tx1 : String := "<>=#+-*/();"
def mj_Est (G : mj_G) (s : State) : Prop := va_Z "java/lang/String" "COMPACT_STRINGS" "Z" (.int 1) (mj_A G) s s.heap ∧ va_Z "PerfectFerried$Tongue" "WAYS" "[I" (.ref (mj_wa G)) (mj_A G) s s.heap ∧ va_T .int (mj_wa G) 40 (fun j => .int (Int32.ofInt (mj_ways.getD j 0))) (mj_A G) s s.heap ∧ va_Z "jdk/internal/util/Preconditions" "SIOOBE_FORMATTER" "Ljava/util/function/BiFunction;" (mj_fo G) (mj_A G) s s.heap
def mj_Etx (G : mj_G) (s : State) : Prop := vk_S 2 [156, 11] mj_byt (mj_tK G) (mj_tV G) (mj_A G) s s.heap ∧ vk_R "PerfectFerried$Reader" 121 mj_tx0 (mj_tK G 0) s ∧ vk_R "PerfectFerried$Reader" 129 mj_tx1 (mj_tK G 1) s
def mj_Ew (s : State) : Prop := (∀ c q, c < 20 → q ∈ mj_lks.getD c [] → (q.2.1 = 5 ∨ q.2.1 = 6) → va_Nw (.methodLinkNest (mj_cn c) q.1 (mj_yn q.2.2) "PerfectFerried") s) ∧ va_AO "PerfectFerried$Moment" s ∧ va_AO "PerfectFerried$Text" s ∧ va_Nw (.castable "[I" "java/lang/Cloneable") s
/-- what a state says of all that lies outside the small memory -/
def mj_E (G : mj_G) (s : State) : Prop := va_K (mj_gD G) vwCl (mj_tys G) s ∧ va_X (mj_sc G) (mj_sL G) (mj_sx G) s s.heap ∧ (mj_sc G < mj_lo G ∧ mj_lo G ≤ s.heap.size) ∧ mj_Est G s ∧ mj_Etx G s ∧ mj_Ew s ∧ mj_fok G
theorem mj_E.go {G : mj_G} {s U : State} {H : Heap} {locs : List Loc} (h : mj_E G s) (hS : va_S (mj_A G) s.heap H locs) (hU : U.heap = H) (hW : s.WarmedH U.vm) : mj_E G U := by
  obtain ⟨hK, hX, ⟨hb, hlo⟩, ⟨z1, z2, z3, z4⟩, ⟨t1, t2, t3⟩, ⟨w1, w2, w3, w4⟩, hf⟩ := h
  have ha := hW.alike
  subst hU
  have hq := hS.2.1
  refine ⟨va_K.moved ha hK, va_X.moved ha (hX.kept (hq _ (by omega) (by show ¬ mj_lo G ≤ mj_sc G; omega))), ⟨hb, Nat.le_trans hlo hS.1⟩, ⟨(z1.kept hq).moved ha, (z2.kept hq).moved ha, (z3.kept hq).moved ha, (z4.kept hq).moved ha⟩, ⟨(t1.kept hq).moved ha, vk_R.warm hW t2, vk_R.warm hW t3⟩, ⟨fun c q h1 h2 h3 => va_Nw.warmM hW (w1 c q h1 h2 h3), va_AO.moved ha w2, va_AO.moved ha w3, va_Nw.warmC hW w4⟩, hf⟩
theorem mj_E.blind {G : mj_G} {U U2 : State} (hh : U2.heap = U.heap) (hv : U2.vm = U.vm) (h : mj_E G U) : mj_E G U2 := by
  obtain ⟨hK, hX, hb, ⟨z1, z2, z3, z4⟩, ⟨t1, t2, t3⟩, ⟨w1, w2, w3, w4⟩, hf⟩ := h
  have ha : U.vm.Alike U2.vm := by rw [hv]; exact Vm.Alike.refl U.vm
  refine ⟨va_K.moved ha hK, ?_, by rw [hh]; exact hb, ?_, ?_, ⟨fun c q h1 h2 h3 => va_Nw.same rfl hv.symm (w1 c q h1 h2 h3), va_AO.moved ha w2, va_AO.moved ha w3, va_Nw.same rfl hv.symm w4⟩, hf⟩
  · rw [hh]; exact va_X.moved ha hX
  · unfold mj_Est; rw [hh]; exact ⟨z1.moved ha, z2.moved ha, z3.moved ha, z4.moved ha⟩
  · unfold mj_Etx; rw [hh]; exact ⟨t1.moved ha, vk_R.same hv t2, vk_R.same hv t3⟩
-- entries
def mj_fs (G : mj_G) (ad : List Nat) (M : mj_M) (ci : Nat) (x : Int) : List Value := (List.range (mj_fN ci)).map (fun j : Nat => mj_cv G ad (mj_ft ci j, M.2.2.2.2 x j))
theorem mj_en_obj {G : mj_G} {ad : List Nat} {M : mj_M} {x : Int} {ci : Nat} (h : M.2.2.1 x = 20 + ci) : mj_en G ad M x = .inr (ci, mj_fs G ad M ci x) := by
  unfold mj_en mj_fs
  rw [h]
  split
  · omega
  · omega
  · omega
  · omega
  · omega
  · rw [show 20 + ci - 20 = ci by omega]
theorem mj_en_3 {G : mj_G} {ad : List Nat} {M : mj_M} {x : Int} (h : M.2.2.1 x = 3) : mj_en G ad M x = .inl (mj_ga G 3, (M.2.2.2.1 x).toNat, .inl (fun j => Int32.ofInt (M.2.2.2.2 x j))) := by
  unfold mj_en
  rw [h]
  rfl
theorem mj_en_4 {G : mj_G} {ad : List Nat} {M : mj_M} {x : Int} (h : M.2.2.1 x = 4) : mj_en G ad M x = .inl (mj_ga G 4, (M.2.2.2.1 x).toNat, .inr (.inl (fun j => Int64.ofInt (M.2.2.2.2 x j)))) := by
  unfold mj_en
  rw [h]
  rfl
theorem mj_en_5 {G : mj_G} {ad : List Nat} {M : mj_M} {x : Int} (h : M.2.2.1 x = 5) : mj_en G ad M x = .inl (mj_ga G 5, (M.2.2.2.1 x).toNat, .inl (fun j => Int32.ofInt (M.2.2.2.2 x j))) := by
  unfold mj_en
  rw [h]
  rfl
theorem mj_en_q {G : mj_G} {ad : List Nat} {M : mj_M} {x : Int} {t : Nat} (ht : t = 6 ∨ t = 7) (h : M.2.2.1 x = t) : mj_en G ad M x = .inl (mj_ga G t, (M.2.2.2.1 x).toNat, .inr (.inr (.inr (.inr (fun j => mj_rf ad (M.2.2.2.2 x j)))))) := by
  unfold mj_en
  rcases ht with rfl | rfl <;> rw [h] <;> rfl
theorem mj_sg_obj (ci j : Nat) : mj_sg (20 + ci) (j : Int) = mj_ft ci j := by
  unfold mj_sg
  split
  · omega
  · omega
  · omega
  · omega
  · omega
  · rw [if_pos (by omega), show 20 + ci - 20 = ci by omega]; rfl
theorem mj_idx {i len : Int} (h0 : 0 ≤ i) (h1 : i < len) (h2 : mj_in32 i) : vp_in (Int32.ofInt i) len.toNat ∧ (Int32.ofInt i).toNatClampNeg = i.toNat := by
  have e : (Int32.ofInt i).toNatClampNeg = i.toNat := by
    show (Int32.ofInt i).toInt.toNat = i.toNat
    rw [mj_i32 h2]
  refine ⟨?_, e⟩
  unfold vp_in
  rw [e]
  rintro (q | q)
  · have := (mj_lt32 h2 mj_0in).mp q
    omega
  · omega
theorem mj_toN {i : Int} (h : 0 ≤ i) : ((i.toNat : Nat) : Int) = i := by omega
theorem mj_L.app {G : mj_G} {ad ad2 : List Nat} {M : mj_M} {n : Nat} {ls : List mj_V} {lr : Array Slot} (hl : ad.length = M.1) (h1 : ∀ u ∈ ls, mj_ok M u) (h : mj_L G ad n ls lr) : mj_L G (ad ++ ad2) n ls lr := ⟨h.1, h.2.1, h.2.2.1, fun i v hv h9 => by
  rw [mj_cv_app hl (h1 v (List.mem_of_getElem? hv))]
  exact h.2.2.2 i v hv h9⟩
theorem mj_map_app {G : mj_G} {ad ad2 : List Nat} {M : mj_M} {st : List mj_V} (hl : ad.length = M.1) (h : ∀ u ∈ st, mj_ok M u) : st.map (mj_cv G (ad ++ ad2)) = st.map (mj_cv G ad) := List.map_congr_left fun v hv => mj_cv_app hl (h v hv)
theorem mj_isRN {T : Nat} (h : (3 ≤ T ∧ T ≤ 7) ∨ 20 ≤ T) : mj_isR T = true ∧ mj_isN T = true := by
  rcases h with h | h
  · rcases (show T = 3 ∨ T = 4 ∨ T = 5 ∨ T = 6 ∨ T = 7 by omega) with rfl | rfl | rfl | rfl | rfl <;> exact ⟨rfl, rfl⟩
  · have b1 : Nat.ble 2 T = true := Nat.ble_eq.mpr (by omega)
    have b2 : Nat.beq T 9 = false := by
      cases hb : Nat.beq T 9 with
      | false => rfl
      | true => exact absurd (Nat.eq_of_beq_eq_true hb) (by omega)
    have b3 : Nat.ble T 12 = false := by
      cases hb : Nat.ble T 12 with
      | false => rfl
      | true => exact absurd (Nat.le_of_ble_eq_true hb) (by omega)
    have h1 : mj_isR T = true := by unfold mj_isR; rw [b1, b2]; rfl
    refine ⟨h1, ?_⟩
    unfold mj_isN
    rw [h1, b3, Bool.and_false]
    rfl
/-- a value that a slot of a field takes -/
theorem mj_fit_ok {G : mj_G} (hf : mj_fok G) {ad : List Nat} {M : mj_M} {ci fi : Nat} (h13 : ci < 13) (hfi : fi < (mj_vw ci).2.2) {v : mj_V} {w : Int} (h : mj_fit (mj_fk ci fi) v = some w) (hv : mj_ok M v) :
    mj_ok M (mj_ft ci fi, w) ∧ mj_cv G ad v = mj_cv G ad (mj_ft ci fi, w) ∧ narrow (mj_ty ci fi) (mj_cv G ad v) = mj_cv G ad v ∧ fits (mj_ty ci fi) (mj_cv G ad v) = true := by
  obtain ⟨t, x⟩ := v
  have hk := mj_fk_ok ci h13 fi hfi
  rcases mj_fk_ft ci h13 fi hfi with ⟨a, b⟩ | ⟨a, b⟩ | ⟨a, b⟩ | ⟨a, b⟩
  · rw [a] at h hk
    rw [b]
    unfold mj_fit at h
    simp only at h
    split at h
    · next e =>
      cases h
      subst e
      have e2 : mj_ty ci fi = .int := of_decide_eq_true hk
      rw [e2]
      exact ⟨hv, rfl, rfl, rfl⟩
    · cases h
  · rw [a] at h hk
    rw [b]
    unfold mj_fit at h
    simp only at h
    split at h
    · next e =>
      cases h
      obtain ⟨e, e3⟩ := e
      subst e
      have e2 : mj_ty ci fi = .boolean := of_decide_eq_true hk
      rw [e2]
      refine ⟨hv, rfl, ?_⟩
      rcases e3 with rfl | rfl
      · exact ⟨rfl, rfl⟩
      · exact ⟨rfl, rfl⟩
    · cases h
  · rw [a] at h hk
    rw [b]
    unfold mj_fit at h
    simp only at h
    split at h
    · next e =>
      cases h
      subst e
      have e2 : mj_ty ci fi = .long := of_decide_eq_true hk
      rw [e2]
      exact ⟨hv, rfl, rfl, rfl⟩
    · cases h
  · rw [a] at h hk
    generalize mj_ft ci fi = T at *
    have hT : T ≠ 9 := by omega
    have hnn : ∀ q : Value, (q = .null ∨ ∃ a, q = .ref a) → narrow (mj_ty ci fi) q = q ∧ fits (mj_ty ci fi) q = true := by
      intro q hq
      have hty : (∃ z, mj_ty ci fi = .object z) ∨ ∃ z, mj_ty ci fi = .array z := by
        unfold mj_kty at hk
        split at hk
        · omega
        · omega
        · omega
        · split at hk
          · next z e => exact Or.inl ⟨_, e⟩
          · next z e => exact Or.inr ⟨_, e⟩
          · cases hk
      rcases hty with ⟨z, e⟩ | ⟨z, e⟩ <;> rw [e] <;> rcases hq with rfl | ⟨y, rfl⟩ <;> exact ⟨rfl, rfl⟩
    have hfit : (if 100 + T < 103 then none else (mj_nrm (100 + T - 100) (t, x)).map (fun w => w.2)) = some w := by
      unfold mj_fit at h
      split at h
      · omega
      · omega
      · omega
      · exact h
    rw [if_neg (by omega), show 100 + T - 100 = T by omega] at hfit
    unfold mj_nrm at hfit
    have hR : mj_isR T = true := (mj_isRN b).1
    split at hfit
    · next e =>
      cases hfit
      dsimp only at e
      subst e
      have q := hnn _ (mj_cv_isR hf (ad := ad) (v := (t, x)) hR)
      exact ⟨hv, rfl, q.1, q.2⟩
    · split at hfit
      · next e =>
        cases hfit
        obtain ⟨e, -⟩ := e
        dsimp only at e
        subst e
        have hx0 : x = 0 := hv
        subst hx0
        have hN : mj_isN T = true := (mj_isRN b).2
        have e1 : mj_cv G ad (T, 0) = .null := mj_cv_null hN
        have e2 : mj_cv G ad (2, 0) = .null := mj_cv_null rfl
        have q := hnn .null (Or.inl rfl)
        refine ⟨?_, by rw [e1, e2], by rw [e2]; exact q.1, by rw [e2]; exact q.2⟩
        unfold mj_ok
        split <;> first | (exfalso; omega) | exact Or.inl rfl | trivial | rfl
      · cases hfit
