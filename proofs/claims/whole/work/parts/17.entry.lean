/-! A RUN ONLY MAKES CELLS; HOW A METHOD IS ENTERED AND LEFT -/
/-- cells are made, never unmade; their tags and lengths stay -/
def mj_ext (M M' : mj_M) : Prop := M.1 ≤ M'.1 ∧ M.2.1 ≤ M'.2.1 ∧ ∀ x : Int, 1 ≤ x → x ≤ (M.1 : Int) → M'.2.2.1 x = M.2.2.1 x ∧ M'.2.2.2.1 x = M.2.2.2.1 x
theorem mj_ext.rf (M : mj_M) : mj_ext M M := ⟨Nat.le_refl _, Nat.le_refl _, fun _ _ _ => ⟨rfl, rfl⟩⟩
theorem mj_ext.tr {M M1 M2 : mj_M} (h1 : mj_ext M M1) (h2 : mj_ext M1 M2) : mj_ext M M2 := ⟨Nat.le_trans h1.1 h2.1, Nat.le_trans h1.2.1 h2.2.1, fun x x1 x2 => by
  have := h1.1
  obtain ⟨a1, a2⟩ := h1.2.2 x x1 x2
  obtain ⟨b1, b2⟩ := h2.2.2 x x1 (by omega)
  exact ⟨b1.trans a1, b2.trans a2⟩⟩
theorem mj_ext.wr (M : mj_M) (a i v : Int) : mj_ext M (mj_wr M a i v) := ⟨Nat.le_refl _, Nat.le_refl _, fun _ _ _ => ⟨rfl, rfl⟩⟩
theorem mj_ext.cp (M : mj_M) (a sp b dp n : Int) : mj_ext M (mj_cp M a sp b dp n) := ⟨Nat.le_refl _, Nat.le_refl _, fun _ _ _ => ⟨rfl, rfl⟩⟩
theorem mj_ext.nw (M : mj_M) (t : Nat) (n : Int) (f : Int → Int) : mj_ext M (mj_nw M t n f) := ⟨Nat.le_succ _, Nat.le_add_right _ _, fun x _ x2 => ⟨if_neg (by omega), if_neg (by omega)⟩⟩
theorem mj_to_ext {pc : Nat} {off : Int} {ls st : List mj_V} {M : mj_M} {s' : mj_St} (h : mj_to pc off ls st M = some s') : mj_ext M s'.2.2.2 := by
  unfold mj_to at h
  split at h
  · cases h; exact mj_ext.rf M
  · cases h
set_option maxHeartbeats 4000000 in
theorem mj_step_ext {X : mj_X} {k pc ln : Nat} {op : Instr} {ls st : List mj_V} {M : mj_M} {s' : mj_St} (h : mj_step X k pc op ln ls st M = some s') : mj_ext M s'.2.2.2 := by
  unfold mj_step at h
  split at h
  all_goals try simp only [mj_k, mj_i1, mj_l1, mj_i2, mj_i2d, mj_l2, mj_l2d, mj_ls, mj_il, mj_li, mj_lci, mj_ild, mj_lld, mj_ald, mj_ist, mj_lst, mj_ast, mj_inc, mj_if, mj_ifc, mj_ifn, mj_tsw, mj_lsw, mj_get, mj_put, mj_iald, mj_lald, mj_bald, mj_aald, mj_iast, mj_last, mj_bast, mj_aast, mj_alen, mj_new, mj_newa, mj_newq, mj_gst, mj_ldc, mj_dup, mj_dup2, mj_pop, mj_cast, mj_oin, mj_acp, mj_cln, cond_eq_ite] at h
  all_goals repeat' split at h
  all_goals first
    | exact mj_to_ext h
    | (cases h; done)
    | (cases h; exact mj_ext.rf M)
    | (cases h; exact mj_ext.wr M _ _ _)
    | (cases h; exact mj_ext.nw M _ _ _)
    | (cases h; exact mj_ext.cp M _ _ _ _ _)
theorem mj_step_mono {X : mj_X} {k pc ln : Nat} {op : Instr} {ls st : List mj_V} {M : mj_M} {s' : mj_St} (h : mj_step X k pc op ln ls st M = some s') : M.1 ≤ s'.2.2.2.1 ∧ M.2.1 ≤ s'.2.2.2.2.1 := ⟨(mj_step_ext h).1, (mj_step_ext h).2.1⟩
theorem mj_x_ext {X : mj_X} : ∀ (n d k pc : Nat) (ls st : List mj_V) (M : mj_M) (r : Option mj_V) (M' : mj_M), mj_x X n d k pc ls st M = some (r, M') → mj_ext M M' := by
  intro n
  induction n with
  | zero => intro d k pc ls st M r M' h; cases h
  | succ n ih =>
    intro d k pc ls st M r M' h
    unfold mj_x at h
    split at h
    · cases h
    · next op ln hi =>
      split at h
      · next j hj =>
        split at h
        · cases h
        · next d' =>
          split at h
          · cases h
          · next as ha =>
            split at h
            · split at h
              · cases h
              · next r1 M1 h1 => exact (ih _ _ _ _ _ _ _ _ h1).tr (ih _ _ _ _ _ _ _ _ h)
            · cases h
      · split at h
        · cases h; exact mj_ext.rf M
        · split at h
          · cases h
          · next s' hs => exact (mj_step_ext hs).tr (ih _ _ _ _ _ _ _ _ h)
theorem mj_x_mono {X : mj_X} (n d k pc : Nat) (ls st : List mj_V) (M : mj_M) (r : Option mj_V) (M' : mj_M) (h : mj_x X n d k pc ls st M = some (r, M')) : M.1 ≤ M'.1 ∧ M.2.1 ≤ M'.2.1 := ⟨(mj_x_ext _ _ _ _ _ _ _ _ _ h).1, (mj_x_ext _ _ _ _ _ _ _ _ _ h).2.1⟩
theorem mj_x_tg {X : mj_X} (n d k pc : Nat) (ls st : List mj_V) (M : mj_M) (r : Option mj_V) (M' : mj_M) (h : mj_x X n d k pc ls st M = some (r, M')) (x : Int) (x1 : 1 ≤ x) (x2 : x ≤ (M.1 : Int)) : M'.2.2.1 x = M.2.2.1 x := ((mj_x_ext _ _ _ _ _ _ _ _ _ h).2.2 x x1 x2).1
theorem mj_i0 : ∀ j, j < 335 → mj_kd j = 1 → (mj_mi j).2.2.2.1 = 0 := by decide +kernel
/-- the type of an answer by its code -/
def mj_rtok (rt : Nat) (ty : Option FieldType) : Bool := match rt with
  | 0 => decide (ty = none)
  | 1 => decide (ty = some .int)
  | 2 => decide (ty = some .boolean)
  | 3 => decide (ty = some .char)
  | 4 => decide (ty = some .long)
  | 5 => decide (ty = some .byte)
  | _ => match ty with
    | some (.object _) => true
    | some (.array _) => true
    | _ => false
theorem mj_rt_ok : ∀ k, k < 336 → mj_rtok (mj_mi k).2.2.2.1 (mj_rty k) = true ∧ ((mj_mi k).2.2.2.1 ≤ 5 ∨ (103 ≤ (mj_mi k).2.2.2.1 ∧ ((3 ≤ (mj_mi k).2.2.2.1 - 100 ∧ (mj_mi k).2.2.2.1 - 100 ≤ 7) ∨ 20 ≤ (mj_mi k).2.2.2.1 - 100))) := by decide +kernel
theorem mj_pt_ok : ∀ k, k < 336 → ∀ t ∈ (mj_mi k).2.2.1, t ≠ 9 ∧ t ≠ 2 := by decide +kernel
theorem mj_nrm_ok {G : mj_G} {ad : List Nat} {M : mj_M} {T : Nat} {v w : mj_V} (h : mj_nrm T v = some w) (hv : mj_ok M v) : mj_ok M w ∧ mj_cv G ad w = mj_cv G ad v ∧ w.1 = T := by
  unfold mj_nrm at h
  split at h
  · next e => cases h; exact ⟨hv, rfl, e⟩
  · split at h
    · next e =>
      cases h
      obtain ⟨t, x⟩ := v
      obtain ⟨e1, hT2⟩ := e
      dsimp only at e1
      subst e1
      have hx : x = 0 := hv
      subst hx
      refine ⟨mj_ok_zero, ?_, rfl⟩
      rw [mj_cv_null (mj_isRN hT2).2, mj_cv_null (t := 2) rfl]
    · cases h
theorem mj_args_ok {G : mj_G} {ad : List Nat} {M : mj_M} : ∀ (ts : List Nat) (vs as : List mj_V), mj_args ts vs = some as → (∀ v ∈ vs, mj_ok M v) → (∀ v ∈ as, mj_ok M v) ∧ as.map (mj_cv G ad) = vs.map (mj_cv G ad) ∧ as.map (fun v => v.1) = ts ∧ as.length = vs.length := by
  intro ts
  induction ts with
  | nil =>
    intro vs as h hv
    cases vs with
    | nil => cases h; exact ⟨fun v hv => absurd hv List.not_mem_nil, rfl, rfl, rfl⟩
    | cons v vs => cases h
  | cons t ts ih =>
    intro vs as h hv
    cases vs with
    | nil => cases h
    | cons v vs =>
      unfold mj_args at h
      split at h
      · next w ws h1 h2 =>
        cases h
        obtain ⟨a1, a2, a3, a4⟩ := ih _ _ h2 (fun u hu => hv u (List.mem_cons_of_mem _ hu))
        obtain ⟨b1, b2, b3⟩ := mj_nrm_ok (G := G) (ad := ad) h1 (hv _ List.mem_cons_self)
        exact ⟨mj_all_cons b1 a1, by rw [List.map_cons, List.map_cons, b2, a2], by rw [List.map_cons, a3, b3], by rw [List.length_cons, List.length_cons, a4]⟩
      · cases h
theorem mj_ent1_at {G : mj_G} (hf : mj_fok G) {ad : List Nat} : ∀ (as : List mj_V) (o i : Nat) (v : mj_V), (mj_ent1 as)[i]? = some v → v.1 ≠ 9 → (o + i, mj_cv G ad v) ∈ lv_args o (as.map (mj_cv G ad)) := by
  intro as
  induction as with
  | nil => intro o i v h; simp [mj_ent1] at h
  | cons a as ih =>
    intro o i v h h9
    unfold mj_ent1 at h
    rw [List.map_cons]
    unfold lv_args
    have hc := mj_cat hf ad a
    by_cases h1 : a.1 = 1
    · rw [if_pos h1] at h hc
      rw [if_pos hc]
      match i, h with
      | 0, h => cases h; exact List.mem_cons_self
      | 1, h => cases h; exact absurd rfl h9
      | i + 2, h =>
        have q := ih (o + 2) i v h h9
        rw [show o + (i + 2) = o + 2 + i by omega]
        exact List.mem_cons_of_mem _ q
    · rw [if_neg h1] at h hc
      rw [if_neg (by omega)]
      match i, h with
      | 0, h => cases h; exact List.mem_cons_self
      | i + 1, h =>
        have q := ih (o + 1) i v h h9
        rw [show o + (i + 1) = o + 1 + i by omega]
        exact List.mem_cons_of_mem _ q
theorem mj_ent1_len {G : mj_G} (hf : mj_fok G) {ad : List Nat} : ∀ (as : List mj_V), (lg_sl (as.map (mj_cv G ad))).length = (mj_ent1 as).length := by
  intro as
  induction as with
  | nil => rfl
  | cons a as ih =>
    have hc := mj_cat hf ad a
    have e : lg_sl ((a :: as).map (mj_cv G ad)) = (if (mj_cv G ad a).category = 2 then [Slot.val (mj_cv G ad a), Slot.second] else [Slot.val (mj_cv G ad a)]) ++ lg_sl (as.map (mj_cv G ad)) := rfl
    rw [e]
    unfold mj_ent1
    by_cases h1 : a.1 = 1
    · rw [if_pos h1] at hc ⊢
      rw [if_pos hc]
      simp [ih]
    · rw [if_neg h1] at hc ⊢
      rw [if_neg (by omega)]
      simp [ih]
theorem mj_ent_L {G : mj_G} (hf : mj_fok G) {ad : List Nat} {n : Nat} {as : List mj_V} (hn : (mj_ent1 as).length ≤ n) : mj_L G ad n (mj_ent n as) ((lg_sl (as.map (mj_cv G ad)) ++ List.replicate (n - (lg_sl (as.map (mj_cv G ad))).length) Slot.unset).toArray) := by
  have hl := lv_entry (as.map (mj_cv G ad)) (n := n) (by rw [mj_ent1_len hf]; exact hn)
  refine ⟨?_, hl.1, hl.2.1, fun i v hv h9 => ?_⟩
  · unfold mj_ent
    rw [List.length_append, List.length_replicate]
    omega
  · unfold mj_ent at hv
    by_cases hi : i < (mj_ent1 as).length
    · rw [List.getElem?_append_left hi] at hv
      have q := mj_ent1_at hf (ad := ad) as 0 i v hv h9
      rw [Nat.zero_add] at q
      exact hl.2.2 _ q
    · rw [List.getElem?_append_right (by omega)] at hv
      have := List.mem_of_getElem? hv
      rw [List.eq_of_mem_replicate this] at h9
      exact absurd rfl h9
theorem mj_ent_ok {M : mj_M} {n : Nat} {as : List mj_V} (h : ∀ v ∈ as, mj_ok M v) : ∀ v ∈ mj_ent n as, mj_ok M v := by
  have h0 : ∀ (as : List mj_V), (∀ v ∈ as, mj_ok M v) → ∀ v ∈ mj_ent1 as, mj_ok M v := by
    intro as
    induction as with
    | nil => intro _ v hv; simp [mj_ent1] at hv
    | cons a as ih =>
      intro h v hv
      unfold mj_ent1 at hv
      have q := ih (fun u hu => h u (List.mem_cons_of_mem _ hu))
      split at hv
      · rcases List.mem_cons.mp hv with z | z
        · rw [z]; exact h _ List.mem_cons_self
        · rcases List.mem_cons.mp z with z | z
          · rw [z]; exact trivial
          · exact q v z
      · rcases List.mem_cons.mp hv with z | z
        · rw [z]; exact h _ List.mem_cons_self
        · exact q v z
  intro v hv
  unfold mj_ent at hv
  rcases List.mem_append.mp hv with z | z
  · exact h0 as h v z
  · rw [List.eq_of_mem_replicate z]
    exact trivial
theorem mj_nar_char : ∀ x : Nat, x < 65536 → (Int32.ofInt x).toUInt32.toUInt16.toUInt32.toInt32 = Int32.ofInt x := by
  intro x hx
  apply Int32.toBitVec_inj.mp
  apply BitVec.eq_of_toNat_eq
  simp
  omega
