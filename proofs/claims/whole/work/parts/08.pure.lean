/-! LOCALS, AND THE STEPS THAT TOUCH NO CELL -/
def mj_L (G : mj_G) (ad : List Nat) (n : Nat) (ls : List mj_V) (lr : Array Slot) : Prop := ls.length = n ∧ lr.size = n ∧ lv_wf lr ∧ ∀ (i : Nat) (v : mj_V), ls[i]? = some v → v.1 ≠ 9 → lr[i]? = some (.val (mj_cv G ad v))
def mj_fok (G : mj_G) : Prop := mj_fo G = .null ∨ ∃ a, mj_fo G = .ref a
theorem mj_cat {G : mj_G} (hf : mj_fok G) (ad : List Nat) (v : mj_V) : (mj_cv G ad v).category = if v.1 = 1 then 2 else 1 := by
  obtain ⟨t, x⟩ := v
  have hr : ∀ o : Option Nat, (va_rf o).category = 1 := fun o => by cases o <;> rfl
  have h2 : (mj_fo G).category = 1 := by
    rcases hf with h | ⟨a, h⟩ <;> rw [h] <;> rfl
  unfold mj_cv
  split <;> simp_all [Value.category]
def mj_lv (G : mj_G) (ad : List Nat) (ls : List mj_V) : List (Nat × Value) := (List.range ls.length).filterMap (fun i => match ls[i]? with
  | some v => if v.1 = 9 then none else some (i, mj_cv G ad v)
  | none => none)
theorem mj_lv_mem {G : mj_G} {ad : List Nat} {ls : List mj_V} {q : Nat × Value} : q ∈ mj_lv G ad ls ↔ ∃ v, ls[q.1]? = some v ∧ v.1 ≠ 9 ∧ q.2 = mj_cv G ad v := by
  unfold mj_lv
  rw [List.mem_filterMap]
  constructor
  · rintro ⟨i, -, h⟩
    split at h
    · next v hv =>
      split at h
      · cases h
      · next h9 => cases h; exact ⟨v, hv, h9, rfl⟩
    · cases h
  · rintro ⟨v, h1, h2, h3⟩
    refine ⟨q.1, List.mem_range.mpr (List.getElem?_eq_some_iff.mp h1).1, ?_⟩
    rw [h1]
    simp only [if_neg h2]
    rw [← h3]
theorem mj_L.has {G : mj_G} {ad : List Nat} {n : Nat} {ls : List mj_V} {lr : Array Slot} (h : mj_L G ad n ls lr) : lv_has lr n (mj_lv G ad ls) := ⟨h.2.1, h.2.2.1, fun q hq => by
  obtain ⟨v, h1, h2, h3⟩ := mj_lv_mem.mp hq
  rw [h3]
  exact h.2.2.2 q.1 v h1 h2⟩
theorem mj_set_len (ls : List mj_V) (i : Nat) (v : mj_V) : (mj_set ls i v).length = ls.length := by
  unfold mj_set
  split
  · simp
  · split <;> simp
theorem mj_set_at {ls : List mj_V} {i : Nat} {v : mj_V} {j : Nat} {u : mj_V} (h : (mj_set ls i v)[j]? = some u) (h9 : u.1 ≠ 9) : (j = i ∧ u = v) ∨ (j ≠ i ∧ ls[j]? = some u ∧ ¬ (j + 1 = i ∧ u.1 = 1)) := by
  unfold mj_set at h
  split at h
  · rw [List.getElem?_set] at h
    split at h
    · next e =>
      split at h
      · cases h; exact Or.inl ⟨e.symm, rfl⟩
      · cases h
    · next e => exact Or.inr ⟨fun q => e q.symm, h, by omega⟩
  · next i k =>
    split at h
    · next x hx =>
      rw [List.getElem?_set] at h
      split at h
      · next e =>
        split at h
        · cases h; exact Or.inl ⟨e.symm, rfl⟩
        · cases h
      · next e =>
        rw [List.getElem?_set] at h
        split at h
        · split at h
          · cases h; exact absurd rfl h9
          · cases h
        · next e2 => exact Or.inr ⟨fun q => e q.symm, h, by omega⟩
    · next hx =>
      rw [List.getElem?_set] at h
      split at h
      · next e =>
        split at h
        · cases h; exact Or.inl ⟨e.symm, rfl⟩
        · cases h
      · next e =>
        refine Or.inr ⟨fun q => e q.symm, h, ?_⟩
        rintro ⟨q1, q2⟩
        have : j = k := by omega
        subst this
        obtain ⟨t, x⟩ := u
        dsimp only at q2
        subst q2
        exact hx x h
theorem mj_L.st {G : mj_G} {ad : List Nat} {n : Nat} {ls : List mj_V} {lr : Array Slot} (hf : mj_fok G) (h : mj_L G ad n ls lr) {i : Nat} {v : mj_V} {lr' : Array Slot} (h' : lv_has lr' n ((i, mj_cv G ad v) :: (mj_lv G ad ls).filter (fun q => !(q.1 == i) && !(q.1 + 1 == i && q.2.category == 2)))) : mj_L G ad n (mj_set ls i v) lr' := by
  refine ⟨by rw [mj_set_len]; exact h.1, h'.1, h'.2.1, fun j u hu h9 => ?_⟩
  rcases mj_set_at hu h9 with ⟨e1, e2⟩ | ⟨e1, e2, e3⟩
  · subst e1; subst e2
    exact h'.2.2 (j, mj_cv G ad u) List.mem_cons_self
  · refine h'.2.2 (j, mj_cv G ad u) (List.mem_cons_of_mem _ (List.mem_filter.mpr ⟨mj_lv_mem.mpr ⟨u, e2, h9, rfl⟩, ?_⟩))
    simp only [mj_cat hf]
    by_cases q : u.1 = 1
    · have : ¬ j + 1 = i := fun z => e3 ⟨z, q⟩
      simp [e1, this]
    · simp [e1, q]
theorem mj_L.st2 {G : mj_G} {ad : List Nat} {n : Nat} {ls : List mj_V} {lr : Array Slot} (hf : mj_fok G) (h : mj_L G ad n ls lr) {i : Nat} {v : mj_V} {lr' : Array Slot} (h' : lv_has lr' n ((i, mj_cv G ad v) :: (mj_lv G ad ls).filter (fun q => !(q.1 == i) && (!(q.1 == i + 1) && !(q.1 + 1 == i && q.2.category == 2))))) : mj_L G ad n (mj_set2 ls i v) lr' := by
  refine ⟨by unfold mj_set2; rw [List.length_set, mj_set_len]; exact h.1, h'.1, h'.2.1, fun j u hu h9 => ?_⟩
  unfold mj_set2 at hu
  rw [List.getElem?_set] at hu
  split at hu
  · split at hu
    · cases hu; exact absurd rfl h9
    · cases hu
  · next e0 =>
    rcases mj_set_at hu h9 with ⟨e1, e2⟩ | ⟨e1, e2, e3⟩
    · subst e1; subst e2
      exact h'.2.2 (j, mj_cv G ad u) List.mem_cons_self
    · refine h'.2.2 (j, mj_cv G ad u) (List.mem_cons_of_mem _ (List.mem_filter.mpr ⟨mj_lv_mem.mpr ⟨u, e2, h9, rfl⟩, ?_⟩))
      simp only [mj_cat hf]
      have e4 : ¬ j = i + 1 := fun z => e0 z.symm
      by_cases q : u.1 = 1
      · have : ¬ j + 1 = i := fun z => e3 ⟨z, q⟩
        simp [e1, this, e4]
      · simp [e1, q, e4]
theorem mj_set_ok {M : mj_M} {ls : List mj_V} {i : Nat} {v : mj_V} (h : ∀ u ∈ ls, mj_ok M u) (hv : mj_ok M v) : ∀ u ∈ mj_set ls i v, mj_ok M u := by
  have h0 : mj_ok M (9, 0) := trivial
  have key : ∀ (l : List mj_V) (k : Nat) (w : mj_V), (∀ u ∈ l, mj_ok M u) → mj_ok M w → ∀ u ∈ l.set k w, mj_ok M u := fun l k w hl hw u hu => by
    rcases List.mem_or_eq_of_mem_set hu with q | q
    · exact hl u q
    · rw [q]; exact hw
  unfold mj_set
  split
  · exact key _ _ _ h hv
  · split
    · exact key _ _ _ (key _ _ _ h h0) hv
    · exact key _ _ _ h hv
theorem mj_set2_ok {M : mj_M} {ls : List mj_V} {i : Nat} {v : mj_V} (h : ∀ u ∈ ls, mj_ok M u) (hv : mj_ok M v) : ∀ u ∈ mj_set2 ls i v, mj_ok M u := fun u hu => by
  unfold mj_set2 at hu
  rcases List.mem_or_eq_of_mem_set hu with q | q
  · exact mj_set_ok h hv u q
  · rw [q]; exact trivial
theorem mj_cv0 (G : mj_G) (ad : List Nat) (i : Int32) : mj_cv G ad (0, i.toInt) = .int i := by
  show Value.int (Int32.ofInt i.toInt) = .int i
  rw [Int32.ofInt_toInt]
theorem mj_cv1 (G : mj_G) (ad : List Nat) (i : Int64) : mj_cv G ad (1, i.toInt) = .long i := by
  show Value.long (Int64.ofInt i.toInt) = .long i
  rw [Int64.ofInt_toInt]
theorem mj_all_cons {P : mj_V → Prop} {v : mj_V} {l : List mj_V} (h1 : P v) (h2 : ∀ u ∈ l, P u) : ∀ u ∈ v :: l, P u := fun u hu => by
  rcases List.mem_cons.mp hu with q | q
  · rw [q]; exact h1
  · exact h2 u q
section Pure
variable {p : Program} {l : Launch} {e : Env} {R : Room} {s : State} {m : MethodId} {args : Array Value} {below : List Frame} {meth : Method} {c : Code} {H : Heap} {locs : List Loc} {cells slots : Nat} {Q : State → Prop}
variable {G : mj_G} {ad : List Nat} {M : mj_M} {ls st : List mj_V} {lr : Array Slot} {n pc pc2 : Nat} {s' : mj_St}
/-- how it goes on where no cell was touched -/
def mj_kp (p : Program) (l : Launch) (e : Env) (R : Room) (s : State) (m : MethodId) (args : Array Value) (below : List Frame) (meth : Method) (c : Code) (H : Heap) (locs : List Loc) (cells slots : Nat) (Q : State → Prop) (G : mj_G) (ad : List Nat) (M : mj_M) (n : Nat) (s' : mj_St) : Prop :=
  ∀ (pc' : Nat) (ls' st' : List mj_V) (lr' : Array Slot), s' = (pc', ls', st', M) → mj_L G ad n ls' lr' → (∀ v ∈ ls', mj_ok M v) → (∀ v ∈ st', mj_ok M v) → W p l e R s m args below meth c H locs cells slots Q (F0 m pc' lr' (st'.map (mj_cv G ad)))
theorem mj_s_k {v : mj_V} (hL : mj_L G ad n ls lr) (h1 : ∀ u ∈ ls, mj_ok M u) (h2 : ∀ u ∈ st, mj_ok M u) (hv : mj_ok M v)
    (row : ∀ rest, W p l e R s m args below meth c H locs cells slots Q (F0 m pc2 lr (mj_cv G ad v :: rest)) → W p l e R s m args below meth c H locs cells slots Q (F0 m pc lr rest))
    (h : mj_k pc2 ls st M v = some s') (kp : mj_kp p l e R s m args below meth c H locs cells slots Q G ad M n s') : W p l e R s m args below meth c H locs cells slots Q (F0 m pc lr (st.map (mj_cv G ad))) := by
  cases h
  exact row _ (kp pc2 ls (v :: st) lr rfl hL h1 (mj_all_cons hv h2))
theorem mj_s_i2 {f : Int → Int → Int} {g : Int32 → Int32 → Int32} (hf : ∀ x y, f x y = (g (Int32.ofInt x) (Int32.ofInt y)).toInt) (hL : mj_L G ad n ls lr) (h1 : ∀ u ∈ ls, mj_ok M u) (h2 : ∀ u ∈ st, mj_ok M u)
    (row : ∀ (x y : Int32) rest, W p l e R s m args below meth c H locs cells slots Q (F0 m pc2 lr (.int (g x y) :: rest)) → W p l e R s m args below meth c H locs cells slots Q (F0 m pc lr (.int y :: .int x :: rest)))
    (h : mj_i2 f pc2 ls st M = some s') (kp : mj_kp p l e R s m args below meth c H locs cells slots Q G ad M n s') : W p l e R s m args below meth c H locs cells slots Q (F0 m pc lr (st.map (mj_cv G ad))) := by
  unfold mj_i2 at h
  split at h
  · next y x r =>
    cases h
    have k := kp pc2 ls ((0, f x y) :: r) lr rfl hL h1 (mj_all_cons (by rw [hf]; exact mj_in32_t _) (fun u hu => h2 u (List.mem_cons_of_mem _ (List.mem_cons_of_mem _ hu))))
    rw [List.map_cons, hf, mj_cv0] at k
    exact row _ _ _ k
  · cases h
theorem mj_s_i2d {f : Int → Int → Int} {g : Int32 → Int32 → Int32} (hf : ∀ x y, f x y = (g (Int32.ofInt x) (Int32.ofInt y)).toInt) (hL : mj_L G ad n ls lr) (h1 : ∀ u ∈ ls, mj_ok M u) (h2 : ∀ u ∈ st, mj_ok M u)
    (row : ∀ (x y : Int32) rest, ¬ y = 0 → W p l e R s m args below meth c H locs cells slots Q (F0 m pc2 lr (.int (g x y) :: rest)) → W p l e R s m args below meth c H locs cells slots Q (F0 m pc lr (.int y :: .int x :: rest)))
    (h : mj_i2d f pc2 ls st M = some s') (kp : mj_kp p l e R s m args below meth c H locs cells slots Q G ad M n s') : W p l e R s m args below meth c H locs cells slots Q (F0 m pc lr (st.map (mj_cv G ad))) := by
  unfold mj_i2d at h
  split at h
  · next y x r =>
    split at h
    · cases h
    next hy =>
    cases h
    have k := kp pc2 ls ((0, f x y) :: r) lr rfl hL h1 (mj_all_cons (by rw [hf]; exact mj_in32_t _) (fun u hu => h2 u (List.mem_cons_of_mem _ (List.mem_cons_of_mem _ hu))))
    rw [List.map_cons, hf, mj_cv0] at k
    refine row _ _ _ (fun q => hy ?_) k
    have hy2 : mj_in32 y := h2 _ List.mem_cons_self
    rw [← mj_i32 hy2, q]
    rfl
  · cases h
theorem mj_s_i1 {f : Int → Int} {g : Int32 → Int32} (hf : ∀ x, f x = (g (Int32.ofInt x)).toInt) (hL : mj_L G ad n ls lr) (h1 : ∀ u ∈ ls, mj_ok M u) (h2 : ∀ u ∈ st, mj_ok M u)
    (row : ∀ (x : Int32) rest, W p l e R s m args below meth c H locs cells slots Q (F0 m pc2 lr (.int (g x) :: rest)) → W p l e R s m args below meth c H locs cells slots Q (F0 m pc lr (.int x :: rest)))
    (h : mj_i1 f pc2 ls st M = some s') (kp : mj_kp p l e R s m args below meth c H locs cells slots Q G ad M n s') : W p l e R s m args below meth c H locs cells slots Q (F0 m pc lr (st.map (mj_cv G ad))) := by
  unfold mj_i1 at h
  split at h
  · next x r =>
    cases h
    have k := kp pc2 ls ((0, f x) :: r) lr rfl hL h1 (mj_all_cons (by rw [hf]; exact mj_in32_t _) (fun u hu => h2 u (List.mem_cons_of_mem _ hu)))
    rw [List.map_cons, hf, mj_cv0] at k
    exact row _ _ k
  · cases h
theorem mj_s_l1 {f : Int → Int} {g : Int64 → Int64} (hf : ∀ x, f x = (g (Int64.ofInt x)).toInt) (hL : mj_L G ad n ls lr) (h1 : ∀ u ∈ ls, mj_ok M u) (h2 : ∀ u ∈ st, mj_ok M u)
    (row : ∀ (x : Int64) rest, W p l e R s m args below meth c H locs cells slots Q (F0 m pc2 lr (.long (g x) :: rest)) → W p l e R s m args below meth c H locs cells slots Q (F0 m pc lr (.long x :: rest)))
    (h : mj_l1 f pc2 ls st M = some s') (kp : mj_kp p l e R s m args below meth c H locs cells slots Q G ad M n s') : W p l e R s m args below meth c H locs cells slots Q (F0 m pc lr (st.map (mj_cv G ad))) := by
  unfold mj_l1 at h
  split at h
  · next x r =>
    cases h
    have k := kp pc2 ls ((1, f x) :: r) lr rfl hL h1 (mj_all_cons (by rw [hf]; exact mj_in64_t _) (fun u hu => h2 u (List.mem_cons_of_mem _ hu)))
    rw [List.map_cons, hf, mj_cv1] at k
    exact row _ _ k
  · cases h
theorem mj_s_l2 {f : Int → Int → Int} {g : Int64 → Int64 → Int64} (hf : ∀ x y, f x y = (g (Int64.ofInt x) (Int64.ofInt y)).toInt) (hL : mj_L G ad n ls lr) (h1 : ∀ u ∈ ls, mj_ok M u) (h2 : ∀ u ∈ st, mj_ok M u)
    (row : ∀ (x y : Int64) rest, W p l e R s m args below meth c H locs cells slots Q (F0 m pc2 lr (.long (g x y) :: rest)) → W p l e R s m args below meth c H locs cells slots Q (F0 m pc lr (.long y :: .long x :: rest)))
    (h : mj_l2 f pc2 ls st M = some s') (kp : mj_kp p l e R s m args below meth c H locs cells slots Q G ad M n s') : W p l e R s m args below meth c H locs cells slots Q (F0 m pc lr (st.map (mj_cv G ad))) := by
  unfold mj_l2 at h
  split at h
  · next y x r =>
    cases h
    have k := kp pc2 ls ((1, f x y) :: r) lr rfl hL h1 (mj_all_cons (by rw [hf]; exact mj_in64_t _) (fun u hu => h2 u (List.mem_cons_of_mem _ (List.mem_cons_of_mem _ hu))))
    rw [List.map_cons, hf, mj_cv1] at k
    exact row _ _ _ k
  · cases h
theorem mj_s_l2d {f : Int → Int → Int} {g : Int64 → Int64 → Int64} (hf : ∀ x y, f x y = (g (Int64.ofInt x) (Int64.ofInt y)).toInt) (hL : mj_L G ad n ls lr) (h1 : ∀ u ∈ ls, mj_ok M u) (h2 : ∀ u ∈ st, mj_ok M u)
    (row : ∀ (x y : Int64) rest, ¬ y = 0 → W p l e R s m args below meth c H locs cells slots Q (F0 m pc2 lr (.long (g x y) :: rest)) → W p l e R s m args below meth c H locs cells slots Q (F0 m pc lr (.long y :: .long x :: rest)))
    (h : mj_l2d f pc2 ls st M = some s') (kp : mj_kp p l e R s m args below meth c H locs cells slots Q G ad M n s') : W p l e R s m args below meth c H locs cells slots Q (F0 m pc lr (st.map (mj_cv G ad))) := by
  unfold mj_l2d at h
  split at h
  · next y x r =>
    split at h
    · cases h
    next hy =>
    cases h
    have k := kp pc2 ls ((1, f x y) :: r) lr rfl hL h1 (mj_all_cons (by rw [hf]; exact mj_in64_t _) (fun u hu => h2 u (List.mem_cons_of_mem _ (List.mem_cons_of_mem _ hu))))
    rw [List.map_cons, hf, mj_cv1] at k
    refine row _ _ _ (fun q => hy ?_) k
    have hy2 : mj_in64 y := h2 _ List.mem_cons_self
    rw [← mj_i64 hy2, q]
    rfl
  · cases h
theorem mj_s_ls {f : Int → Int → Int} {g : Int64 → Int32 → Int64} (hf : ∀ x y, f x y = (g (Int64.ofInt x) (Int32.ofInt y)).toInt) (hL : mj_L G ad n ls lr) (h1 : ∀ u ∈ ls, mj_ok M u) (h2 : ∀ u ∈ st, mj_ok M u)
    (row : ∀ (x : Int64) (y : Int32) rest, W p l e R s m args below meth c H locs cells slots Q (F0 m pc2 lr (.long (g x y) :: rest)) → W p l e R s m args below meth c H locs cells slots Q (F0 m pc lr (.int y :: .long x :: rest)))
    (h : mj_ls f pc2 ls st M = some s') (kp : mj_kp p l e R s m args below meth c H locs cells slots Q G ad M n s') : W p l e R s m args below meth c H locs cells slots Q (F0 m pc lr (st.map (mj_cv G ad))) := by
  unfold mj_ls at h
  split at h
  · next y x r =>
    cases h
    have k := kp pc2 ls ((1, f x y) :: r) lr rfl hL h1 (mj_all_cons (by rw [hf]; exact mj_in64_t _) (fun u hu => h2 u (List.mem_cons_of_mem _ (List.mem_cons_of_mem _ hu))))
    rw [List.map_cons, hf, mj_cv1] at k
    exact row _ _ _ k
  · cases h
theorem mj_s_il {f : Int → Int} {g : Int32 → Int64} (hf : ∀ x, f x = (g (Int32.ofInt x)).toInt) (hL : mj_L G ad n ls lr) (h1 : ∀ u ∈ ls, mj_ok M u) (h2 : ∀ u ∈ st, mj_ok M u)
    (row : ∀ (x : Int32) rest, W p l e R s m args below meth c H locs cells slots Q (F0 m pc2 lr (.long (g x) :: rest)) → W p l e R s m args below meth c H locs cells slots Q (F0 m pc lr (.int x :: rest)))
    (h : mj_il f pc2 ls st M = some s') (kp : mj_kp p l e R s m args below meth c H locs cells slots Q G ad M n s') : W p l e R s m args below meth c H locs cells slots Q (F0 m pc lr (st.map (mj_cv G ad))) := by
  unfold mj_il at h
  split at h
  · next x r =>
    cases h
    have k := kp pc2 ls ((1, f x) :: r) lr rfl hL h1 (mj_all_cons (by rw [hf]; exact mj_in64_t _) (fun u hu => h2 u (List.mem_cons_of_mem _ hu)))
    rw [List.map_cons, hf, mj_cv1] at k
    exact row _ _ k
  · cases h
theorem mj_s_li {f : Int → Int} {g : Int64 → Int32} (hf : ∀ x, f x = (g (Int64.ofInt x)).toInt) (hL : mj_L G ad n ls lr) (h1 : ∀ u ∈ ls, mj_ok M u) (h2 : ∀ u ∈ st, mj_ok M u)
    (row : ∀ (x : Int64) rest, W p l e R s m args below meth c H locs cells slots Q (F0 m pc2 lr (.int (g x) :: rest)) → W p l e R s m args below meth c H locs cells slots Q (F0 m pc lr (.long x :: rest)))
    (h : mj_li f pc2 ls st M = some s') (kp : mj_kp p l e R s m args below meth c H locs cells slots Q G ad M n s') : W p l e R s m args below meth c H locs cells slots Q (F0 m pc lr (st.map (mj_cv G ad))) := by
  unfold mj_li at h
  split at h
  · next x r =>
    cases h
    have k := kp pc2 ls ((0, f x) :: r) lr rfl hL h1 (mj_all_cons (by rw [hf]; exact mj_in32_t _) (fun u hu => h2 u (List.mem_cons_of_mem _ hu)))
    rw [List.map_cons, hf, mj_cv0] at k
    exact row _ _ k
  · cases h
theorem mj_s_lci (hL : mj_L G ad n ls lr) (h1 : ∀ u ∈ ls, mj_ok M u) (h2 : ∀ u ∈ st, mj_ok M u)
    (row : ∀ (x y : Int64) rest, W p l e R s m args below meth c H locs cells slots Q (F0 m pc2 lr (.int (lg_cmp x y) :: rest)) → W p l e R s m args below meth c H locs cells slots Q (F0 m pc lr (.long y :: .long x :: rest)))
    (h : mj_lci pc2 ls st M = some s') (kp : mj_kp p l e R s m args below meth c H locs cells slots Q G ad M n s') : W p l e R s m args below meth c H locs cells slots Q (F0 m pc lr (st.map (mj_cv G ad))) := by
  unfold mj_lci at h
  split at h
  · next y x r =>
    cases h
    have k := kp pc2 ls ((0, jl_cmp x y) :: r) lr rfl hL h1 (mj_all_cons (mj_in32_t _) (fun u hu => h2 u (List.mem_cons_of_mem _ (List.mem_cons_of_mem _ hu))))
    rw [List.map_cons] at k
    unfold jl_cmp at k
    rw [mj_cv0] at k
    exact row _ _ _ k
  · cases h
end Pure
