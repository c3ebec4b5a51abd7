/-! A RUN OF THE SMALL MACHINE IS A RUN OF THE MACHINE -/
theorem mj_nar_byte : ∀ x : Nat, x < 256 → (Int32.ofInt ((x : Int) - 128)).toInt8.toInt32 = Int32.ofInt ((x : Int) - 128) := by decide +kernel
section Snd
variable {G : mj_G} {X : mj_X}
section Ret
variable {p : Program} {l : Launch} {e : Env} {R : Room} {s : State} {m : MethodId} {args : Array Value} {below : List Frame} {meth : Method} {c : Code} {H : Heap} {locs : List Loc} {cells slots : Nat}
theorem mj_retW {Qc : Array Value → State → Outcome → State → Prop} {free : Addr → Prop} {k pc ln : Nat} {op : Instr} {st : List mj_V} {ad : List Nat} {M : mj_M} {lr : Array Slot} {r : Option mj_V} (hk : k < 336) (hx : p.tables.exec = Jvm.exec) (hb : c.code = mj_cd k) (hr : meth.sig.returnType = mj_rty k) (hlocks : meth.locks = false) (hf : mj_fok G) (hok : ∀ v ∈ st, mj_ok M v) (hdg : decode (mj_cd k) pc = .ok (op, ln)) (hln : mj_lnok op ln = true) (hret : mj_ret (mj_mi k).2.2.2.1 op st = some r)
    (hq : ∀ t : State, t.heap = H → s.WarmedH t.vm → Qc args s (.returned (r.map (mj_cv G ad))) t) (hfr : ∀ q ∈ locs, free q.base) : W p l e R s m args below meth c H locs cells slots (MQ below Qc args s cells slots free) (F0 m pc lr (st.map (mj_cv G ad))) := by
  obtain ⟨hrt, hrr⟩ := mj_rt_ok k hk
  generalize (mj_mi k).2.2.2.1 = rt at *
  unfold mj_ret at hret
  split at hret
  · obtain rfl : ln = 1 := of_decide_eq_true hln
    split at hret
    · split at hret
      · next h0 =>
        cases hret
        subst h0
        exact W.vret hx hb (hr.trans (of_decide_eq_true hrt)) hq hfr hdg hlocks
      · cases hret
    · cases hret
  · obtain rfl : ln = 1 := of_decide_eq_true hln
    split at hret
    · next x =>
      have hxo : mj_in32 x := hok _ List.mem_cons_self
      split at hret
      · next h0 =>
        cases hret
        rcases h0 with h0 | ⟨h0, h1⟩ | ⟨h0, h1, h2⟩ | ⟨h0, h1, h2⟩
        · subst h0
          exact W.zret (ty := .int) hx hb (hr.trans (of_decide_eq_true hrt)) rfl hq hfr hdg hlocks
        · subst h0
          refine W.zret (ty := .boolean) hx hb (hr.trans (of_decide_eq_true hrt)) ?_ hq hfr hdg hlocks
          rcases h1 with rfl | rfl <;> rfl
        · subst h0
          refine W.zret (ty := .char) hx hb (hr.trans (of_decide_eq_true hrt)) ?_ hq hfr hdg hlocks
          have z := mj_nar_char x.toNat (by omega)
          rw [mj_toN h1] at z
          show Value.int _ = Value.int _
          rw [z]
        · subst h0
          refine W.zret (ty := .byte) hx hb (hr.trans (of_decide_eq_true hrt)) ?_ hq hfr hdg hlocks
          have z := mj_nar_byte (x + 128).toNat (by omega)
          rw [show (((x + 128).toNat : Nat) : Int) - 128 = x by omega] at z
          show Value.int _ = Value.int _
          rw [z]
      · cases hret
    · cases hret
  · obtain rfl : ln = 1 := of_decide_eq_true hln
    split at hret
    · split at hret
      · next h0 =>
        cases hret
        subst h0
        exact W.lret hx hb (hr.trans (of_decide_eq_true hrt)) hq hfr hdg hlocks
      · cases hret
    · cases hret
  · obtain rfl : ln = 1 := of_decide_eq_true hln
    split at hret
    · next v =>
      split at hret
      · cases hret
      · next h0 =>
        have hvo := hok v List.mem_cons_self
        cases hn : mj_nrm (rt - 100) v with
        | none => rw [hn] at hret; cases hret
        | some w =>
          rw [hn] at hret
          cases hret
          obtain ⟨b1, b2, b3⟩ := mj_nrm_ok (G := G) (ad := ad) hn hvo
          have hT : (3 ≤ rt - 100 ∧ rt - 100 ≤ 7) ∨ 20 ≤ rt - 100 := by
            rcases hrr with q | q
            · omega
            · exact q.2
          have hty : ∃ ty, mj_rty k = some ty ∧ ((∃ z, ty = .object z) ∨ ∃ z, ty = .array z) := by
            unfold mj_rtok at hrt
            split at hrt
            · omega
            · omega
            · omega
            · omega
            · omega
            · omega
            · split at hrt
              · next z q => exact ⟨_, q, Or.inl ⟨_, rfl⟩⟩
              · next z q => exact ⟨_, q, Or.inr ⟨_, rfl⟩⟩
              · cases hrt
          obtain ⟨ty, e1, e2⟩ := hty
          have hnr := mj_cv_isR hf (ad := ad) (v := w) (by rw [b3]; exact (mj_isRN hT).1)
          rw [b2] at hnr
          refine W.aret (v := mj_cv G ad v) hx hb (hr.trans e1) e2 hnr (fun t h1 h2 => ?_) hfr hdg hlocks
          have z := hq t h1 h2
          rw [Option.map_some, b2] at z
          exact z
    · cases hret
  · cases hret
end Ret
def mj_Pc (G : mj_G) (ad : List Nat) (M : mj_M) (as : List mj_V) : Array Value → State → Prop := fun v U => v = (as.map (mj_cv G ad)).toArray ∧ mj_E G U ∧ mj_H G ad M U.heap
def mj_Qc (G : mj_G) (ad : List Nat) (M1 : mj_M) (r : Option mj_V) : Array Value → State → Outcome → State → Prop := fun _ st oc t => (∃ ad' : List Nat, (∃ a2, ad' = ad ++ a2) ∧ mj_H G ad' M1 t.heap ∧ oc = .returned (r.map (mj_cv G ad')) ∧ ∀ v, r = some v → mj_ok M1 v) ∧ va_F (mj_A G) st t
/-- how it goes on at a return -/
def mj_fin (G : mj_G) (p : Program) (l : Launch) (e : Env) (R : Room) (s : State) (m : MethodId) (args : Array Value) (below : List Frame) (meth : Method) (c : Code) (k cells slots : Nat) (Q : State → Prop) (ad : List Nat) (r : Option mj_V) (M' : mj_M) : Prop :=
  ∀ (ad' : List Nat) (H' : Heap) (locs' : List Loc) (lr' : Array Slot) (pc' : Nat) (op : Instr) (ln : Nat) (st' : List mj_V), (∃ a2, ad' = ad ++ a2) → mj_H G ad' M' H' → va_S (mj_A G) s.heap H' locs' → decode (mj_cd k) pc' = .ok (op, ln) → mj_lnok op ln = true → mj_ret (mj_mi k).2.2.2.1 op st' = some r → (∀ v ∈ st', mj_ok M' v) → W p l e R s m args below meth c H' locs' cells slots Q (F0 m pc' lr' (st'.map (mj_cv G ad')))
def mj_Snd (G : mj_G) (X : mj_X) (n : Nat) : Prop := ∀ (d k pc : Nat) (ls st : List mj_V) (M : mj_M) (r : Option mj_V) (M' : mj_M), mj_x X n d k pc ls st M = some (r, M') → k < 336 →
  ∀ (p : Program) (l : Launch) (e : Env) (R : Room) (s : State) (m : MethodId) (args : Array Value) (below : List Frame) (meth : Method) (c : Code) (H : Heap) (locs : List Loc) (cells slots : Nat) (Q : State → Prop) (ad : List Nat) (lr : Array Slot), mj_F G k p s m args meth c → mj_H G ad M H → va_S (mj_A G) s.heap H locs → mj_L G ad (mj_mi k).2.1 ls lr → (∀ v ∈ ls, mj_ok M v) → (∀ v ∈ st, mj_ok M v) → d + 1 ≤ R.frames → 60 * (d + 1) ≤ R.locals → cells + (M'.1 - M.1) ≤ R.cells → slots + (M'.2.1 - M.2.1) ≤ R.slots → mj_fin G p l e R s m args below meth c k (cells + (M'.1 - M.1)) (slots + (M'.2.1 - M.2.1)) Q ad r M' → W p l e R s m args below meth c H locs cells slots Q (F0 m pc lr (st.map (mj_cv G ad)))
theorem mj_ret_ok {M : mj_M} {rt : Nat} {op : Instr} {st : List mj_V} {r : Option mj_V} (h : mj_ret rt op st = some r) (hok : ∀ v ∈ st, mj_ok M v) : ∀ v, r = some v → mj_ok M v := by
  intro v hv
  subst hv
  unfold mj_ret at h
  split at h
  · split at h
    · split at h <;> cases h
    · cases h
  · split at h
    · split at h
      · cases h; exact hok _ List.mem_cons_self
      · cases h
    · cases h
  · split at h
    · split at h
      · cases h; exact hok _ List.mem_cons_self
      · cases h
    · cases h
  · split at h
    · next w =>
      split at h
      · cases h
      · cases hn : mj_nrm (rt - 100) w with
        | none => rw [hn] at h; cases h
        | some z =>
          rw [hn] at h
          cases h
          exact (mj_nrm_ok (G := ((fun _ => 0, fun _ _ => 0), fun _ => 0, 0, (0, 0, fun _ => 0), 0, fun _ => 0, fun _ => 0, .null)) (ad := []) hn (hok _ List.mem_cons_self)).1
    · cases h
  · cases h
theorem mj_met {n d j : Nat} {as : List mj_V} {M M1 : mj_M} {r : Option mj_V} {ad : List Nat} (l : Launch) (ih : mj_Snd G X n) (hx : mj_x X n d j 0 (mj_ent (mj_mi j).2.1 as) [] M = some (r, M1)) (hj : j < 335) (has : ∀ v ∈ as, mj_ok M v) (hlen : (mj_ent1 as).length ≤ (mj_mi j).2.1) :
    Met l (mj_yn j) (mj_cq j :: mj_tb) { frames := d + 1, cells := M1.1 - M.1, slots := M1.2.1 - M.2.1, locals := 60 * (d + 1) } (mj_Pc G ad M as) (mj_Qc G ad M1 r) (M1.1 - M.1) (M1.2.1 - M.2.1) (mj_A G) := by
  have hjm := mj_meth_ok j (by omega)
  have hpl : plainFor (mj_yn j) = true := by
    by_cases h14 : (mj_mi j).1 < 14
    · exact plainFor_of_name (by rw [hjm.1]; exact mj_pl_ok _ h14)
    · unfold plainFor
      rw [mj_pf_ok j (by omega) (by omega), Bool.or_true]
  refine va_MetF (cc := mj_cd j) (maxL := (mj_mi j).2.1) (ret := mj_rty j) hpl rfl ?_
  intro p e s m args below meth c s₁ B hml hv
  obtain ⟨rfl, hE, hH⟩ := hv
  have hts : ∀ w ∈ mj_tb, w.before _ s = true := fun w hw => atoms_spec (ws := mj_cq j :: mj_tb) B.pre w (List.mem_cons_of_mem _ hw)
  have hnm := (name_of_methodNamed B.named B.method).1
  have hini := mj_ini_ok j hj
  have F : mj_F G j p s m (as.map (mj_cv G ad)).toArray meth c := ⟨B.exec, B.bytes, hml, by rw [← hjm.1]; exact findClass_of_methodNamed B.named, hts, fun q => by
    rw [hini.1] at q
    rw [hnm]
    exact hini.2 (of_decide_eq_true q), hE⟩
  rw [lg_entry_eq]
  refine ih d j 0 _ [] M r M1 hx (by omega) p l e _ s m _ below meth c s.heap [] 0 0 _ ad _ F hH va_S.rf (mj_ent_L hE.2.2.2.2.2.2 hlen) (mj_ent_ok has) (fun v hv => absurd hv List.not_mem_nil) (Nat.le_refl _) (Nat.le_refl _) (by rw [Nat.zero_add]; exact Nat.le_refl _) (by rw [Nat.zero_add]; exact Nat.le_refl _) ?_
  intro ad' H' locs' lr' pc' op ln st' hap hH' hS' hdg hln hret hok
  rw [Nat.zero_add, Nat.zero_add]
  exact mj_retW (by omega) B.exec B.bytes B.returns B.notSynchronized hE.2.2.2.2.2.2 hok hdg hln hret (fun t ht hW => ⟨⟨ad', hap, by rw [ht]; exact hH', rfl, mj_ret_ok hret hok⟩, hS'.F ht⟩) hS'.2.2
theorem mj_blind {ad : List Nat} {M : mj_M} {as : List mj_V} : FrameBlind (mj_Pc G ad M as) := fun a U g mk q => ⟨q.1, q.2.1.blind rfl rfl, q.2.2⟩
theorem mj_good (j : Nat) (hj : j < 335) : GoodIn mj_tb (mj_cq j :: mj_tb) := by
  have key : ∀ w ∈ mj_tb, w ∈ mj_tb ∧ ((w.onTables && w.keeps) = true ∨ ∃ ty, w = .arrayClass ty) := fun w hw => ⟨hw, good_of_word (List.mem_filter.mp hw).2⟩
  intro w hw
  rcases List.mem_cons.mp hw with q | q
  · rw [q]; exact key _ (mj_ms j hj).1
  · exact key w q
theorem mj_after {p : Program} {l : Launch} {e : Env} {R : Room} {s : State} {m : MethodId} {args : Array Value} {below : List Frame} {meth : Method} {c : Code} {H : Heap} {locs : List Loc} {cells slots mc ms pc : Nat} {Q : State → Prop} {ad : List Nat} {M1 : mj_M} {r : Option mj_V} {lr : Array Slot} {st0 rest : List Value} {a : Array Value}
    (hrun : va_Run p l e R s m args below meth c H locs cells slots mc ms (F0 m pc lr st0) rest (mj_Qc G ad M1 r a) (mj_A G)) (hS : va_S (mj_A G) s.heap H locs)
    (kk : ∀ (ad' : List Nat) (H1 : Heap) (locs1 : List Loc), (∃ a2, ad' = ad ++ a2) → mj_H G ad' M1 H1 → va_S (mj_A G) s.heap H1 locs1 → (∀ v, r = some v → mj_ok M1 v) → W p l e R s m args below meth c H1 locs1 (cells + mc) (slots + ms) Q (F0 m (pc + 3) lr ((r.map (mj_cv G ad')).toList ++ rest))) : W p l e R s m args below meth c H locs cells slots Q (F0 m pc lr st0) := by
  intro T hT X0
  obtain ⟨v, st₀, t, T', L, h0, X', hL, e1, e2, ⟨⟨ad', hap, hH, hv, hok⟩, hz, hk⟩, stp⟩ := hrun T hT X0
  cases hv
  rw [h0] at hz hk
  obtain ⟨t2, a1, b1⟩ := kk ad' T'.heap (locs ++ L) hap (by rw [e1]; exact hH) ⟨Nat.le_trans hS.1 (by rw [e1]; exact hz), fun q h1 h2 => by rw [e1, hk q (Nat.lt_of_lt_of_le h1 hS.1) h2]; exact hS.2.1 q h1 h2, fun q hq => by
      rcases List.mem_append.mp hq with h | h
      · exact hS.2.2 q h
      · exact hL q h⟩ hok T' rfl X'
  exact ⟨t2, stp t2 a1, b1⟩
end Snd
