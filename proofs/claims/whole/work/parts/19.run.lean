section Run
variable {G : mj_G} {X : mj_X}
theorem mj_np1 {j : Nat} (hj : j < 335) (hk : mj_kd j ≠ 0) : ∃ np, (parseMethodDescriptor (mj_yn j).desc).map (fun d => d.parameters.length) = some np ∧ np + 1 = (mj_mi j).2.2.1.length ∧ (mj_mi j).2.2.1.head? = some (if (mj_mi j).1 = 17 then 10 else 20 + (mj_mi j).1) := by
  obtain ⟨h1, h2⟩ := (mj_np_ok j hj).2 hk
  cases hn : mj_np j with
  | none => rw [hn] at h1; cases h1
  | some np =>
    rw [hn] at h1
    exact ⟨np, hn, Option.some.inj h1, h2⟩
theorem mj_callW {n d j k pc ln : Nat} {op : Instr} {ls st as : List mj_V} {M M1 : mj_M} {r1 : Option mj_V} {p : Program} {l : Launch} {e : Env} {R : Room} {s : State} {m : MethodId} {args : Array Value} {below : List Frame} {meth : Method} {c : Code} {H : Heap} {locs : List Loc} {cells slots : Nat} {Q : State → Prop} {ad : List Nat} {lr : Array Slot}
    (ih : mj_Snd G X n) (hk : k < 336) (F : mj_F G k p s m args meth c) (hdg : decode (mj_cd k) pc = .ok (op, ln)) (hln : mj_lnok op ln = true) (hj : mj_call (mj_mi k).1 op = some j) (ha : mj_args (mj_mi j).2.2.1 (st.take (mj_mi j).2.2.1.length).reverse = some as) (hc : mj_rcv op as = true ∧ mj_cs (st.drop (mj_mi j).2.2.1.length) ≤ 8 ∧ (mj_ent1 as).length ≤ (mj_mi j).2.1) (hx1 : mj_x X n d j 0 (mj_ent (mj_mi j).2.1 as) [] M = some (r1, M1))
    (hH : mj_H G ad M H) (hS : va_S (mj_A G) s.heap H locs) (hL : mj_L G ad (mj_mi k).2.1 ls lr) (h2 : ∀ v ∈ st, mj_ok M v) (hR3 : d + 1 + 1 ≤ R.frames) (hR4 : 60 * (d + 1 + 1) ≤ R.locals) (hR1 : cells + (M1.1 - M.1) ≤ R.cells) (hR2 : slots + (M1.2.1 - M.2.1) ≤ R.slots)
    (kk : ∀ (ad' : List Nat) (H1 : Heap) (locs1 : List Loc), (∃ a2, ad' = ad ++ a2) → mj_H G ad' M1 H1 → va_S (mj_A G) s.heap H1 locs1 → (∀ v, r1 = some v → mj_ok M1 v) → W p l e R s m args below meth c H1 locs1 (cells + (M1.1 - M.1)) (slots + (M1.2.1 - M.2.1)) Q (F0 m (pc + 3) lr ((r1.map (mj_cv G ad')).toList ++ (st.drop (mj_mi j).2.2.1.length).map (mj_cv G ad)))) :
    W p l e R s m args below meth c H locs cells slots Q (F0 m pc lr (st.map (mj_cv G ad))) := by
  obtain ⟨hx, hb, hml, hown, hts, hin, hE⟩ := F
  have hf := hE.2.2.2.2.2.2
  have hc0 := (mj_meth_ok k hk).2.1
  obtain ⟨hrcv, hcs, hlen⟩ := hc
  have hvs : ∀ v ∈ (st.take (mj_mi j).2.2.1.length).reverse, mj_ok M v := fun v hv => h2 v (List.mem_of_mem_take (List.mem_reverse.mp hv))
  obtain ⟨a1, a2, a3, a4⟩ := mj_args_ok (G := G) (ad := ad) _ _ _ ha hvs
  have hlenA : as.length = (mj_mi j).2.2.1.length := by rw [← a3, List.length_map]
  have hstk : st.map (mj_cv G ad) = (as.map (mj_cv G ad)).reverse ++ (st.drop (mj_mi j).2.2.1.length).map (mj_cv G ad) := by
    rw [a2, List.map_reverse, List.reverse_reverse, ← List.map_append, List.take_append_drop]
  have hsum : 2 * (F0 m pc lr (st.map (mj_cv G ad))).monitorRoom + (((st.drop (mj_mi j).2.2.1.length).map (mj_cv G ad)).map fun v => v.category).sum ≤ 8 := by
    rw [mj_cs_sum hf]
    show 2 * 0 + _ ≤ 8
    omega
  have hfix : CallFix p m c (mj_cd k) (mj_mi k).2.1 s args mj_tb (mj_cn (mj_mi k).1) := ⟨hx, hb, hml, hown, hts⟩
  have hpre : ∀ U : State, U.heap = H → s.WarmedH U.vm → mj_Pc G ad M as (as.map (mj_cv G ad)).toArray U := fun U hU hW => ⟨rfl, hE.go hS hU hW, by rw [hU]; exact hH⟩
  -- the receiver
  have hrec : j < 335 → mj_kd j ≠ 0 → (∀ i, op ≠ .invokestatic i) → ∃ (b : Nat) (As : List Value), as.map (mj_cv G ad) = .ref b :: As ∧ ∃ cell : Cell, H[b]? = some cell ∧ cell.vm.isStatics = false ∧ s.vm.findClass (mj_yn j).cls = some cell.cls := by
    intro hj3 hkd hop
    obtain ⟨np, n1, n2, n3⟩ := mj_np1 hj3 hkd
    have hjm := mj_meth_ok j (by omega)
    cases as with
    | nil => rw [← a3] at n3; cases n3
    | cons w ws =>
      obtain ⟨t, x⟩ := w
      have ht : t = if (mj_mi j).1 = 17 then 10 else 20 + (mj_mi j).1 := by
        rw [← a3] at n3
        exact Option.some.inj n3
      have hwo := a1 _ List.mem_cons_self
      have hr2 : (Nat.beq t 10 || (Nat.ble 20 t && !decide (x = 0))) = true := by
        cases op <;> first | exact hrcv | exact absurd rfl (hop _)
      by_cases h17 : (mj_mi j).1 = 17
      · rw [if_pos h17] at ht
        subst ht
        have hx2 : x.toNat < 2 := by rcases (show x = 0 ∨ x = 1 from hwo) with q | q <;> rw [q] <;> decide
        refine ⟨mj_tK G x.toNat, ws.map (mj_cv G ad), rfl, ?_⟩
        have q := vk_recv hE.2.2.2.2.1.1 hx2 hS
        rw [hjm.1, h17]
        exact q
      · rw [if_neg h17] at ht
        subst ht
        have hx0 : x ≠ 0 := by
          intro q
          rw [q] at hr2
          have : Nat.beq (20 + (mj_mi j).1) 10 = false := by
            cases hbb : Nat.beq (20 + (mj_mi j).1) 10 with
            | false => rfl
            | true => exact absurd (Nat.eq_of_beq_eq_true hbb) (by omega)
          rw [this] at hr2
          simp at hr2
        obtain ⟨r1, r2, r3⟩ := mj_ok_ref (Or.inr (by omega)) hwo hx0
        have he := mj_ws_at G ad M r1 r2
        rw [mj_en_obj r3] at he
        have h13 : (mj_mi j).1 < 13 := by
          have := (hH.2.2.2 x r1 r2).2.1
          omega
        refine ⟨ad.getD (x - 1).toNat 0, ws.map (mj_cv G ad), by rw [List.map_cons, mj_cv_ref (Or.inr (by omega)) hx0], ?_⟩
        rw [hjm.1, ← (mj_own_ok _ h13).1]
        exact va_recv hE.1 hH.2.1 (mj_vw_ok _ h13) he
  have hcall : ∀ (hj3 : j < 335), (mj_yn j).cls ≠ "java/lang/invoke/MethodHandle" ∧ (mj_yn j).cls ≠ "java/lang/invoke/VarHandle" := fun hj3 => by
    have hjm := mj_meth_ok j (by omega)
    rw [hjm.1]
    exact mj_cn_ok _ hjm.2.1
  have hroom : ∀ (hj3 : j < 335), (d + 1) + 1 ≤ R.frames ∧ 8 + ((mj_mi j).2.1 + 11) + 60 * (d + 1) ≤ R.locals := fun hj3 => by
    have hjm := (mj_meth_ok j (by omega)).2.2
    exact ⟨hR3, by omega⟩
  unfold mj_call at hj
  split at hj
  · next i =>
    obtain rfl : ln = 3 := of_decide_eq_true hln
    split at hj
    · next j0 hlk =>
      cases hj
      obtain ⟨⟨q1, q2⟩, q3⟩ : (j < 335 ∧ mj_kd j = 1) ∧ Cond.methodLink (mj_cn (mj_mi k).1) i (mj_yn j) ∈ mj_tb := mj_lks_ok _ hc0 _ (mj_lookup hlk)
      obtain ⟨np, n1, n2, n3⟩ := mj_np1 q1 (by omega)
      obtain ⟨b, As, hcv, -⟩ := hrec q1 (by omega) (fun _ z => by cases z)
      have hM := mj_met (ad := ad) l ih hx1 q1 a1 hlen
      obtain ⟨m1, m2, m3⟩ := mj_ms j q1
      rw [q2] at m3
      have hrn : mj_rty j = none := by
        have z := (mj_rt_ok j (by omega)).1
        have z2 := mj_i0 j q1 q2
        rw [z2] at z
        exact of_decide_eq_true z
      have hcq : mj_cq j = Cond.code (mj_yn j) (mj_cd j) (mj_mi j).2.1 none := by unfold mj_cq; rw [hrn]
      have hn : As.length = np := by
        have z := congrArg List.length hcv
        rw [List.length_map, List.length_cons] at z
        omega
      rw [hcv] at hpre
      refine mj_after (va_runI (As := As) (rest := (st.drop (mj_mi j).2.2.1.length).map (mj_cv G ad)) hfix hM ⟨callB_of np hts (mj_good j q1) (by rw [hcq]) rfl rfl (hts _ m2) (hts _ q3) ⟨(hcall q1).1, (hcall q1).2, n1⟩ (hroom q1), (mj_ini_ok j q1).2 q2, hts _ m3⟩ ⟨mj_blind, hpre⟩ rfl hn hL.2.1 (by rw [hstk, hcv]; simp) hsum hdg ⟨hR1, hR2⟩) hS kk
    · next j0 hlk =>
      cases hj
      obtain ⟨⟨q1, q2⟩, q3⟩ : (j < 335 ∧ mj_kd j = 1) ∧ Cond.methodLinkNest (mj_cn (mj_mi k).1) i (mj_yn j) "PerfectFerried" ∈ tables_1 := mj_lks_ok _ hc0 _ (mj_lookup hlk)
      obtain ⟨np, n1, n2, n3⟩ := mj_np1 q1 (by omega)
      obtain ⟨b, As, hcv, -⟩ := hrec q1 (by omega) (fun _ z => by cases z)
      have hM := mj_met (ad := ad) l ih hx1 q1 a1 hlen
      obtain ⟨m1, m2, m3⟩ := mj_ms j q1
      rw [q2] at m3
      have hrn : mj_rty j = none := by
        have z := (mj_rt_ok j (by omega)).1
        have z2 := mj_i0 j q1 q2
        rw [z2] at z
        exact of_decide_eq_true z
      have hcq : mj_cq j = Cond.code (mj_yn j) (mj_cd j) (mj_mi j).2.1 none := by unfold mj_cq; rw [hrn]
      have hn : As.length = np := by
        have z := congrArg List.length hcv
        rw [List.length_map, List.length_cons] at z
        omega
      rw [hcv] at hpre
      have hnest := hE.2.2.2.2.2.1.1 (mj_mi k).1 _ hc0 (mj_lookup hlk) (Or.inr rfl)
      refine mj_after (va_runIN (As := As) (rest := (st.drop (mj_mi j).2.2.1.length).map (mj_cv G ad)) hfix hM ⟨va_cnB np hts (mj_good j q1) (by rw [hcq]) rfl rfl hnest (hts _ m2) ⟨(hcall q1).1, (hcall q1).2, n1⟩ (hroom q1), (mj_ini_ok j q1).2 q2, hts _ m3⟩ ⟨mj_blind, hpre⟩ rfl hn hL.2.1 (by rw [hstk, hcv]; simp) hsum hdg ⟨hR1, hR2⟩) hS kk
    · cases hj
  · next i =>
    obtain rfl : ln = 3 := of_decide_eq_true hln
    split at hj
    · next j0 hlk =>
      cases hj
      obtain ⟨⟨q1, q2⟩, q3⟩ : (j < 335 ∧ mj_kd j = 2) ∧ Cond.methodLink (mj_cn (mj_mi k).1) i (mj_yn j) ∈ mj_tb := mj_lks_ok _ hc0 _ (mj_lookup hlk)
      obtain ⟨np, n1, n2, n3⟩ := mj_np1 q1 (by omega)
      obtain ⟨b, As, hcv, hcell⟩ := hrec q1 (by omega) (fun _ z => by cases z)
      have hM := mj_met (ad := ad) l ih hx1 q1 a1 hlen
      obtain ⟨m1, m2, m3⟩ := mj_ms j q1
      rw [q2] at m3
      have hn : As.length = np := by
        have z := congrArg List.length hcv
        rw [List.length_map, List.length_cons] at z
        omega
      rw [hcv] at hpre
      refine mj_after (va_runV (C := (mj_yn j).cls) (As := As) (rest := (st.drop (mj_mi j).2.2.1.length).map (mj_cv G ad)) hfix hM ⟨callB_of np hts (mj_good j q1) rfl rfl rfl (hts _ m2) (hts _ q3) ⟨(hcall q1).1, (hcall q1).2, n1⟩ (hroom q1), hts _ m3.1, hts _ m3.2⟩ ⟨mj_blind, hcell, hpre⟩ rfl hn hL.2.1 (by rw [hstk, hcv]; simp) hsum hdg ⟨hR1, hR2⟩) hS kk
    · cases hj
  · next i =>
    obtain rfl : ln = 3 := of_decide_eq_true hln
    split at hj
    · next j0 hlk =>
      cases hj
      obtain ⟨⟨q1, q2⟩, q3⟩ : (j < 335 ∧ mj_kd j = 0) ∧ Cond.methodLink (mj_cn (mj_mi k).1) i (mj_yn j) ∈ mj_tb := mj_lks_ok _ hc0 _ (mj_lookup hlk)
      have hM := mj_met (ad := ad) l ih hx1 q1 a1 hlen
      obtain ⟨m1, m2, m3⟩ := mj_ms j q1
      rw [q2] at m3
      have hn : (as.map (mj_cv G ad)).length = (mj_mi j).2.2.1.length := by rw [List.length_map, hlenA]
      refine mj_after (va_runS (As := as.map (mj_cv G ad)) (rest := (st.drop (mj_mi j).2.2.1.length).map (mj_cv G ad)) hfix hM ⟨callB_of _ hts (mj_good j q1) rfl rfl rfl (hts _ m2) (hts _ q3) ⟨(hcall q1).1, (hcall q1).2, (mj_np_ok j q1).1 q2⟩ (hroom q1), hts _ m3⟩ ⟨mj_blind, hpre⟩ rfl hn hL.2.1 hstk hsum hdg ⟨hR1, hR2⟩) hS kk
    · next j0 hlk =>
      cases hj
      obtain ⟨⟨q1, q2⟩, q3⟩ : (j < 335 ∧ mj_kd j = 0) ∧ Cond.methodLinkNest (mj_cn (mj_mi k).1) i (mj_yn j) "PerfectFerried" ∈ tables_1 := mj_lks_ok _ hc0 _ (mj_lookup hlk)
      have hM := mj_met (ad := ad) l ih hx1 q1 a1 hlen
      obtain ⟨m1, m2, m3⟩ := mj_ms j q1
      rw [q2] at m3
      have hn : (as.map (mj_cv G ad)).length = (mj_mi j).2.2.1.length := by rw [List.length_map, hlenA]
      have hnest := hE.2.2.2.2.2.1.1 (mj_mi k).1 _ hc0 (mj_lookup hlk) (Or.inl rfl)
      refine mj_after (va_runSN (As := as.map (mj_cv G ad)) (rest := (st.drop (mj_mi j).2.2.1.length).map (mj_cv G ad)) hfix hM ⟨va_cnB _ hts (mj_good j q1) rfl rfl rfl hnest (hts _ m2) ⟨(hcall q1).1, (hcall q1).2, (mj_np_ok j q1).1 q2⟩ (hroom q1), hts _ m3, trivial⟩ ⟨mj_blind, hpre⟩ rfl hn hL.2.1 hstk hsum hdg ⟨hR1, hR2⟩) hS kk
    · cases hj
  · cases hj
theorem mj_snd (hXG : mj_XG X G) : ∀ n, mj_Snd G X n := by
  intro n
  induction n with
  | zero => intro d k pc ls st M r M' h; cases h
  | succ n ih =>
    intro d k pc ls st M r M' h hk p l e R s m args below meth c H locs cells slots Q ad lr F hH hS hL h1 h2 hR3 hR4 hR1 hR2 fin
    unfold mj_x at h
    split at h
    · cases h
    · next op ln hi =>
      have hdg := mj_dec_ok k hk pc (op, ln) hi
      have hln : mj_lnok op ln = true := mj_ln_ok hk hi
      split at h
      · next j hj =>
        split at h
        · cases h
        · next d' =>
          split at h
          · cases h
          · next as ha =>
            split at h
            · next hc =>
              split at h
              · cases h
              · next r1 M1 hx1 =>
                have q1 := mj_x_mono _ _ _ _ _ _ _ _ _ hx1
                have q2 := mj_x_mono _ _ _ _ _ _ _ _ _ h
                refine mj_callW ih hk F hdg hln hj ha hc hx1 hH hS hL h2 hR3 hR4 (by omega) (by omega) ?_
                intro ad' H1 locs1 hap hH1 hS1 hok1
                obtain ⟨a2, rfl⟩ := hap
                have hdr : ∀ v ∈ st.drop (mj_mi j).2.2.1.length, mj_ok M v := fun v hv => h2 v (List.mem_of_mem_drop hv)
                have hkeep : ∀ {v : mj_V}, mj_ok M v → mj_ok M1 v := fun {v} hv => mj_ok_same q1.1 (fun x x1 x2 => mj_x_tg _ _ _ _ _ _ _ _ _ hx1 x x1 x2) hv
                have hst : ((r1.map (mj_cv G (ad ++ a2))).toList ++ (st.drop (mj_mi j).2.2.1.length).map (mj_cv G ad)) = (r1.toList ++ st.drop (mj_mi j).2.2.1.length).map (mj_cv G (ad ++ a2)) := by
                  rw [List.map_append, mj_map_app hH.1 hdr]
                  cases r1 <;> rfl
                rw [hst]
                refine ih (d' + 1) k (pc + 3) ls _ M1 r M' h hk p l e R s m args below meth c H1 locs1 _ _ Q _ lr F hH1 hS1 (hL.app hH.1 h1) (fun v hv => hkeep (h1 v hv)) (fun v hv => ?_) hR3 hR4 (by omega) (by omega) ?_
                · rcases List.mem_append.mp hv with z | z
                  · exact hok1 v (by cases r1 <;> simp_all)
                  · exact hkeep (hdr v z)
                · intro ad'' H'' locs'' lr'' pc'' op'' ln'' st'' hap2 g1 g2 g3 g4 g5 g6
                  obtain ⟨a3, rfl⟩ := hap2
                  have z := fin _ H'' locs'' lr'' pc'' op'' ln'' st'' ⟨a2 ++ a3, by rw [List.append_assoc]⟩ g1 g2 g3 g4 g5 g6
                  rw [show cells + (M1.1 - M.1) + (M'.1 - M1.1) = cells + (M'.1 - M.1) by omega, show slots + (M1.2.1 - M.2.1) + (M'.2.1 - M1.2.1) = slots + (M'.2.1 - M.2.1) by omega]
                  exact z
            · cases h
      · split at h
        · next r0 hret =>
          cases h
          have z := fin ad H locs lr pc op ln st ⟨[], by simp⟩ hH hS hdg hln hret h2
          simpa using z
        · next hret =>
          split at h
          · cases h
          · next s' hs =>
            have q1 := mj_step_mono hs
            have q2 := mj_x_mono _ _ _ _ _ _ _ _ _ h
            refine mj_one hk F hXG hdg hln hs hH hS hL h1 h2 (by omega) (by omega) (by omega) (by omega) ?_
            intro ad' H' locs' lr' hap hH' hS' hL' ho1 ho2
            obtain ⟨a2, rfl⟩ := hap
            refine ih d k _ _ _ _ r M' h hk p l e R s m args below meth c H' locs' _ _ Q _ lr' F hH' hS' hL' ho1 ho2 hR3 hR4 (by omega) (by omega) ?_
            intro ad'' H'' locs'' lr'' pc'' op'' ln'' st'' hap2 g1 g2 g3 g4 g5 g6
            obtain ⟨a3, rfl⟩ := hap2
            have z := fin _ H'' locs'' lr'' pc'' op'' ln'' st'' ⟨a2 ++ a3, by rw [List.append_assoc]⟩ g1 g2 g3 g4 g5 g6
            rw [show cells + (s'.2.2.2.1 - M.1) + (M'.1 - s'.2.2.2.1) = cells + (M'.1 - M.1) by omega, show slots + (s'.2.2.2.2.1 - M.2.1) + (M'.2.1 - s'.2.2.2.2.1) = slots + (M'.2.1 - M.2.1) by omega]
            exact z
end Run
