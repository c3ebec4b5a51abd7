/-! TEXT: the reference's tokens -/
theorem jl_shr48 {x : Int} (hx : 0 ≤ x ∧ x < 4611686018427387904) : jl_shr x 48 = x / 281474976710656 := by
  unfold jl_shr
  have hk : (Int32.ofInt 48).toInt64 &&& 63 = Int64.ofInt 48 := by decide +kernel
  rw [hk]
  show ((Int64.ofInt x) >>> (Int64.ofInt 48)).toBitVec.toInt = _
  rw [Int64.toBitVec_shiftRight, BitVec.sshiftRight_eq', BitVec.toInt_sshiftRight]
  have e : (Int64.ofInt x).toBitVec.toInt = x := mj_i64 ⟨by omega, by omega⟩
  rw [e]
  have e2 : ((Int64.ofInt 48).toBitVec.smod 64).toNat = 48 := by decide +kernel
  rw [e2, Int.shiftRight_eq_div_pow]
  rfl
theorem jl_shl8 {x : Nat} (h : x < 18014398509481984) : jl_shl (x : Int) 8 = ((256 * x : Nat) : Int) := by
  unfold jl_shl
  have hk : (Int32.ofInt 8).toInt64 &&& 63 = Int64.ofInt 8 := by decide +kernel
  rw [hk]
  have e : (Int64.ofInt (x : Int) <<< Int64.ofInt 8) = Int64.ofInt ((256 * x : Nat) : Int) := by
    apply Int64.toBitVec_inj.mp
    rw [Int64.toBitVec_shiftLeft]
    have e2 : (Int64.ofInt 8).toBitVec.smod 64 = 8#64 := by decide +kernel
    rw [e2]
    apply BitVec.eq_of_toNat_eq
    simp [Nat.shiftLeft_eq]
    omega
  rw [e, mj_i64 ⟨by omega, by omega⟩]
theorem jl_or_nat {a b : Nat} (ha : a < 9223372036854775808) (hb : b < 9223372036854775808) : jl_or (a : Int) (b : Int) = ((a ||| b : Nat) : Int) := by
  unfold jl_or
  have h : (a ||| b) < 9223372036854775808 := Nat.or_lt_two_pow (n := 63) ha hb
  have e : Int64.ofInt (a : Int) ||| Int64.ofInt (b : Int) = Int64.ofInt ((a ||| b : Nat) : Int) := by
    apply Int64.toBitVec_inj.mp
    rw [Int64.toBitVec_or]
    apply BitVec.eq_of_toNat_eq
    simp
  rw [e, mj_i64 ⟨by omega, by omega⟩]
/-- the word with one more letter -/
theorem jl_word {w c : Int} (hw : 0 ≤ w ∧ w < 281474976710656) (hc : 0 ≤ c ∧ c ≤ 255) : jl_or (jl_shl w 8) c = w * 256 + c := by
  obtain ⟨a, rfl⟩ := nat_of hw.1
  obtain ⟨b, rfl⟩ := nat_of hc.1
  rw [jl_shl8 (by omega), jl_or_nat (by omega) (by omega)]
  have := Nat.two_pow_add_eq_or_of_lt (i := 8) (b := b) (by omega) a
  rw [show (256 * a : Nat) = 2 ^ 8 * a by omega, ← this]
  omega
/-- the reference reads: what it may change -/
def Rr (M M1 : mj_M) : Prop := (∀ x j, x ≠ 364 → x ≠ 357 → ¬ (x = 354 ∧ ((12 ≤ j ∧ j ≤ 19) ∨ (21 ≤ j ∧ j ≤ 24))) → hh M1 x j = hh M x j) ∧ (∀ x, hl M1 x = hl M x) ∧ (M1.1 = M.1) ∧ (M1.2.1 = M.2.1)
theorem Rr.h {M M1 : mj_M} (h : Rr M M1) : ∀ x j, x ≠ 364 → x ≠ 357 → ¬ (x = 354 ∧ ((12 ≤ j ∧ j ≤ 19) ∨ (21 ≤ j ∧ j ≤ 24))) → hh M1 x j = hh M x j := h.1
theorem Rr.l {M M1 : mj_M} (h : Rr M M1) : ∀ x, hl M1 x = hl M x := h.2.1
theorem Rr.n {M M1 : mj_M} (h : Rr M M1) : M1.1 = M.1 := h.2.2.1
theorem Rr.s {M M1 : mj_M} (h : Rr M M1) : M1.2.1 = M.2.1 := h.2.2.2
theorem Rr.rfl' {M : mj_M} : Rr M M := ⟨fun _ _ _ _ _ => rfl, fun _ => rfl, rfl, rfl⟩
theorem Rr.tr {M M1 M2 : mj_M} (a : Rr M M1) (b : Rr M1 M2) : Rr M M2 := ⟨fun x j h1 h2 h3 => (b.h x j h1 h2 h3).trans (a.h x j h1 h2 h3), fun x => (b.l x).trans (a.l x), b.n.trans a.n, b.s.trans a.s⟩
theorem Ko.rr {M M1 : mj_M} (k : Ko 354 12 16 M M1) : Rr M M1 := ⟨fun x j _ _ h => k.h x j (by omega), k.l, k.n, k.s⟩
theorem Rr.w1 {M M1 : mj_M} {i v : Int} (k : Rr M M1) (h : (12 ≤ i ∧ i ≤ 19) ∨ (21 ≤ i ∧ i ≤ 24)) : Rr M (mj_wr M1 354 i v) := ⟨fun x j h1 h2 h3 => by rw [hh_wr, if_neg (by omega)]; exact k.h x j h1 h2 h3, k.l, k.n, k.s⟩
theorem Rr.w2 {M M1 : mj_M} {z i v : Int} (k : Rr M M1) (h : z = 364 ∨ z = 357) : Rr M (mj_wr M1 z i v) := ⟨fun x j h1 h2 h3 => by rw [hh_wr, if_neg (by omega)]; exact k.h x j h1 h2 h3, k.l, k.n, k.s⟩
theorem z_354 {j : Int} (h : (12 ≤ j ∧ j ≤ 19) ∨ (21 ≤ j ∧ j ≤ 24)) : zone 354 j = 8 := by
  unfold zone
  rw [if_neg (by omega), if_neg (by omega), if_neg (by omega), if_neg (by omega), if_pos rfl, if_neg (by omega), if_neg (by omega), if_pos (by omega)]
theorem Rr.fz {M M1 : mj_M} (k : Rr M M1) : fz [5, 8] M M1 := ⟨fun x j g => by
  by_cases h1 : x = 364
  · subst h1; exact absurd (show zone 364 j ∈ [5, 8] by rw [show zone 364 j = 8 from rfl]; decide) g
  by_cases h2 : x = 357
  · subst h2; exact absurd (show zone 357 j ∈ [5, 8] by rw [z_357]; decide) g
  refine k.h x j h1 h2 (fun q => ?_)
  obtain ⟨rfl, q⟩ := q
  exact absurd (show zone 354 j ∈ [5, 8] by rw [z_354 q]; decide) g, k.l, k.n, k.s⟩
def RX (M : mj_M) (T : Int → Int) (L : Int) : Prop := (CS M) ∧ (hh M 354 9 = L) ∧ (Tz T L) ∧ (∀ i, 0 ≤ i → i < L → hh M 363 i = T i)
theorem RX.cs {M : mj_M} {T : Int → Int} {L : Int} (h : RX M T L) : CS M := h.1
theorem RX.l9 {M : mj_M} {T : Int → Int} {L : Int} (h : RX M T L) : hh M 354 9 = L := h.2.1
theorem RX.tz {M : mj_M} {T : Int → Int} {L : Int} (h : RX M T L) : Tz T L := h.2.2.1
theorem RX.t {M : mj_M} {T : Int → Int} {L : Int} (h : RX M T L) : ∀ i, 0 ≤ i → i < L → hh M 363 i = T i := h.2.2.2
theorem RX.rr {M M1 : mj_M} {T : Int → Int} {L : Int} (h : RX M T L) (k : Rr M M1) : RX M1 T L := ⟨h.cs.fz k.fz (by decide), (k.h 354 9 (by decide) (by decide) (by decide)).trans h.l9, h.tz, fun i a b => (k.h 363 i (by decide) (by decide) (by omega)).trans (h.t i a b)⟩
theorem RX.ko {M M1 : mj_M} {T : Int → Int} {L : Int} (h : RX M T L) (k : Ko 354 12 16 M M1) : RX M1 T L := h.rr k.rr
theorem Ko.v {M : mj_M} {i v : Int} (h : 12 ≤ i ∧ i ≤ 16) : Ko 354 12 16 M (mj_wr M 354 i v) := Ko.rfl'.wr h
/-- the reference's token of a sign -/
def sgt (c : Int) : Int := if c = 35 ∨ c = 40 ∨ c = 41 ∨ c = 42 ∨ c = 43 ∨ c = 45 ∨ c = 47 ∨ c = 58 ∨ c = 59 ∨ c = 60 ∨ c = 61 ∨ c = 62 then c else 3
/-- the class's token K (with V) is the reference's -/
def Tq (K V tok fig wd : Int) : Prop := (tok = 0 ↔ K = 40) ∧ (tok = 1 ↔ K = 39) ∧ (tok = 1 → (fig = V ∧ 0 ≤ V ∧ V ≤ 9999) ∨ (V = 10000 ∧ 10000 ≤ fig ∧ fig ≤ 1000000)) ∧ (∀ k : Nat, k < 26 → ((tok = 2 ∧ wd = PL.getD k 0) ↔ K = (k : Int))) ∧ (tok = 2 → 0 ≤ wd ∧ wd ≤ 1152921504606846976) ∧ (tok = 60 ↔ K = 26) ∧ (tok = 62 ↔ K = 27) ∧ (tok = 61 ↔ K = 28) ∧ (tok = 35 ↔ K = 29) ∧ (tok = 43 ↔ K = 30) ∧ (tok = 45 ↔ K = 31) ∧ (tok = 42 ↔ K = 32) ∧ (tok = 47 ↔ K = 33) ∧ (tok = 40 ↔ K = 34) ∧ (tok = 41 ↔ K = 35) ∧ (tok = 59 ↔ K = 36) ∧ (tok = 4 ↔ K = 37) ∧ (tok = 5 ↔ K = 38)
theorem Tq.z {K V tok fig wd : Int} (h : Tq K V tok fig wd) : tok = 0 ↔ K = 40 := h.1
theorem Tq.n {K V tok fig wd : Int} (h : Tq K V tok fig wd) : tok = 1 ↔ K = 39 := h.2.1
theorem Tq.v {K V tok fig wd : Int} (h : Tq K V tok fig wd) : tok = 1 → (fig = V ∧ 0 ≤ V ∧ V ≤ 9999) ∨ (V = 10000 ∧ 10000 ≤ fig ∧ fig ≤ 1000000) := h.2.2.1
theorem Tq.w {K V tok fig wd : Int} (h : Tq K V tok fig wd) : ∀ k : Nat, k < 26 → ((tok = 2 ∧ wd = PL.getD k 0) ↔ K = (k : Int)) := h.2.2.2.1
theorem Tq.r {K V tok fig wd : Int} (h : Tq K V tok fig wd) : tok = 2 → 0 ≤ wd ∧ wd ≤ 1152921504606846976 := h.2.2.2.2.1
theorem Tq.s26 {K V tok fig wd : Int} (h : Tq K V tok fig wd) : tok = 60 ↔ K = 26 := h.2.2.2.2.2.1
theorem Tq.s27 {K V tok fig wd : Int} (h : Tq K V tok fig wd) : tok = 62 ↔ K = 27 := h.2.2.2.2.2.2.1
theorem Tq.s28 {K V tok fig wd : Int} (h : Tq K V tok fig wd) : tok = 61 ↔ K = 28 := h.2.2.2.2.2.2.2.1
theorem Tq.s29 {K V tok fig wd : Int} (h : Tq K V tok fig wd) : tok = 35 ↔ K = 29 := h.2.2.2.2.2.2.2.2.1
theorem Tq.s30 {K V tok fig wd : Int} (h : Tq K V tok fig wd) : tok = 43 ↔ K = 30 := h.2.2.2.2.2.2.2.2.2.1
theorem Tq.s31 {K V tok fig wd : Int} (h : Tq K V tok fig wd) : tok = 45 ↔ K = 31 := h.2.2.2.2.2.2.2.2.2.2.1
theorem Tq.s32 {K V tok fig wd : Int} (h : Tq K V tok fig wd) : tok = 42 ↔ K = 32 := h.2.2.2.2.2.2.2.2.2.2.2.1
theorem Tq.s33 {K V tok fig wd : Int} (h : Tq K V tok fig wd) : tok = 47 ↔ K = 33 := h.2.2.2.2.2.2.2.2.2.2.2.2.1
theorem Tq.s34 {K V tok fig wd : Int} (h : Tq K V tok fig wd) : tok = 40 ↔ K = 34 := h.2.2.2.2.2.2.2.2.2.2.2.2.2.1
theorem Tq.s35 {K V tok fig wd : Int} (h : Tq K V tok fig wd) : tok = 41 ↔ K = 35 := h.2.2.2.2.2.2.2.2.2.2.2.2.2.2.1
theorem Tq.s36 {K V tok fig wd : Int} (h : Tq K V tok fig wd) : tok = 59 ↔ K = 36 := h.2.2.2.2.2.2.2.2.2.2.2.2.2.2.2.1
theorem Tq.s37 {K V tok fig wd : Int} (h : Tq K V tok fig wd) : tok = 4 ↔ K = 37 := h.2.2.2.2.2.2.2.2.2.2.2.2.2.2.2.2.1
theorem Tq.s38 {K V tok fig wd : Int} (h : Tq K V tok fig wd) : tok = 5 ↔ K = 38 := h.2.2.2.2.2.2.2.2.2.2.2.2.2.2.2.2.2
theorem Tq.e {V fig wd : Int} : Tq 40 V 0 fig wd := ⟨by omega, by omega, fun h => by omega, fun k hk => ⟨fun q => by omega, fun q => by omega⟩, fun h => by omega, by omega, by omega, by omega, by omega, by omega, by omega, by omega, by omega, by omega, by omega, by omega, by omega, by omega⟩
theorem Tq.l {V fig wd : Int} : Tq 37 V 4 fig wd := ⟨by omega, by omega, fun h => by omega, fun k hk => ⟨fun q => by omega, fun q => by omega⟩, fun h => by omega, by omega, by omega, by omega, by omega, by omega, by omega, by omega, by omega, by omega, by omega, by omega, by omega, by omega⟩
theorem Tq.g {V fig wd : Int} : Tq 38 V 5 fig wd := ⟨by omega, by omega, fun h => by omega, fun k hk => ⟨fun q => by omega, fun q => by omega⟩, fun h => by omega, by omega, by omega, by omega, by omega, by omega, by omega, by omega, by omega, by omega, by omega, by omega, by omega, by omega⟩
theorem Tq.u {V fig wd : Int} (h : (fig = V ∧ 0 ≤ V ∧ V ≤ 9999) ∨ (V = 10000 ∧ 10000 ≤ fig ∧ fig ≤ 1000000)) : Tq 39 V 1 fig wd := ⟨by omega, by omega, fun _ => h, fun k hk => ⟨fun q => by omega, fun q => by omega⟩, fun h => by omega, by omega, by omega, by omega, by omega, by omega, by omega, by omega, by omega, by omega, by omega, by omega, by omega, by omega⟩
theorem Tq.wo {V fig wd : Int} (h : 0 ≤ wd ∧ wd ≤ 1152921504606846976) : Tq (wtk wd) V 2 fig wd := by
  have hr : (0 ≤ wtk wd ∧ wtk wd < 26) ∨ wtk wd = 41 := by
    rcases wtk_r wd with ⟨k, hk, _, e⟩ | ⟨_, e⟩ <;> omega
  refine ⟨by omega, by omega, fun h => by omega, fun k hk => ⟨fun q => ?_, fun q => ⟨rfl, ?_⟩⟩, fun _ => h, by omega, by omega, by omega, by omega, by omega, by omega, by omega, by omega, by omega, by omega, by omega, by omega, by omega⟩
  · rw [q.2, wtk_k k hk]
  · rcases wtk_r wd with ⟨j, hj, e1, e2⟩ | ⟨_, e⟩
    · have : j = k := by omega
      rw [← this]; exact e1
    · omega
theorem Tq.sg {c V fig wd : Int} : Tq (sgk c) V (sgt c) fig wd := by
  have h : (sgt c = 60 ∧ sgk c = 26) ∨ (sgt c = 62 ∧ sgk c = 27) ∨ (sgt c = 61 ∧ sgk c = 28) ∨ (sgt c = 35 ∧ sgk c = 29) ∨ (sgt c = 43 ∧ sgk c = 30) ∨ (sgt c = 45 ∧ sgk c = 31) ∨ (sgt c = 42 ∧ sgk c = 32) ∨ (sgt c = 47 ∧ sgk c = 33) ∨ (sgt c = 40 ∧ sgk c = 34) ∨ (sgt c = 41 ∧ sgk c = 35) ∨ (sgt c = 59 ∧ sgk c = 36) ∨ (sgt c = 58 ∧ sgk c = 41) ∨ (sgt c = 3 ∧ sgk c = 41) := by
    by_cases h1 : c = 60
    · subst h1; decide
    by_cases h2 : c = 62
    · subst h2; decide
    by_cases h3 : c = 61
    · subst h3; decide
    by_cases h4 : c = 35
    · subst h4; decide
    by_cases h5 : c = 43
    · subst h5; decide
    by_cases h6 : c = 45
    · subst h6; decide
    by_cases h7 : c = 42
    · subst h7; decide
    by_cases h8 : c = 47
    · subst h8; decide
    by_cases h9 : c = 40
    · subst h9; decide
    by_cases h10 : c = 41
    · subst h10; decide
    by_cases h11 : c = 59
    · subst h11; decide
    have ek : sgk c = 41 := by unfold sgk sgi; simp only [h1, h2, h3, h4, h5, h6, h7, h8, h9, h10, h11, if_false]; decide
    by_cases h12 : c = 58
    · subst h12; decide
    have et : sgt c = 3 := by unfold sgt; rw [if_neg (by omega)]
    omega
  rcases h with ⟨e1, e2⟩ | ⟨e1, e2⟩ | ⟨e1, e2⟩ | ⟨e1, e2⟩ | ⟨e1, e2⟩ | ⟨e1, e2⟩ | ⟨e1, e2⟩ | ⟨e1, e2⟩ | ⟨e1, e2⟩ | ⟨e1, e2⟩ | ⟨e1, e2⟩ | ⟨e1, e2⟩ | ⟨e1, e2⟩
  all_goals rw [e1, e2]; exact ⟨by omega, by omega, fun h => by omega, fun k hk => ⟨fun q => by omega, fun q => by omega⟩, fun h => by omega, by omega, by omega, by omega, by omega, by omega, by omega, by omega, by omega, by omega, by omega, by omega, by omega, by omega⟩
def RL (M : mj_M) (T : Int → Int) (L a : Int) : Prop := (RX M T L) ∧ (0 ≤ a) ∧ (a ≤ L) ∧ (hh M 354 12 = tE T L a) ∧ (hh M 354 13 = tS T L a) ∧ (Tq (tK T L a) (tV T L a) (hh M 354 14) (hh M 354 15) (hh M 354 16))
theorem RL.x {M : mj_M} {T : Int → Int} {L a : Int} (h : RL M T L a) : RX M T L := h.1
theorem RL.a0 {M : mj_M} {T : Int → Int} {L a : Int} (h : RL M T L a) : 0 ≤ a := h.2.1
theorem RL.aL {M : mj_M} {T : Int → Int} {L a : Int} (h : RL M T L a) : a ≤ L := h.2.2.1
theorem RL.e12 {M : mj_M} {T : Int → Int} {L a : Int} (h : RL M T L a) : hh M 354 12 = tE T L a := h.2.2.2.1
theorem RL.e13 {M : mj_M} {T : Int → Int} {L a : Int} (h : RL M T L a) : hh M 354 13 = tS T L a := h.2.2.2.2.1
theorem RL.q {M : mj_M} {T : Int → Int} {L a : Int} (h : RL M T L a) : Tq (tK T L a) (tV T L a) (hh M 354 14) (hh M 354 15) (hh M 354 16) := h.2.2.2.2.2
section RLex
variable {X : mj_X} {d : Nat} {M : mj_M} {Q : Option mj_V → mj_M → Prop} {T : Int → Int} {L : Int}
theorem m_byteAt {k : Int} (h : RX M T L) (k0 : 0 ≤ k) : wc X d 211 [(32, 354), (0, k)] M Q ↔ Q (some (0, if k < L then T k else -1)) M := by
  show wp X d 211 0 [(32, 354), (0, k)] [] M Q ↔ _
  have l9 := h.tz.l9
  by_cases hk : k < L
  · simp only [w211_0, w211_1, w211_2, w211_5, w211_8, w211_9, w211_12, w211_13, w211_14, w211_17, w211_18, c_1_0 h.cs, c_1_1 h.cs, c_1_2 h.cs, c_1_3 h.cs, c_1_4 h.cs, c_1_5 h.cs, c_1_6 h.cs, c_1_7 h.cs, c_1_8 h.cs, c_2_0 h.cs, c_2_1 h.cs, c_5_0 h.cs, c_5_1 h.cs, c_5_2 h.cs, c_5_3 h.cs, c_5_5 h.cs, c_5_8 h.cs, c_5_11 h.cs, c_6_1 h.cs, c_6_2 h.cs, c_6_3 h.cs, c_10_4 h.cs, c_10_5 h.cs, c_10_6 h.cs, c_10_7 h.cs, c_15_1 h.cs, c_17_1 h.cs, c_339_0 h.cs, c_341_0 h.cs, c_341_1 h.cs, c_341_2 h.cs, c_342_4 h.cs, c_342_5 h.cs, c_342_6 h.cs, c_342_7 h.cs, c_347_0 h.cs, c_347_2 h.cs, c_347_3 h.cs, c_349_0 h.cs, c_349_1 h.cs, c_349_2 h.cs, c_351_2 h.cs, c_351_10 h.cs, c_351_12 h.cs, c_354_0 h.cs, c_354_1 h.cs, c_354_2 h.cs, c_354_3 h.cs, c_354_4 h.cs, c_354_5 h.cs, c_354_6 h.cs, c_354_7 h.cs, c_354_8 h.cs, c_354_20 h.cs, c_354_25 h.cs, c_354_26 h.cs, c_354_27 h.cs, c_354_28 h.cs, c_354_32 h.cs, c_354_33 h.cs, c_354_34 h.cs, c_354_35 h.cs, c_354_38 h.cs, l_3 h.cs, l_4 h.cs, l_7 h.cs, l_8 h.cs, l_9 h.cs, l_11 h.cs, l_12 h.cs, l_13 h.cs, l_14 h.cs, l_16 h.cs, l_18 h.cs, l_19 h.cs, l_20 h.cs, l_21 h.cs, l_340 h.cs, l_343 h.cs, l_344 h.cs, l_345 h.cs, l_346 h.cs, l_348 h.cs, l_350 h.cs, l_352 h.cs, l_353 h.cs, l_355 h.cs, l_356 h.cs, l_357 h.cs, l_358 h.cs, l_359 h.cs, l_360 h.cs, l_361 h.cs, l_362 h.cs, l_363 h.cs, l_364 h.cs, l_365 h.cs, l_366 h.cs, l_367 h.cs, l_368 h.cs, l_369 h.cs, l_370 h.cs, l_371 h.cs, l_372 h.cs, l_373 h.cs, h.l9, h.t k k0 hk, hk, k0, show k < 300 by omega, ↓reduceIte, hh_wr, hl_wr, b10, b11, ite_not, ne_eq, Int.reduceEq, Int.reduceLE, Int.reduceLT, Int.reduceNe, Int.reduceNeg, Int.reduceAdd, Int.reduceSub, Int.reduceMul, not_false_eq_true, not_true_eq_false, false_and, and_false, true_and, and_true, and_self, true_or, or_true, false_or, or_false, if_true, if_false, ite_true, ite_false, mj_tl_some, mj_tl_none, mj_cs0, mj_cs1, mj_cs2, mj_cs3, mj_cs4]
  · simp only [w211_0, w211_1, w211_2, w211_5, w211_8, w211_9, w211_12, w211_13, w211_14, w211_17, w211_18, c_1_0 h.cs, c_1_1 h.cs, c_1_2 h.cs, c_1_3 h.cs, c_1_4 h.cs, c_1_5 h.cs, c_1_6 h.cs, c_1_7 h.cs, c_1_8 h.cs, c_2_0 h.cs, c_2_1 h.cs, c_5_0 h.cs, c_5_1 h.cs, c_5_2 h.cs, c_5_3 h.cs, c_5_5 h.cs, c_5_8 h.cs, c_5_11 h.cs, c_6_1 h.cs, c_6_2 h.cs, c_6_3 h.cs, c_10_4 h.cs, c_10_5 h.cs, c_10_6 h.cs, c_10_7 h.cs, c_15_1 h.cs, c_17_1 h.cs, c_339_0 h.cs, c_341_0 h.cs, c_341_1 h.cs, c_341_2 h.cs, c_342_4 h.cs, c_342_5 h.cs, c_342_6 h.cs, c_342_7 h.cs, c_347_0 h.cs, c_347_2 h.cs, c_347_3 h.cs, c_349_0 h.cs, c_349_1 h.cs, c_349_2 h.cs, c_351_2 h.cs, c_351_10 h.cs, c_351_12 h.cs, c_354_0 h.cs, c_354_1 h.cs, c_354_2 h.cs, c_354_3 h.cs, c_354_4 h.cs, c_354_5 h.cs, c_354_6 h.cs, c_354_7 h.cs, c_354_8 h.cs, c_354_20 h.cs, c_354_25 h.cs, c_354_26 h.cs, c_354_27 h.cs, c_354_28 h.cs, c_354_32 h.cs, c_354_33 h.cs, c_354_34 h.cs, c_354_35 h.cs, c_354_38 h.cs, l_3 h.cs, l_4 h.cs, l_7 h.cs, l_8 h.cs, l_9 h.cs, l_11 h.cs, l_12 h.cs, l_13 h.cs, l_14 h.cs, l_16 h.cs, l_18 h.cs, l_19 h.cs, l_20 h.cs, l_21 h.cs, l_340 h.cs, l_343 h.cs, l_344 h.cs, l_345 h.cs, l_346 h.cs, l_348 h.cs, l_350 h.cs, l_352 h.cs, l_353 h.cs, l_355 h.cs, l_356 h.cs, l_357 h.cs, l_358 h.cs, l_359 h.cs, l_360 h.cs, l_361 h.cs, l_362 h.cs, l_363 h.cs, l_364 h.cs, l_365 h.cs, l_366 h.cs, l_367 h.cs, l_368 h.cs, l_369 h.cs, l_370 h.cs, l_371 h.cs, l_372 h.cs, l_373 h.cs, h.l9, hk, ↓reduceIte, hh_wr, hl_wr, b10, b11, ite_not, ne_eq, Int.reduceEq, Int.reduceLE, Int.reduceLT, Int.reduceNe, Int.reduceNeg, Int.reduceAdd, Int.reduceSub, Int.reduceMul, not_false_eq_true, not_true_eq_false, false_and, and_false, true_and, and_true, and_self, true_or, or_true, false_or, or_false, if_true, if_false, ite_true, ite_false, mj_tl_some, mj_tl_none, mj_cs0, mj_cs1, mj_cs2, mj_cs3, mj_cs4]
theorem m_isLetterByte {x : Int} : wc X d 213 [(0, x)] M Q ↔ Q (some (0, if ltp x then 1 else 0)) M := by
  show wp X d 213 0 [(0, x)] [] M Q ↔ _
  simp only [w213_0, w213_1, w213_3, w213_6, w213_7, w213_9, w213_12, w213_13, w213_15, w213_18, w213_19, w213_21, w213_24, w213_25, w213_28, w213_29_i, w213_29_0, w213_29_1, ite_q, ↓reduceIte, hh_wr, hl_wr, b10, b11, ite_not, ne_eq, Int.reduceEq, Int.reduceLE, Int.reduceLT, Int.reduceNe, Int.reduceNeg, Int.reduceAdd, Int.reduceSub, Int.reduceMul, not_false_eq_true, not_true_eq_false, false_and, and_false, true_and, and_true, and_self, true_or, or_true, false_or, or_false, if_true, if_false, ite_true, ite_false, mj_tl_some, mj_tl_none, mj_cs0, mj_cs1, mj_cs2, mj_cs3, mj_cs4]
  refine qe ?_
  repeat' split
  all_goals first | rfl | omega
theorem m_isFigure {x : Int} : wc X d 212 [(0, x)] M Q ↔ Q (some (0, if dgp x then 1 else 0)) M := by
  show wp X d 212 0 [(0, x)] [] M Q ↔ _
  simp only [w212_0, w212_1, w212_3, w212_6, w212_7, w212_9, w212_12, w212_13, w212_16, w212_17_i, w212_17_0, w212_17_1, ite_q, ↓reduceIte, hh_wr, hl_wr, b10, b11, ite_not, ne_eq, Int.reduceEq, Int.reduceLE, Int.reduceLT, Int.reduceNe, Int.reduceNeg, Int.reduceAdd, Int.reduceSub, Int.reduceMul, not_false_eq_true, not_true_eq_false, false_and, and_false, true_and, and_true, and_self, true_or, or_true, false_or, or_false, if_true, if_false, ite_true, ite_false, mj_tl_some, mj_tl_none, mj_cs0, mj_cs1, mj_cs2, mj_cs3, mj_cs4]
  refine qe ?_
  repeat' split
  all_goals first | rfl | omega
theorem m_skip : ∀ (n : Nat) (a : Int) (M : mj_M), RX M T L → hh M 354 12 = a → (L - a).toNat = n → 0 ≤ a → a ≤ L → (∀ M1, Ko 354 12 16 M M1 → hh M1 354 12 = tS T L a → wp X (d + 1) 210 39 [(32, 354), (9, 0)] [] M1 Q) → wp X (d + 1) 210 0 [(32, 354), (9, 0)] [] M Q := by
  intro n
  induction n with
  | zero =>
    intro a M h ea hn a0 aL k
    have : a = L := by omega
    have b := fun Q => m_byteAt (X := X) (d := d) (Q := Q) h a0
    rw [w210_0]
    simp only [w210_1, w210_2, w210_5, w210_8, w210_10, w210_13, w210_14, w210_15, w210_18, w210_21, w210_23, ea, b, show ¬ a < L by omega, ↓reduceIte, hh_wr, hl_wr, b10, b11, ite_not, ne_eq, Int.reduceEq, Int.reduceLE, Int.reduceLT, Int.reduceNe, Int.reduceNeg, Int.reduceAdd, Int.reduceSub, Int.reduceMul, not_false_eq_true, not_true_eq_false, false_and, and_false, true_and, and_true, and_self, true_or, or_true, false_or, or_false, if_true, if_false, ite_true, ite_false, mj_tl_some, mj_tl_none, mj_cs0, mj_cs1, mj_cs2, mj_cs3, mj_cs4]
    exact k M Ko.rfl' (ea.trans (rn_stop (by omega)).symm)
  | succ n ih =>
    intro a M h ea hn a0 aL k
    have hlt : a < L := by omega
    have l9 := h.tz.l9
    have b := fun Q => m_byteAt (X := X) (d := d) (Q := Q) h a0
    rw [w210_0]
    by_cases hs : spp (T a)
    · have e1 : ji_add a 1 = a + 1 := aj ⟨by omega, by omega⟩
      have key : wp X (d + 1) 210 0 [(32, 354), (9, 0)] [] (mj_wr M 354 12 (a + 1)) Q := ih (a + 1) _ (h.ko (Ko.v (by decide))) (by simp only [hh_wr, ↓reduceIte, hh_wr, hl_wr, b10, b11, ite_not, ne_eq, Int.reduceEq, Int.reduceLE, Int.reduceLT, Int.reduceNe, Int.reduceNeg, Int.reduceAdd, Int.reduceSub, Int.reduceMul, not_false_eq_true, not_true_eq_false, false_and, and_false, true_and, and_true, and_self, true_or, or_true, false_or, or_false, if_true, if_false, ite_true, ite_false, mj_tl_some, mj_tl_none, mj_cs0, mj_cs1, mj_cs2, mj_cs3, mj_cs4]) (by omega) (by omega) (by omega) (fun M1 k1 e => k M1 ((Ko.v (by decide)).tr k1) (by rw [e]; exact (rn_go hlt (decide_eq_true hs)).symm))
      by_cases h32 : T a = 32
      · simp only [w210_1, w210_2, w210_5, w210_8, w210_10, w210_13, w210_14, w210_15, w210_18, w210_21, w210_23, w210_26, w210_27, w210_28, w210_31, w210_32, w210_33, w210_36, ea, b, h32, hlt, e1, ↓reduceIte, hh_wr, hl_wr, b10, b11, ite_not, ne_eq, Int.reduceEq, Int.reduceLE, Int.reduceLT, Int.reduceNe, Int.reduceNeg, Int.reduceAdd, Int.reduceSub, Int.reduceMul, not_false_eq_true, not_true_eq_false, false_and, and_false, true_and, and_true, and_self, true_or, or_true, false_or, or_false, if_true, if_false, ite_true, ite_false, mj_tl_some, mj_tl_none, mj_cs0, mj_cs1, mj_cs2, mj_cs3, mj_cs4]
        exact key
      · have h10 : T a = 10 := hs.resolve_left h32
        simp only [w210_1, w210_2, w210_5, w210_8, w210_10, w210_13, w210_14, w210_15, w210_18, w210_21, w210_23, w210_26, w210_27, w210_28, w210_31, w210_32, w210_33, w210_36, ea, b, h10, hlt, e1, ↓reduceIte, hh_wr, hl_wr, b10, b11, ite_not, ne_eq, Int.reduceEq, Int.reduceLE, Int.reduceLT, Int.reduceNe, Int.reduceNeg, Int.reduceAdd, Int.reduceSub, Int.reduceMul, not_false_eq_true, not_true_eq_false, false_and, and_false, true_and, and_true, and_self, true_or, or_true, false_or, or_false, if_true, if_false, ite_true, ite_false, mj_tl_some, mj_tl_none, mj_cs0, mj_cs1, mj_cs2, mj_cs3, mj_cs4]
        exact key
    · have n1 : ¬ T a = 32 := fun q => hs (Or.inl q)
      have n2 : ¬ T a = 10 := fun q => hs (Or.inr q)
      simp only [w210_1, w210_2, w210_5, w210_8, w210_10, w210_13, w210_14, w210_15, w210_18, w210_21, w210_23, w210_26, w210_27, w210_28, w210_31, w210_32, w210_33, w210_36, ea, b, n1, n2, hlt, ↓reduceIte, hh_wr, hl_wr, b10, b11, ite_not, ne_eq, Int.reduceEq, Int.reduceLE, Int.reduceLT, Int.reduceNe, Int.reduceNeg, Int.reduceAdd, Int.reduceSub, Int.reduceMul, not_false_eq_true, not_true_eq_false, false_and, and_false, true_and, and_true, and_self, true_or, or_true, false_or, or_false, if_true, if_false, ite_true, ite_false, mj_tl_some, mj_tl_none, mj_cs0, mj_cs1, mj_cs2, mj_cs3, mj_cs4]
      exact k M Ko.rfl' (ea.trans (rn_stop (fun q => hs (of_decide_eq_true q.2))).symm)
theorem fgv_r {s : Int} : ∀ n : Nat, (∀ i : Nat, i < n → dgp (T (s + i))) → 0 ≤ fgv T s n ∧ fgv T s n ≤ 1000000 := fun n h => by
  rcases nf_rel T s n h with ⟨h1, h2, h3⟩ | ⟨h1, h2, h3⟩ <;> omega
theorem m_numL {s c : Int} (s0 : 0 ≤ s) : ∀ (n : Nat) (a : Int) (M : mj_M), RX M T L → hh M 354 12 = a → hh M 354 13 = s → hh M 354 14 = 1 → hh M 354 15 = fgv T s (a - s).toNat → (∀ i : Nat, i < (a - s).toNat → dgp (T (s + i))) → (L - a).toNat = n → s ≤ a → a ≤ L → (∀ M1, Ko 354 12 16 M M1 → hh M1 354 12 = rn (dgc T) L a → hh M1 354 13 = s → hh M1 354 14 = 1 → hh M1 354 15 = fgv T s (rn (dgc T) L a - s).toNat → wp X (d + 1) 210 310 [(32, 354), (0, c)] [] M1 Q) → wp X (d + 1) 210 85 [(32, 354), (0, c)] [] M Q := by
  intro n
  induction n with
  | zero =>
    intro a M h ea es et ev hd hn a0 aL k
    have : a = L := by omega
    have b := fun Q => m_byteAt (X := X) (d := d) (Q := Q) (k := a) h (by omega)
    rw [w210_85]
    simp only [w210_86, w210_87, w210_90, w210_93, w210_96, ea, b, m_isFigure, show ¬ a < L by omega, show ¬ dgp (-1) by decide, ↓reduceIte, hh_wr, hl_wr, b10, b11, ite_not, ne_eq, Int.reduceEq, Int.reduceLE, Int.reduceLT, Int.reduceNe, Int.reduceNeg, Int.reduceAdd, Int.reduceSub, Int.reduceMul, not_false_eq_true, not_true_eq_false, false_and, and_false, true_and, and_true, and_self, true_or, or_true, false_or, or_false, if_true, if_false, ite_true, ite_false, mj_tl_some, mj_tl_none, mj_cs0, mj_cs1, mj_cs2, mj_cs3, mj_cs4]
    have e := rn_stop (c := dgc T) (L := L) (a := a) (by omega)
    exact k M Ko.rfl' (ea.trans e.symm) es et (by rw [e]; exact ev)
  | succ n ih =>
    intro a M h ea es et ev hd hn a0 aL k
    have hlt : a < L := by omega
    have l9 := h.tz.l9
    have b := fun Q => m_byteAt (X := X) (d := d) (Q := Q) (k := a) h (by omega)
    have hv := fgv_r (T := T) (s := s) _ hd
    rw [w210_85]
    by_cases hs : dgp (T a)
    · have e1 : ji_add a 1 = a + 1 := aj ⟨by omega, by omega⟩
      have en : fgv T s (a + 1 - s).toNat = if 99999 < fgv T s (a - s).toNat then fgv T s (a - s).toNat else 10 * fgv T s (a - s).toNat + T a - 48 := by
        rw [show (a + 1 - s).toNat = (a - s).toNat + 1 by omega, fgv, show s + ((a - s).toNat : Int) = a by omega]
      have key : wp X (d + 1) 210 85 [(32, 354), (0, c)] [] (mj_wr (mj_wr M 354 15 (if 99999 < fgv T s (a - s).toNat then fgv T s (a - s).toNat else 10 * fgv T s (a - s).toNat + T a - 48)) 354 12 (a + 1)) Q := by
        refine ih (a + 1) _ (h.ko ((Ko.v (by decide)).wr (by decide))) (by simp only [hh_wr, ↓reduceIte, hh_wr, hl_wr, b10, b11, ite_not, ne_eq, Int.reduceEq, Int.reduceLE, Int.reduceLT, Int.reduceNe, Int.reduceNeg, Int.reduceAdd, Int.reduceSub, Int.reduceMul, not_false_eq_true, not_true_eq_false, false_and, and_false, true_and, and_true, and_self, true_or, or_true, false_or, or_false, if_true, if_false, ite_true, ite_false, mj_tl_some, mj_tl_none, mj_cs0, mj_cs1, mj_cs2, mj_cs3, mj_cs4]) (by simp only [hh_wr, es, ↓reduceIte, hh_wr, hl_wr, b10, b11, ite_not, ne_eq, Int.reduceEq, Int.reduceLE, Int.reduceLT, Int.reduceNe, Int.reduceNeg, Int.reduceAdd, Int.reduceSub, Int.reduceMul, not_false_eq_true, not_true_eq_false, false_and, and_false, true_and, and_true, and_self, true_or, or_true, false_or, or_false, if_true, if_false, ite_true, ite_false, mj_tl_some, mj_tl_none, mj_cs0, mj_cs1, mj_cs2, mj_cs3, mj_cs4]) (by simp only [hh_wr, et, ↓reduceIte, hh_wr, hl_wr, b10, b11, ite_not, ne_eq, Int.reduceEq, Int.reduceLE, Int.reduceLT, Int.reduceNe, Int.reduceNeg, Int.reduceAdd, Int.reduceSub, Int.reduceMul, not_false_eq_true, not_true_eq_false, false_and, and_false, true_and, and_true, and_self, true_or, or_true, false_or, or_false, if_true, if_false, ite_true, ite_false, mj_tl_some, mj_tl_none, mj_cs0, mj_cs1, mj_cs2, mj_cs3, mj_cs4]) (by simp only [hh_wr, en, ↓reduceIte, hh_wr, hl_wr, b10, b11, ite_not, ne_eq, Int.reduceEq, Int.reduceLE, Int.reduceLT, Int.reduceNe, Int.reduceNeg, Int.reduceAdd, Int.reduceSub, Int.reduceMul, not_false_eq_true, not_true_eq_false, false_and, and_false, true_and, and_true, and_self, true_or, or_true, false_or, or_false, if_true, if_false, ite_true, ite_false, mj_tl_some, mj_tl_none, mj_cs0, mj_cs1, mj_cs2, mj_cs3, mj_cs4]) (fun i hi => ?_) (by omega) (by omega) (by omega) (fun M1 k1 e f g i => k M1 (((Ko.v (by decide)).wr (by decide)).tr k1) (by rw [e]; exact (rn_go hlt (decide_eq_true hs)).symm) f g (by rw [i, rn_go hlt (decide_eq_true hs)]))
        by_cases e : i < (a - s).toNat
        · exact hd i e
        · rw [show s + (i : Int) = a by omega]; exact hs
      by_cases hg : 99999 < fgv T s (a - s).toNat
      · rw [if_pos hg] at key
        simp only [w210_86, w210_87, w210_90, w210_93, w210_96, w210_99, w210_100, w210_101, w210_104, w210_106, w210_109, w210_110, w210_113, w210_116, w210_118, w210_119, w210_122, w210_123, w210_124, w210_125, w210_128, w210_131, w210_132, w210_134, w210_135, w210_138, w210_139, w210_140, w210_143, w210_144, w210_145, w210_148, ea, ev, b, eq_true hs, hlt, e1, m_isFigure, hg, show ¬ fgv T s (a - s).toNat ≤ 99999 by omega, ↓reduceIte, hh_wr, hl_wr, b10, b11, ite_not, ne_eq, Int.reduceEq, Int.reduceLE, Int.reduceLT, Int.reduceNe, Int.reduceNeg, Int.reduceAdd, Int.reduceSub, Int.reduceMul, not_false_eq_true, not_true_eq_false, false_and, and_false, true_and, and_true, and_self, true_or, or_true, false_or, or_false, if_true, if_false, ite_true, ite_false, mj_tl_some, mj_tl_none, mj_cs0, mj_cs1, mj_cs2, mj_cs3, mj_cs4]
        exact key
      · rw [if_neg hg] at key
        have e2 : ji_mul 10 (fgv T s (a - s).toNat) = 10 * fgv T s (a - s).toNat := ji_mul_eq (nn ⟨by omega, by omega⟩)
        have e3 : ji_add (10 * fgv T s (a - s).toNat) (T a) = 10 * fgv T s (a - s).toNat + T a := ji_add_eq ⟨by omega, by omega⟩
        have e4 : ji_sub (10 * fgv T s (a - s).toNat + T a) 48 = 10 * fgv T s (a - s).toNat + T a - 48 := ji_sub_eq ⟨by omega, by omega⟩
        simp only [w210_86, w210_87, w210_90, w210_93, w210_96, w210_99, w210_100, w210_101, w210_104, w210_106, w210_109, w210_110, w210_113, w210_116, w210_118, w210_119, w210_122, w210_123, w210_124, w210_125, w210_128, w210_131, w210_132, w210_134, w210_135, w210_138, w210_139, w210_140, w210_143, w210_144, w210_145, w210_148, ea, ev, b, eq_true hs, hlt, e1, e2, e3, e4, m_isFigure, hg, show fgv T s (a - s).toNat ≤ 99999 by omega, ↓reduceIte, hh_wr, hl_wr, b10, b11, ite_not, ne_eq, Int.reduceEq, Int.reduceLE, Int.reduceLT, Int.reduceNe, Int.reduceNeg, Int.reduceAdd, Int.reduceSub, Int.reduceMul, not_false_eq_true, not_true_eq_false, false_and, and_false, true_and, and_true, and_self, true_or, or_true, false_or, or_false, if_true, if_false, ite_true, ite_false, mj_tl_some, mj_tl_none, mj_cs0, mj_cs1, mj_cs2, mj_cs3, mj_cs4]
        exact key
    · simp only [w210_86, w210_87, w210_90, w210_93, w210_96, ea, b, hs, hlt, m_isFigure, ↓reduceIte, hh_wr, hl_wr, b10, b11, ite_not, ne_eq, Int.reduceEq, Int.reduceLE, Int.reduceLT, Int.reduceNe, Int.reduceNeg, Int.reduceAdd, Int.reduceSub, Int.reduceMul, not_false_eq_true, not_true_eq_false, false_and, and_false, true_and, and_true, and_self, true_or, or_true, false_or, or_false, if_true, if_false, ite_true, ite_false, mj_tl_some, mj_tl_none, mj_cs0, mj_cs1, mj_cs2, mj_cs3, mj_cs4]
      have e := rn_stop (c := dgc T) (L := L) (a := a) (fun q => hs (of_decide_eq_true q.2))
      exact k M Ko.rfl' (ea.trans e.symm) es et (by rw [e]; exact ev)
theorem rwv_r {s : Int} : ∀ n : Nat, (∀ i : Nat, i < n → ltp (T (s + i))) → 0 ≤ rwv T s n ∧ rwv T s n ≤ 1152921504606846976
  | 0, _ => ⟨Int.le_refl _, show (0 : Int) ≤ 1152921504606846976 by decide⟩
  | n + 1, h => by
    have ih := rwv_r (s := s) n (fun i hi => h i (by omega))
    have := h n (by omega)
    unfold ltp at this
    rw [rwv]
    split <;> omega
theorem m_wordL {s c : Int} (s0 : 0 ≤ s) : ∀ (n : Nat) (a : Int) (M : mj_M), RX M T L → hh M 354 12 = a → hh M 354 13 = s → hh M 354 14 = 2 → hh M 354 16 = rwv T s (a - s).toNat → (∀ i : Nat, i < (a - s).toNat → ltp (T (s + i))) → (L - a).toNat = n → s ≤ a → a ≤ L → (∀ M1, Ko 354 12 16 M M1 → hh M1 354 12 = rn (ltc T) L a → hh M1 354 13 = s → hh M1 354 14 = 2 → hh M1 354 16 = rwv T s (rn (ltc T) L a - s).toNat → wp X (d + 1) 210 310 [(32, 354), (0, c)] [] M1 Q) → wp X (d + 1) 210 168 [(32, 354), (0, c)] [] M Q := by
  intro n
  induction n with
  | zero =>
    intro a M h ea es et ev hd hn a0 aL k
    have : a = L := by omega
    have b := fun Q => m_byteAt (X := X) (d := d) (Q := Q) (k := a) h (by omega)
    rw [w210_168]
    simp only [w210_169, w210_170, w210_173, w210_176, w210_179, ea, b, m_isLetterByte, show ¬ a < L by omega, show ¬ ltp (-1) by decide, ↓reduceIte, hh_wr, hl_wr, b10, b11, ite_not, ne_eq, Int.reduceEq, Int.reduceLE, Int.reduceLT, Int.reduceNe, Int.reduceNeg, Int.reduceAdd, Int.reduceSub, Int.reduceMul, not_false_eq_true, not_true_eq_false, false_and, and_false, true_and, and_true, and_self, true_or, or_true, false_or, or_false, if_true, if_false, ite_true, ite_false, mj_tl_some, mj_tl_none, mj_cs0, mj_cs1, mj_cs2, mj_cs3, mj_cs4]
    have e := rn_stop (c := ltc T) (L := L) (a := a) (by omega)
    exact k M Ko.rfl' (ea.trans e.symm) es et (by rw [e]; exact ev)
  | succ n ih =>
    intro a M h ea es et ev hd hn a0 aL k
    have hlt : a < L := by omega
    have l9 := h.tz.l9
    have b := fun Q => m_byteAt (X := X) (d := d) (Q := Q) (k := a) h (by omega)
    have hv := rwv_r (T := T) (s := s) _ hd
    rw [w210_168]
    by_cases hs : ltp (T a)
    · have e1 : ji_add a 1 = a + 1 := aj ⟨by omega, by omega⟩
      have hb := h.tz.b a (by omega) hlt
      have en : rwv T s (a + 1 - s).toNat = if 281474976710656 ≤ rwv T s (a - s).toNat then 1152921504606846976 else rwv T s (a - s).toNat * 256 + T a := by
        rw [show (a + 1 - s).toNat = (a - s).toNat + 1 by omega, rwv, show s + ((a - s).toNat : Int) = a by omega]
      have key : wp X (d + 1) 210 168 [(32, 354), (0, c)] [] (mj_wr (mj_wr M 354 16 (if 281474976710656 ≤ rwv T s (a - s).toNat then 1152921504606846976 else rwv T s (a - s).toNat * 256 + T a)) 354 12 (a + 1)) Q := by
        refine ih (a + 1) _ (h.ko ((Ko.v (by decide)).wr (by decide))) (by simp only [hh_wr, ↓reduceIte, hh_wr, hl_wr, b10, b11, ite_not, ne_eq, Int.reduceEq, Int.reduceLE, Int.reduceLT, Int.reduceNe, Int.reduceNeg, Int.reduceAdd, Int.reduceSub, Int.reduceMul, not_false_eq_true, not_true_eq_false, false_and, and_false, true_and, and_true, and_self, true_or, or_true, false_or, or_false, if_true, if_false, ite_true, ite_false, mj_tl_some, mj_tl_none, mj_cs0, mj_cs1, mj_cs2, mj_cs3, mj_cs4]) (by simp only [hh_wr, es, ↓reduceIte, hh_wr, hl_wr, b10, b11, ite_not, ne_eq, Int.reduceEq, Int.reduceLE, Int.reduceLT, Int.reduceNe, Int.reduceNeg, Int.reduceAdd, Int.reduceSub, Int.reduceMul, not_false_eq_true, not_true_eq_false, false_and, and_false, true_and, and_true, and_self, true_or, or_true, false_or, or_false, if_true, if_false, ite_true, ite_false, mj_tl_some, mj_tl_none, mj_cs0, mj_cs1, mj_cs2, mj_cs3, mj_cs4]) (by simp only [hh_wr, et, ↓reduceIte, hh_wr, hl_wr, b10, b11, ite_not, ne_eq, Int.reduceEq, Int.reduceLE, Int.reduceLT, Int.reduceNe, Int.reduceNeg, Int.reduceAdd, Int.reduceSub, Int.reduceMul, not_false_eq_true, not_true_eq_false, false_and, and_false, true_and, and_true, and_self, true_or, or_true, false_or, or_false, if_true, if_false, ite_true, ite_false, mj_tl_some, mj_tl_none, mj_cs0, mj_cs1, mj_cs2, mj_cs3, mj_cs4]) (by simp only [hh_wr, en, ↓reduceIte, hh_wr, hl_wr, b10, b11, ite_not, ne_eq, Int.reduceEq, Int.reduceLE, Int.reduceLT, Int.reduceNe, Int.reduceNeg, Int.reduceAdd, Int.reduceSub, Int.reduceMul, not_false_eq_true, not_true_eq_false, false_and, and_false, true_and, and_true, and_self, true_or, or_true, false_or, or_false, if_true, if_false, ite_true, ite_false, mj_tl_some, mj_tl_none, mj_cs0, mj_cs1, mj_cs2, mj_cs3, mj_cs4]) (fun i hi => ?_) (by omega) (by omega) (by omega) (fun M1 k1 e f g i => k M1 (((Ko.v (by decide)).wr (by decide)).tr k1) (by rw [e]; exact (rn_go hlt (decide_eq_true hs)).symm) f g (by rw [i, rn_go hlt (decide_eq_true hs)]))
        by_cases e : i < (a - s).toNat
        · exact hd i e
        · rw [show s + (i : Int) = a by omega]; exact hs
      have esh := jl_shr48 (x := rwv T s (a - s).toNat) ⟨by omega, by omega⟩
      have ecm := jl_cmp0 (x := rwv T s (a - s).toNat / 281474976710656) ⟨by omega, by omega⟩
      by_cases hg : 281474976710656 ≤ rwv T s (a - s).toNat
      · rw [if_pos hg] at key
        have nz : ¬ rwv T s (a - s).toNat / 281474976710656 = 0 := by omega
        simp only [w210_169, w210_170, w210_173, w210_176, w210_179, w210_182, w210_183, w210_184, w210_187, w210_189, w210_190, w210_191, w210_192, w210_195, w210_198, w210_201, w210_202, w210_205, w210_207, w210_208, w210_209, w210_210, w210_213, w210_216, w210_217, w210_218, w210_221, w210_222, w210_223, w210_226, w210_227, w210_228, w210_231, ea, ev, b, hs, hlt, e1, m_isLetterByte, esh, ecm, nz, ↓reduceIte, hh_wr, hl_wr, b10, b11, ite_not, ne_eq, Int.reduceEq, Int.reduceLE, Int.reduceLT, Int.reduceNe, Int.reduceNeg, Int.reduceAdd, Int.reduceSub, Int.reduceMul, not_false_eq_true, not_true_eq_false, false_and, and_false, true_and, and_true, and_self, true_or, or_true, false_or, or_false, if_true, if_false, ite_true, ite_false, mj_tl_some, mj_tl_none, mj_cs0, mj_cs1, mj_cs2, mj_cs3, mj_cs4]
        exact key
      · rw [if_neg hg] at key
        have nz : rwv T s (a - s).toNat / 281474976710656 = 0 := by omega
        have e2 : ji_2l (T a) = T a := ji_2l_eq (nn ⟨by omega, by omega⟩)
        have e3 := jl_word (w := rwv T s (a - s).toNat) (c := T a) ⟨by omega, by omega⟩ hb
        simp only [w210_169, w210_170, w210_173, w210_176, w210_179, w210_182, w210_183, w210_184, w210_187, w210_189, w210_190, w210_191, w210_192, w210_195, w210_198, w210_201, w210_202, w210_205, w210_207, w210_208, w210_209, w210_210, w210_213, w210_216, w210_217, w210_218, w210_221, w210_222, w210_223, w210_226, w210_227, w210_228, w210_231, ea, ev, b, hs, hlt, e1, e2, e3, m_isLetterByte, esh, ecm, nz, ↓reduceIte, hh_wr, hl_wr, b10, b11, ite_not, ne_eq, Int.reduceEq, Int.reduceLE, Int.reduceLT, Int.reduceNe, Int.reduceNeg, Int.reduceAdd, Int.reduceSub, Int.reduceMul, not_false_eq_true, not_true_eq_false, false_and, and_false, true_and, and_true, and_self, true_or, or_true, false_or, or_false, if_true, if_false, ite_true, ite_false, mj_tl_some, mj_tl_none, mj_cs0, mj_cs1, mj_cs2, mj_cs3, mj_cs4]
        exact key
    · simp only [w210_169, w210_170, w210_173, w210_176, w210_179, ea, b, hs, hlt, m_isLetterByte, ↓reduceIte, hh_wr, hl_wr, b10, b11, ite_not, ne_eq, Int.reduceEq, Int.reduceLE, Int.reduceLT, Int.reduceNe, Int.reduceNeg, Int.reduceAdd, Int.reduceSub, Int.reduceMul, not_false_eq_true, not_true_eq_false, false_and, and_false, true_and, and_true, and_self, true_or, or_true, false_or, or_false, if_true, if_false, ite_true, ite_false, mj_tl_some, mj_tl_none, mj_cs0, mj_cs1, mj_cs2, mj_cs3, mj_cs4]
      have e := rn_stop (c := ltc T) (L := L) (a := a) (fun q => hs (of_decide_eq_true q.2))
      exact k M Ko.rfl' (ea.trans e.symm) es et (by rw [e]; exact ev)
end RLex
