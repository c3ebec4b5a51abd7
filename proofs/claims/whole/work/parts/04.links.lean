/-! THE METHODS AND LINKS ARE THE STATEMENT'S -/
theorem mj_c1 {w : Cond} (h : w ∈ tables_1_1) : w ∈ tables_1 := List.mem_append_left _ h
theorem mj_c2 {w : Cond} (h : w ∈ tables_1_2) : w ∈ tables_1 := List.mem_append_right _ (List.mem_append_left _ h)
theorem mj_c3 {w : Cond} (h : w ∈ tables_1_3) : w ∈ tables_1 := List.mem_append_right _ (List.mem_append_right _ (List.mem_append_left _ h))
theorem mj_c4 {w : Cond} (h : w ∈ tables_1_4) : w ∈ tables_1 := List.mem_append_right _ (List.mem_append_right _ (List.mem_append_right _ (List.mem_append_left _ h)))
theorem mj_c5 {w : Cond} (h : w ∈ tables_1_5) : w ∈ tables_1 := List.mem_append_right _ (List.mem_append_right _ (List.mem_append_right _ (List.mem_append_right _ (List.mem_append_left _ h))))
theorem mj_c6 {w : Cond} (h : w ∈ tables_1_6) : w ∈ tables_1 := List.mem_append_right _ (List.mem_append_right _ (List.mem_append_right _ (List.mem_append_right _ (List.mem_append_right _ (List.mem_append_left _ h)))))
theorem mj_c7 {w : Cond} (h : w ∈ tables_1_7) : w ∈ tables_1 := List.mem_append_right _ (List.mem_append_right _ (List.mem_append_right _ (List.mem_append_right _ (List.mem_append_right _ (List.mem_append_right _ (List.mem_append_left _ h))))))
theorem mj_c8 {w : Cond} (h : w ∈ tables_1_8) : w ∈ tables_1 := List.mem_append_right _ (List.mem_append_right _ (List.mem_append_right _ (List.mem_append_right _ (List.mem_append_right _ (List.mem_append_right _ (List.mem_append_right _ (List.mem_append_left _ h)))))))
theorem mj_c9 {w : Cond} (h : w ∈ tables_1_9) : w ∈ tables_1 := List.mem_append_right _ (List.mem_append_right _ (List.mem_append_right _ (List.mem_append_right _ (List.mem_append_right _ (List.mem_append_right _ (List.mem_append_right _ (List.mem_append_right _ (h))))))))
def mj_rty (k : Nat) : Option FieldType := (parseMethodDescriptor (mj_yn k).desc).bind (fun d => d.returnType)
def mj_cq (k : Nat) : Cond := .code (mj_yn k) (mj_cd k) (mj_mi k).2.1 (mj_rty k)
def mj_np (k : Nat) : Option Nat := (parseMethodDescriptor (mj_yn k).desc).map (fun d => d.parameters.length)
def mj_kdl : List Nat := [1, 1, 0, 0, 1, 1, 1, 1, 1, 1, 1, 1, 1, 2, 2, 2, 2, 2, 2, 2, 2, 0, 2, 2, 2, 2, 2, 2, 0, 2, 0, 2, 2, 2, 2, 0, 0, 0, 0, 2, 2, 2, 2, 2, 2, 0, 0, 0, 0, 2, 0, 2, 2, 2, 2, 2, 2, 2, 0, 2, 2, 2, 2, 2, 2, 2, 2, 2, 0, 1, 2, 2, 2, 2, 2, 2, 2, 2, 2, 2, 2, 2, 2, 2, 0, 0, 2, 0, 0, 2, 2, 2, 2, 2, 2, 2, 2, 2, 2, 2, 0, 2, 2, 2, 2, 2, 2, 2, 2, 2, 2, 2, 2, 2, 2, 2, 2, 2, 2, 2, 2, 2, 2, 2, 2, 2, 2, 2, 2, 2, 2, 2, 2, 0, 0, 2, 2, 2, 2, 2, 2, 2, 2, 2, 2, 2, 2, 0, 2, 2, 2, 2, 2, 2, 2, 2, 2, 2, 2, 2, 2, 2, 2, 2, 2, 2, 2, 0, 2, 2, 2, 2, 2, 2, 2, 2, 2, 2, 2, 2, 2, 2, 2, 2, 2, 2, 2, 2, 2, 1, 2, 2, 0, 0, 0, 2, 2, 0, 2, 2, 2, 2, 2, 2, 2, 2, 2, 2, 2, 2, 2, 2, 0, 0, 0, 2, 2, 0, 0, 0, 0, 2, 0, 0, 2, 2, 2, 2, 2, 2, 2, 2, 2, 2, 2, 0, 2, 2, 2, 2, 2, 2, 2, 2, 2, 2, 2, 2, 2, 2, 2, 2, 2, 2, 0, 2, 2, 2, 2, 2, 2, 2, 2, 2, 2, 0, 2, 2, 2, 0, 2, 2, 0, 0, 0, 0, 0, 2, 2, 2, 2, 2, 2, 2, 2, 2, 2, 2, 2, 2, 2, 2, 2, 2, 2, 2, 2, 2, 2, 2, 2, 2, 2, 2, 2, 2, 2, 2, 2, 2, 2, 2, 2, 2, 2, 2, 2, 0, 2, 2, 2, 2, 2, 2, 2, 2, 2, 2, 2, 2, 2, 2, 2, 2, 2, 0]
/-- 0 a static one, 1 a maker, 2 another -/
def mj_kd (k : Nat) : Nat := mj_kdl.getD k 0
def mj_mF (k : Nat) : Prop := mj_cq k ∈ mj_tb ∧ Cond.initialized (mj_yn k).cls ∈ mj_tb ∧ (match mj_kd k with
  | 0 => Cond.static (mj_yn k) ∈ mj_tb
  | 1 => Cond.instanceMethod (mj_yn k) ∈ mj_tb
  | _ => Cond.instanceMethod (mj_yn k) ∈ mj_tb ∧ Cond.selects (mj_yn k).cls (mj_yn k) (mj_yn k) ∈ mj_tb)
theorem mj_m0 : mj_mF 0 := ⟨(mj_tb_in (mj_c1 (List.mem_of_getElem? (i := 27) rfl)) rfl), (mj_tb_in (mj_c1 (List.mem_of_getElem? (i := 1) rfl)) rfl), (mj_tb_in (mj_c1 (List.mem_of_getElem? (i := 26) rfl)) rfl)⟩
theorem mj_m1 : mj_mF 1 := ⟨(mj_tb_in (mj_c1 (List.mem_of_getElem? (i := 35) rfl)) rfl), (mj_tb_in (mj_c1 (List.mem_of_getElem? (i := 2) rfl)) rfl), (mj_tb_in (mj_c1 (List.mem_of_getElem? (i := 34) rfl)) rfl)⟩
theorem mj_m2 : mj_mF 2 := ⟨(mj_tb_in (mj_c1 (List.mem_of_getElem? (i := 39) rfl)) rfl), (mj_tb_in (mj_c1 (List.mem_of_getElem? (i := 2) rfl)) rfl), (mj_tb_in (mj_c1 (List.mem_of_getElem? (i := 38) rfl)) rfl)⟩
theorem mj_m3 : mj_mF 3 := ⟨(mj_tb_in (mj_c1 (List.mem_of_getElem? (i := 42) rfl)) rfl), (mj_tb_in (mj_c1 (List.mem_of_getElem? (i := 2) rfl)) rfl), (mj_tb_in (mj_c1 (List.mem_of_getElem? (i := 41) rfl)) rfl)⟩
theorem mj_m4 : mj_mF 4 := ⟨(mj_tb_in (mj_c1 (List.mem_of_getElem? (i := 55) rfl)) rfl), (mj_tb_in (mj_c1 (List.mem_of_getElem? (i := 3) rfl)) rfl), (mj_tb_in (mj_c1 (List.mem_of_getElem? (i := 54) rfl)) rfl)⟩
theorem mj_m5 : mj_mF 5 := ⟨(mj_tb_in (mj_c1 (List.mem_of_getElem? (i := 61) rfl)) rfl), (mj_tb_in (mj_c1 (List.mem_of_getElem? (i := 4) rfl)) rfl), (mj_tb_in (mj_c1 (List.mem_of_getElem? (i := 60) rfl)) rfl)⟩
theorem mj_m6 : mj_mF 6 := ⟨(mj_tb_in (mj_c1 (List.mem_of_getElem? (i := 88) rfl)) rfl), (mj_tb_in (mj_c1 (List.mem_of_getElem? (i := 5) rfl)) rfl), (mj_tb_in (mj_c1 (List.mem_of_getElem? (i := 87) rfl)) rfl)⟩
theorem mj_m7 : mj_mF 7 := ⟨(mj_tb_in (mj_c1 (List.mem_of_getElem? (i := 137) rfl)) rfl), (mj_tb_in (mj_c1 (List.mem_of_getElem? (i := 6) rfl)) rfl), (mj_tb_in (mj_c1 (List.mem_of_getElem? (i := 136) rfl)) rfl)⟩
theorem mj_m8 : mj_mF 8 := ⟨(mj_tb_in (mj_c1 (List.mem_of_getElem? (i := 212) rfl)) rfl), (mj_tb_in (mj_c1 (List.mem_of_getElem? (i := 7) rfl)) rfl), (mj_tb_in (mj_c1 (List.mem_of_getElem? (i := 211) rfl)) rfl)⟩
theorem mj_m9 : mj_mF 9 := ⟨(mj_tb_in (mj_c1 (List.mem_of_getElem? (i := 222) rfl)) rfl), (mj_tb_in (mj_c1 (List.mem_of_getElem? (i := 8) rfl)) rfl), (mj_tb_in (mj_c1 (List.mem_of_getElem? (i := 221) rfl)) rfl)⟩
theorem mj_m10 : mj_mF 10 := ⟨(mj_tb_in (mj_c2 (List.mem_of_getElem? (i := 0) rfl)) rfl), (mj_tb_in (mj_c1 (List.mem_of_getElem? (i := 9) rfl)) rfl), (mj_tb_in (mj_c1 (List.mem_of_getElem? (i := 239) rfl)) rfl)⟩
theorem mj_m11 : mj_mF 11 := ⟨(mj_tb_in (mj_c2 (List.mem_of_getElem? (i := 20) rfl)) rfl), (mj_tb_in (mj_c1 (List.mem_of_getElem? (i := 10) rfl)) rfl), (mj_tb_in (mj_c2 (List.mem_of_getElem? (i := 19) rfl)) rfl)⟩
theorem mj_m12 : mj_mF 12 := ⟨(mj_tb_in (mj_c2 (List.mem_of_getElem? (i := 36) rfl)) rfl), (mj_tb_in (mj_c1 (List.mem_of_getElem? (i := 11) rfl)) rfl), (mj_tb_in (mj_c2 (List.mem_of_getElem? (i := 35) rfl)) rfl)⟩
theorem mj_m13 : mj_mF 13 := ⟨(mj_tb_in (mj_c2 (List.mem_of_getElem? (i := 135) rfl)) rfl), (mj_tb_in (mj_c1 (List.mem_of_getElem? (i := 1) rfl)) rfl), ⟨(mj_tb_in (mj_c2 (List.mem_of_getElem? (i := 133) rfl)) rfl), (mj_tb_in (mj_c2 (List.mem_of_getElem? (i := 134) rfl)) rfl)⟩⟩
theorem mj_m14 : mj_mF 14 := ⟨(mj_tb_in (mj_c2 (List.mem_of_getElem? (i := 139) rfl)) rfl), (mj_tb_in (mj_c1 (List.mem_of_getElem? (i := 4) rfl)) rfl), ⟨(mj_tb_in (mj_c2 (List.mem_of_getElem? (i := 137) rfl)) rfl), (mj_tb_in (mj_c2 (List.mem_of_getElem? (i := 138) rfl)) rfl)⟩⟩
theorem mj_m15 : mj_mF 15 := ⟨(mj_tb_in (mj_c2 (List.mem_of_getElem? (i := 143) rfl)) rfl), (mj_tb_in (mj_c1 (List.mem_of_getElem? (i := 1) rfl)) rfl), ⟨(mj_tb_in (mj_c2 (List.mem_of_getElem? (i := 141) rfl)) rfl), (mj_tb_in (mj_c2 (List.mem_of_getElem? (i := 142) rfl)) rfl)⟩⟩
theorem mj_m16 : mj_mF 16 := ⟨(mj_tb_in (mj_c2 (List.mem_of_getElem? (i := 147) rfl)) rfl), (mj_tb_in (mj_c1 (List.mem_of_getElem? (i := 3) rfl)) rfl), ⟨(mj_tb_in (mj_c2 (List.mem_of_getElem? (i := 145) rfl)) rfl), (mj_tb_in (mj_c2 (List.mem_of_getElem? (i := 146) rfl)) rfl)⟩⟩
theorem mj_m17 : mj_mF 17 := ⟨(mj_tb_in (mj_c2 (List.mem_of_getElem? (i := 151) rfl)) rfl), (mj_tb_in (mj_c1 (List.mem_of_getElem? (i := 4) rfl)) rfl), ⟨(mj_tb_in (mj_c2 (List.mem_of_getElem? (i := 149) rfl)) rfl), (mj_tb_in (mj_c2 (List.mem_of_getElem? (i := 150) rfl)) rfl)⟩⟩
theorem mj_m18 : mj_mF 18 := ⟨(mj_tb_in (mj_c2 (List.mem_of_getElem? (i := 155) rfl)) rfl), (mj_tb_in (mj_c1 (List.mem_of_getElem? (i := 5) rfl)) rfl), ⟨(mj_tb_in (mj_c2 (List.mem_of_getElem? (i := 153) rfl)) rfl), (mj_tb_in (mj_c2 (List.mem_of_getElem? (i := 154) rfl)) rfl)⟩⟩
theorem mj_m19 : mj_mF 19 := ⟨(mj_tb_in (mj_c2 (List.mem_of_getElem? (i := 159) rfl)) rfl), (mj_tb_in (mj_c1 (List.mem_of_getElem? (i := 1) rfl)) rfl), ⟨(mj_tb_in (mj_c2 (List.mem_of_getElem? (i := 157) rfl)) rfl), (mj_tb_in (mj_c2 (List.mem_of_getElem? (i := 158) rfl)) rfl)⟩⟩
theorem mj_m20 : mj_mF 20 := ⟨(mj_tb_in (mj_c2 (List.mem_of_getElem? (i := 163) rfl)) rfl), (mj_tb_in (mj_c1 (List.mem_of_getElem? (i := 3) rfl)) rfl), ⟨(mj_tb_in (mj_c2 (List.mem_of_getElem? (i := 161) rfl)) rfl), (mj_tb_in (mj_c2 (List.mem_of_getElem? (i := 162) rfl)) rfl)⟩⟩
theorem mj_m21 : mj_mF 21 := ⟨(mj_tb_in (mj_c2 (List.mem_of_getElem? (i := 166) rfl)) rfl), (mj_tb_in (mj_c1 (List.mem_of_getElem? (i := 1) rfl)) rfl), (mj_tb_in (mj_c2 (List.mem_of_getElem? (i := 165) rfl)) rfl)⟩
theorem mj_m22 : mj_mF 22 := ⟨(mj_tb_in (mj_c2 (List.mem_of_getElem? (i := 170) rfl)) rfl), (mj_tb_in (mj_c1 (List.mem_of_getElem? (i := 1) rfl)) rfl), ⟨(mj_tb_in (mj_c2 (List.mem_of_getElem? (i := 168) rfl)) rfl), (mj_tb_in (mj_c2 (List.mem_of_getElem? (i := 169) rfl)) rfl)⟩⟩
theorem mj_m23 : mj_mF 23 := ⟨(mj_tb_in (mj_c2 (List.mem_of_getElem? (i := 174) rfl)) rfl), (mj_tb_in (mj_c1 (List.mem_of_getElem? (i := 1) rfl)) rfl), ⟨(mj_tb_in (mj_c2 (List.mem_of_getElem? (i := 173) rfl)) rfl), (List.mem_filter.mpr ⟨List.mem_append_left _ (List.mem_of_getElem? (i := 0) rfl), rfl⟩)⟩⟩
theorem mj_m24 : mj_mF 24 := ⟨(mj_tb_in (mj_c2 (List.mem_of_getElem? (i := 178) rfl)) rfl), (mj_tb_in (mj_c1 (List.mem_of_getElem? (i := 1) rfl)) rfl), ⟨(mj_tb_in (mj_c2 (List.mem_of_getElem? (i := 176) rfl)) rfl), (mj_tb_in (mj_c2 (List.mem_of_getElem? (i := 177) rfl)) rfl)⟩⟩
theorem mj_m25 : mj_mF 25 := ⟨(mj_tb_in (mj_c2 (List.mem_of_getElem? (i := 182) rfl)) rfl), (mj_tb_in (mj_c1 (List.mem_of_getElem? (i := 1) rfl)) rfl), ⟨(mj_tb_in (mj_c2 (List.mem_of_getElem? (i := 180) rfl)) rfl), (mj_tb_in (mj_c2 (List.mem_of_getElem? (i := 181) rfl)) rfl)⟩⟩
theorem mj_m26 : mj_mF 26 := ⟨(mj_tb_in (mj_c2 (List.mem_of_getElem? (i := 186) rfl)) rfl), (mj_tb_in (mj_c1 (List.mem_of_getElem? (i := 11) rfl)) rfl), ⟨(mj_tb_in (mj_c2 (List.mem_of_getElem? (i := 184) rfl)) rfl), (mj_tb_in (mj_c2 (List.mem_of_getElem? (i := 185) rfl)) rfl)⟩⟩
theorem mj_m27 : mj_mF 27 := ⟨(mj_tb_in (mj_c2 (List.mem_of_getElem? (i := 190) rfl)) rfl), (mj_tb_in (mj_c1 (List.mem_of_getElem? (i := 11) rfl)) rfl), ⟨(mj_tb_in (mj_c2 (List.mem_of_getElem? (i := 189) rfl)) rfl), (List.mem_filter.mpr ⟨List.mem_append_left _ (List.mem_of_getElem? (i := 1) rfl), rfl⟩)⟩⟩
theorem mj_m28 : mj_mF 28 := ⟨(mj_tb_in (mj_c2 (List.mem_of_getElem? (i := 193) rfl)) rfl), (mj_tb_in (mj_c1 (List.mem_of_getElem? (i := 13) rfl)) rfl), (mj_tb_in (mj_c2 (List.mem_of_getElem? (i := 192) rfl)) rfl)⟩
theorem mj_m29 : mj_mF 29 := ⟨(mj_tb_in (mj_c2 (List.mem_of_getElem? (i := 197) rfl)) rfl), (mj_tb_in (mj_c1 (List.mem_of_getElem? (i := 11) rfl)) rfl), ⟨(mj_tb_in (mj_c2 (List.mem_of_getElem? (i := 196) rfl)) rfl), (List.mem_filter.mpr ⟨List.mem_append_left _ (List.mem_of_getElem? (i := 2) rfl), rfl⟩)⟩⟩
theorem mj_m30 : mj_mF 30 := ⟨(mj_tb_in (mj_c2 (List.mem_of_getElem? (i := 200) rfl)) rfl), (mj_tb_in (mj_c1 (List.mem_of_getElem? (i := 11) rfl)) rfl), (mj_tb_in (mj_c2 (List.mem_of_getElem? (i := 199) rfl)) rfl)⟩
theorem mj_m31 : mj_mF 31 := ⟨(mj_tb_in (mj_c2 (List.mem_of_getElem? (i := 204) rfl)) rfl), (mj_tb_in (mj_c1 (List.mem_of_getElem? (i := 11) rfl)) rfl), ⟨(mj_tb_in (mj_c2 (List.mem_of_getElem? (i := 203) rfl)) rfl), (List.mem_filter.mpr ⟨List.mem_append_left _ (List.mem_of_getElem? (i := 3) rfl), rfl⟩)⟩⟩
theorem mj_m32 : mj_mF 32 := ⟨(mj_tb_in (mj_c2 (List.mem_of_getElem? (i := 208) rfl)) rfl), (mj_tb_in (mj_c1 (List.mem_of_getElem? (i := 11) rfl)) rfl), ⟨(mj_tb_in (mj_c2 (List.mem_of_getElem? (i := 207) rfl)) rfl), (List.mem_filter.mpr ⟨List.mem_append_left _ (List.mem_of_getElem? (i := 4) rfl), rfl⟩)⟩⟩
theorem mj_m33 : mj_mF 33 := ⟨(mj_tb_in (mj_c2 (List.mem_of_getElem? (i := 213) rfl)) rfl), (mj_tb_in (mj_c1 (List.mem_of_getElem? (i := 14) rfl)) rfl), ⟨(mj_tb_in (mj_c2 (List.mem_of_getElem? (i := 211) rfl)) rfl), (mj_tb_in (mj_c2 (List.mem_of_getElem? (i := 212) rfl)) rfl)⟩⟩
theorem mj_m34 : mj_mF 34 := ⟨(mj_tb_in (mj_c2 (List.mem_of_getElem? (i := 217) rfl)) rfl), (mj_tb_in (mj_c1 (List.mem_of_getElem? (i := 14) rfl)) rfl), ⟨(mj_tb_in (mj_c2 (List.mem_of_getElem? (i := 215) rfl)) rfl), (mj_tb_in (mj_c2 (List.mem_of_getElem? (i := 216) rfl)) rfl)⟩⟩
theorem mj_m35 : mj_mF 35 := ⟨(mj_tb_in (mj_c2 (List.mem_of_getElem? (i := 222) rfl)) rfl), (mj_tb_in (mj_c1 (List.mem_of_getElem? (i := 15) rfl)) rfl), (mj_tb_in (mj_c2 (List.mem_of_getElem? (i := 221) rfl)) rfl)⟩
theorem mj_m36 : mj_mF 36 := ⟨(mj_tb_in (mj_c2 (List.mem_of_getElem? (i := 225) rfl)) rfl), (mj_tb_in (mj_c1 (List.mem_of_getElem? (i := 14) rfl)) rfl), (mj_tb_in (mj_c2 (List.mem_of_getElem? (i := 224) rfl)) rfl)⟩
theorem mj_m37 : mj_mF 37 := ⟨(mj_tb_in (mj_c2 (List.mem_of_getElem? (i := 230) rfl)) rfl), (mj_tb_in (mj_c1 (List.mem_of_getElem? (i := 16) rfl)) rfl), (mj_tb_in (mj_c2 (List.mem_of_getElem? (i := 229) rfl)) rfl)⟩
theorem mj_m38 : mj_mF 38 := ⟨(mj_tb_in (mj_c3 (List.mem_of_getElem? (i := 12) rfl)) rfl), (mj_tb_in (mj_c1 (List.mem_of_getElem? (i := 11) rfl)) rfl), (mj_tb_in (mj_c3 (List.mem_of_getElem? (i := 11) rfl)) rfl)⟩
theorem mj_m39 : mj_mF 39 := ⟨(mj_tb_in (mj_c3 (List.mem_of_getElem? (i := 16) rfl)) rfl), (mj_tb_in (mj_c1 (List.mem_of_getElem? (i := 11) rfl)) rfl), ⟨(mj_tb_in (mj_c3 (List.mem_of_getElem? (i := 15) rfl)) rfl), (List.mem_filter.mpr ⟨List.mem_append_left _ (List.mem_of_getElem? (i := 5) rfl), rfl⟩)⟩⟩
theorem mj_m40 : mj_mF 40 := ⟨(mj_tb_in (mj_c3 (List.mem_of_getElem? (i := 20) rfl)) rfl), (mj_tb_in (mj_c1 (List.mem_of_getElem? (i := 11) rfl)) rfl), ⟨(mj_tb_in (mj_c3 (List.mem_of_getElem? (i := 19) rfl)) rfl), (List.mem_filter.mpr ⟨List.mem_append_left _ (List.mem_of_getElem? (i := 6) rfl), rfl⟩)⟩⟩
theorem mj_m41 : mj_mF 41 := ⟨(mj_tb_in (mj_c3 (List.mem_of_getElem? (i := 25) rfl)) rfl), (mj_tb_in (mj_c1 (List.mem_of_getElem? (i := 14) rfl)) rfl), ⟨(mj_tb_in (mj_c3 (List.mem_of_getElem? (i := 23) rfl)) rfl), (mj_tb_in (mj_c3 (List.mem_of_getElem? (i := 24) rfl)) rfl)⟩⟩
theorem mj_m42 : mj_mF 42 := ⟨(mj_tb_in (mj_c3 (List.mem_of_getElem? (i := 29) rfl)) rfl), (mj_tb_in (mj_c1 (List.mem_of_getElem? (i := 14) rfl)) rfl), ⟨(mj_tb_in (mj_c3 (List.mem_of_getElem? (i := 27) rfl)) rfl), (mj_tb_in (mj_c3 (List.mem_of_getElem? (i := 28) rfl)) rfl)⟩⟩
theorem mj_m43 : mj_mF 43 := ⟨(mj_tb_in (mj_c3 (List.mem_of_getElem? (i := 33) rfl)) rfl), (mj_tb_in (mj_c1 (List.mem_of_getElem? (i := 14) rfl)) rfl), ⟨(mj_tb_in (mj_c3 (List.mem_of_getElem? (i := 31) rfl)) rfl), (mj_tb_in (mj_c3 (List.mem_of_getElem? (i := 32) rfl)) rfl)⟩⟩
theorem mj_m44 : mj_mF 44 := ⟨(mj_tb_in (mj_c3 (List.mem_of_getElem? (i := 37) rfl)) rfl), (mj_tb_in (mj_c1 (List.mem_of_getElem? (i := 14) rfl)) rfl), ⟨(mj_tb_in (mj_c3 (List.mem_of_getElem? (i := 35) rfl)) rfl), (mj_tb_in (mj_c3 (List.mem_of_getElem? (i := 36) rfl)) rfl)⟩⟩
theorem mj_m45 : mj_mF 45 := ⟨(mj_tb_in (mj_c3 (List.mem_of_getElem? (i := 40) rfl)) rfl), (mj_tb_in (mj_c1 (List.mem_of_getElem? (i := 15) rfl)) rfl), (mj_tb_in (mj_c3 (List.mem_of_getElem? (i := 39) rfl)) rfl)⟩
theorem mj_m46 : mj_mF 46 := ⟨(mj_tb_in (mj_c3 (List.mem_of_getElem? (i := 43) rfl)) rfl), (mj_tb_in (mj_c1 (List.mem_of_getElem? (i := 15) rfl)) rfl), (mj_tb_in (mj_c3 (List.mem_of_getElem? (i := 42) rfl)) rfl)⟩
theorem mj_m47 : mj_mF 47 := ⟨(mj_tb_in (mj_c3 (List.mem_of_getElem? (i := 46) rfl)) rfl), (mj_tb_in (mj_c1 (List.mem_of_getElem? (i := 13) rfl)) rfl), (mj_tb_in (mj_c3 (List.mem_of_getElem? (i := 45) rfl)) rfl)⟩
theorem mj_m48 : mj_mF 48 := ⟨(mj_tb_in (mj_c3 (List.mem_of_getElem? (i := 50) rfl)) rfl), (mj_tb_in (mj_c1 (List.mem_of_getElem? (i := 15) rfl)) rfl), (mj_tb_in (mj_c3 (List.mem_of_getElem? (i := 49) rfl)) rfl)⟩
theorem mj_m49 : mj_mF 49 := ⟨(mj_tb_in (mj_c3 (List.mem_of_getElem? (i := 89) rfl)) rfl), (mj_tb_in (mj_c1 (List.mem_of_getElem? (i := 11) rfl)) rfl), ⟨(mj_tb_in (mj_c3 (List.mem_of_getElem? (i := 88) rfl)) rfl), (List.mem_filter.mpr ⟨List.mem_append_left _ (List.mem_of_getElem? (i := 7) rfl), rfl⟩)⟩⟩
theorem mj_m50 : mj_mF 50 := ⟨(mj_tb_in (mj_c3 (List.mem_of_getElem? (i := 92) rfl)) rfl), (mj_tb_in (mj_c1 (List.mem_of_getElem? (i := 11) rfl)) rfl), (mj_tb_in (mj_c3 (List.mem_of_getElem? (i := 91) rfl)) rfl)⟩
theorem mj_m51 : mj_mF 51 := ⟨(mj_tb_in (mj_c3 (List.mem_of_getElem? (i := 96) rfl)) rfl), (mj_tb_in (mj_c1 (List.mem_of_getElem? (i := 11) rfl)) rfl), ⟨(mj_tb_in (mj_c3 (List.mem_of_getElem? (i := 95) rfl)) rfl), (List.mem_filter.mpr ⟨List.mem_append_left _ (List.mem_of_getElem? (i := 8) rfl), rfl⟩)⟩⟩
theorem mj_m52 : mj_mF 52 := ⟨(mj_tb_in (mj_c3 (List.mem_of_getElem? (i := 100) rfl)) rfl), (mj_tb_in (mj_c1 (List.mem_of_getElem? (i := 11) rfl)) rfl), ⟨(mj_tb_in (mj_c3 (List.mem_of_getElem? (i := 99) rfl)) rfl), (List.mem_filter.mpr ⟨List.mem_append_left _ (List.mem_of_getElem? (i := 9) rfl), rfl⟩)⟩⟩
theorem mj_m53 : mj_mF 53 := ⟨(mj_tb_in (mj_c3 (List.mem_of_getElem? (i := 104) rfl)) rfl), (mj_tb_in (mj_c1 (List.mem_of_getElem? (i := 11) rfl)) rfl), ⟨(mj_tb_in (mj_c3 (List.mem_of_getElem? (i := 103) rfl)) rfl), (List.mem_filter.mpr ⟨List.mem_append_left _ (List.mem_of_getElem? (i := 10) rfl), rfl⟩)⟩⟩
theorem mj_m54 : mj_mF 54 := ⟨(mj_tb_in (mj_c3 (List.mem_of_getElem? (i := 108) rfl)) rfl), (mj_tb_in (mj_c1 (List.mem_of_getElem? (i := 11) rfl)) rfl), ⟨(mj_tb_in (mj_c3 (List.mem_of_getElem? (i := 107) rfl)) rfl), (List.mem_filter.mpr ⟨List.mem_append_left _ (List.mem_of_getElem? (i := 11) rfl), rfl⟩)⟩⟩
theorem mj_m55 : mj_mF 55 := ⟨(mj_tb_in (mj_c3 (List.mem_of_getElem? (i := 112) rfl)) rfl), (mj_tb_in (mj_c1 (List.mem_of_getElem? (i := 11) rfl)) rfl), ⟨(mj_tb_in (mj_c3 (List.mem_of_getElem? (i := 111) rfl)) rfl), (List.mem_filter.mpr ⟨List.mem_append_left _ (List.mem_of_getElem? (i := 12) rfl), rfl⟩)⟩⟩
theorem mj_m56 : mj_mF 56 := ⟨(mj_tb_in (mj_c3 (List.mem_of_getElem? (i := 116) rfl)) rfl), (mj_tb_in (mj_c1 (List.mem_of_getElem? (i := 11) rfl)) rfl), ⟨(mj_tb_in (mj_c3 (List.mem_of_getElem? (i := 115) rfl)) rfl), (List.mem_filter.mpr ⟨List.mem_append_left _ (List.mem_of_getElem? (i := 13) rfl), rfl⟩)⟩⟩
theorem mj_m57 : mj_mF 57 := ⟨(mj_tb_in (mj_c3 (List.mem_of_getElem? (i := 120) rfl)) rfl), (mj_tb_in (mj_c1 (List.mem_of_getElem? (i := 11) rfl)) rfl), ⟨(mj_tb_in (mj_c3 (List.mem_of_getElem? (i := 119) rfl)) rfl), (List.mem_filter.mpr ⟨List.mem_append_left _ (List.mem_of_getElem? (i := 14) rfl), rfl⟩)⟩⟩
theorem mj_m58 : mj_mF 58 := ⟨(mj_tb_in (mj_c3 (List.mem_of_getElem? (i := 123) rfl)) rfl), (mj_tb_in (mj_c1 (List.mem_of_getElem? (i := 7) rfl)) rfl), (mj_tb_in (mj_c3 (List.mem_of_getElem? (i := 122) rfl)) rfl)⟩
theorem mj_m59 : mj_mF 59 := ⟨(mj_tb_in (mj_c3 (List.mem_of_getElem? (i := 127) rfl)) rfl), (mj_tb_in (mj_c1 (List.mem_of_getElem? (i := 11) rfl)) rfl), ⟨(mj_tb_in (mj_c3 (List.mem_of_getElem? (i := 126) rfl)) rfl), (List.mem_filter.mpr ⟨List.mem_append_left _ (List.mem_of_getElem? (i := 15) rfl), rfl⟩)⟩⟩
theorem mj_m60 : mj_mF 60 := ⟨(mj_tb_in (mj_c3 (List.mem_of_getElem? (i := 131) rfl)) rfl), (mj_tb_in (mj_c1 (List.mem_of_getElem? (i := 11) rfl)) rfl), ⟨(mj_tb_in (mj_c3 (List.mem_of_getElem? (i := 130) rfl)) rfl), (List.mem_filter.mpr ⟨List.mem_append_left _ (List.mem_of_getElem? (i := 16) rfl), rfl⟩)⟩⟩
theorem mj_m61 : mj_mF 61 := ⟨(mj_tb_in (mj_c3 (List.mem_of_getElem? (i := 135) rfl)) rfl), (mj_tb_in (mj_c1 (List.mem_of_getElem? (i := 11) rfl)) rfl), ⟨(mj_tb_in (mj_c3 (List.mem_of_getElem? (i := 134) rfl)) rfl), (List.mem_filter.mpr ⟨List.mem_append_left _ (List.mem_of_getElem? (i := 17) rfl), rfl⟩)⟩⟩
theorem mj_m62 : mj_mF 62 := ⟨(mj_tb_in (mj_c3 (List.mem_of_getElem? (i := 139) rfl)) rfl), (mj_tb_in (mj_c1 (List.mem_of_getElem? (i := 11) rfl)) rfl), ⟨(mj_tb_in (mj_c3 (List.mem_of_getElem? (i := 138) rfl)) rfl), (List.mem_filter.mpr ⟨List.mem_append_left _ (List.mem_of_getElem? (i := 18) rfl), rfl⟩)⟩⟩
theorem mj_m63 : mj_mF 63 := ⟨(mj_tb_in (mj_c3 (List.mem_of_getElem? (i := 143) rfl)) rfl), (mj_tb_in (mj_c1 (List.mem_of_getElem? (i := 11) rfl)) rfl), ⟨(mj_tb_in (mj_c3 (List.mem_of_getElem? (i := 142) rfl)) rfl), (List.mem_filter.mpr ⟨List.mem_append_left _ (List.mem_of_getElem? (i := 19) rfl), rfl⟩)⟩⟩
theorem mj_m64 : mj_mF 64 := ⟨(mj_tb_in (mj_c3 (List.mem_of_getElem? (i := 147) rfl)) rfl), (mj_tb_in (mj_c1 (List.mem_of_getElem? (i := 11) rfl)) rfl), ⟨(mj_tb_in (mj_c3 (List.mem_of_getElem? (i := 146) rfl)) rfl), (List.mem_filter.mpr ⟨List.mem_append_left _ (List.mem_of_getElem? (i := 20) rfl), rfl⟩)⟩⟩
theorem mj_m65 : mj_mF 65 := ⟨(mj_tb_in (mj_c3 (List.mem_of_getElem? (i := 151) rfl)) rfl), (mj_tb_in (mj_c1 (List.mem_of_getElem? (i := 11) rfl)) rfl), ⟨(mj_tb_in (mj_c3 (List.mem_of_getElem? (i := 150) rfl)) rfl), (List.mem_filter.mpr ⟨List.mem_append_left _ (List.mem_of_getElem? (i := 21) rfl), rfl⟩)⟩⟩
theorem mj_m66 : mj_mF 66 := ⟨(mj_tb_in (mj_c3 (List.mem_of_getElem? (i := 155) rfl)) rfl), (mj_tb_in (mj_c1 (List.mem_of_getElem? (i := 11) rfl)) rfl), ⟨(mj_tb_in (mj_c3 (List.mem_of_getElem? (i := 154) rfl)) rfl), (List.mem_filter.mpr ⟨List.mem_append_left _ (List.mem_of_getElem? (i := 22) rfl), rfl⟩)⟩⟩
theorem mj_m67 : mj_mF 67 := ⟨(mj_tb_in (mj_c3 (List.mem_of_getElem? (i := 159) rfl)) rfl), (mj_tb_in (mj_c1 (List.mem_of_getElem? (i := 11) rfl)) rfl), ⟨(mj_tb_in (mj_c3 (List.mem_of_getElem? (i := 158) rfl)) rfl), (List.mem_filter.mpr ⟨List.mem_append_left _ (List.mem_of_getElem? (i := 23) rfl), rfl⟩)⟩⟩
theorem mj_m68 : mj_mF 68 := ⟨(mj_tb_in (mj_c3 (List.mem_of_getElem? (i := 164) rfl)) rfl), (mj_tb_in (mj_c1 (List.mem_of_getElem? (i := 20) rfl)) rfl), (mj_tb_in (mj_c3 (List.mem_of_getElem? (i := 163) rfl)) rfl)⟩
theorem mj_m69 : mj_mF 69 := ⟨(mj_tb_in (mj_c3 (List.mem_of_getElem? (i := 178) rfl)) rfl), (mj_tb_in (mj_c1 (List.mem_of_getElem? (i := 19) rfl)) rfl), (mj_tb_in (mj_c3 (List.mem_of_getElem? (i := 177) rfl)) rfl)⟩
theorem mj_m70 : mj_mF 70 := ⟨(mj_tb_in (mj_c3 (List.mem_of_getElem? (i := 212) rfl)) rfl), (mj_tb_in (mj_c1 (List.mem_of_getElem? (i := 3) rfl)) rfl), ⟨(mj_tb_in (mj_c3 (List.mem_of_getElem? (i := 210) rfl)) rfl), (mj_tb_in (mj_c3 (List.mem_of_getElem? (i := 211) rfl)) rfl)⟩⟩
theorem mj_m71 : mj_mF 71 := ⟨(mj_tb_in (mj_c3 (List.mem_of_getElem? (i := 216) rfl)) rfl), (mj_tb_in (mj_c1 (List.mem_of_getElem? (i := 1) rfl)) rfl), ⟨(mj_tb_in (mj_c3 (List.mem_of_getElem? (i := 214) rfl)) rfl), (mj_tb_in (mj_c3 (List.mem_of_getElem? (i := 215) rfl)) rfl)⟩⟩
theorem mj_m72 : mj_mF 72 := ⟨(mj_tb_in (mj_c3 (List.mem_of_getElem? (i := 220) rfl)) rfl), (mj_tb_in (mj_c1 (List.mem_of_getElem? (i := 1) rfl)) rfl), ⟨(mj_tb_in (mj_c3 (List.mem_of_getElem? (i := 218) rfl)) rfl), (mj_tb_in (mj_c3 (List.mem_of_getElem? (i := 219) rfl)) rfl)⟩⟩
theorem mj_m73 : mj_mF 73 := ⟨(mj_tb_in (mj_c3 (List.mem_of_getElem? (i := 224) rfl)) rfl), (mj_tb_in (mj_c1 (List.mem_of_getElem? (i := 3) rfl)) rfl), ⟨(mj_tb_in (mj_c3 (List.mem_of_getElem? (i := 222) rfl)) rfl), (mj_tb_in (mj_c3 (List.mem_of_getElem? (i := 223) rfl)) rfl)⟩⟩
theorem mj_m74 : mj_mF 74 := ⟨(mj_tb_in (mj_c3 (List.mem_of_getElem? (i := 228) rfl)) rfl), (mj_tb_in (mj_c1 (List.mem_of_getElem? (i := 1) rfl)) rfl), ⟨(mj_tb_in (mj_c3 (List.mem_of_getElem? (i := 226) rfl)) rfl), (mj_tb_in (mj_c3 (List.mem_of_getElem? (i := 227) rfl)) rfl)⟩⟩
theorem mj_m75 : mj_mF 75 := ⟨(mj_tb_in (mj_c3 (List.mem_of_getElem? (i := 232) rfl)) rfl), (mj_tb_in (mj_c1 (List.mem_of_getElem? (i := 8) rfl)) rfl), ⟨(mj_tb_in (mj_c3 (List.mem_of_getElem? (i := 230) rfl)) rfl), (mj_tb_in (mj_c3 (List.mem_of_getElem? (i := 231) rfl)) rfl)⟩⟩
theorem mj_m76 : mj_mF 76 := ⟨(mj_tb_in (mj_c3 (List.mem_of_getElem? (i := 236) rfl)) rfl), (mj_tb_in (mj_c1 (List.mem_of_getElem? (i := 4) rfl)) rfl), ⟨(mj_tb_in (mj_c3 (List.mem_of_getElem? (i := 234) rfl)) rfl), (mj_tb_in (mj_c3 (List.mem_of_getElem? (i := 235) rfl)) rfl)⟩⟩
theorem mj_m77 : mj_mF 77 := ⟨(mj_tb_in (mj_c4 (List.mem_of_getElem? (i := 0) rfl)) rfl), (mj_tb_in (mj_c1 (List.mem_of_getElem? (i := 5) rfl)) rfl), ⟨(mj_tb_in (mj_c3 (List.mem_of_getElem? (i := 238) rfl)) rfl), (mj_tb_in (mj_c3 (List.mem_of_getElem? (i := 239) rfl)) rfl)⟩⟩
theorem mj_m78 : mj_mF 78 := ⟨(mj_tb_in (mj_c4 (List.mem_of_getElem? (i := 4) rfl)) rfl), (mj_tb_in (mj_c1 (List.mem_of_getElem? (i := 8) rfl)) rfl), ⟨(mj_tb_in (mj_c4 (List.mem_of_getElem? (i := 2) rfl)) rfl), (mj_tb_in (mj_c4 (List.mem_of_getElem? (i := 3) rfl)) rfl)⟩⟩
theorem mj_m79 : mj_mF 79 := ⟨(mj_tb_in (mj_c4 (List.mem_of_getElem? (i := 8) rfl)) rfl), (mj_tb_in (mj_c1 (List.mem_of_getElem? (i := 5) rfl)) rfl), ⟨(mj_tb_in (mj_c4 (List.mem_of_getElem? (i := 6) rfl)) rfl), (mj_tb_in (mj_c4 (List.mem_of_getElem? (i := 7) rfl)) rfl)⟩⟩
theorem mj_m80 : mj_mF 80 := ⟨(mj_tb_in (mj_c4 (List.mem_of_getElem? (i := 12) rfl)) rfl), (mj_tb_in (mj_c1 (List.mem_of_getElem? (i := 8) rfl)) rfl), ⟨(mj_tb_in (mj_c4 (List.mem_of_getElem? (i := 10) rfl)) rfl), (mj_tb_in (mj_c4 (List.mem_of_getElem? (i := 11) rfl)) rfl)⟩⟩
theorem mj_m81 : mj_mF 81 := ⟨(mj_tb_in (mj_c4 (List.mem_of_getElem? (i := 16) rfl)) rfl), (mj_tb_in (mj_c1 (List.mem_of_getElem? (i := 3) rfl)) rfl), ⟨(mj_tb_in (mj_c4 (List.mem_of_getElem? (i := 14) rfl)) rfl), (mj_tb_in (mj_c4 (List.mem_of_getElem? (i := 15) rfl)) rfl)⟩⟩
theorem mj_m82 : mj_mF 82 := ⟨(mj_tb_in (mj_c4 (List.mem_of_getElem? (i := 21) rfl)) rfl), (mj_tb_in (mj_c1 (List.mem_of_getElem? (i := 7) rfl)) rfl), ⟨(mj_tb_in (mj_c4 (List.mem_of_getElem? (i := 19) rfl)) rfl), (mj_tb_in (mj_c4 (List.mem_of_getElem? (i := 20) rfl)) rfl)⟩⟩
theorem mj_m83 : mj_mF 83 := ⟨(mj_tb_in (mj_c4 (List.mem_of_getElem? (i := 25) rfl)) rfl), (mj_tb_in (mj_c1 (List.mem_of_getElem? (i := 7) rfl)) rfl), ⟨(mj_tb_in (mj_c4 (List.mem_of_getElem? (i := 24) rfl)) rfl), (List.mem_filter.mpr ⟨List.mem_append_left _ (List.mem_of_getElem? (i := 24) rfl), rfl⟩)⟩⟩
theorem mj_m84 : mj_mF 84 := ⟨(mj_tb_in (mj_c4 (List.mem_of_getElem? (i := 30) rfl)) rfl), (mj_tb_in (mj_c1 (List.mem_of_getElem? (i := 7) rfl)) rfl), (mj_tb_in (mj_c4 (List.mem_of_getElem? (i := 29) rfl)) rfl)⟩
theorem mj_m85 : mj_mF 85 := ⟨(mj_tb_in (mj_c4 (List.mem_of_getElem? (i := 33) rfl)) rfl), (mj_tb_in (mj_c1 (List.mem_of_getElem? (i := 22) rfl)) rfl), (mj_tb_in (mj_c4 (List.mem_of_getElem? (i := 32) rfl)) rfl)⟩
theorem mj_m86 : mj_mF 86 := ⟨(mj_tb_in (mj_c4 (List.mem_of_getElem? (i := 41) rfl)) rfl), (mj_tb_in (mj_c1 (List.mem_of_getElem? (i := 5) rfl)) rfl), ⟨(mj_tb_in (mj_c4 (List.mem_of_getElem? (i := 39) rfl)) rfl), (mj_tb_in (mj_c4 (List.mem_of_getElem? (i := 40) rfl)) rfl)⟩⟩
theorem mj_m87 : mj_mF 87 := ⟨(mj_tb_in (mj_c4 (List.mem_of_getElem? (i := 45) rfl)) rfl), (mj_tb_in (mj_c1 (List.mem_of_getElem? (i := 7) rfl)) rfl), (mj_tb_in (mj_c4 (List.mem_of_getElem? (i := 44) rfl)) rfl)⟩
theorem mj_m88 : mj_mF 88 := ⟨(mj_tb_in (mj_c4 (List.mem_of_getElem? (i := 48) rfl)) rfl), (mj_tb_in (mj_c1 (List.mem_of_getElem? (i := 7) rfl)) rfl), (mj_tb_in (mj_c4 (List.mem_of_getElem? (i := 47) rfl)) rfl)⟩
theorem mj_m89 : mj_mF 89 := ⟨(mj_tb_in (mj_c4 (List.mem_of_getElem? (i := 56) rfl)) rfl), (mj_tb_in (mj_c1 (List.mem_of_getElem? (i := 3) rfl)) rfl), ⟨(mj_tb_in (mj_c4 (List.mem_of_getElem? (i := 54) rfl)) rfl), (mj_tb_in (mj_c4 (List.mem_of_getElem? (i := 55) rfl)) rfl)⟩⟩
theorem mj_m90 : mj_mF 90 := ⟨(mj_tb_in (mj_c4 (List.mem_of_getElem? (i := 60) rfl)) rfl), (mj_tb_in (mj_c1 (List.mem_of_getElem? (i := 5) rfl)) rfl), ⟨(mj_tb_in (mj_c4 (List.mem_of_getElem? (i := 58) rfl)) rfl), (mj_tb_in (mj_c4 (List.mem_of_getElem? (i := 59) rfl)) rfl)⟩⟩
theorem mj_m91 : mj_mF 91 := ⟨(mj_tb_in (mj_c4 (List.mem_of_getElem? (i := 64) rfl)) rfl), (mj_tb_in (mj_c1 (List.mem_of_getElem? (i := 5) rfl)) rfl), ⟨(mj_tb_in (mj_c4 (List.mem_of_getElem? (i := 62) rfl)) rfl), (mj_tb_in (mj_c4 (List.mem_of_getElem? (i := 63) rfl)) rfl)⟩⟩
theorem mj_m92 : mj_mF 92 := ⟨(mj_tb_in (mj_c4 (List.mem_of_getElem? (i := 69) rfl)) rfl), (mj_tb_in (mj_c1 (List.mem_of_getElem? (i := 1) rfl)) rfl), ⟨(mj_tb_in (mj_c4 (List.mem_of_getElem? (i := 67) rfl)) rfl), (mj_tb_in (mj_c4 (List.mem_of_getElem? (i := 68) rfl)) rfl)⟩⟩
theorem mj_m93 : mj_mF 93 := ⟨(mj_tb_in (mj_c4 (List.mem_of_getElem? (i := 73) rfl)) rfl), (mj_tb_in (mj_c1 (List.mem_of_getElem? (i := 8) rfl)) rfl), ⟨(mj_tb_in (mj_c4 (List.mem_of_getElem? (i := 71) rfl)) rfl), (mj_tb_in (mj_c4 (List.mem_of_getElem? (i := 72) rfl)) rfl)⟩⟩
theorem mj_m94 : mj_mF 94 := ⟨(mj_tb_in (mj_c4 (List.mem_of_getElem? (i := 77) rfl)) rfl), (mj_tb_in (mj_c1 (List.mem_of_getElem? (i := 1) rfl)) rfl), ⟨(mj_tb_in (mj_c4 (List.mem_of_getElem? (i := 75) rfl)) rfl), (mj_tb_in (mj_c4 (List.mem_of_getElem? (i := 76) rfl)) rfl)⟩⟩
theorem mj_m95 : mj_mF 95 := ⟨(mj_tb_in (mj_c4 (List.mem_of_getElem? (i := 81) rfl)) rfl), (mj_tb_in (mj_c1 (List.mem_of_getElem? (i := 8) rfl)) rfl), ⟨(mj_tb_in (mj_c4 (List.mem_of_getElem? (i := 79) rfl)) rfl), (mj_tb_in (mj_c4 (List.mem_of_getElem? (i := 80) rfl)) rfl)⟩⟩
theorem mj_m96 : mj_mF 96 := ⟨(mj_tb_in (mj_c4 (List.mem_of_getElem? (i := 85) rfl)) rfl), (mj_tb_in (mj_c1 (List.mem_of_getElem? (i := 3) rfl)) rfl), ⟨(mj_tb_in (mj_c4 (List.mem_of_getElem? (i := 83) rfl)) rfl), (mj_tb_in (mj_c4 (List.mem_of_getElem? (i := 84) rfl)) rfl)⟩⟩
theorem mj_m97 : mj_mF 97 := ⟨(mj_tb_in (mj_c4 (List.mem_of_getElem? (i := 89) rfl)) rfl), (mj_tb_in (mj_c1 (List.mem_of_getElem? (i := 4) rfl)) rfl), ⟨(mj_tb_in (mj_c4 (List.mem_of_getElem? (i := 87) rfl)) rfl), (mj_tb_in (mj_c4 (List.mem_of_getElem? (i := 88) rfl)) rfl)⟩⟩
theorem mj_m98 : mj_mF 98 := ⟨(mj_tb_in (mj_c4 (List.mem_of_getElem? (i := 93) rfl)) rfl), (mj_tb_in (mj_c1 (List.mem_of_getElem? (i := 4) rfl)) rfl), ⟨(mj_tb_in (mj_c4 (List.mem_of_getElem? (i := 92) rfl)) rfl), (List.mem_filter.mpr ⟨List.mem_append_left _ (List.mem_of_getElem? (i := 25) rfl), rfl⟩)⟩⟩
theorem mj_m99 : mj_mF 99 := ⟨(mj_tb_in (mj_c4 (List.mem_of_getElem? (i := 97) rfl)) rfl), (mj_tb_in (mj_c1 (List.mem_of_getElem? (i := 4) rfl)) rfl), ⟨(mj_tb_in (mj_c4 (List.mem_of_getElem? (i := 96) rfl)) rfl), (List.mem_filter.mpr ⟨List.mem_append_left _ (List.mem_of_getElem? (i := 26) rfl), rfl⟩)⟩⟩
theorem mj_m100 : mj_mF 100 := ⟨(mj_tb_in (mj_c4 (List.mem_of_getElem? (i := 100) rfl)) rfl), (mj_tb_in (mj_c1 (List.mem_of_getElem? (i := 20) rfl)) rfl), (mj_tb_in (mj_c4 (List.mem_of_getElem? (i := 99) rfl)) rfl)⟩
theorem mj_m101 : mj_mF 101 := ⟨(mj_tb_in (mj_c4 (List.mem_of_getElem? (i := 106) rfl)) rfl), (mj_tb_in (mj_c1 (List.mem_of_getElem? (i := 4) rfl)) rfl), ⟨(mj_tb_in (mj_c4 (List.mem_of_getElem? (i := 105) rfl)) rfl), (List.mem_filter.mpr ⟨List.mem_append_left _ (List.mem_of_getElem? (i := 27) rfl), rfl⟩)⟩⟩
theorem mj_m102 : mj_mF 102 := ⟨(mj_tb_in (mj_c4 (List.mem_of_getElem? (i := 110) rfl)) rfl), (mj_tb_in (mj_c1 (List.mem_of_getElem? (i := 5) rfl)) rfl), ⟨(mj_tb_in (mj_c4 (List.mem_of_getElem? (i := 108) rfl)) rfl), (mj_tb_in (mj_c4 (List.mem_of_getElem? (i := 109) rfl)) rfl)⟩⟩
theorem mj_m103 : mj_mF 103 := ⟨(mj_tb_in (mj_c4 (List.mem_of_getElem? (i := 114) rfl)) rfl), (mj_tb_in (mj_c1 (List.mem_of_getElem? (i := 1) rfl)) rfl), ⟨(mj_tb_in (mj_c4 (List.mem_of_getElem? (i := 112) rfl)) rfl), (mj_tb_in (mj_c4 (List.mem_of_getElem? (i := 113) rfl)) rfl)⟩⟩
theorem mj_m104 : mj_mF 104 := ⟨(mj_tb_in (mj_c4 (List.mem_of_getElem? (i := 118) rfl)) rfl), (mj_tb_in (mj_c1 (List.mem_of_getElem? (i := 8) rfl)) rfl), ⟨(mj_tb_in (mj_c4 (List.mem_of_getElem? (i := 116) rfl)) rfl), (mj_tb_in (mj_c4 (List.mem_of_getElem? (i := 117) rfl)) rfl)⟩⟩
theorem mj_m105 : mj_mF 105 := ⟨(mj_tb_in (mj_c4 (List.mem_of_getElem? (i := 122) rfl)) rfl), (mj_tb_in (mj_c1 (List.mem_of_getElem? (i := 8) rfl)) rfl), ⟨(mj_tb_in (mj_c4 (List.mem_of_getElem? (i := 121) rfl)) rfl), (List.mem_filter.mpr ⟨List.mem_append_left _ (List.mem_of_getElem? (i := 28) rfl), rfl⟩)⟩⟩
theorem mj_m106 : mj_mF 106 := ⟨(mj_tb_in (mj_c4 (List.mem_of_getElem? (i := 126) rfl)) rfl), (mj_tb_in (mj_c1 (List.mem_of_getElem? (i := 5) rfl)) rfl), ⟨(mj_tb_in (mj_c4 (List.mem_of_getElem? (i := 124) rfl)) rfl), (mj_tb_in (mj_c4 (List.mem_of_getElem? (i := 125) rfl)) rfl)⟩⟩
theorem mj_m107 : mj_mF 107 := ⟨(mj_tb_in (mj_c4 (List.mem_of_getElem? (i := 130) rfl)) rfl), (mj_tb_in (mj_c1 (List.mem_of_getElem? (i := 7) rfl)) rfl), ⟨(mj_tb_in (mj_c4 (List.mem_of_getElem? (i := 128) rfl)) rfl), (mj_tb_in (mj_c4 (List.mem_of_getElem? (i := 129) rfl)) rfl)⟩⟩
theorem mj_m108 : mj_mF 108 := ⟨(mj_tb_in (mj_c4 (List.mem_of_getElem? (i := 135) rfl)) rfl), (mj_tb_in (mj_c1 (List.mem_of_getElem? (i := 1) rfl)) rfl), ⟨(mj_tb_in (mj_c4 (List.mem_of_getElem? (i := 133) rfl)) rfl), (mj_tb_in (mj_c4 (List.mem_of_getElem? (i := 134) rfl)) rfl)⟩⟩
theorem mj_m109 : mj_mF 109 := ⟨(mj_tb_in (mj_c4 (List.mem_of_getElem? (i := 140) rfl)) rfl), (mj_tb_in (mj_c1 (List.mem_of_getElem? (i := 8) rfl)) rfl), ⟨(mj_tb_in (mj_c4 (List.mem_of_getElem? (i := 138) rfl)) rfl), (mj_tb_in (mj_c4 (List.mem_of_getElem? (i := 139) rfl)) rfl)⟩⟩
theorem mj_m110 : mj_mF 110 := ⟨(mj_tb_in (mj_c4 (List.mem_of_getElem? (i := 144) rfl)) rfl), (mj_tb_in (mj_c1 (List.mem_of_getElem? (i := 19) rfl)) rfl), ⟨(mj_tb_in (mj_c4 (List.mem_of_getElem? (i := 142) rfl)) rfl), (mj_tb_in (mj_c4 (List.mem_of_getElem? (i := 143) rfl)) rfl)⟩⟩
theorem mj_m111 : mj_mF 111 := ⟨(mj_tb_in (mj_c4 (List.mem_of_getElem? (i := 155) rfl)) rfl), (mj_tb_in (mj_c1 (List.mem_of_getElem? (i := 1) rfl)) rfl), ⟨(mj_tb_in (mj_c4 (List.mem_of_getElem? (i := 153) rfl)) rfl), (mj_tb_in (mj_c4 (List.mem_of_getElem? (i := 154) rfl)) rfl)⟩⟩
theorem mj_m112 : mj_mF 112 := ⟨(mj_tb_in (mj_c4 (List.mem_of_getElem? (i := 161) rfl)) rfl), (mj_tb_in (mj_c1 (List.mem_of_getElem? (i := 8) rfl)) rfl), ⟨(mj_tb_in (mj_c4 (List.mem_of_getElem? (i := 159) rfl)) rfl), (mj_tb_in (mj_c4 (List.mem_of_getElem? (i := 160) rfl)) rfl)⟩⟩
theorem mj_m113 : mj_mF 113 := ⟨(mj_tb_in (mj_c4 (List.mem_of_getElem? (i := 165) rfl)) rfl), (mj_tb_in (mj_c1 (List.mem_of_getElem? (i := 1) rfl)) rfl), ⟨(mj_tb_in (mj_c4 (List.mem_of_getElem? (i := 163) rfl)) rfl), (mj_tb_in (mj_c4 (List.mem_of_getElem? (i := 164) rfl)) rfl)⟩⟩
theorem mj_m114 : mj_mF 114 := ⟨(mj_tb_in (mj_c4 (List.mem_of_getElem? (i := 169) rfl)) rfl), (mj_tb_in (mj_c1 (List.mem_of_getElem? (i := 3) rfl)) rfl), ⟨(mj_tb_in (mj_c4 (List.mem_of_getElem? (i := 167) rfl)) rfl), (mj_tb_in (mj_c4 (List.mem_of_getElem? (i := 168) rfl)) rfl)⟩⟩
theorem mj_m115 : mj_mF 115 := ⟨(mj_tb_in (mj_c4 (List.mem_of_getElem? (i := 174) rfl)) rfl), (mj_tb_in (mj_c1 (List.mem_of_getElem? (i := 1) rfl)) rfl), ⟨(mj_tb_in (mj_c4 (List.mem_of_getElem? (i := 172) rfl)) rfl), (mj_tb_in (mj_c4 (List.mem_of_getElem? (i := 173) rfl)) rfl)⟩⟩
theorem mj_m116 : mj_mF 116 := ⟨(mj_tb_in (mj_c4 (List.mem_of_getElem? (i := 179) rfl)) rfl), (mj_tb_in (mj_c1 (List.mem_of_getElem? (i := 3) rfl)) rfl), ⟨(mj_tb_in (mj_c4 (List.mem_of_getElem? (i := 177) rfl)) rfl), (mj_tb_in (mj_c4 (List.mem_of_getElem? (i := 178) rfl)) rfl)⟩⟩
theorem mj_m117 : mj_mF 117 := ⟨(mj_tb_in (mj_c4 (List.mem_of_getElem? (i := 183) rfl)) rfl), (mj_tb_in (mj_c1 (List.mem_of_getElem? (i := 4) rfl)) rfl), ⟨(mj_tb_in (mj_c4 (List.mem_of_getElem? (i := 181) rfl)) rfl), (mj_tb_in (mj_c4 (List.mem_of_getElem? (i := 182) rfl)) rfl)⟩⟩
theorem mj_m118 : mj_mF 118 := ⟨(mj_tb_in (mj_c4 (List.mem_of_getElem? (i := 187) rfl)) rfl), (mj_tb_in (mj_c1 (List.mem_of_getElem? (i := 4) rfl)) rfl), ⟨(mj_tb_in (mj_c4 (List.mem_of_getElem? (i := 185) rfl)) rfl), (mj_tb_in (mj_c4 (List.mem_of_getElem? (i := 186) rfl)) rfl)⟩⟩
theorem mj_m119 : mj_mF 119 := ⟨(mj_tb_in (mj_c4 (List.mem_of_getElem? (i := 191) rfl)) rfl), (mj_tb_in (mj_c1 (List.mem_of_getElem? (i := 4) rfl)) rfl), ⟨(mj_tb_in (mj_c4 (List.mem_of_getElem? (i := 190) rfl)) rfl), (List.mem_filter.mpr ⟨List.mem_append_left _ (List.mem_of_getElem? (i := 29) rfl), rfl⟩)⟩⟩
theorem mj_m120 : mj_mF 120 := ⟨(mj_tb_in (mj_c4 (List.mem_of_getElem? (i := 195) rfl)) rfl), (mj_tb_in (mj_c1 (List.mem_of_getElem? (i := 1) rfl)) rfl), ⟨(mj_tb_in (mj_c4 (List.mem_of_getElem? (i := 193) rfl)) rfl), (mj_tb_in (mj_c4 (List.mem_of_getElem? (i := 194) rfl)) rfl)⟩⟩
theorem mj_m121 : mj_mF 121 := ⟨(mj_tb_in (mj_c4 (List.mem_of_getElem? (i := 201) rfl)) rfl), (mj_tb_in (mj_c1 (List.mem_of_getElem? (i := 1) rfl)) rfl), ⟨(mj_tb_in (mj_c4 (List.mem_of_getElem? (i := 199) rfl)) rfl), (mj_tb_in (mj_c4 (List.mem_of_getElem? (i := 200) rfl)) rfl)⟩⟩
theorem mj_m122 : mj_mF 122 := ⟨(mj_tb_in (mj_c4 (List.mem_of_getElem? (i := 207) rfl)) rfl), (mj_tb_in (mj_c1 (List.mem_of_getElem? (i := 1) rfl)) rfl), ⟨(mj_tb_in (mj_c4 (List.mem_of_getElem? (i := 205) rfl)) rfl), (mj_tb_in (mj_c4 (List.mem_of_getElem? (i := 206) rfl)) rfl)⟩⟩
theorem mj_m123 : mj_mF 123 := ⟨(mj_tb_in (mj_c4 (List.mem_of_getElem? (i := 211) rfl)) rfl), (mj_tb_in (mj_c1 (List.mem_of_getElem? (i := 5) rfl)) rfl), ⟨(mj_tb_in (mj_c4 (List.mem_of_getElem? (i := 209) rfl)) rfl), (mj_tb_in (mj_c4 (List.mem_of_getElem? (i := 210) rfl)) rfl)⟩⟩
theorem mj_m124 : mj_mF 124 := ⟨(mj_tb_in (mj_c4 (List.mem_of_getElem? (i := 215) rfl)) rfl), (mj_tb_in (mj_c1 (List.mem_of_getElem? (i := 1) rfl)) rfl), ⟨(mj_tb_in (mj_c4 (List.mem_of_getElem? (i := 213) rfl)) rfl), (mj_tb_in (mj_c4 (List.mem_of_getElem? (i := 214) rfl)) rfl)⟩⟩
theorem mj_m125 : mj_mF 125 := ⟨(mj_tb_in (mj_c4 (List.mem_of_getElem? (i := 219) rfl)) rfl), (mj_tb_in (mj_c1 (List.mem_of_getElem? (i := 5) rfl)) rfl), ⟨(mj_tb_in (mj_c4 (List.mem_of_getElem? (i := 217) rfl)) rfl), (mj_tb_in (mj_c4 (List.mem_of_getElem? (i := 218) rfl)) rfl)⟩⟩
theorem mj_m126 : mj_mF 126 := ⟨(mj_tb_in (mj_c4 (List.mem_of_getElem? (i := 223) rfl)) rfl), (mj_tb_in (mj_c1 (List.mem_of_getElem? (i := 1) rfl)) rfl), ⟨(mj_tb_in (mj_c4 (List.mem_of_getElem? (i := 221) rfl)) rfl), (mj_tb_in (mj_c4 (List.mem_of_getElem? (i := 222) rfl)) rfl)⟩⟩
theorem mj_m127 : mj_mF 127 := ⟨(mj_tb_in (mj_c4 (List.mem_of_getElem? (i := 227) rfl)) rfl), (mj_tb_in (mj_c1 (List.mem_of_getElem? (i := 8) rfl)) rfl), ⟨(mj_tb_in (mj_c4 (List.mem_of_getElem? (i := 225) rfl)) rfl), (mj_tb_in (mj_c4 (List.mem_of_getElem? (i := 226) rfl)) rfl)⟩⟩
theorem mj_m128 : mj_mF 128 := ⟨(mj_tb_in (mj_c4 (List.mem_of_getElem? (i := 232) rfl)) rfl), (mj_tb_in (mj_c1 (List.mem_of_getElem? (i := 1) rfl)) rfl), ⟨(mj_tb_in (mj_c4 (List.mem_of_getElem? (i := 230) rfl)) rfl), (mj_tb_in (mj_c4 (List.mem_of_getElem? (i := 231) rfl)) rfl)⟩⟩
theorem mj_m129 : mj_mF 129 := ⟨(mj_tb_in (mj_c4 (List.mem_of_getElem? (i := 236) rfl)) rfl), (mj_tb_in (mj_c1 (List.mem_of_getElem? (i := 2) rfl)) rfl), ⟨(mj_tb_in (mj_c4 (List.mem_of_getElem? (i := 234) rfl)) rfl), (mj_tb_in (mj_c4 (List.mem_of_getElem? (i := 235) rfl)) rfl)⟩⟩
theorem mj_m130 : mj_mF 130 := ⟨(mj_tb_in (mj_c5 (List.mem_of_getElem? (i := 1) rfl)) rfl), (mj_tb_in (mj_c1 (List.mem_of_getElem? (i := 1) rfl)) rfl), ⟨(mj_tb_in (mj_c4 (List.mem_of_getElem? (i := 239) rfl)) rfl), (mj_tb_in (mj_c5 (List.mem_of_getElem? (i := 0) rfl)) rfl)⟩⟩
theorem mj_m131 : mj_mF 131 := ⟨(mj_tb_in (mj_c5 (List.mem_of_getElem? (i := 5) rfl)) rfl), (mj_tb_in (mj_c1 (List.mem_of_getElem? (i := 2) rfl)) rfl), ⟨(mj_tb_in (mj_c5 (List.mem_of_getElem? (i := 3) rfl)) rfl), (mj_tb_in (mj_c5 (List.mem_of_getElem? (i := 4) rfl)) rfl)⟩⟩
theorem mj_m132 : mj_mF 132 := ⟨(mj_tb_in (mj_c5 (List.mem_of_getElem? (i := 10) rfl)) rfl), (mj_tb_in (mj_c1 (List.mem_of_getElem? (i := 1) rfl)) rfl), ⟨(mj_tb_in (mj_c5 (List.mem_of_getElem? (i := 8) rfl)) rfl), (mj_tb_in (mj_c5 (List.mem_of_getElem? (i := 9) rfl)) rfl)⟩⟩
theorem mj_m133 : mj_mF 133 := ⟨(mj_tb_in (mj_c5 (List.mem_of_getElem? (i := 14) rfl)) rfl), (mj_tb_in (mj_c1 (List.mem_of_getElem? (i := 1) rfl)) rfl), (mj_tb_in (mj_c5 (List.mem_of_getElem? (i := 13) rfl)) rfl)⟩
theorem mj_m134 : mj_mF 134 := ⟨(mj_tb_in (mj_c5 (List.mem_of_getElem? (i := 17) rfl)) rfl), (mj_tb_in (mj_c1 (List.mem_of_getElem? (i := 1) rfl)) rfl), (mj_tb_in (mj_c5 (List.mem_of_getElem? (i := 16) rfl)) rfl)⟩
theorem mj_m135 : mj_mF 135 := ⟨(mj_tb_in (mj_c5 (List.mem_of_getElem? (i := 21) rfl)) rfl), (mj_tb_in (mj_c1 (List.mem_of_getElem? (i := 2) rfl)) rfl), ⟨(mj_tb_in (mj_c5 (List.mem_of_getElem? (i := 19) rfl)) rfl), (mj_tb_in (mj_c5 (List.mem_of_getElem? (i := 20) rfl)) rfl)⟩⟩
theorem mj_m136 : mj_mF 136 := ⟨(mj_tb_in (mj_c5 (List.mem_of_getElem? (i := 25) rfl)) rfl), (mj_tb_in (mj_c1 (List.mem_of_getElem? (i := 2) rfl)) rfl), ⟨(mj_tb_in (mj_c5 (List.mem_of_getElem? (i := 23) rfl)) rfl), (mj_tb_in (mj_c5 (List.mem_of_getElem? (i := 24) rfl)) rfl)⟩⟩
theorem mj_m137 : mj_mF 137 := ⟨(mj_tb_in (mj_c5 (List.mem_of_getElem? (i := 30) rfl)) rfl), (mj_tb_in (mj_c1 (List.mem_of_getElem? (i := 1) rfl)) rfl), ⟨(mj_tb_in (mj_c5 (List.mem_of_getElem? (i := 28) rfl)) rfl), (mj_tb_in (mj_c5 (List.mem_of_getElem? (i := 29) rfl)) rfl)⟩⟩
theorem mj_m138 : mj_mF 138 := ⟨(mj_tb_in (mj_c5 (List.mem_of_getElem? (i := 34) rfl)) rfl), (mj_tb_in (mj_c1 (List.mem_of_getElem? (i := 6) rfl)) rfl), ⟨(mj_tb_in (mj_c5 (List.mem_of_getElem? (i := 32) rfl)) rfl), (mj_tb_in (mj_c5 (List.mem_of_getElem? (i := 33) rfl)) rfl)⟩⟩
theorem mj_m139 : mj_mF 139 := ⟨(mj_tb_in (mj_c5 (List.mem_of_getElem? (i := 38) rfl)) rfl), (mj_tb_in (mj_c1 (List.mem_of_getElem? (i := 6) rfl)) rfl), ⟨(mj_tb_in (mj_c5 (List.mem_of_getElem? (i := 36) rfl)) rfl), (mj_tb_in (mj_c5 (List.mem_of_getElem? (i := 37) rfl)) rfl)⟩⟩
theorem mj_m140 : mj_mF 140 := ⟨(mj_tb_in (mj_c5 (List.mem_of_getElem? (i := 42) rfl)) rfl), (mj_tb_in (mj_c1 (List.mem_of_getElem? (i := 1) rfl)) rfl), ⟨(mj_tb_in (mj_c5 (List.mem_of_getElem? (i := 40) rfl)) rfl), (mj_tb_in (mj_c5 (List.mem_of_getElem? (i := 41) rfl)) rfl)⟩⟩
theorem mj_m141 : mj_mF 141 := ⟨(mj_tb_in (mj_c5 (List.mem_of_getElem? (i := 46) rfl)) rfl), (mj_tb_in (mj_c1 (List.mem_of_getElem? (i := 9) rfl)) rfl), ⟨(mj_tb_in (mj_c5 (List.mem_of_getElem? (i := 44) rfl)) rfl), (mj_tb_in (mj_c5 (List.mem_of_getElem? (i := 45) rfl)) rfl)⟩⟩
theorem mj_m142 : mj_mF 142 := ⟨(mj_tb_in (mj_c5 (List.mem_of_getElem? (i := 50) rfl)) rfl), (mj_tb_in (mj_c1 (List.mem_of_getElem? (i := 9) rfl)) rfl), ⟨(mj_tb_in (mj_c5 (List.mem_of_getElem? (i := 49) rfl)) rfl), (List.mem_filter.mpr ⟨List.mem_append_left _ (List.mem_of_getElem? (i := 30) rfl), rfl⟩)⟩⟩
theorem mj_m143 : mj_mF 143 := ⟨(mj_tb_in (mj_c5 (List.mem_of_getElem? (i := 54) rfl)) rfl), (mj_tb_in (mj_c1 (List.mem_of_getElem? (i := 6) rfl)) rfl), ⟨(mj_tb_in (mj_c5 (List.mem_of_getElem? (i := 52) rfl)) rfl), (mj_tb_in (mj_c5 (List.mem_of_getElem? (i := 53) rfl)) rfl)⟩⟩
theorem mj_m144 : mj_mF 144 := ⟨(mj_tb_in (mj_c5 (List.mem_of_getElem? (i := 59) rfl)) rfl), (mj_tb_in (mj_c1 (List.mem_of_getElem? (i := 1) rfl)) rfl), ⟨(mj_tb_in (mj_c5 (List.mem_of_getElem? (i := 57) rfl)) rfl), (mj_tb_in (mj_c5 (List.mem_of_getElem? (i := 58) rfl)) rfl)⟩⟩
theorem mj_m145 : mj_mF 145 := ⟨(mj_tb_in (mj_c5 (List.mem_of_getElem? (i := 63) rfl)) rfl), (mj_tb_in (mj_c1 (List.mem_of_getElem? (i := 9) rfl)) rfl), ⟨(mj_tb_in (mj_c5 (List.mem_of_getElem? (i := 61) rfl)) rfl), (mj_tb_in (mj_c5 (List.mem_of_getElem? (i := 62) rfl)) rfl)⟩⟩
theorem mj_m146 : mj_mF 146 := ⟨(mj_tb_in (mj_c5 (List.mem_of_getElem? (i := 67) rfl)) rfl), (mj_tb_in (mj_c1 (List.mem_of_getElem? (i := 2) rfl)) rfl), ⟨(mj_tb_in (mj_c5 (List.mem_of_getElem? (i := 65) rfl)) rfl), (mj_tb_in (mj_c5 (List.mem_of_getElem? (i := 66) rfl)) rfl)⟩⟩
theorem mj_m147 : mj_mF 147 := ⟨(mj_tb_in (mj_c5 (List.mem_of_getElem? (i := 70) rfl)) rfl), (mj_tb_in (mj_c1 (List.mem_of_getElem? (i := 1) rfl)) rfl), (mj_tb_in (mj_c5 (List.mem_of_getElem? (i := 69) rfl)) rfl)⟩
theorem mj_m148 : mj_mF 148 := ⟨(mj_tb_in (mj_c5 (List.mem_of_getElem? (i := 74) rfl)) rfl), (mj_tb_in (mj_c1 (List.mem_of_getElem? (i := 1) rfl)) rfl), ⟨(mj_tb_in (mj_c5 (List.mem_of_getElem? (i := 72) rfl)) rfl), (mj_tb_in (mj_c5 (List.mem_of_getElem? (i := 73) rfl)) rfl)⟩⟩
theorem mj_m149 : mj_mF 149 := ⟨(mj_tb_in (mj_c5 (List.mem_of_getElem? (i := 78) rfl)) rfl), (mj_tb_in (mj_c1 (List.mem_of_getElem? (i := 9) rfl)) rfl), ⟨(mj_tb_in (mj_c5 (List.mem_of_getElem? (i := 76) rfl)) rfl), (mj_tb_in (mj_c5 (List.mem_of_getElem? (i := 77) rfl)) rfl)⟩⟩
theorem mj_m150 : mj_mF 150 := ⟨(mj_tb_in (mj_c5 (List.mem_of_getElem? (i := 83) rfl)) rfl), (mj_tb_in (mj_c1 (List.mem_of_getElem? (i := 1) rfl)) rfl), ⟨(mj_tb_in (mj_c5 (List.mem_of_getElem? (i := 81) rfl)) rfl), (mj_tb_in (mj_c5 (List.mem_of_getElem? (i := 82) rfl)) rfl)⟩⟩
theorem mj_m151 : mj_mF 151 := ⟨(mj_tb_in (mj_c5 (List.mem_of_getElem? (i := 87) rfl)) rfl), (mj_tb_in (mj_c1 (List.mem_of_getElem? (i := 9) rfl)) rfl), ⟨(mj_tb_in (mj_c5 (List.mem_of_getElem? (i := 85) rfl)) rfl), (mj_tb_in (mj_c5 (List.mem_of_getElem? (i := 86) rfl)) rfl)⟩⟩
theorem mj_m152 : mj_mF 152 := ⟨(mj_tb_in (mj_c5 (List.mem_of_getElem? (i := 92) rfl)) rfl), (mj_tb_in (mj_c1 (List.mem_of_getElem? (i := 1) rfl)) rfl), ⟨(mj_tb_in (mj_c5 (List.mem_of_getElem? (i := 90) rfl)) rfl), (mj_tb_in (mj_c5 (List.mem_of_getElem? (i := 91) rfl)) rfl)⟩⟩
theorem mj_m153 : mj_mF 153 := ⟨(mj_tb_in (mj_c5 (List.mem_of_getElem? (i := 98) rfl)) rfl), (mj_tb_in (mj_c1 (List.mem_of_getElem? (i := 4) rfl)) rfl), ⟨(mj_tb_in (mj_c5 (List.mem_of_getElem? (i := 96) rfl)) rfl), (mj_tb_in (mj_c5 (List.mem_of_getElem? (i := 97) rfl)) rfl)⟩⟩
theorem mj_m154 : mj_mF 154 := ⟨(mj_tb_in (mj_c5 (List.mem_of_getElem? (i := 103) rfl)) rfl), (mj_tb_in (mj_c1 (List.mem_of_getElem? (i := 1) rfl)) rfl), ⟨(mj_tb_in (mj_c5 (List.mem_of_getElem? (i := 101) rfl)) rfl), (mj_tb_in (mj_c5 (List.mem_of_getElem? (i := 102) rfl)) rfl)⟩⟩
theorem mj_m155 : mj_mF 155 := ⟨(mj_tb_in (mj_c5 (List.mem_of_getElem? (i := 108) rfl)) rfl), (mj_tb_in (mj_c1 (List.mem_of_getElem? (i := 1) rfl)) rfl), ⟨(mj_tb_in (mj_c5 (List.mem_of_getElem? (i := 106) rfl)) rfl), (mj_tb_in (mj_c5 (List.mem_of_getElem? (i := 107) rfl)) rfl)⟩⟩
theorem mj_m156 : mj_mF 156 := ⟨(mj_tb_in (mj_c5 (List.mem_of_getElem? (i := 112) rfl)) rfl), (mj_tb_in (mj_c1 (List.mem_of_getElem? (i := 10) rfl)) rfl), ⟨(mj_tb_in (mj_c5 (List.mem_of_getElem? (i := 110) rfl)) rfl), (mj_tb_in (mj_c5 (List.mem_of_getElem? (i := 111) rfl)) rfl)⟩⟩
theorem mj_m157 : mj_mF 157 := ⟨(mj_tb_in (mj_c5 (List.mem_of_getElem? (i := 118) rfl)) rfl), (mj_tb_in (mj_c1 (List.mem_of_getElem? (i := 4) rfl)) rfl), ⟨(mj_tb_in (mj_c5 (List.mem_of_getElem? (i := 116) rfl)) rfl), (mj_tb_in (mj_c5 (List.mem_of_getElem? (i := 117) rfl)) rfl)⟩⟩
theorem mj_m158 : mj_mF 158 := ⟨(mj_tb_in (mj_c5 (List.mem_of_getElem? (i := 122) rfl)) rfl), (mj_tb_in (mj_c1 (List.mem_of_getElem? (i := 1) rfl)) rfl), ⟨(mj_tb_in (mj_c5 (List.mem_of_getElem? (i := 120) rfl)) rfl), (mj_tb_in (mj_c5 (List.mem_of_getElem? (i := 121) rfl)) rfl)⟩⟩
theorem mj_m159 : mj_mF 159 := ⟨(mj_tb_in (mj_c5 (List.mem_of_getElem? (i := 126) rfl)) rfl), (mj_tb_in (mj_c1 (List.mem_of_getElem? (i := 10) rfl)) rfl), ⟨(mj_tb_in (mj_c5 (List.mem_of_getElem? (i := 124) rfl)) rfl), (mj_tb_in (mj_c5 (List.mem_of_getElem? (i := 125) rfl)) rfl)⟩⟩
theorem mj_m160 : mj_mF 160 := ⟨(mj_tb_in (mj_c5 (List.mem_of_getElem? (i := 130) rfl)) rfl), (mj_tb_in (mj_c1 (List.mem_of_getElem? (i := 10) rfl)) rfl), ⟨(mj_tb_in (mj_c5 (List.mem_of_getElem? (i := 129) rfl)) rfl), (List.mem_filter.mpr ⟨List.mem_append_left _ (List.mem_of_getElem? (i := 31) rfl), rfl⟩)⟩⟩
theorem mj_m161 : mj_mF 161 := ⟨(mj_tb_in (mj_c5 (List.mem_of_getElem? (i := 134) rfl)) rfl), (mj_tb_in (mj_c1 (List.mem_of_getElem? (i := 1) rfl)) rfl), ⟨(mj_tb_in (mj_c5 (List.mem_of_getElem? (i := 132) rfl)) rfl), (mj_tb_in (mj_c5 (List.mem_of_getElem? (i := 133) rfl)) rfl)⟩⟩
theorem mj_m162 : mj_mF 162 := ⟨(mj_tb_in (mj_c5 (List.mem_of_getElem? (i := 138) rfl)) rfl), (mj_tb_in (mj_c1 (List.mem_of_getElem? (i := 1) rfl)) rfl), ⟨(mj_tb_in (mj_c5 (List.mem_of_getElem? (i := 136) rfl)) rfl), (mj_tb_in (mj_c5 (List.mem_of_getElem? (i := 137) rfl)) rfl)⟩⟩
theorem mj_m163 : mj_mF 163 := ⟨(mj_tb_in (mj_c5 (List.mem_of_getElem? (i := 142) rfl)) rfl), (mj_tb_in (mj_c1 (List.mem_of_getElem? (i := 2) rfl)) rfl), ⟨(mj_tb_in (mj_c5 (List.mem_of_getElem? (i := 140) rfl)) rfl), (mj_tb_in (mj_c5 (List.mem_of_getElem? (i := 141) rfl)) rfl)⟩⟩
theorem mj_m164 : mj_mF 164 := ⟨(mj_tb_in (mj_c5 (List.mem_of_getElem? (i := 147) rfl)) rfl), (mj_tb_in (mj_c1 (List.mem_of_getElem? (i := 1) rfl)) rfl), ⟨(mj_tb_in (mj_c5 (List.mem_of_getElem? (i := 145) rfl)) rfl), (mj_tb_in (mj_c5 (List.mem_of_getElem? (i := 146) rfl)) rfl)⟩⟩
theorem mj_m165 : mj_mF 165 := ⟨(mj_tb_in (mj_c5 (List.mem_of_getElem? (i := 151) rfl)) rfl), (mj_tb_in (mj_c1 (List.mem_of_getElem? (i := 1) rfl)) rfl), ⟨(mj_tb_in (mj_c5 (List.mem_of_getElem? (i := 149) rfl)) rfl), (mj_tb_in (mj_c5 (List.mem_of_getElem? (i := 150) rfl)) rfl)⟩⟩
theorem mj_m166 : mj_mF 166 := ⟨(mj_tb_in (mj_c5 (List.mem_of_getElem? (i := 156) rfl)) rfl), (mj_tb_in (mj_c1 (List.mem_of_getElem? (i := 10) rfl)) rfl), ⟨(mj_tb_in (mj_c5 (List.mem_of_getElem? (i := 154) rfl)) rfl), (mj_tb_in (mj_c5 (List.mem_of_getElem? (i := 155) rfl)) rfl)⟩⟩
theorem mj_m167 : mj_mF 167 := ⟨(mj_tb_in (mj_c5 (List.mem_of_getElem? (i := 162) rfl)) rfl), (mj_tb_in (mj_c1 (List.mem_of_getElem? (i := 10) rfl)) rfl), (mj_tb_in (mj_c5 (List.mem_of_getElem? (i := 161) rfl)) rfl)⟩
theorem mj_m168 : mj_mF 168 := ⟨(mj_tb_in (mj_c5 (List.mem_of_getElem? (i := 166) rfl)) rfl), (mj_tb_in (mj_c1 (List.mem_of_getElem? (i := 10) rfl)) rfl), ⟨(mj_tb_in (mj_c5 (List.mem_of_getElem? (i := 164) rfl)) rfl), (mj_tb_in (mj_c5 (List.mem_of_getElem? (i := 165) rfl)) rfl)⟩⟩
theorem mj_m169 : mj_mF 169 := ⟨(mj_tb_in (mj_c5 (List.mem_of_getElem? (i := 171) rfl)) rfl), (mj_tb_in (mj_c1 (List.mem_of_getElem? (i := 1) rfl)) rfl), ⟨(mj_tb_in (mj_c5 (List.mem_of_getElem? (i := 169) rfl)) rfl), (mj_tb_in (mj_c5 (List.mem_of_getElem? (i := 170) rfl)) rfl)⟩⟩
theorem mj_m170 : mj_mF 170 := ⟨(mj_tb_in (mj_c5 (List.mem_of_getElem? (i := 175) rfl)) rfl), (mj_tb_in (mj_c1 (List.mem_of_getElem? (i := 10) rfl)) rfl), ⟨(mj_tb_in (mj_c5 (List.mem_of_getElem? (i := 173) rfl)) rfl), (mj_tb_in (mj_c5 (List.mem_of_getElem? (i := 174) rfl)) rfl)⟩⟩
theorem mj_m171 : mj_mF 171 := ⟨(mj_tb_in (mj_c5 (List.mem_of_getElem? (i := 181) rfl)) rfl), (mj_tb_in (mj_c1 (List.mem_of_getElem? (i := 1) rfl)) rfl), ⟨(mj_tb_in (mj_c5 (List.mem_of_getElem? (i := 179) rfl)) rfl), (mj_tb_in (mj_c5 (List.mem_of_getElem? (i := 180) rfl)) rfl)⟩⟩
theorem mj_m172 : mj_mF 172 := ⟨(mj_tb_in (mj_c5 (List.mem_of_getElem? (i := 185) rfl)) rfl), (mj_tb_in (mj_c1 (List.mem_of_getElem? (i := 1) rfl)) rfl), ⟨(mj_tb_in (mj_c5 (List.mem_of_getElem? (i := 183) rfl)) rfl), (mj_tb_in (mj_c5 (List.mem_of_getElem? (i := 184) rfl)) rfl)⟩⟩
theorem mj_m173 : mj_mF 173 := ⟨(mj_tb_in (mj_c5 (List.mem_of_getElem? (i := 189) rfl)) rfl), (mj_tb_in (mj_c1 (List.mem_of_getElem? (i := 10) rfl)) rfl), ⟨(mj_tb_in (mj_c5 (List.mem_of_getElem? (i := 187) rfl)) rfl), (mj_tb_in (mj_c5 (List.mem_of_getElem? (i := 188) rfl)) rfl)⟩⟩
theorem mj_m174 : mj_mF 174 := ⟨(mj_tb_in (mj_c5 (List.mem_of_getElem? (i := 193) rfl)) rfl), (mj_tb_in (mj_c1 (List.mem_of_getElem? (i := 10) rfl)) rfl), ⟨(mj_tb_in (mj_c5 (List.mem_of_getElem? (i := 192) rfl)) rfl), (List.mem_filter.mpr ⟨List.mem_append_left _ (List.mem_of_getElem? (i := 32) rfl), rfl⟩)⟩⟩
theorem mj_m175 : mj_mF 175 := ⟨(mj_tb_in (mj_c5 (List.mem_of_getElem? (i := 199) rfl)) rfl), (mj_tb_in (mj_c1 (List.mem_of_getElem? (i := 1) rfl)) rfl), ⟨(mj_tb_in (mj_c5 (List.mem_of_getElem? (i := 197) rfl)) rfl), (mj_tb_in (mj_c5 (List.mem_of_getElem? (i := 198) rfl)) rfl)⟩⟩
theorem mj_m176 : mj_mF 176 := ⟨(mj_tb_in (mj_c5 (List.mem_of_getElem? (i := 203) rfl)) rfl), (mj_tb_in (mj_c1 (List.mem_of_getElem? (i := 10) rfl)) rfl), ⟨(mj_tb_in (mj_c5 (List.mem_of_getElem? (i := 201) rfl)) rfl), (mj_tb_in (mj_c5 (List.mem_of_getElem? (i := 202) rfl)) rfl)⟩⟩
theorem mj_m177 : mj_mF 177 := ⟨(mj_tb_in (mj_c5 (List.mem_of_getElem? (i := 207) rfl)) rfl), (mj_tb_in (mj_c1 (List.mem_of_getElem? (i := 1) rfl)) rfl), ⟨(mj_tb_in (mj_c5 (List.mem_of_getElem? (i := 205) rfl)) rfl), (mj_tb_in (mj_c5 (List.mem_of_getElem? (i := 206) rfl)) rfl)⟩⟩
theorem mj_m178 : mj_mF 178 := ⟨(mj_tb_in (mj_c5 (List.mem_of_getElem? (i := 211) rfl)) rfl), (mj_tb_in (mj_c1 (List.mem_of_getElem? (i := 10) rfl)) rfl), ⟨(mj_tb_in (mj_c5 (List.mem_of_getElem? (i := 209) rfl)) rfl), (mj_tb_in (mj_c5 (List.mem_of_getElem? (i := 210) rfl)) rfl)⟩⟩
theorem mj_m179 : mj_mF 179 := ⟨(mj_tb_in (mj_c5 (List.mem_of_getElem? (i := 215) rfl)) rfl), (mj_tb_in (mj_c1 (List.mem_of_getElem? (i := 1) rfl)) rfl), ⟨(mj_tb_in (mj_c5 (List.mem_of_getElem? (i := 213) rfl)) rfl), (mj_tb_in (mj_c5 (List.mem_of_getElem? (i := 214) rfl)) rfl)⟩⟩
theorem mj_m180 : mj_mF 180 := ⟨(mj_tb_in (mj_c5 (List.mem_of_getElem? (i := 219) rfl)) rfl), (mj_tb_in (mj_c1 (List.mem_of_getElem? (i := 10) rfl)) rfl), ⟨(mj_tb_in (mj_c5 (List.mem_of_getElem? (i := 217) rfl)) rfl), (mj_tb_in (mj_c5 (List.mem_of_getElem? (i := 218) rfl)) rfl)⟩⟩
theorem mj_m181 : mj_mF 181 := ⟨(mj_tb_in (mj_c5 (List.mem_of_getElem? (i := 224) rfl)) rfl), (mj_tb_in (mj_c1 (List.mem_of_getElem? (i := 1) rfl)) rfl), ⟨(mj_tb_in (mj_c5 (List.mem_of_getElem? (i := 222) rfl)) rfl), (mj_tb_in (mj_c5 (List.mem_of_getElem? (i := 223) rfl)) rfl)⟩⟩
theorem mj_m182 : mj_mF 182 := ⟨(mj_tb_in (mj_c5 (List.mem_of_getElem? (i := 228) rfl)) rfl), (mj_tb_in (mj_c1 (List.mem_of_getElem? (i := 5) rfl)) rfl), ⟨(mj_tb_in (mj_c5 (List.mem_of_getElem? (i := 226) rfl)) rfl), (mj_tb_in (mj_c5 (List.mem_of_getElem? (i := 227) rfl)) rfl)⟩⟩
theorem mj_m183 : mj_mF 183 := ⟨(mj_tb_in (mj_c5 (List.mem_of_getElem? (i := 233) rfl)) rfl), (mj_tb_in (mj_c1 (List.mem_of_getElem? (i := 1) rfl)) rfl), ⟨(mj_tb_in (mj_c5 (List.mem_of_getElem? (i := 231) rfl)) rfl), (mj_tb_in (mj_c5 (List.mem_of_getElem? (i := 232) rfl)) rfl)⟩⟩
theorem mj_m184 : mj_mF 184 := ⟨(mj_tb_in (mj_c5 (List.mem_of_getElem? (i := 237) rfl)) rfl), (mj_tb_in (mj_c1 (List.mem_of_getElem? (i := 3) rfl)) rfl), ⟨(mj_tb_in (mj_c5 (List.mem_of_getElem? (i := 235) rfl)) rfl), (mj_tb_in (mj_c5 (List.mem_of_getElem? (i := 236) rfl)) rfl)⟩⟩
theorem mj_m185 : mj_mF 185 := ⟨(mj_tb_in (mj_c6 (List.mem_of_getElem? (i := 1) rfl)) rfl), (mj_tb_in (mj_c1 (List.mem_of_getElem? (i := 4) rfl)) rfl), ⟨(mj_tb_in (mj_c5 (List.mem_of_getElem? (i := 239) rfl)) rfl), (mj_tb_in (mj_c6 (List.mem_of_getElem? (i := 0) rfl)) rfl)⟩⟩
theorem mj_m186 : mj_mF 186 := ⟨(mj_tb_in (mj_c6 (List.mem_of_getElem? (i := 6) rfl)) rfl), (mj_tb_in (mj_c1 (List.mem_of_getElem? (i := 6) rfl)) rfl), ⟨(mj_tb_in (mj_c6 (List.mem_of_getElem? (i := 4) rfl)) rfl), (mj_tb_in (mj_c6 (List.mem_of_getElem? (i := 5) rfl)) rfl)⟩⟩
theorem mj_m187 : mj_mF 187 := ⟨(mj_tb_in (mj_c6 (List.mem_of_getElem? (i := 12) rfl)) rfl), (mj_tb_in (mj_c1 (List.mem_of_getElem? (i := 1) rfl)) rfl), ⟨(mj_tb_in (mj_c6 (List.mem_of_getElem? (i := 10) rfl)) rfl), (mj_tb_in (mj_c6 (List.mem_of_getElem? (i := 11) rfl)) rfl)⟩⟩
theorem mj_m188 : mj_mF 188 := ⟨(mj_tb_in (mj_c6 (List.mem_of_getElem? (i := 16) rfl)) rfl), (mj_tb_in (mj_c1 (List.mem_of_getElem? (i := 1) rfl)) rfl), ⟨(mj_tb_in (mj_c6 (List.mem_of_getElem? (i := 14) rfl)) rfl), (mj_tb_in (mj_c6 (List.mem_of_getElem? (i := 15) rfl)) rfl)⟩⟩
theorem mj_m189 : mj_mF 189 := ⟨(mj_tb_in (mj_c6 (List.mem_of_getElem? (i := 21) rfl)) rfl), (mj_tb_in (mj_c1 (List.mem_of_getElem? (i := 12) rfl)) rfl), (mj_tb_in (mj_c6 (List.mem_of_getElem? (i := 20) rfl)) rfl)⟩
theorem mj_m190 : mj_mF 190 := ⟨(mj_tb_in (mj_c6 (List.mem_of_getElem? (i := 26) rfl)) rfl), (mj_tb_in (mj_c1 (List.mem_of_getElem? (i := 12) rfl)) rfl), ⟨(mj_tb_in (mj_c6 (List.mem_of_getElem? (i := 25) rfl)) rfl), (List.mem_filter.mpr ⟨List.mem_append_left _ (List.mem_of_getElem? (i := 33) rfl), rfl⟩)⟩⟩
theorem mj_m191 : mj_mF 191 := ⟨(mj_tb_in (mj_c6 (List.mem_of_getElem? (i := 30) rfl)) rfl), (mj_tb_in (mj_c1 (List.mem_of_getElem? (i := 12) rfl)) rfl), ⟨(mj_tb_in (mj_c6 (List.mem_of_getElem? (i := 29) rfl)) rfl), (List.mem_filter.mpr ⟨List.mem_append_left _ (List.mem_of_getElem? (i := 34) rfl), rfl⟩)⟩⟩
theorem mj_m192 : mj_mF 192 := ⟨(mj_tb_in (mj_c6 (List.mem_of_getElem? (i := 33) rfl)) rfl), (mj_tb_in (mj_c1 (List.mem_of_getElem? (i := 12) rfl)) rfl), (mj_tb_in (mj_c6 (List.mem_of_getElem? (i := 32) rfl)) rfl)⟩
theorem mj_m193 : mj_mF 193 := ⟨(mj_tb_in (mj_c6 (List.mem_of_getElem? (i := 36) rfl)) rfl), (mj_tb_in (mj_c1 (List.mem_of_getElem? (i := 12) rfl)) rfl), (mj_tb_in (mj_c6 (List.mem_of_getElem? (i := 35) rfl)) rfl)⟩
theorem mj_m194 : mj_mF 194 := ⟨(mj_tb_in (mj_c6 (List.mem_of_getElem? (i := 39) rfl)) rfl), (mj_tb_in (mj_c1 (List.mem_of_getElem? (i := 12) rfl)) rfl), (mj_tb_in (mj_c6 (List.mem_of_getElem? (i := 38) rfl)) rfl)⟩
theorem mj_m195 : mj_mF 195 := ⟨(mj_tb_in (mj_c6 (List.mem_of_getElem? (i := 43) rfl)) rfl), (mj_tb_in (mj_c1 (List.mem_of_getElem? (i := 12) rfl)) rfl), ⟨(mj_tb_in (mj_c6 (List.mem_of_getElem? (i := 42) rfl)) rfl), (List.mem_filter.mpr ⟨List.mem_append_left _ (List.mem_of_getElem? (i := 35) rfl), rfl⟩)⟩⟩
theorem mj_m196 : mj_mF 196 := ⟨(mj_tb_in (mj_c6 (List.mem_of_getElem? (i := 47) rfl)) rfl), (mj_tb_in (mj_c1 (List.mem_of_getElem? (i := 12) rfl)) rfl), ⟨(mj_tb_in (mj_c6 (List.mem_of_getElem? (i := 46) rfl)) rfl), (List.mem_filter.mpr ⟨List.mem_append_left _ (List.mem_of_getElem? (i := 36) rfl), rfl⟩)⟩⟩
theorem mj_m197 : mj_mF 197 := ⟨(mj_tb_in (mj_c6 (List.mem_of_getElem? (i := 50) rfl)) rfl), (mj_tb_in (mj_c1 (List.mem_of_getElem? (i := 12) rfl)) rfl), (mj_tb_in (mj_c6 (List.mem_of_getElem? (i := 49) rfl)) rfl)⟩
theorem mj_m198 : mj_mF 198 := ⟨(mj_tb_in (mj_c6 (List.mem_of_getElem? (i := 174) rfl)) rfl), (mj_tb_in (mj_c1 (List.mem_of_getElem? (i := 12) rfl)) rfl), ⟨(mj_tb_in (mj_c6 (List.mem_of_getElem? (i := 172) rfl)) rfl), (mj_tb_in (mj_c6 (List.mem_of_getElem? (i := 173) rfl)) rfl)⟩⟩
theorem mj_m199 : mj_mF 199 := ⟨(mj_tb_in (mj_c6 (List.mem_of_getElem? (i := 178) rfl)) rfl), (mj_tb_in (mj_c1 (List.mem_of_getElem? (i := 12) rfl)) rfl), ⟨(mj_tb_in (mj_c6 (List.mem_of_getElem? (i := 176) rfl)) rfl), (mj_tb_in (mj_c6 (List.mem_of_getElem? (i := 177) rfl)) rfl)⟩⟩
theorem mj_m200 : mj_mF 200 := ⟨(mj_tb_in (mj_c6 (List.mem_of_getElem? (i := 182) rfl)) rfl), (mj_tb_in (mj_c1 (List.mem_of_getElem? (i := 12) rfl)) rfl), ⟨(mj_tb_in (mj_c6 (List.mem_of_getElem? (i := 181) rfl)) rfl), (List.mem_filter.mpr ⟨List.mem_append_left _ (List.mem_of_getElem? (i := 37) rfl), rfl⟩)⟩⟩
theorem mj_m201 : mj_mF 201 := ⟨(mj_tb_in (mj_c6 (List.mem_of_getElem? (i := 186) rfl)) rfl), (mj_tb_in (mj_c1 (List.mem_of_getElem? (i := 12) rfl)) rfl), ⟨(mj_tb_in (mj_c6 (List.mem_of_getElem? (i := 185) rfl)) rfl), (List.mem_filter.mpr ⟨List.mem_append_left _ (List.mem_of_getElem? (i := 38) rfl), rfl⟩)⟩⟩
theorem mj_m202 : mj_mF 202 := ⟨(mj_tb_in (mj_c6 (List.mem_of_getElem? (i := 190) rfl)) rfl), (mj_tb_in (mj_c1 (List.mem_of_getElem? (i := 12) rfl)) rfl), ⟨(mj_tb_in (mj_c6 (List.mem_of_getElem? (i := 189) rfl)) rfl), (List.mem_filter.mpr ⟨List.mem_append_left _ (List.mem_of_getElem? (i := 39) rfl), rfl⟩)⟩⟩
theorem mj_m203 : mj_mF 203 := ⟨(mj_tb_in (mj_c6 (List.mem_of_getElem? (i := 194) rfl)) rfl), (mj_tb_in (mj_c1 (List.mem_of_getElem? (i := 12) rfl)) rfl), ⟨(mj_tb_in (mj_c6 (List.mem_of_getElem? (i := 193) rfl)) rfl), (List.mem_filter.mpr ⟨List.mem_append_left _ (List.mem_of_getElem? (i := 40) rfl), rfl⟩)⟩⟩
theorem mj_m204 : mj_mF 204 := ⟨(mj_tb_in (mj_c6 (List.mem_of_getElem? (i := 198) rfl)) rfl), (mj_tb_in (mj_c1 (List.mem_of_getElem? (i := 12) rfl)) rfl), ⟨(mj_tb_in (mj_c6 (List.mem_of_getElem? (i := 196) rfl)) rfl), (mj_tb_in (mj_c6 (List.mem_of_getElem? (i := 197) rfl)) rfl)⟩⟩
theorem mj_m205 : mj_mF 205 := ⟨(mj_tb_in (mj_c6 (List.mem_of_getElem? (i := 202) rfl)) rfl), (mj_tb_in (mj_c1 (List.mem_of_getElem? (i := 12) rfl)) rfl), ⟨(mj_tb_in (mj_c6 (List.mem_of_getElem? (i := 200) rfl)) rfl), (mj_tb_in (mj_c6 (List.mem_of_getElem? (i := 201) rfl)) rfl)⟩⟩
theorem mj_m206 : mj_mF 206 := ⟨(mj_tb_in (mj_c6 (List.mem_of_getElem? (i := 206) rfl)) rfl), (mj_tb_in (mj_c1 (List.mem_of_getElem? (i := 12) rfl)) rfl), ⟨(mj_tb_in (mj_c6 (List.mem_of_getElem? (i := 205) rfl)) rfl), (List.mem_filter.mpr ⟨List.mem_append_left _ (List.mem_of_getElem? (i := 41) rfl), rfl⟩)⟩⟩
theorem mj_m207 : mj_mF 207 := ⟨(mj_tb_in (mj_c6 (List.mem_of_getElem? (i := 210) rfl)) rfl), (mj_tb_in (mj_c1 (List.mem_of_getElem? (i := 12) rfl)) rfl), ⟨(mj_tb_in (mj_c6 (List.mem_of_getElem? (i := 208) rfl)) rfl), (mj_tb_in (mj_c6 (List.mem_of_getElem? (i := 209) rfl)) rfl)⟩⟩
theorem mj_m208 : mj_mF 208 := ⟨(mj_tb_in (mj_c6 (List.mem_of_getElem? (i := 214) rfl)) rfl), (mj_tb_in (mj_c1 (List.mem_of_getElem? (i := 12) rfl)) rfl), ⟨(mj_tb_in (mj_c6 (List.mem_of_getElem? (i := 212) rfl)) rfl), (mj_tb_in (mj_c6 (List.mem_of_getElem? (i := 213) rfl)) rfl)⟩⟩
theorem mj_m209 : mj_mF 209 := ⟨(mj_tb_in (mj_c6 (List.mem_of_getElem? (i := 218) rfl)) rfl), (mj_tb_in (mj_c1 (List.mem_of_getElem? (i := 12) rfl)) rfl), ⟨(mj_tb_in (mj_c6 (List.mem_of_getElem? (i := 217) rfl)) rfl), (List.mem_filter.mpr ⟨List.mem_append_left _ (List.mem_of_getElem? (i := 42) rfl), rfl⟩)⟩⟩
theorem mj_m210 : mj_mF 210 := ⟨(mj_tb_in (mj_c6 (List.mem_of_getElem? (i := 222) rfl)) rfl), (mj_tb_in (mj_c1 (List.mem_of_getElem? (i := 12) rfl)) rfl), ⟨(mj_tb_in (mj_c6 (List.mem_of_getElem? (i := 221) rfl)) rfl), (List.mem_filter.mpr ⟨List.mem_append_left _ (List.mem_of_getElem? (i := 43) rfl), rfl⟩)⟩⟩
theorem mj_m211 : mj_mF 211 := ⟨(mj_tb_in (mj_c6 (List.mem_of_getElem? (i := 226) rfl)) rfl), (mj_tb_in (mj_c1 (List.mem_of_getElem? (i := 12) rfl)) rfl), ⟨(mj_tb_in (mj_c6 (List.mem_of_getElem? (i := 225) rfl)) rfl), (List.mem_filter.mpr ⟨List.mem_append_left _ (List.mem_of_getElem? (i := 44) rfl), rfl⟩)⟩⟩
theorem mj_m212 : mj_mF 212 := ⟨(mj_tb_in (mj_c6 (List.mem_of_getElem? (i := 229) rfl)) rfl), (mj_tb_in (mj_c1 (List.mem_of_getElem? (i := 12) rfl)) rfl), (mj_tb_in (mj_c6 (List.mem_of_getElem? (i := 228) rfl)) rfl)⟩
theorem mj_m213 : mj_mF 213 := ⟨(mj_tb_in (mj_c6 (List.mem_of_getElem? (i := 233) rfl)) rfl), (mj_tb_in (mj_c1 (List.mem_of_getElem? (i := 12) rfl)) rfl), (mj_tb_in (mj_c6 (List.mem_of_getElem? (i := 232) rfl)) rfl)⟩
theorem mj_m214 : mj_mF 214 := ⟨(mj_tb_in (mj_c6 (List.mem_of_getElem? (i := 237) rfl)) rfl), (mj_tb_in (mj_c1 (List.mem_of_getElem? (i := 12) rfl)) rfl), (mj_tb_in (mj_c6 (List.mem_of_getElem? (i := 236) rfl)) rfl)⟩
theorem mj_m215 : mj_mF 215 := ⟨(mj_tb_in (mj_c7 (List.mem_of_getElem? (i := 1) rfl)) rfl), (mj_tb_in (mj_c1 (List.mem_of_getElem? (i := 12) rfl)) rfl), ⟨(mj_tb_in (mj_c7 (List.mem_of_getElem? (i := 0) rfl)) rfl), (List.mem_filter.mpr ⟨List.mem_append_left _ (List.mem_of_getElem? (i := 45) rfl), rfl⟩)⟩⟩
theorem mj_m216 : mj_mF 216 := ⟨(mj_tb_in (mj_c7 (List.mem_of_getElem? (i := 5) rfl)) rfl), (mj_tb_in (mj_c1 (List.mem_of_getElem? (i := 12) rfl)) rfl), ⟨(mj_tb_in (mj_c7 (List.mem_of_getElem? (i := 4) rfl)) rfl), (List.mem_filter.mpr ⟨List.mem_append_left _ (List.mem_of_getElem? (i := 46) rfl), rfl⟩)⟩⟩
theorem mj_m217 : mj_mF 217 := ⟨(mj_tb_in (mj_c7 (List.mem_of_getElem? (i := 8) rfl)) rfl), (mj_tb_in (mj_c1 (List.mem_of_getElem? (i := 12) rfl)) rfl), (mj_tb_in (mj_c7 (List.mem_of_getElem? (i := 7) rfl)) rfl)⟩
theorem mj_m218 : mj_mF 218 := ⟨(mj_tb_in (mj_c7 (List.mem_of_getElem? (i := 11) rfl)) rfl), (mj_tb_in (mj_c1 (List.mem_of_getElem? (i := 12) rfl)) rfl), (mj_tb_in (mj_c7 (List.mem_of_getElem? (i := 10) rfl)) rfl)⟩
theorem mj_m219 : mj_mF 219 := ⟨(mj_tb_in (mj_c7 (List.mem_of_getElem? (i := 14) rfl)) rfl), (mj_tb_in (mj_c1 (List.mem_of_getElem? (i := 12) rfl)) rfl), (mj_tb_in (mj_c7 (List.mem_of_getElem? (i := 13) rfl)) rfl)⟩
theorem mj_m220 : mj_mF 220 := ⟨(mj_tb_in (mj_c7 (List.mem_of_getElem? (i := 17) rfl)) rfl), (mj_tb_in (mj_c1 (List.mem_of_getElem? (i := 12) rfl)) rfl), (mj_tb_in (mj_c7 (List.mem_of_getElem? (i := 16) rfl)) rfl)⟩
theorem mj_m221 : mj_mF 221 := ⟨(mj_tb_in (mj_c7 (List.mem_of_getElem? (i := 21) rfl)) rfl), (mj_tb_in (mj_c1 (List.mem_of_getElem? (i := 12) rfl)) rfl), ⟨(mj_tb_in (mj_c7 (List.mem_of_getElem? (i := 20) rfl)) rfl), (List.mem_filter.mpr ⟨List.mem_append_left _ (List.mem_of_getElem? (i := 47) rfl), rfl⟩)⟩⟩
theorem mj_m222 : mj_mF 222 := ⟨(mj_tb_in (mj_c7 (List.mem_of_getElem? (i := 24) rfl)) rfl), (mj_tb_in (mj_c1 (List.mem_of_getElem? (i := 12) rfl)) rfl), (mj_tb_in (mj_c7 (List.mem_of_getElem? (i := 23) rfl)) rfl)⟩
theorem mj_m223 : mj_mF 223 := ⟨(mj_tb_in (mj_c7 (List.mem_of_getElem? (i := 27) rfl)) rfl), (mj_tb_in (mj_c1 (List.mem_of_getElem? (i := 12) rfl)) rfl), (mj_tb_in (mj_c7 (List.mem_of_getElem? (i := 26) rfl)) rfl)⟩
theorem mj_m224 : mj_mF 224 := ⟨(mj_tb_in (mj_c7 (List.mem_of_getElem? (i := 31) rfl)) rfl), (mj_tb_in (mj_c1 (List.mem_of_getElem? (i := 12) rfl)) rfl), ⟨(mj_tb_in (mj_c7 (List.mem_of_getElem? (i := 30) rfl)) rfl), (List.mem_filter.mpr ⟨List.mem_append_left _ (List.mem_of_getElem? (i := 48) rfl), rfl⟩)⟩⟩
theorem mj_m225 : mj_mF 225 := ⟨(mj_tb_in (mj_c7 (List.mem_of_getElem? (i := 35) rfl)) rfl), (mj_tb_in (mj_c1 (List.mem_of_getElem? (i := 12) rfl)) rfl), ⟨(mj_tb_in (mj_c7 (List.mem_of_getElem? (i := 34) rfl)) rfl), (List.mem_filter.mpr ⟨List.mem_append_left _ (List.mem_of_getElem? (i := 49) rfl), rfl⟩)⟩⟩
theorem mj_m226 : mj_mF 226 := ⟨(mj_tb_in (mj_c7 (List.mem_of_getElem? (i := 39) rfl)) rfl), (mj_tb_in (mj_c1 (List.mem_of_getElem? (i := 12) rfl)) rfl), ⟨(mj_tb_in (mj_c7 (List.mem_of_getElem? (i := 38) rfl)) rfl), (List.mem_filter.mpr ⟨List.mem_append_left _ (List.mem_of_getElem? (i := 50) rfl), rfl⟩)⟩⟩
theorem mj_m227 : mj_mF 227 := ⟨(mj_tb_in (mj_c7 (List.mem_of_getElem? (i := 43) rfl)) rfl), (mj_tb_in (mj_c1 (List.mem_of_getElem? (i := 12) rfl)) rfl), ⟨(mj_tb_in (mj_c7 (List.mem_of_getElem? (i := 42) rfl)) rfl), (List.mem_filter.mpr ⟨List.mem_append_left _ (List.mem_of_getElem? (i := 51) rfl), rfl⟩)⟩⟩
theorem mj_m228 : mj_mF 228 := ⟨(mj_tb_in (mj_c7 (List.mem_of_getElem? (i := 47) rfl)) rfl), (mj_tb_in (mj_c1 (List.mem_of_getElem? (i := 12) rfl)) rfl), ⟨(mj_tb_in (mj_c7 (List.mem_of_getElem? (i := 46) rfl)) rfl), (List.mem_filter.mpr ⟨List.mem_append_left _ (List.mem_of_getElem? (i := 52) rfl), rfl⟩)⟩⟩
theorem mj_m229 : mj_mF 229 := ⟨(mj_tb_in (mj_c7 (List.mem_of_getElem? (i := 51) rfl)) rfl), (mj_tb_in (mj_c1 (List.mem_of_getElem? (i := 12) rfl)) rfl), ⟨(mj_tb_in (mj_c7 (List.mem_of_getElem? (i := 50) rfl)) rfl), (List.mem_filter.mpr ⟨List.mem_append_left _ (List.mem_of_getElem? (i := 53) rfl), rfl⟩)⟩⟩
theorem mj_m230 : mj_mF 230 := ⟨(mj_tb_in (mj_c7 (List.mem_of_getElem? (i := 55) rfl)) rfl), (mj_tb_in (mj_c1 (List.mem_of_getElem? (i := 12) rfl)) rfl), ⟨(mj_tb_in (mj_c7 (List.mem_of_getElem? (i := 54) rfl)) rfl), (List.mem_filter.mpr ⟨List.mem_append_left _ (List.mem_of_getElem? (i := 54) rfl), rfl⟩)⟩⟩
theorem mj_m231 : mj_mF 231 := ⟨(mj_tb_in (mj_c7 (List.mem_of_getElem? (i := 59) rfl)) rfl), (mj_tb_in (mj_c1 (List.mem_of_getElem? (i := 12) rfl)) rfl), ⟨(mj_tb_in (mj_c7 (List.mem_of_getElem? (i := 58) rfl)) rfl), (List.mem_filter.mpr ⟨List.mem_append_left _ (List.mem_of_getElem? (i := 55) rfl), rfl⟩)⟩⟩
theorem mj_m232 : mj_mF 232 := ⟨(mj_tb_in (mj_c7 (List.mem_of_getElem? (i := 63) rfl)) rfl), (mj_tb_in (mj_c1 (List.mem_of_getElem? (i := 12) rfl)) rfl), ⟨(mj_tb_in (mj_c7 (List.mem_of_getElem? (i := 62) rfl)) rfl), (List.mem_filter.mpr ⟨List.mem_append_left _ (List.mem_of_getElem? (i := 56) rfl), rfl⟩)⟩⟩
theorem mj_m233 : mj_mF 233 := ⟨(mj_tb_in (mj_c7 (List.mem_of_getElem? (i := 67) rfl)) rfl), (mj_tb_in (mj_c1 (List.mem_of_getElem? (i := 12) rfl)) rfl), ⟨(mj_tb_in (mj_c7 (List.mem_of_getElem? (i := 66) rfl)) rfl), (List.mem_filter.mpr ⟨List.mem_append_left _ (List.mem_of_getElem? (i := 57) rfl), rfl⟩)⟩⟩
theorem mj_m234 : mj_mF 234 := ⟨(mj_tb_in (mj_c7 (List.mem_of_getElem? (i := 71) rfl)) rfl), (mj_tb_in (mj_c1 (List.mem_of_getElem? (i := 12) rfl)) rfl), ⟨(mj_tb_in (mj_c7 (List.mem_of_getElem? (i := 70) rfl)) rfl), (List.mem_filter.mpr ⟨List.mem_append_left _ (List.mem_of_getElem? (i := 58) rfl), rfl⟩)⟩⟩
theorem mj_m235 : mj_mF 235 := ⟨(mj_tb_in (mj_c7 (List.mem_of_getElem? (i := 74) rfl)) rfl), (mj_tb_in (mj_c1 (List.mem_of_getElem? (i := 12) rfl)) rfl), (mj_tb_in (mj_c7 (List.mem_of_getElem? (i := 73) rfl)) rfl)⟩
theorem mj_m236 : mj_mF 236 := ⟨(mj_tb_in (mj_c7 (List.mem_of_getElem? (i := 78) rfl)) rfl), (mj_tb_in (mj_c1 (List.mem_of_getElem? (i := 12) rfl)) rfl), ⟨(mj_tb_in (mj_c7 (List.mem_of_getElem? (i := 77) rfl)) rfl), (List.mem_filter.mpr ⟨List.mem_append_left _ (List.mem_of_getElem? (i := 59) rfl), rfl⟩)⟩⟩
theorem mj_m237 : mj_mF 237 := ⟨(mj_tb_in (mj_c7 (List.mem_of_getElem? (i := 82) rfl)) rfl), (mj_tb_in (mj_c1 (List.mem_of_getElem? (i := 12) rfl)) rfl), ⟨(mj_tb_in (mj_c7 (List.mem_of_getElem? (i := 81) rfl)) rfl), (List.mem_filter.mpr ⟨List.mem_append_left _ (List.mem_of_getElem? (i := 60) rfl), rfl⟩)⟩⟩
theorem mj_m238 : mj_mF 238 := ⟨(mj_tb_in (mj_c7 (List.mem_of_getElem? (i := 86) rfl)) rfl), (mj_tb_in (mj_c1 (List.mem_of_getElem? (i := 12) rfl)) rfl), ⟨(mj_tb_in (mj_c7 (List.mem_of_getElem? (i := 85) rfl)) rfl), (List.mem_filter.mpr ⟨List.mem_append_left _ (List.mem_of_getElem? (i := 61) rfl), rfl⟩)⟩⟩
theorem mj_m239 : mj_mF 239 := ⟨(mj_tb_in (mj_c7 (List.mem_of_getElem? (i := 90) rfl)) rfl), (mj_tb_in (mj_c1 (List.mem_of_getElem? (i := 12) rfl)) rfl), ⟨(mj_tb_in (mj_c7 (List.mem_of_getElem? (i := 89) rfl)) rfl), (List.mem_filter.mpr ⟨List.mem_append_left _ (List.mem_of_getElem? (i := 62) rfl), rfl⟩)⟩⟩
theorem mj_m240 : mj_mF 240 := ⟨(mj_tb_in (mj_c7 (List.mem_of_getElem? (i := 94) rfl)) rfl), (mj_tb_in (mj_c1 (List.mem_of_getElem? (i := 12) rfl)) rfl), ⟨(mj_tb_in (mj_c7 (List.mem_of_getElem? (i := 93) rfl)) rfl), (List.mem_filter.mpr ⟨List.mem_append_left _ (List.mem_of_getElem? (i := 63) rfl), rfl⟩)⟩⟩
theorem mj_m241 : mj_mF 241 := ⟨(mj_tb_in (mj_c7 (List.mem_of_getElem? (i := 98) rfl)) rfl), (mj_tb_in (mj_c1 (List.mem_of_getElem? (i := 12) rfl)) rfl), ⟨(mj_tb_in (mj_c7 (List.mem_of_getElem? (i := 97) rfl)) rfl), (List.mem_filter.mpr ⟨List.mem_append_left _ (List.mem_of_getElem? (i := 64) rfl), rfl⟩)⟩⟩
theorem mj_m242 : mj_mF 242 := ⟨(mj_tb_in (mj_c7 (List.mem_of_getElem? (i := 102) rfl)) rfl), (mj_tb_in (mj_c1 (List.mem_of_getElem? (i := 12) rfl)) rfl), ⟨(mj_tb_in (mj_c7 (List.mem_of_getElem? (i := 101) rfl)) rfl), (List.mem_filter.mpr ⟨List.mem_append_left _ (List.mem_of_getElem? (i := 65) rfl), rfl⟩)⟩⟩
theorem mj_m243 : mj_mF 243 := ⟨(mj_tb_in (mj_c7 (List.mem_of_getElem? (i := 106) rfl)) rfl), (mj_tb_in (mj_c1 (List.mem_of_getElem? (i := 12) rfl)) rfl), ⟨(mj_tb_in (mj_c7 (List.mem_of_getElem? (i := 105) rfl)) rfl), (List.mem_filter.mpr ⟨List.mem_append_left _ (List.mem_of_getElem? (i := 66) rfl), rfl⟩)⟩⟩
theorem mj_m244 : mj_mF 244 := ⟨(mj_tb_in (mj_c7 (List.mem_of_getElem? (i := 110) rfl)) rfl), (mj_tb_in (mj_c1 (List.mem_of_getElem? (i := 12) rfl)) rfl), ⟨(mj_tb_in (mj_c7 (List.mem_of_getElem? (i := 108) rfl)) rfl), (mj_tb_in (mj_c7 (List.mem_of_getElem? (i := 109) rfl)) rfl)⟩⟩
theorem mj_m245 : mj_mF 245 := ⟨(mj_tb_in (mj_c7 (List.mem_of_getElem? (i := 114) rfl)) rfl), (mj_tb_in (mj_c1 (List.mem_of_getElem? (i := 12) rfl)) rfl), ⟨(mj_tb_in (mj_c7 (List.mem_of_getElem? (i := 112) rfl)) rfl), (mj_tb_in (mj_c7 (List.mem_of_getElem? (i := 113) rfl)) rfl)⟩⟩
theorem mj_m246 : mj_mF 246 := ⟨(mj_tb_in (mj_c7 (List.mem_of_getElem? (i := 118) rfl)) rfl), (mj_tb_in (mj_c1 (List.mem_of_getElem? (i := 12) rfl)) rfl), ⟨(mj_tb_in (mj_c7 (List.mem_of_getElem? (i := 116) rfl)) rfl), (mj_tb_in (mj_c7 (List.mem_of_getElem? (i := 117) rfl)) rfl)⟩⟩
theorem mj_m247 : mj_mF 247 := ⟨(mj_tb_in (mj_c7 (List.mem_of_getElem? (i := 122) rfl)) rfl), (mj_tb_in (mj_c1 (List.mem_of_getElem? (i := 12) rfl)) rfl), ⟨(mj_tb_in (mj_c7 (List.mem_of_getElem? (i := 121) rfl)) rfl), (List.mem_filter.mpr ⟨List.mem_append_left _ (List.mem_of_getElem? (i := 67) rfl), rfl⟩)⟩⟩
theorem mj_m248 : mj_mF 248 := ⟨(mj_tb_in (mj_c7 (List.mem_of_getElem? (i := 126) rfl)) rfl), (mj_tb_in (mj_c1 (List.mem_of_getElem? (i := 12) rfl)) rfl), ⟨(mj_tb_in (mj_c7 (List.mem_of_getElem? (i := 125) rfl)) rfl), (List.mem_filter.mpr ⟨List.mem_append_left _ (List.mem_of_getElem? (i := 68) rfl), rfl⟩)⟩⟩
theorem mj_m249 : mj_mF 249 := ⟨(mj_tb_in (mj_c7 (List.mem_of_getElem? (i := 130) rfl)) rfl), (mj_tb_in (mj_c1 (List.mem_of_getElem? (i := 12) rfl)) rfl), ⟨(mj_tb_in (mj_c7 (List.mem_of_getElem? (i := 129) rfl)) rfl), (List.mem_filter.mpr ⟨List.mem_append_left _ (List.mem_of_getElem? (i := 69) rfl), rfl⟩)⟩⟩
theorem mj_m250 : mj_mF 250 := ⟨(mj_tb_in (mj_c7 (List.mem_of_getElem? (i := 134) rfl)) rfl), (mj_tb_in (mj_c1 (List.mem_of_getElem? (i := 12) rfl)) rfl), ⟨(mj_tb_in (mj_c7 (List.mem_of_getElem? (i := 133) rfl)) rfl), (List.mem_filter.mpr ⟨List.mem_append_left _ (List.mem_of_getElem? (i := 70) rfl), rfl⟩)⟩⟩
theorem mj_m251 : mj_mF 251 := ⟨(mj_tb_in (mj_c7 (List.mem_of_getElem? (i := 138) rfl)) rfl), (mj_tb_in (mj_c1 (List.mem_of_getElem? (i := 12) rfl)) rfl), ⟨(mj_tb_in (mj_c7 (List.mem_of_getElem? (i := 137) rfl)) rfl), (List.mem_filter.mpr ⟨List.mem_append_left _ (List.mem_of_getElem? (i := 71) rfl), rfl⟩)⟩⟩
theorem mj_m252 : mj_mF 252 := ⟨(mj_tb_in (mj_c7 (List.mem_of_getElem? (i := 142) rfl)) rfl), (mj_tb_in (mj_c1 (List.mem_of_getElem? (i := 12) rfl)) rfl), ⟨(mj_tb_in (mj_c7 (List.mem_of_getElem? (i := 141) rfl)) rfl), (List.mem_filter.mpr ⟨List.mem_append_left _ (List.mem_of_getElem? (i := 72) rfl), rfl⟩)⟩⟩
theorem mj_m253 : mj_mF 253 := ⟨(mj_tb_in (mj_c7 (List.mem_of_getElem? (i := 146) rfl)) rfl), (mj_tb_in (mj_c1 (List.mem_of_getElem? (i := 12) rfl)) rfl), ⟨(mj_tb_in (mj_c7 (List.mem_of_getElem? (i := 145) rfl)) rfl), (List.mem_filter.mpr ⟨List.mem_append_left _ (List.mem_of_getElem? (i := 73) rfl), rfl⟩)⟩⟩
theorem mj_m254 : mj_mF 254 := ⟨(mj_tb_in (mj_c7 (List.mem_of_getElem? (i := 150) rfl)) rfl), (mj_tb_in (mj_c1 (List.mem_of_getElem? (i := 12) rfl)) rfl), (mj_tb_in (mj_c7 (List.mem_of_getElem? (i := 149) rfl)) rfl)⟩
theorem mj_m255 : mj_mF 255 := ⟨(mj_tb_in (mj_c7 (List.mem_of_getElem? (i := 154) rfl)) rfl), (mj_tb_in (mj_c1 (List.mem_of_getElem? (i := 12) rfl)) rfl), ⟨(mj_tb_in (mj_c7 (List.mem_of_getElem? (i := 153) rfl)) rfl), (List.mem_filter.mpr ⟨List.mem_append_left _ (List.mem_of_getElem? (i := 74) rfl), rfl⟩)⟩⟩
theorem mj_m256 : mj_mF 256 := ⟨(mj_tb_in (mj_c7 (List.mem_of_getElem? (i := 159) rfl)) rfl), (mj_tb_in (mj_c1 (List.mem_of_getElem? (i := 12) rfl)) rfl), ⟨(mj_tb_in (mj_c7 (List.mem_of_getElem? (i := 158) rfl)) rfl), (List.mem_filter.mpr ⟨List.mem_append_left _ (List.mem_of_getElem? (i := 75) rfl), rfl⟩)⟩⟩
theorem mj_m257 : mj_mF 257 := ⟨(mj_tb_in (mj_c7 (List.mem_of_getElem? (i := 163) rfl)) rfl), (mj_tb_in (mj_c1 (List.mem_of_getElem? (i := 12) rfl)) rfl), ⟨(mj_tb_in (mj_c7 (List.mem_of_getElem? (i := 161) rfl)) rfl), (mj_tb_in (mj_c7 (List.mem_of_getElem? (i := 162) rfl)) rfl)⟩⟩
theorem mj_m258 : mj_mF 258 := ⟨(mj_tb_in (mj_c7 (List.mem_of_getElem? (i := 167) rfl)) rfl), (mj_tb_in (mj_c1 (List.mem_of_getElem? (i := 12) rfl)) rfl), ⟨(mj_tb_in (mj_c7 (List.mem_of_getElem? (i := 165) rfl)) rfl), (mj_tb_in (mj_c7 (List.mem_of_getElem? (i := 166) rfl)) rfl)⟩⟩
theorem mj_m259 : mj_mF 259 := ⟨(mj_tb_in (mj_c7 (List.mem_of_getElem? (i := 171) rfl)) rfl), (mj_tb_in (mj_c1 (List.mem_of_getElem? (i := 12) rfl)) rfl), ⟨(mj_tb_in (mj_c7 (List.mem_of_getElem? (i := 169) rfl)) rfl), (mj_tb_in (mj_c7 (List.mem_of_getElem? (i := 170) rfl)) rfl)⟩⟩
theorem mj_m260 : mj_mF 260 := ⟨(mj_tb_in (mj_c7 (List.mem_of_getElem? (i := 175) rfl)) rfl), (mj_tb_in (mj_c1 (List.mem_of_getElem? (i := 12) rfl)) rfl), ⟨(mj_tb_in (mj_c7 (List.mem_of_getElem? (i := 174) rfl)) rfl), (List.mem_filter.mpr ⟨List.mem_append_left _ (List.mem_of_getElem? (i := 76) rfl), rfl⟩)⟩⟩
theorem mj_m261 : mj_mF 261 := ⟨(mj_tb_in (mj_c7 (List.mem_of_getElem? (i := 179) rfl)) rfl), (mj_tb_in (mj_c1 (List.mem_of_getElem? (i := 12) rfl)) rfl), ⟨(mj_tb_in (mj_c7 (List.mem_of_getElem? (i := 178) rfl)) rfl), (List.mem_filter.mpr ⟨List.mem_append_left _ (List.mem_of_getElem? (i := 77) rfl), rfl⟩)⟩⟩
theorem mj_m262 : mj_mF 262 := ⟨(mj_tb_in (mj_c7 (List.mem_of_getElem? (i := 183) rfl)) rfl), (mj_tb_in (mj_c1 (List.mem_of_getElem? (i := 12) rfl)) rfl), ⟨(mj_tb_in (mj_c7 (List.mem_of_getElem? (i := 182) rfl)) rfl), (List.mem_filter.mpr ⟨List.mem_append_left _ (List.mem_of_getElem? (i := 78) rfl), rfl⟩)⟩⟩
theorem mj_m263 : mj_mF 263 := ⟨(mj_tb_in (mj_c7 (List.mem_of_getElem? (i := 187) rfl)) rfl), (mj_tb_in (mj_c1 (List.mem_of_getElem? (i := 12) rfl)) rfl), ⟨(mj_tb_in (mj_c7 (List.mem_of_getElem? (i := 186) rfl)) rfl), (List.mem_filter.mpr ⟨List.mem_append_left _ (List.mem_of_getElem? (i := 79) rfl), rfl⟩)⟩⟩
theorem mj_m264 : mj_mF 264 := ⟨(mj_tb_in (mj_c7 (List.mem_of_getElem? (i := 191) rfl)) rfl), (mj_tb_in (mj_c1 (List.mem_of_getElem? (i := 12) rfl)) rfl), ⟨(mj_tb_in (mj_c7 (List.mem_of_getElem? (i := 190) rfl)) rfl), (List.mem_filter.mpr ⟨List.mem_append_left _ (List.mem_of_getElem? (i := 80) rfl), rfl⟩)⟩⟩
theorem mj_m265 : mj_mF 265 := ⟨(mj_tb_in (mj_c7 (List.mem_of_getElem? (i := 194) rfl)) rfl), (mj_tb_in (mj_c1 (List.mem_of_getElem? (i := 12) rfl)) rfl), (mj_tb_in (mj_c7 (List.mem_of_getElem? (i := 193) rfl)) rfl)⟩
theorem mj_m266 : mj_mF 266 := ⟨(mj_tb_in (mj_c7 (List.mem_of_getElem? (i := 198) rfl)) rfl), (mj_tb_in (mj_c1 (List.mem_of_getElem? (i := 12) rfl)) rfl), ⟨(mj_tb_in (mj_c7 (List.mem_of_getElem? (i := 197) rfl)) rfl), (List.mem_filter.mpr ⟨List.mem_append_left _ (List.mem_of_getElem? (i := 81) rfl), rfl⟩)⟩⟩
theorem mj_m267 : mj_mF 267 := ⟨(mj_tb_in (mj_c7 (List.mem_of_getElem? (i := 202) rfl)) rfl), (mj_tb_in (mj_c1 (List.mem_of_getElem? (i := 12) rfl)) rfl), ⟨(mj_tb_in (mj_c7 (List.mem_of_getElem? (i := 201) rfl)) rfl), (List.mem_filter.mpr ⟨List.mem_append_left _ (List.mem_of_getElem? (i := 82) rfl), rfl⟩)⟩⟩
theorem mj_m268 : mj_mF 268 := ⟨(mj_tb_in (mj_c7 (List.mem_of_getElem? (i := 206) rfl)) rfl), (mj_tb_in (mj_c1 (List.mem_of_getElem? (i := 12) rfl)) rfl), ⟨(mj_tb_in (mj_c7 (List.mem_of_getElem? (i := 205) rfl)) rfl), (List.mem_filter.mpr ⟨List.mem_append_left _ (List.mem_of_getElem? (i := 83) rfl), rfl⟩)⟩⟩
theorem mj_m269 : mj_mF 269 := ⟨(mj_tb_in (mj_c7 (List.mem_of_getElem? (i := 209) rfl)) rfl), (mj_tb_in (mj_c1 (List.mem_of_getElem? (i := 12) rfl)) rfl), (mj_tb_in (mj_c7 (List.mem_of_getElem? (i := 208) rfl)) rfl)⟩
theorem mj_m270 : mj_mF 270 := ⟨(mj_tb_in (mj_c7 (List.mem_of_getElem? (i := 214) rfl)) rfl), (mj_tb_in (mj_c1 (List.mem_of_getElem? (i := 12) rfl)) rfl), ⟨(mj_tb_in (mj_c7 (List.mem_of_getElem? (i := 213) rfl)) rfl), (List.mem_filter.mpr ⟨List.mem_append_left _ (List.mem_of_getElem? (i := 84) rfl), rfl⟩)⟩⟩
theorem mj_m271 : mj_mF 271 := ⟨(mj_tb_in (mj_c7 (List.mem_of_getElem? (i := 218) rfl)) rfl), (mj_tb_in (mj_c1 (List.mem_of_getElem? (i := 12) rfl)) rfl), ⟨(mj_tb_in (mj_c7 (List.mem_of_getElem? (i := 217) rfl)) rfl), (List.mem_filter.mpr ⟨List.mem_append_left _ (List.mem_of_getElem? (i := 85) rfl), rfl⟩)⟩⟩
theorem mj_m272 : mj_mF 272 := ⟨(mj_tb_in (mj_c7 (List.mem_of_getElem? (i := 221) rfl)) rfl), (mj_tb_in (mj_c1 (List.mem_of_getElem? (i := 12) rfl)) rfl), (mj_tb_in (mj_c7 (List.mem_of_getElem? (i := 220) rfl)) rfl)⟩
theorem mj_m273 : mj_mF 273 := ⟨(mj_tb_in (mj_c7 (List.mem_of_getElem? (i := 224) rfl)) rfl), (mj_tb_in (mj_c1 (List.mem_of_getElem? (i := 12) rfl)) rfl), (mj_tb_in (mj_c7 (List.mem_of_getElem? (i := 223) rfl)) rfl)⟩
theorem mj_m274 : mj_mF 274 := ⟨(mj_tb_in (mj_c7 (List.mem_of_getElem? (i := 229) rfl)) rfl), (mj_tb_in (mj_c1 (List.mem_of_getElem? (i := 12) rfl)) rfl), (mj_tb_in (mj_c7 (List.mem_of_getElem? (i := 228) rfl)) rfl)⟩
theorem mj_m275 : mj_mF 275 := ⟨(mj_tb_in (mj_c7 (List.mem_of_getElem? (i := 232) rfl)) rfl), (mj_tb_in (mj_c1 (List.mem_of_getElem? (i := 12) rfl)) rfl), (mj_tb_in (mj_c7 (List.mem_of_getElem? (i := 231) rfl)) rfl)⟩
theorem mj_m276 : mj_mF 276 := ⟨(mj_tb_in (mj_c7 (List.mem_of_getElem? (i := 235) rfl)) rfl), (mj_tb_in (mj_c1 (List.mem_of_getElem? (i := 12) rfl)) rfl), (mj_tb_in (mj_c7 (List.mem_of_getElem? (i := 234) rfl)) rfl)⟩
theorem mj_m277 : mj_mF 277 := ⟨(mj_tb_in (mj_c7 (List.mem_of_getElem? (i := 239) rfl)) rfl), (mj_tb_in (mj_c1 (List.mem_of_getElem? (i := 12) rfl)) rfl), ⟨(mj_tb_in (mj_c7 (List.mem_of_getElem? (i := 238) rfl)) rfl), (List.mem_filter.mpr ⟨List.mem_append_left _ (List.mem_of_getElem? (i := 86) rfl), rfl⟩)⟩⟩
theorem mj_m278 : mj_mF 278 := ⟨(mj_tb_in (mj_c8 (List.mem_of_getElem? (i := 3) rfl)) rfl), (mj_tb_in (mj_c1 (List.mem_of_getElem? (i := 12) rfl)) rfl), ⟨(mj_tb_in (mj_c8 (List.mem_of_getElem? (i := 2) rfl)) rfl), (List.mem_filter.mpr ⟨List.mem_append_left _ (List.mem_of_getElem? (i := 87) rfl), rfl⟩)⟩⟩
theorem mj_m279 : mj_mF 279 := ⟨(mj_tb_in (mj_c8 (List.mem_of_getElem? (i := 7) rfl)) rfl), (mj_tb_in (mj_c1 (List.mem_of_getElem? (i := 12) rfl)) rfl), ⟨(mj_tb_in (mj_c8 (List.mem_of_getElem? (i := 5) rfl)) rfl), (mj_tb_in (mj_c8 (List.mem_of_getElem? (i := 6) rfl)) rfl)⟩⟩
theorem mj_m280 : mj_mF 280 := ⟨(mj_tb_in (mj_c8 (List.mem_of_getElem? (i := 11) rfl)) rfl), (mj_tb_in (mj_c1 (List.mem_of_getElem? (i := 12) rfl)) rfl), ⟨(mj_tb_in (mj_c8 (List.mem_of_getElem? (i := 10) rfl)) rfl), (List.mem_filter.mpr ⟨List.mem_append_left _ (List.mem_of_getElem? (i := 88) rfl), rfl⟩)⟩⟩
theorem mj_m281 : mj_mF 281 := ⟨(mj_tb_in (mj_c8 (List.mem_of_getElem? (i := 15) rfl)) rfl), (mj_tb_in (mj_c1 (List.mem_of_getElem? (i := 12) rfl)) rfl), ⟨(mj_tb_in (mj_c8 (List.mem_of_getElem? (i := 14) rfl)) rfl), (List.mem_filter.mpr ⟨List.mem_append_left _ (List.mem_of_getElem? (i := 89) rfl), rfl⟩)⟩⟩
theorem mj_m282 : mj_mF 282 := ⟨(mj_tb_in (mj_c8 (List.mem_of_getElem? (i := 19) rfl)) rfl), (mj_tb_in (mj_c1 (List.mem_of_getElem? (i := 12) rfl)) rfl), ⟨(mj_tb_in (mj_c8 (List.mem_of_getElem? (i := 17) rfl)) rfl), (mj_tb_in (mj_c8 (List.mem_of_getElem? (i := 18) rfl)) rfl)⟩⟩
theorem mj_m283 : mj_mF 283 := ⟨(mj_tb_in (mj_c8 (List.mem_of_getElem? (i := 23) rfl)) rfl), (mj_tb_in (mj_c1 (List.mem_of_getElem? (i := 12) rfl)) rfl), ⟨(mj_tb_in (mj_c8 (List.mem_of_getElem? (i := 22) rfl)) rfl), (List.mem_filter.mpr ⟨List.mem_append_left _ (List.mem_of_getElem? (i := 90) rfl), rfl⟩)⟩⟩
theorem mj_m284 : mj_mF 284 := ⟨(mj_tb_in (mj_c8 (List.mem_of_getElem? (i := 27) rfl)) rfl), (mj_tb_in (mj_c1 (List.mem_of_getElem? (i := 12) rfl)) rfl), ⟨(mj_tb_in (mj_c8 (List.mem_of_getElem? (i := 26) rfl)) rfl), (List.mem_filter.mpr ⟨List.mem_append_left _ (List.mem_of_getElem? (i := 91) rfl), rfl⟩)⟩⟩
theorem mj_m285 : mj_mF 285 := ⟨(mj_tb_in (mj_c8 (List.mem_of_getElem? (i := 31) rfl)) rfl), (mj_tb_in (mj_c1 (List.mem_of_getElem? (i := 12) rfl)) rfl), ⟨(mj_tb_in (mj_c8 (List.mem_of_getElem? (i := 30) rfl)) rfl), (List.mem_filter.mpr ⟨List.mem_append_left _ (List.mem_of_getElem? (i := 92) rfl), rfl⟩)⟩⟩
theorem mj_m286 : mj_mF 286 := ⟨(mj_tb_in (mj_c8 (List.mem_of_getElem? (i := 35) rfl)) rfl), (mj_tb_in (mj_c1 (List.mem_of_getElem? (i := 12) rfl)) rfl), ⟨(mj_tb_in (mj_c8 (List.mem_of_getElem? (i := 33) rfl)) rfl), (mj_tb_in (mj_c8 (List.mem_of_getElem? (i := 34) rfl)) rfl)⟩⟩
theorem mj_m287 : mj_mF 287 := ⟨(mj_tb_in (mj_c8 (List.mem_of_getElem? (i := 39) rfl)) rfl), (mj_tb_in (mj_c1 (List.mem_of_getElem? (i := 12) rfl)) rfl), ⟨(mj_tb_in (mj_c8 (List.mem_of_getElem? (i := 38) rfl)) rfl), (List.mem_filter.mpr ⟨List.mem_append_left _ (List.mem_of_getElem? (i := 93) rfl), rfl⟩)⟩⟩
theorem mj_m288 : mj_mF 288 := ⟨(mj_tb_in (mj_c8 (List.mem_of_getElem? (i := 43) rfl)) rfl), (mj_tb_in (mj_c1 (List.mem_of_getElem? (i := 12) rfl)) rfl), ⟨(mj_tb_in (mj_c8 (List.mem_of_getElem? (i := 42) rfl)) rfl), (List.mem_filter.mpr ⟨List.mem_append_left _ (List.mem_of_getElem? (i := 94) rfl), rfl⟩)⟩⟩
theorem mj_m289 : mj_mF 289 := ⟨(mj_tb_in (mj_c8 (List.mem_of_getElem? (i := 47) rfl)) rfl), (mj_tb_in (mj_c1 (List.mem_of_getElem? (i := 12) rfl)) rfl), ⟨(mj_tb_in (mj_c8 (List.mem_of_getElem? (i := 46) rfl)) rfl), (List.mem_filter.mpr ⟨List.mem_append_left _ (List.mem_of_getElem? (i := 95) rfl), rfl⟩)⟩⟩
theorem mj_m290 : mj_mF 290 := ⟨(mj_tb_in (mj_c8 (List.mem_of_getElem? (i := 51) rfl)) rfl), (mj_tb_in (mj_c1 (List.mem_of_getElem? (i := 12) rfl)) rfl), ⟨(mj_tb_in (mj_c8 (List.mem_of_getElem? (i := 50) rfl)) rfl), (List.mem_filter.mpr ⟨List.mem_append_left _ (List.mem_of_getElem? (i := 96) rfl), rfl⟩)⟩⟩
theorem mj_m291 : mj_mF 291 := ⟨(mj_tb_in (mj_c8 (List.mem_of_getElem? (i := 55) rfl)) rfl), (mj_tb_in (mj_c1 (List.mem_of_getElem? (i := 12) rfl)) rfl), ⟨(mj_tb_in (mj_c8 (List.mem_of_getElem? (i := 54) rfl)) rfl), (List.mem_filter.mpr ⟨List.mem_append_left _ (List.mem_of_getElem? (i := 97) rfl), rfl⟩)⟩⟩
theorem mj_m292 : mj_mF 292 := ⟨(mj_tb_in (mj_c8 (List.mem_of_getElem? (i := 62) rfl)) rfl), (mj_tb_in (mj_c1 (List.mem_of_getElem? (i := 12) rfl)) rfl), ⟨(mj_tb_in (mj_c8 (List.mem_of_getElem? (i := 60) rfl)) rfl), (mj_tb_in (mj_c8 (List.mem_of_getElem? (i := 61) rfl)) rfl)⟩⟩
theorem mj_m293 : mj_mF 293 := ⟨(mj_tb_in (mj_c8 (List.mem_of_getElem? (i := 66) rfl)) rfl), (mj_tb_in (mj_c1 (List.mem_of_getElem? (i := 12) rfl)) rfl), ⟨(mj_tb_in (mj_c8 (List.mem_of_getElem? (i := 65) rfl)) rfl), (List.mem_filter.mpr ⟨List.mem_append_left _ (List.mem_of_getElem? (i := 98) rfl), rfl⟩)⟩⟩
theorem mj_m294 : mj_mF 294 := ⟨(mj_tb_in (mj_c8 (List.mem_of_getElem? (i := 76) rfl)) rfl), (mj_tb_in (mj_c1 (List.mem_of_getElem? (i := 12) rfl)) rfl), ⟨(mj_tb_in (mj_c8 (List.mem_of_getElem? (i := 74) rfl)) rfl), (mj_tb_in (mj_c8 (List.mem_of_getElem? (i := 75) rfl)) rfl)⟩⟩
theorem mj_m295 : mj_mF 295 := ⟨(mj_tb_in (mj_c8 (List.mem_of_getElem? (i := 80) rfl)) rfl), (mj_tb_in (mj_c1 (List.mem_of_getElem? (i := 12) rfl)) rfl), ⟨(mj_tb_in (mj_c8 (List.mem_of_getElem? (i := 79) rfl)) rfl), (List.mem_filter.mpr ⟨List.mem_append_left _ (List.mem_of_getElem? (i := 99) rfl), rfl⟩)⟩⟩
theorem mj_m296 : mj_mF 296 := ⟨(mj_tb_in (mj_c8 (List.mem_of_getElem? (i := 84) rfl)) rfl), (mj_tb_in (mj_c1 (List.mem_of_getElem? (i := 12) rfl)) rfl), ⟨(mj_tb_in (mj_c8 (List.mem_of_getElem? (i := 82) rfl)) rfl), (mj_tb_in (mj_c8 (List.mem_of_getElem? (i := 83) rfl)) rfl)⟩⟩
theorem mj_m297 : mj_mF 297 := ⟨(mj_tb_in (mj_c8 (List.mem_of_getElem? (i := 88) rfl)) rfl), (mj_tb_in (mj_c1 (List.mem_of_getElem? (i := 12) rfl)) rfl), ⟨(mj_tb_in (mj_c8 (List.mem_of_getElem? (i := 86) rfl)) rfl), (mj_tb_in (mj_c8 (List.mem_of_getElem? (i := 87) rfl)) rfl)⟩⟩
theorem mj_m298 : mj_mF 298 := ⟨(mj_tb_in (mj_c8 (List.mem_of_getElem? (i := 92) rfl)) rfl), (mj_tb_in (mj_c1 (List.mem_of_getElem? (i := 12) rfl)) rfl), ⟨(mj_tb_in (mj_c8 (List.mem_of_getElem? (i := 90) rfl)) rfl), (mj_tb_in (mj_c8 (List.mem_of_getElem? (i := 91) rfl)) rfl)⟩⟩
theorem mj_m299 : mj_mF 299 := ⟨(mj_tb_in (mj_c8 (List.mem_of_getElem? (i := 96) rfl)) rfl), (mj_tb_in (mj_c1 (List.mem_of_getElem? (i := 12) rfl)) rfl), ⟨(mj_tb_in (mj_c8 (List.mem_of_getElem? (i := 94) rfl)) rfl), (mj_tb_in (mj_c8 (List.mem_of_getElem? (i := 95) rfl)) rfl)⟩⟩
theorem mj_m300 : mj_mF 300 := ⟨(mj_tb_in (mj_c8 (List.mem_of_getElem? (i := 100) rfl)) rfl), (mj_tb_in (mj_c1 (List.mem_of_getElem? (i := 12) rfl)) rfl), ⟨(mj_tb_in (mj_c8 (List.mem_of_getElem? (i := 99) rfl)) rfl), (List.mem_filter.mpr ⟨List.mem_append_left _ (List.mem_of_getElem? (i := 100) rfl), rfl⟩)⟩⟩
theorem mj_m301 : mj_mF 301 := ⟨(mj_tb_in (mj_c8 (List.mem_of_getElem? (i := 104) rfl)) rfl), (mj_tb_in (mj_c1 (List.mem_of_getElem? (i := 12) rfl)) rfl), ⟨(mj_tb_in (mj_c8 (List.mem_of_getElem? (i := 102) rfl)) rfl), (mj_tb_in (mj_c8 (List.mem_of_getElem? (i := 103) rfl)) rfl)⟩⟩
theorem mj_m302 : mj_mF 302 := ⟨(mj_tb_in (mj_c8 (List.mem_of_getElem? (i := 108) rfl)) rfl), (mj_tb_in (mj_c1 (List.mem_of_getElem? (i := 12) rfl)) rfl), ⟨(mj_tb_in (mj_c8 (List.mem_of_getElem? (i := 107) rfl)) rfl), (List.mem_filter.mpr ⟨List.mem_append_left _ (List.mem_of_getElem? (i := 101) rfl), rfl⟩)⟩⟩
theorem mj_m303 : mj_mF 303 := ⟨(mj_tb_in (mj_c8 (List.mem_of_getElem? (i := 112) rfl)) rfl), (mj_tb_in (mj_c1 (List.mem_of_getElem? (i := 12) rfl)) rfl), ⟨(mj_tb_in (mj_c8 (List.mem_of_getElem? (i := 110) rfl)) rfl), (mj_tb_in (mj_c8 (List.mem_of_getElem? (i := 111) rfl)) rfl)⟩⟩
theorem mj_m304 : mj_mF 304 := ⟨(mj_tb_in (mj_c8 (List.mem_of_getElem? (i := 116) rfl)) rfl), (mj_tb_in (mj_c1 (List.mem_of_getElem? (i := 12) rfl)) rfl), ⟨(mj_tb_in (mj_c8 (List.mem_of_getElem? (i := 114) rfl)) rfl), (mj_tb_in (mj_c8 (List.mem_of_getElem? (i := 115) rfl)) rfl)⟩⟩
theorem mj_m305 : mj_mF 305 := ⟨(mj_tb_in (mj_c8 (List.mem_of_getElem? (i := 120) rfl)) rfl), (mj_tb_in (mj_c1 (List.mem_of_getElem? (i := 12) rfl)) rfl), ⟨(mj_tb_in (mj_c8 (List.mem_of_getElem? (i := 118) rfl)) rfl), (mj_tb_in (mj_c8 (List.mem_of_getElem? (i := 119) rfl)) rfl)⟩⟩
theorem mj_m306 : mj_mF 306 := ⟨(mj_tb_in (mj_c8 (List.mem_of_getElem? (i := 124) rfl)) rfl), (mj_tb_in (mj_c1 (List.mem_of_getElem? (i := 12) rfl)) rfl), ⟨(mj_tb_in (mj_c8 (List.mem_of_getElem? (i := 122) rfl)) rfl), (mj_tb_in (mj_c8 (List.mem_of_getElem? (i := 123) rfl)) rfl)⟩⟩
theorem mj_m307 : mj_mF 307 := ⟨(mj_tb_in (mj_c8 (List.mem_of_getElem? (i := 128) rfl)) rfl), (mj_tb_in (mj_c1 (List.mem_of_getElem? (i := 12) rfl)) rfl), ⟨(mj_tb_in (mj_c8 (List.mem_of_getElem? (i := 126) rfl)) rfl), (mj_tb_in (mj_c8 (List.mem_of_getElem? (i := 127) rfl)) rfl)⟩⟩
theorem mj_m308 : mj_mF 308 := ⟨(mj_tb_in (mj_c8 (List.mem_of_getElem? (i := 132) rfl)) rfl), (mj_tb_in (mj_c1 (List.mem_of_getElem? (i := 12) rfl)) rfl), ⟨(mj_tb_in (mj_c8 (List.mem_of_getElem? (i := 130) rfl)) rfl), (mj_tb_in (mj_c8 (List.mem_of_getElem? (i := 131) rfl)) rfl)⟩⟩
theorem mj_m309 : mj_mF 309 := ⟨(mj_tb_in (mj_c8 (List.mem_of_getElem? (i := 136) rfl)) rfl), (mj_tb_in (mj_c1 (List.mem_of_getElem? (i := 12) rfl)) rfl), ⟨(mj_tb_in (mj_c8 (List.mem_of_getElem? (i := 134) rfl)) rfl), (mj_tb_in (mj_c8 (List.mem_of_getElem? (i := 135) rfl)) rfl)⟩⟩
theorem mj_m310 : mj_mF 310 := ⟨(mj_tb_in (mj_c8 (List.mem_of_getElem? (i := 140) rfl)) rfl), (mj_tb_in (mj_c1 (List.mem_of_getElem? (i := 12) rfl)) rfl), ⟨(mj_tb_in (mj_c8 (List.mem_of_getElem? (i := 139) rfl)) rfl), (List.mem_filter.mpr ⟨List.mem_append_left _ (List.mem_of_getElem? (i := 102) rfl), rfl⟩)⟩⟩
theorem mj_m311 : mj_mF 311 := ⟨(mj_tb_in (mj_c8 (List.mem_of_getElem? (i := 144) rfl)) rfl), (mj_tb_in (mj_c1 (List.mem_of_getElem? (i := 12) rfl)) rfl), ⟨(mj_tb_in (mj_c8 (List.mem_of_getElem? (i := 142) rfl)) rfl), (mj_tb_in (mj_c8 (List.mem_of_getElem? (i := 143) rfl)) rfl)⟩⟩
theorem mj_m312 : mj_mF 312 := ⟨(mj_tb_in (mj_c8 (List.mem_of_getElem? (i := 148) rfl)) rfl), (mj_tb_in (mj_c1 (List.mem_of_getElem? (i := 12) rfl)) rfl), ⟨(mj_tb_in (mj_c8 (List.mem_of_getElem? (i := 146) rfl)) rfl), (mj_tb_in (mj_c8 (List.mem_of_getElem? (i := 147) rfl)) rfl)⟩⟩
theorem mj_m313 : mj_mF 313 := ⟨(mj_tb_in (mj_c8 (List.mem_of_getElem? (i := 152) rfl)) rfl), (mj_tb_in (mj_c1 (List.mem_of_getElem? (i := 12) rfl)) rfl), ⟨(mj_tb_in (mj_c8 (List.mem_of_getElem? (i := 150) rfl)) rfl), (mj_tb_in (mj_c8 (List.mem_of_getElem? (i := 151) rfl)) rfl)⟩⟩
theorem mj_m314 : mj_mF 314 := ⟨(mj_tb_in (mj_c8 (List.mem_of_getElem? (i := 156) rfl)) rfl), (mj_tb_in (mj_c1 (List.mem_of_getElem? (i := 12) rfl)) rfl), ⟨(mj_tb_in (mj_c8 (List.mem_of_getElem? (i := 155) rfl)) rfl), (List.mem_filter.mpr ⟨List.mem_append_left _ (List.mem_of_getElem? (i := 103) rfl), rfl⟩)⟩⟩
theorem mj_m315 : mj_mF 315 := ⟨(mj_tb_in (mj_c8 (List.mem_of_getElem? (i := 160) rfl)) rfl), (mj_tb_in (mj_c1 (List.mem_of_getElem? (i := 12) rfl)) rfl), ⟨(mj_tb_in (mj_c8 (List.mem_of_getElem? (i := 158) rfl)) rfl), (mj_tb_in (mj_c8 (List.mem_of_getElem? (i := 159) rfl)) rfl)⟩⟩
theorem mj_m316 : mj_mF 316 := ⟨(mj_tb_in (mj_c8 (List.mem_of_getElem? (i := 165) rfl)) rfl), (mj_tb_in (mj_c1 (List.mem_of_getElem? (i := 12) rfl)) rfl), ⟨(mj_tb_in (mj_c8 (List.mem_of_getElem? (i := 164) rfl)) rfl), (List.mem_filter.mpr ⟨List.mem_append_left _ (List.mem_of_getElem? (i := 104) rfl), rfl⟩)⟩⟩
theorem mj_m317 : mj_mF 317 := ⟨(mj_tb_in (mj_c8 (List.mem_of_getElem? (i := 168) rfl)) rfl), (mj_tb_in (mj_c1 (List.mem_of_getElem? (i := 12) rfl)) rfl), (mj_tb_in (mj_c8 (List.mem_of_getElem? (i := 167) rfl)) rfl)⟩
theorem mj_m318 : mj_mF 318 := ⟨(mj_tb_in (mj_c8 (List.mem_of_getElem? (i := 172) rfl)) rfl), (mj_tb_in (mj_c1 (List.mem_of_getElem? (i := 12) rfl)) rfl), ⟨(mj_tb_in (mj_c8 (List.mem_of_getElem? (i := 170) rfl)) rfl), (mj_tb_in (mj_c8 (List.mem_of_getElem? (i := 171) rfl)) rfl)⟩⟩
theorem mj_m319 : mj_mF 319 := ⟨(mj_tb_in (mj_c8 (List.mem_of_getElem? (i := 176) rfl)) rfl), (mj_tb_in (mj_c1 (List.mem_of_getElem? (i := 12) rfl)) rfl), ⟨(mj_tb_in (mj_c8 (List.mem_of_getElem? (i := 174) rfl)) rfl), (mj_tb_in (mj_c8 (List.mem_of_getElem? (i := 175) rfl)) rfl)⟩⟩
theorem mj_m320 : mj_mF 320 := ⟨(mj_tb_in (mj_c8 (List.mem_of_getElem? (i := 180) rfl)) rfl), (mj_tb_in (mj_c1 (List.mem_of_getElem? (i := 12) rfl)) rfl), ⟨(mj_tb_in (mj_c8 (List.mem_of_getElem? (i := 178) rfl)) rfl), (mj_tb_in (mj_c8 (List.mem_of_getElem? (i := 179) rfl)) rfl)⟩⟩
theorem mj_m321 : mj_mF 321 := ⟨(mj_tb_in (mj_c8 (List.mem_of_getElem? (i := 184) rfl)) rfl), (mj_tb_in (mj_c1 (List.mem_of_getElem? (i := 12) rfl)) rfl), ⟨(mj_tb_in (mj_c8 (List.mem_of_getElem? (i := 183) rfl)) rfl), (List.mem_filter.mpr ⟨List.mem_append_left _ (List.mem_of_getElem? (i := 105) rfl), rfl⟩)⟩⟩
theorem mj_m322 : mj_mF 322 := ⟨(mj_tb_in (mj_c8 (List.mem_of_getElem? (i := 188) rfl)) rfl), (mj_tb_in (mj_c1 (List.mem_of_getElem? (i := 12) rfl)) rfl), ⟨(mj_tb_in (mj_c8 (List.mem_of_getElem? (i := 186) rfl)) rfl), (mj_tb_in (mj_c8 (List.mem_of_getElem? (i := 187) rfl)) rfl)⟩⟩
theorem mj_m323 : mj_mF 323 := ⟨(mj_tb_in (mj_c8 (List.mem_of_getElem? (i := 192) rfl)) rfl), (mj_tb_in (mj_c1 (List.mem_of_getElem? (i := 12) rfl)) rfl), ⟨(mj_tb_in (mj_c8 (List.mem_of_getElem? (i := 191) rfl)) rfl), (List.mem_filter.mpr ⟨List.mem_append_left _ (List.mem_of_getElem? (i := 106) rfl), rfl⟩)⟩⟩
theorem mj_m324 : mj_mF 324 := ⟨(mj_tb_in (mj_c8 (List.mem_of_getElem? (i := 196) rfl)) rfl), (mj_tb_in (mj_c1 (List.mem_of_getElem? (i := 12) rfl)) rfl), ⟨(mj_tb_in (mj_c8 (List.mem_of_getElem? (i := 194) rfl)) rfl), (mj_tb_in (mj_c8 (List.mem_of_getElem? (i := 195) rfl)) rfl)⟩⟩
theorem mj_m325 : mj_mF 325 := ⟨(mj_tb_in (mj_c8 (List.mem_of_getElem? (i := 200) rfl)) rfl), (mj_tb_in (mj_c1 (List.mem_of_getElem? (i := 12) rfl)) rfl), ⟨(mj_tb_in (mj_c8 (List.mem_of_getElem? (i := 198) rfl)) rfl), (mj_tb_in (mj_c8 (List.mem_of_getElem? (i := 199) rfl)) rfl)⟩⟩
theorem mj_m326 : mj_mF 326 := ⟨(mj_tb_in (mj_c8 (List.mem_of_getElem? (i := 204) rfl)) rfl), (mj_tb_in (mj_c1 (List.mem_of_getElem? (i := 12) rfl)) rfl), ⟨(mj_tb_in (mj_c8 (List.mem_of_getElem? (i := 203) rfl)) rfl), (List.mem_filter.mpr ⟨List.mem_append_left _ (List.mem_of_getElem? (i := 107) rfl), rfl⟩)⟩⟩
theorem mj_m327 : mj_mF 327 := ⟨(mj_tb_in (mj_c8 (List.mem_of_getElem? (i := 208) rfl)) rfl), (mj_tb_in (mj_c1 (List.mem_of_getElem? (i := 12) rfl)) rfl), ⟨(mj_tb_in (mj_c8 (List.mem_of_getElem? (i := 206) rfl)) rfl), (mj_tb_in (mj_c8 (List.mem_of_getElem? (i := 207) rfl)) rfl)⟩⟩
theorem mj_m328 : mj_mF 328 := ⟨(mj_tb_in (mj_c8 (List.mem_of_getElem? (i := 212) rfl)) rfl), (mj_tb_in (mj_c1 (List.mem_of_getElem? (i := 12) rfl)) rfl), ⟨(mj_tb_in (mj_c8 (List.mem_of_getElem? (i := 210) rfl)) rfl), (mj_tb_in (mj_c8 (List.mem_of_getElem? (i := 211) rfl)) rfl)⟩⟩
theorem mj_m329 : mj_mF 329 := ⟨(mj_tb_in (mj_c8 (List.mem_of_getElem? (i := 218) rfl)) rfl), (mj_tb_in (mj_c1 (List.mem_of_getElem? (i := 12) rfl)) rfl), ⟨(mj_tb_in (mj_c8 (List.mem_of_getElem? (i := 216) rfl)) rfl), (mj_tb_in (mj_c8 (List.mem_of_getElem? (i := 217) rfl)) rfl)⟩⟩
theorem mj_m330 : mj_mF 330 := ⟨(mj_tb_in (mj_c8 (List.mem_of_getElem? (i := 222) rfl)) rfl), (mj_tb_in (mj_c1 (List.mem_of_getElem? (i := 12) rfl)) rfl), ⟨(mj_tb_in (mj_c8 (List.mem_of_getElem? (i := 220) rfl)) rfl), (mj_tb_in (mj_c8 (List.mem_of_getElem? (i := 221) rfl)) rfl)⟩⟩
theorem mj_m331 : mj_mF 331 := ⟨(mj_tb_in (mj_c8 (List.mem_of_getElem? (i := 226) rfl)) rfl), (mj_tb_in (mj_c1 (List.mem_of_getElem? (i := 12) rfl)) rfl), ⟨(mj_tb_in (mj_c8 (List.mem_of_getElem? (i := 224) rfl)) rfl), (mj_tb_in (mj_c8 (List.mem_of_getElem? (i := 225) rfl)) rfl)⟩⟩
theorem mj_m332 : mj_mF 332 := ⟨(mj_tb_in (mj_c8 (List.mem_of_getElem? (i := 230) rfl)) rfl), (mj_tb_in (mj_c1 (List.mem_of_getElem? (i := 12) rfl)) rfl), ⟨(mj_tb_in (mj_c8 (List.mem_of_getElem? (i := 228) rfl)) rfl), (mj_tb_in (mj_c8 (List.mem_of_getElem? (i := 229) rfl)) rfl)⟩⟩
theorem mj_m333 : mj_mF 333 := ⟨(mj_tb_in (mj_c8 (List.mem_of_getElem? (i := 234) rfl)) rfl), (mj_tb_in (mj_c1 (List.mem_of_getElem? (i := 12) rfl)) rfl), ⟨(mj_tb_in (mj_c8 (List.mem_of_getElem? (i := 232) rfl)) rfl), (mj_tb_in (mj_c8 (List.mem_of_getElem? (i := 233) rfl)) rfl)⟩⟩
theorem mj_m334 : mj_mF 334 := ⟨(mj_tb_in (mj_c8 (List.mem_of_getElem? (i := 238) rfl)) rfl), (mj_tb_in (mj_c1 (List.mem_of_getElem? (i := 12) rfl)) rfl), ⟨(mj_tb_in (mj_c8 (List.mem_of_getElem? (i := 236) rfl)) rfl), (mj_tb_in (mj_c8 (List.mem_of_getElem? (i := 237) rfl)) rfl)⟩⟩
theorem mj_ms0 : ∀ k, 0 ≤ k → k < 20 → mj_mF k := by
  intro k h1 h2
  rcases (show k = 0 ∨ k = 1 ∨ k = 2 ∨ k = 3 ∨ k = 4 ∨ k = 5 ∨ k = 6 ∨ k = 7 ∨ k = 8 ∨ k = 9 ∨ k = 10 ∨ k = 11 ∨ k = 12 ∨ k = 13 ∨ k = 14 ∨ k = 15 ∨ k = 16 ∨ k = 17 ∨ k = 18 ∨ k = 19 by omega) with rfl | rfl | rfl | rfl | rfl | rfl | rfl | rfl | rfl | rfl | rfl | rfl | rfl | rfl | rfl | rfl | rfl | rfl | rfl | rfl
  · exact mj_m0
  · exact mj_m1
  · exact mj_m2
  · exact mj_m3
  · exact mj_m4
  · exact mj_m5
  · exact mj_m6
  · exact mj_m7
  · exact mj_m8
  · exact mj_m9
  · exact mj_m10
  · exact mj_m11
  · exact mj_m12
  · exact mj_m13
  · exact mj_m14
  · exact mj_m15
  · exact mj_m16
  · exact mj_m17
  · exact mj_m18
  · exact mj_m19
theorem mj_ms20 : ∀ k, 20 ≤ k → k < 40 → mj_mF k := by
  intro k h1 h2
  rcases (show k = 20 ∨ k = 21 ∨ k = 22 ∨ k = 23 ∨ k = 24 ∨ k = 25 ∨ k = 26 ∨ k = 27 ∨ k = 28 ∨ k = 29 ∨ k = 30 ∨ k = 31 ∨ k = 32 ∨ k = 33 ∨ k = 34 ∨ k = 35 ∨ k = 36 ∨ k = 37 ∨ k = 38 ∨ k = 39 by omega) with rfl | rfl | rfl | rfl | rfl | rfl | rfl | rfl | rfl | rfl | rfl | rfl | rfl | rfl | rfl | rfl | rfl | rfl | rfl | rfl
  · exact mj_m20
  · exact mj_m21
  · exact mj_m22
  · exact mj_m23
  · exact mj_m24
  · exact mj_m25
  · exact mj_m26
  · exact mj_m27
  · exact mj_m28
  · exact mj_m29
  · exact mj_m30
  · exact mj_m31
  · exact mj_m32
  · exact mj_m33
  · exact mj_m34
  · exact mj_m35
  · exact mj_m36
  · exact mj_m37
  · exact mj_m38
  · exact mj_m39
theorem mj_ms40 : ∀ k, 40 ≤ k → k < 60 → mj_mF k := by
  intro k h1 h2
  rcases (show k = 40 ∨ k = 41 ∨ k = 42 ∨ k = 43 ∨ k = 44 ∨ k = 45 ∨ k = 46 ∨ k = 47 ∨ k = 48 ∨ k = 49 ∨ k = 50 ∨ k = 51 ∨ k = 52 ∨ k = 53 ∨ k = 54 ∨ k = 55 ∨ k = 56 ∨ k = 57 ∨ k = 58 ∨ k = 59 by omega) with rfl | rfl | rfl | rfl | rfl | rfl | rfl | rfl | rfl | rfl | rfl | rfl | rfl | rfl | rfl | rfl | rfl | rfl | rfl | rfl
  · exact mj_m40
  · exact mj_m41
  · exact mj_m42
  · exact mj_m43
  · exact mj_m44
  · exact mj_m45
  · exact mj_m46
  · exact mj_m47
  · exact mj_m48
  · exact mj_m49
  · exact mj_m50
  · exact mj_m51
  · exact mj_m52
  · exact mj_m53
  · exact mj_m54
  · exact mj_m55
  · exact mj_m56
  · exact mj_m57
  · exact mj_m58
  · exact mj_m59
theorem mj_ms60 : ∀ k, 60 ≤ k → k < 80 → mj_mF k := by
  intro k h1 h2
  rcases (show k = 60 ∨ k = 61 ∨ k = 62 ∨ k = 63 ∨ k = 64 ∨ k = 65 ∨ k = 66 ∨ k = 67 ∨ k = 68 ∨ k = 69 ∨ k = 70 ∨ k = 71 ∨ k = 72 ∨ k = 73 ∨ k = 74 ∨ k = 75 ∨ k = 76 ∨ k = 77 ∨ k = 78 ∨ k = 79 by omega) with rfl | rfl | rfl | rfl | rfl | rfl | rfl | rfl | rfl | rfl | rfl | rfl | rfl | rfl | rfl | rfl | rfl | rfl | rfl | rfl
  · exact mj_m60
  · exact mj_m61
  · exact mj_m62
  · exact mj_m63
  · exact mj_m64
  · exact mj_m65
  · exact mj_m66
  · exact mj_m67
  · exact mj_m68
  · exact mj_m69
  · exact mj_m70
  · exact mj_m71
  · exact mj_m72
  · exact mj_m73
  · exact mj_m74
  · exact mj_m75
  · exact mj_m76
  · exact mj_m77
  · exact mj_m78
  · exact mj_m79
theorem mj_ms80 : ∀ k, 80 ≤ k → k < 100 → mj_mF k := by
  intro k h1 h2
  rcases (show k = 80 ∨ k = 81 ∨ k = 82 ∨ k = 83 ∨ k = 84 ∨ k = 85 ∨ k = 86 ∨ k = 87 ∨ k = 88 ∨ k = 89 ∨ k = 90 ∨ k = 91 ∨ k = 92 ∨ k = 93 ∨ k = 94 ∨ k = 95 ∨ k = 96 ∨ k = 97 ∨ k = 98 ∨ k = 99 by omega) with rfl | rfl | rfl | rfl | rfl | rfl | rfl | rfl | rfl | rfl | rfl | rfl | rfl | rfl | rfl | rfl | rfl | rfl | rfl | rfl
  · exact mj_m80
  · exact mj_m81
  · exact mj_m82
  · exact mj_m83
  · exact mj_m84
  · exact mj_m85
  · exact mj_m86
  · exact mj_m87
  · exact mj_m88
  · exact mj_m89
  · exact mj_m90
  · exact mj_m91
  · exact mj_m92
  · exact mj_m93
  · exact mj_m94
  · exact mj_m95
  · exact mj_m96
  · exact mj_m97
  · exact mj_m98
  · exact mj_m99
theorem mj_ms100 : ∀ k, 100 ≤ k → k < 120 → mj_mF k := by
  intro k h1 h2
  rcases (show k = 100 ∨ k = 101 ∨ k = 102 ∨ k = 103 ∨ k = 104 ∨ k = 105 ∨ k = 106 ∨ k = 107 ∨ k = 108 ∨ k = 109 ∨ k = 110 ∨ k = 111 ∨ k = 112 ∨ k = 113 ∨ k = 114 ∨ k = 115 ∨ k = 116 ∨ k = 117 ∨ k = 118 ∨ k = 119 by omega) with rfl | rfl | rfl | rfl | rfl | rfl | rfl | rfl | rfl | rfl | rfl | rfl | rfl | rfl | rfl | rfl | rfl | rfl | rfl | rfl
  · exact mj_m100
  · exact mj_m101
  · exact mj_m102
  · exact mj_m103
  · exact mj_m104
  · exact mj_m105
  · exact mj_m106
  · exact mj_m107
  · exact mj_m108
  · exact mj_m109
  · exact mj_m110
  · exact mj_m111
  · exact mj_m112
  · exact mj_m113
  · exact mj_m114
  · exact mj_m115
  · exact mj_m116
  · exact mj_m117
  · exact mj_m118
  · exact mj_m119
theorem mj_ms120 : ∀ k, 120 ≤ k → k < 140 → mj_mF k := by
  intro k h1 h2
  rcases (show k = 120 ∨ k = 121 ∨ k = 122 ∨ k = 123 ∨ k = 124 ∨ k = 125 ∨ k = 126 ∨ k = 127 ∨ k = 128 ∨ k = 129 ∨ k = 130 ∨ k = 131 ∨ k = 132 ∨ k = 133 ∨ k = 134 ∨ k = 135 ∨ k = 136 ∨ k = 137 ∨ k = 138 ∨ k = 139 by omega) with rfl | rfl | rfl | rfl | rfl | rfl | rfl | rfl | rfl | rfl | rfl | rfl | rfl | rfl | rfl | rfl | rfl | rfl | rfl | rfl
  · exact mj_m120
  · exact mj_m121
  · exact mj_m122
  · exact mj_m123
  · exact mj_m124
  · exact mj_m125
  · exact mj_m126
  · exact mj_m127
  · exact mj_m128
  · exact mj_m129
  · exact mj_m130
  · exact mj_m131
  · exact mj_m132
  · exact mj_m133
  · exact mj_m134
  · exact mj_m135
  · exact mj_m136
  · exact mj_m137
  · exact mj_m138
  · exact mj_m139
theorem mj_ms140 : ∀ k, 140 ≤ k → k < 160 → mj_mF k := by
  intro k h1 h2
  rcases (show k = 140 ∨ k = 141 ∨ k = 142 ∨ k = 143 ∨ k = 144 ∨ k = 145 ∨ k = 146 ∨ k = 147 ∨ k = 148 ∨ k = 149 ∨ k = 150 ∨ k = 151 ∨ k = 152 ∨ k = 153 ∨ k = 154 ∨ k = 155 ∨ k = 156 ∨ k = 157 ∨ k = 158 ∨ k = 159 by omega) with rfl | rfl | rfl | rfl | rfl | rfl | rfl | rfl | rfl | rfl | rfl | rfl | rfl | rfl | rfl | rfl | rfl | rfl | rfl | rfl
  · exact mj_m140
  · exact mj_m141
  · exact mj_m142
  · exact mj_m143
  · exact mj_m144
  · exact mj_m145
  · exact mj_m146
  · exact mj_m147
  · exact mj_m148
  · exact mj_m149
  · exact mj_m150
  · exact mj_m151
  · exact mj_m152
  · exact mj_m153
  · exact mj_m154
  · exact mj_m155
  · exact mj_m156
  · exact mj_m157
  · exact mj_m158
  · exact mj_m159
theorem mj_ms160 : ∀ k, 160 ≤ k → k < 180 → mj_mF k := by
  intro k h1 h2
  rcases (show k = 160 ∨ k = 161 ∨ k = 162 ∨ k = 163 ∨ k = 164 ∨ k = 165 ∨ k = 166 ∨ k = 167 ∨ k = 168 ∨ k = 169 ∨ k = 170 ∨ k = 171 ∨ k = 172 ∨ k = 173 ∨ k = 174 ∨ k = 175 ∨ k = 176 ∨ k = 177 ∨ k = 178 ∨ k = 179 by omega) with rfl | rfl | rfl | rfl | rfl | rfl | rfl | rfl | rfl | rfl | rfl | rfl | rfl | rfl | rfl | rfl | rfl | rfl | rfl | rfl
  · exact mj_m160
  · exact mj_m161
  · exact mj_m162
  · exact mj_m163
  · exact mj_m164
  · exact mj_m165
  · exact mj_m166
  · exact mj_m167
  · exact mj_m168
  · exact mj_m169
  · exact mj_m170
  · exact mj_m171
  · exact mj_m172
  · exact mj_m173
  · exact mj_m174
  · exact mj_m175
  · exact mj_m176
  · exact mj_m177
  · exact mj_m178
  · exact mj_m179
theorem mj_ms180 : ∀ k, 180 ≤ k → k < 200 → mj_mF k := by
  intro k h1 h2
  rcases (show k = 180 ∨ k = 181 ∨ k = 182 ∨ k = 183 ∨ k = 184 ∨ k = 185 ∨ k = 186 ∨ k = 187 ∨ k = 188 ∨ k = 189 ∨ k = 190 ∨ k = 191 ∨ k = 192 ∨ k = 193 ∨ k = 194 ∨ k = 195 ∨ k = 196 ∨ k = 197 ∨ k = 198 ∨ k = 199 by omega) with rfl | rfl | rfl | rfl | rfl | rfl | rfl | rfl | rfl | rfl | rfl | rfl | rfl | rfl | rfl | rfl | rfl | rfl | rfl | rfl
  · exact mj_m180
  · exact mj_m181
  · exact mj_m182
  · exact mj_m183
  · exact mj_m184
  · exact mj_m185
  · exact mj_m186
  · exact mj_m187
  · exact mj_m188
  · exact mj_m189
  · exact mj_m190
  · exact mj_m191
  · exact mj_m192
  · exact mj_m193
  · exact mj_m194
  · exact mj_m195
  · exact mj_m196
  · exact mj_m197
  · exact mj_m198
  · exact mj_m199
theorem mj_ms200 : ∀ k, 200 ≤ k → k < 220 → mj_mF k := by
  intro k h1 h2
  rcases (show k = 200 ∨ k = 201 ∨ k = 202 ∨ k = 203 ∨ k = 204 ∨ k = 205 ∨ k = 206 ∨ k = 207 ∨ k = 208 ∨ k = 209 ∨ k = 210 ∨ k = 211 ∨ k = 212 ∨ k = 213 ∨ k = 214 ∨ k = 215 ∨ k = 216 ∨ k = 217 ∨ k = 218 ∨ k = 219 by omega) with rfl | rfl | rfl | rfl | rfl | rfl | rfl | rfl | rfl | rfl | rfl | rfl | rfl | rfl | rfl | rfl | rfl | rfl | rfl | rfl
  · exact mj_m200
  · exact mj_m201
  · exact mj_m202
  · exact mj_m203
  · exact mj_m204
  · exact mj_m205
  · exact mj_m206
  · exact mj_m207
  · exact mj_m208
  · exact mj_m209
  · exact mj_m210
  · exact mj_m211
  · exact mj_m212
  · exact mj_m213
  · exact mj_m214
  · exact mj_m215
  · exact mj_m216
  · exact mj_m217
  · exact mj_m218
  · exact mj_m219
theorem mj_ms220 : ∀ k, 220 ≤ k → k < 240 → mj_mF k := by
  intro k h1 h2
  rcases (show k = 220 ∨ k = 221 ∨ k = 222 ∨ k = 223 ∨ k = 224 ∨ k = 225 ∨ k = 226 ∨ k = 227 ∨ k = 228 ∨ k = 229 ∨ k = 230 ∨ k = 231 ∨ k = 232 ∨ k = 233 ∨ k = 234 ∨ k = 235 ∨ k = 236 ∨ k = 237 ∨ k = 238 ∨ k = 239 by omega) with rfl | rfl | rfl | rfl | rfl | rfl | rfl | rfl | rfl | rfl | rfl | rfl | rfl | rfl | rfl | rfl | rfl | rfl | rfl | rfl
  · exact mj_m220
  · exact mj_m221
  · exact mj_m222
  · exact mj_m223
  · exact mj_m224
  · exact mj_m225
  · exact mj_m226
  · exact mj_m227
  · exact mj_m228
  · exact mj_m229
  · exact mj_m230
  · exact mj_m231
  · exact mj_m232
  · exact mj_m233
  · exact mj_m234
  · exact mj_m235
  · exact mj_m236
  · exact mj_m237
  · exact mj_m238
  · exact mj_m239
theorem mj_ms240 : ∀ k, 240 ≤ k → k < 260 → mj_mF k := by
  intro k h1 h2
  rcases (show k = 240 ∨ k = 241 ∨ k = 242 ∨ k = 243 ∨ k = 244 ∨ k = 245 ∨ k = 246 ∨ k = 247 ∨ k = 248 ∨ k = 249 ∨ k = 250 ∨ k = 251 ∨ k = 252 ∨ k = 253 ∨ k = 254 ∨ k = 255 ∨ k = 256 ∨ k = 257 ∨ k = 258 ∨ k = 259 by omega) with rfl | rfl | rfl | rfl | rfl | rfl | rfl | rfl | rfl | rfl | rfl | rfl | rfl | rfl | rfl | rfl | rfl | rfl | rfl | rfl
  · exact mj_m240
  · exact mj_m241
  · exact mj_m242
  · exact mj_m243
  · exact mj_m244
  · exact mj_m245
  · exact mj_m246
  · exact mj_m247
  · exact mj_m248
  · exact mj_m249
  · exact mj_m250
  · exact mj_m251
  · exact mj_m252
  · exact mj_m253
  · exact mj_m254
  · exact mj_m255
  · exact mj_m256
  · exact mj_m257
  · exact mj_m258
  · exact mj_m259
theorem mj_ms260 : ∀ k, 260 ≤ k → k < 280 → mj_mF k := by
  intro k h1 h2
  rcases (show k = 260 ∨ k = 261 ∨ k = 262 ∨ k = 263 ∨ k = 264 ∨ k = 265 ∨ k = 266 ∨ k = 267 ∨ k = 268 ∨ k = 269 ∨ k = 270 ∨ k = 271 ∨ k = 272 ∨ k = 273 ∨ k = 274 ∨ k = 275 ∨ k = 276 ∨ k = 277 ∨ k = 278 ∨ k = 279 by omega) with rfl | rfl | rfl | rfl | rfl | rfl | rfl | rfl | rfl | rfl | rfl | rfl | rfl | rfl | rfl | rfl | rfl | rfl | rfl | rfl
  · exact mj_m260
  · exact mj_m261
  · exact mj_m262
  · exact mj_m263
  · exact mj_m264
  · exact mj_m265
  · exact mj_m266
  · exact mj_m267
  · exact mj_m268
  · exact mj_m269
  · exact mj_m270
  · exact mj_m271
  · exact mj_m272
  · exact mj_m273
  · exact mj_m274
  · exact mj_m275
  · exact mj_m276
  · exact mj_m277
  · exact mj_m278
  · exact mj_m279
theorem mj_ms280 : ∀ k, 280 ≤ k → k < 300 → mj_mF k := by
  intro k h1 h2
  rcases (show k = 280 ∨ k = 281 ∨ k = 282 ∨ k = 283 ∨ k = 284 ∨ k = 285 ∨ k = 286 ∨ k = 287 ∨ k = 288 ∨ k = 289 ∨ k = 290 ∨ k = 291 ∨ k = 292 ∨ k = 293 ∨ k = 294 ∨ k = 295 ∨ k = 296 ∨ k = 297 ∨ k = 298 ∨ k = 299 by omega) with rfl | rfl | rfl | rfl | rfl | rfl | rfl | rfl | rfl | rfl | rfl | rfl | rfl | rfl | rfl | rfl | rfl | rfl | rfl | rfl
  · exact mj_m280
  · exact mj_m281
  · exact mj_m282
  · exact mj_m283
  · exact mj_m284
  · exact mj_m285
  · exact mj_m286
  · exact mj_m287
  · exact mj_m288
  · exact mj_m289
  · exact mj_m290
  · exact mj_m291
  · exact mj_m292
  · exact mj_m293
  · exact mj_m294
  · exact mj_m295
  · exact mj_m296
  · exact mj_m297
  · exact mj_m298
  · exact mj_m299
theorem mj_ms300 : ∀ k, 300 ≤ k → k < 320 → mj_mF k := by
  intro k h1 h2
  rcases (show k = 300 ∨ k = 301 ∨ k = 302 ∨ k = 303 ∨ k = 304 ∨ k = 305 ∨ k = 306 ∨ k = 307 ∨ k = 308 ∨ k = 309 ∨ k = 310 ∨ k = 311 ∨ k = 312 ∨ k = 313 ∨ k = 314 ∨ k = 315 ∨ k = 316 ∨ k = 317 ∨ k = 318 ∨ k = 319 by omega) with rfl | rfl | rfl | rfl | rfl | rfl | rfl | rfl | rfl | rfl | rfl | rfl | rfl | rfl | rfl | rfl | rfl | rfl | rfl | rfl
  · exact mj_m300
  · exact mj_m301
  · exact mj_m302
  · exact mj_m303
  · exact mj_m304
  · exact mj_m305
  · exact mj_m306
  · exact mj_m307
  · exact mj_m308
  · exact mj_m309
  · exact mj_m310
  · exact mj_m311
  · exact mj_m312
  · exact mj_m313
  · exact mj_m314
  · exact mj_m315
  · exact mj_m316
  · exact mj_m317
  · exact mj_m318
  · exact mj_m319
theorem mj_ms320 : ∀ k, 320 ≤ k → k < 335 → mj_mF k := by
  intro k h1 h2
  rcases (show k = 320 ∨ k = 321 ∨ k = 322 ∨ k = 323 ∨ k = 324 ∨ k = 325 ∨ k = 326 ∨ k = 327 ∨ k = 328 ∨ k = 329 ∨ k = 330 ∨ k = 331 ∨ k = 332 ∨ k = 333 ∨ k = 334 by omega) with rfl | rfl | rfl | rfl | rfl | rfl | rfl | rfl | rfl | rfl | rfl | rfl | rfl | rfl | rfl
  · exact mj_m320
  · exact mj_m321
  · exact mj_m322
  · exact mj_m323
  · exact mj_m324
  · exact mj_m325
  · exact mj_m326
  · exact mj_m327
  · exact mj_m328
  · exact mj_m329
  · exact mj_m330
  · exact mj_m331
  · exact mj_m332
  · exact mj_m333
  · exact mj_m334
theorem mj_ms : ∀ k, k < 335 → mj_mF k := by
  intro k hk
  by_cases h0 : k < 20
  · exact mj_ms0 k (by omega) h0
  by_cases h20 : k < 40
  · exact mj_ms20 k (by omega) h20
  by_cases h40 : k < 60
  · exact mj_ms40 k (by omega) h40
  by_cases h60 : k < 80
  · exact mj_ms60 k (by omega) h60
  by_cases h80 : k < 100
  · exact mj_ms80 k (by omega) h80
  by_cases h100 : k < 120
  · exact mj_ms100 k (by omega) h100
  by_cases h120 : k < 140
  · exact mj_ms120 k (by omega) h120
  by_cases h140 : k < 160
  · exact mj_ms140 k (by omega) h140
  by_cases h160 : k < 180
  · exact mj_ms160 k (by omega) h160
  by_cases h180 : k < 200
  · exact mj_ms180 k (by omega) h180
  by_cases h200 : k < 220
  · exact mj_ms200 k (by omega) h200
  by_cases h220 : k < 240
  · exact mj_ms220 k (by omega) h220
  by_cases h240 : k < 260
  · exact mj_ms240 k (by omega) h240
  by_cases h260 : k < 280
  · exact mj_ms260 k (by omega) h260
  by_cases h280 : k < 300
  · exact mj_ms280 k (by omega) h280
  by_cases h300 : k < 320
  · exact mj_ms300 k (by omega) h300
  by_cases h320 : k < 335
  · exact mj_ms320 k (by omega) h320
  omega
theorem mj_meth_ok : ∀ k, k < 336 → (mj_yn k).cls = mj_cn (mj_mi k).1 ∧ (mj_mi k).1 < 20 ∧ (mj_mi k).2.1 ≤ 41 := by decide +kernel
theorem mj_cn_ok : ∀ c, c < 20 → mj_cn c ≠ "java/lang/invoke/MethodHandle" ∧ mj_cn c ≠ "java/lang/invoke/VarHandle" := by decide +kernel
theorem mj_pl_ok : ∀ c, c < 14 → plainName (mj_cn c) = true := by decide +kernel
theorem mj_pf_ok : ∀ k, k < 336 → 14 ≤ (mj_mi k).1 → (NativeRow.find? Jvm.natives (mj_yn k).cls (mj_yn k).name (mj_yn k).desc).isNone = true := by decide +kernel
theorem mj_ini_ok : ∀ k, k < 335 → (mj_mi k).2.2.2.2 = decide (mj_kd k = 1) ∧ (mj_kd k = 1 → (mj_yn k).name = "<init>") := by decide +kernel
theorem mj_np_ok : ∀ k, k < 335 → (mj_kd k = 0 → mj_np k = some (mj_mi k).2.2.1.length) ∧ (mj_kd k ≠ 0 → (mj_np k).map (· + 1) = some (mj_mi k).2.2.1.length ∧ (mj_mi k).2.2.1.head? = some (if (mj_mi k).1 = 17 then 10 else 20 + (mj_mi k).1)) := by decide +kernel
def mj_lF (c : Nat) (q : Nat × Nat × Nat) : Prop := match q.2.1 with
  | 0 => Cond.methodLink (mj_cn c) q.1 objectInit ∈ mj_tb
  | 1 => (q.2.2 < 335 ∧ mj_kd q.2.2 = 1) ∧ Cond.methodLink (mj_cn c) q.1 (mj_yn q.2.2) ∈ mj_tb
  | 2 => (q.2.2 < 335 ∧ mj_kd q.2.2 = 2) ∧ Cond.methodLink (mj_cn c) q.1 (mj_yn q.2.2) ∈ mj_tb
  | 3 => (q.2.2 < 335 ∧ mj_kd q.2.2 = 0) ∧ Cond.methodLink (mj_cn c) q.1 (mj_yn q.2.2) ∈ mj_tb
  | 4 => Cond.methodLink (mj_cn c) q.1 arraycopyName ∈ mj_tb
  | 5 => (q.2.2 < 335 ∧ mj_kd q.2.2 = 0) ∧ Cond.methodLinkNest (mj_cn c) q.1 (mj_yn q.2.2) "PerfectFerried" ∈ tables_1
  | 6 => (q.2.2 < 335 ∧ mj_kd q.2.2 = 1) ∧ Cond.methodLinkNest (mj_cn c) q.1 (mj_yn q.2.2) "PerfectFerried" ∈ tables_1
  | _ => False
theorem mj_l0_0 : mj_lF 0 (3, 0, 0) := (mj_tb_in (mj_c2 (List.mem_of_getElem? (i := 21) rfl)) rfl)
theorem mj_l0_1 : mj_lF 0 (48, 2, 117) := ⟨by decide +kernel, (mj_tb_in (mj_c5 (List.mem_of_getElem? (i := 113) rfl)) rfl)⟩
theorem mj_l0_2 : mj_lF 0 (52, 3, 85) := ⟨by decide +kernel, (mj_tb_in (mj_c5 (List.mem_of_getElem? (i := 114) rfl)) rfl)⟩
theorem mj_l0_3 : mj_lF 0 (58, 2, 157) := ⟨by decide +kernel, (mj_tb_in (mj_c5 (List.mem_of_getElem? (i := 115) rfl)) rfl)⟩
theorem mj_l0_4 : mj_lF 0 (64, 2, 160) := ⟨by decide +kernel, (mj_tb_in (mj_c5 (List.mem_of_getElem? (i := 127) rfl)) rfl)⟩
theorem mj_l0_5 : mj_lF 0 (67, 2, 116) := ⟨by decide +kernel, (mj_tb_in (mj_c5 (List.mem_of_getElem? (i := 220) rfl)) rfl)⟩
theorem mj_l0_6 : mj_lF 0 (73, 2, 81) := ⟨by decide +kernel, (mj_tb_in (mj_c5 (List.mem_of_getElem? (i := 157) rfl)) rfl)⟩
theorem mj_l0_7 : mj_lF 0 (77, 2, 79) := ⟨by decide +kernel, (mj_tb_in (mj_c5 (List.mem_of_getElem? (i := 158) rfl)) rfl)⟩
theorem mj_l0_8 : mj_lF 0 (81, 2, 107) := ⟨by decide +kernel, (mj_tb_in (mj_c5 (List.mem_of_getElem? (i := 159) rfl)) rfl)⟩
theorem mj_l0_9 : mj_lF 0 (87, 3, 167) := ⟨by decide +kernel, (mj_tb_in (mj_c5 (List.mem_of_getElem? (i := 160) rfl)) rfl)⟩
theorem mj_l0_10 : mj_lF 0 (91, 2, 86) := ⟨by decide +kernel, (mj_tb_in (mj_c5 (List.mem_of_getElem? (i := 167) rfl)) rfl)⟩
theorem mj_l0_11 : mj_lF 0 (94, 2, 78) := ⟨by decide +kernel, (mj_tb_in (mj_c5 (List.mem_of_getElem? (i := 176) rfl)) rfl)⟩
theorem mj_l0_12 : mj_lF 0 (99, 2, 80) := ⟨by decide +kernel, (mj_tb_in (mj_c5 (List.mem_of_getElem? (i := 177) rfl)) rfl)⟩
theorem mj_l0_13 : mj_lF 0 (105, 2, 174) := ⟨by decide +kernel, (mj_tb_in (mj_c5 (List.mem_of_getElem? (i := 190) rfl)) rfl)⟩
theorem mj_l0_14 : mj_lF 0 (118, 2, 143) := ⟨by decide +kernel, (mj_tb_in (mj_c5 (List.mem_of_getElem? (i := 194) rfl)) rfl)⟩
theorem mj_l0_15 : mj_lF 0 (122, 2, 77) := ⟨by decide +kernel, (mj_tb_in (mj_c5 (List.mem_of_getElem? (i := 195) rfl)) rfl)⟩
theorem mj_lks_0 : ∀ q ∈ mj_lks.getD 0 [], mj_lF 0 q := List.forall_mem_cons.mpr ⟨mj_l0_0, List.forall_mem_cons.mpr ⟨mj_l0_1, List.forall_mem_cons.mpr ⟨mj_l0_2, List.forall_mem_cons.mpr ⟨mj_l0_3, List.forall_mem_cons.mpr ⟨mj_l0_4, List.forall_mem_cons.mpr ⟨mj_l0_5, List.forall_mem_cons.mpr ⟨mj_l0_6, List.forall_mem_cons.mpr ⟨mj_l0_7, List.forall_mem_cons.mpr ⟨mj_l0_8, List.forall_mem_cons.mpr ⟨mj_l0_9, List.forall_mem_cons.mpr ⟨mj_l0_10, List.forall_mem_cons.mpr ⟨mj_l0_11, List.forall_mem_cons.mpr ⟨mj_l0_12, List.forall_mem_cons.mpr ⟨mj_l0_13, List.forall_mem_cons.mpr ⟨mj_l0_14, List.forall_mem_cons.mpr ⟨mj_l0_15, fun _ h => absurd h List.not_mem_nil⟩⟩⟩⟩⟩⟩⟩⟩⟩⟩⟩⟩⟩⟩⟩⟩
theorem mj_l1_0 : mj_lF 1 (3, 0, 0) := (mj_tb_in (mj_c2 (List.mem_of_getElem? (i := 1) rfl)) rfl)
theorem mj_l1_1 : mj_lF 1 (27, 2, 142) := ⟨by decide +kernel, (mj_tb_in (mj_c5 (List.mem_of_getElem? (i := 47) rfl)) rfl)⟩
theorem mj_l1_2 : mj_lF 1 (36, 2, 143) := ⟨by decide +kernel, (mj_tb_in (mj_c5 (List.mem_of_getElem? (i := 51) rfl)) rfl)⟩
theorem mj_l1_3 : mj_lF 1 (40, 2, 135) := ⟨by decide +kernel, (mj_tb_in (mj_c5 (List.mem_of_getElem? (i := 55) rfl)) rfl)⟩
theorem mj_l1_4 : mj_lF 1 (46, 2, 146) := ⟨by decide +kernel, (mj_tb_in (mj_c5 (List.mem_of_getElem? (i := 64) rfl)) rfl)⟩
theorem mj_l1_5 : mj_lF 1 (50, 2, 145) := ⟨by decide +kernel, (mj_tb_in (mj_c5 (List.mem_of_getElem? (i := 79) rfl)) rfl)⟩
theorem mj_l1_6 : mj_lF 1 (53, 3, 47) := ⟨by decide +kernel, (mj_tb_in (mj_c5 (List.mem_of_getElem? (i := 88) rfl)) rfl)⟩
theorem mj_lks_1 : ∀ q ∈ mj_lks.getD 1 [], mj_lF 1 q := List.forall_mem_cons.mpr ⟨mj_l1_0, List.forall_mem_cons.mpr ⟨mj_l1_1, List.forall_mem_cons.mpr ⟨mj_l1_2, List.forall_mem_cons.mpr ⟨mj_l1_3, List.forall_mem_cons.mpr ⟨mj_l1_4, List.forall_mem_cons.mpr ⟨mj_l1_5, List.forall_mem_cons.mpr ⟨mj_l1_6, fun _ h => absurd h List.not_mem_nil⟩⟩⟩⟩⟩⟩⟩
theorem mj_l2_0 : mj_lF 2 (3, 0, 0) := (mj_tb_in (mj_c1 (List.mem_of_getElem? (i := 223) rfl)) rfl)
theorem mj_l2_1 : mj_lF 2 (11, 6, 6) := ⟨by decide +kernel, mj_c1 (List.mem_of_getElem? (i := 225) rfl)⟩
theorem mj_l2_2 : mj_lF 2 (31, 2, 79) := ⟨by decide +kernel, (mj_tb_in (mj_c4 (List.mem_of_getElem? (i := 5) rfl)) rfl)⟩
theorem mj_l2_3 : mj_lF 2 (39, 2, 81) := ⟨by decide +kernel, (mj_tb_in (mj_c4 (List.mem_of_getElem? (i := 13) rfl)) rfl)⟩
theorem mj_l2_4 : mj_lF 2 (47, 2, 82) := ⟨by decide +kernel, (mj_tb_in (mj_c4 (List.mem_of_getElem? (i := 18) rfl)) rfl)⟩
theorem mj_l2_5 : mj_lF 2 (62, 2, 76) := ⟨by decide +kernel, (mj_tb_in (mj_c3 (List.mem_of_getElem? (i := 233) rfl)) rfl)⟩
theorem mj_l2_6 : mj_lF 2 (66, 2, 77) := ⟨by decide +kernel, (mj_tb_in (mj_c3 (List.mem_of_getElem? (i := 237) rfl)) rfl)⟩
theorem mj_l2_7 : mj_lF 2 (69, 2, 78) := ⟨by decide +kernel, (mj_tb_in (mj_c4 (List.mem_of_getElem? (i := 1) rfl)) rfl)⟩
theorem mj_l2_8 : mj_lF 2 (72, 2, 80) := ⟨by decide +kernel, (mj_tb_in (mj_c4 (List.mem_of_getElem? (i := 9) rfl)) rfl)⟩
theorem mj_l2_9 : mj_lF 2 (75, 2, 89) := ⟨by decide +kernel, (mj_tb_in (mj_c4 (List.mem_of_getElem? (i := 53) rfl)) rfl)⟩
theorem mj_l2_10 : mj_lF 2 (81, 2, 96) := ⟨by decide +kernel, (mj_tb_in (mj_c4 (List.mem_of_getElem? (i := 82) rfl)) rfl)⟩
theorem mj_l2_11 : mj_lF 2 (84, 2, 97) := ⟨by decide +kernel, (mj_tb_in (mj_c4 (List.mem_of_getElem? (i := 86) rfl)) rfl)⟩
theorem mj_l2_12 : mj_lF 2 (88, 2, 102) := ⟨by decide +kernel, (mj_tb_in (mj_c4 (List.mem_of_getElem? (i := 107) rfl)) rfl)⟩
theorem mj_l2_13 : mj_lF 2 (95, 2, 105) := ⟨by decide +kernel, (mj_tb_in (mj_c4 (List.mem_of_getElem? (i := 119) rfl)) rfl)⟩
theorem mj_l2_14 : mj_lF 2 (102, 2, 106) := ⟨by decide +kernel, (mj_tb_in (mj_c4 (List.mem_of_getElem? (i := 123) rfl)) rfl)⟩
theorem mj_l2_15 : mj_lF 2 (106, 2, 107) := ⟨by decide +kernel, (mj_tb_in (mj_c4 (List.mem_of_getElem? (i := 127) rfl)) rfl)⟩
theorem mj_l2_16 : mj_lF 2 (112, 3, 28) := ⟨by decide +kernel, (mj_tb_in (mj_c4 (List.mem_of_getElem? (i := 131) rfl)) rfl)⟩
theorem mj_l2_17 : mj_lF 2 (118, 2, 90) := ⟨by decide +kernel, (mj_tb_in (mj_c4 (List.mem_of_getElem? (i := 228) rfl)) rfl)⟩
theorem mj_l2_18 : mj_lF 2 (128, 2, 75) := ⟨by decide +kernel, (mj_tb_in (mj_c4 (List.mem_of_getElem? (i := 148) rfl)) rfl)⟩
theorem mj_l2_19 : mj_lF 2 (132, 2, 93) := ⟨by decide +kernel, (mj_tb_in (mj_c4 (List.mem_of_getElem? (i := 149) rfl)) rfl)⟩
theorem mj_l2_20 : mj_lF 2 (136, 2, 95) := ⟨by decide +kernel, (mj_tb_in (mj_c4 (List.mem_of_getElem? (i := 150) rfl)) rfl)⟩
theorem mj_l2_21 : mj_lF 2 (140, 2, 110) := ⟨by decide +kernel, (mj_tb_in (mj_c4 (List.mem_of_getElem? (i := 141) rfl)) rfl)⟩
theorem mj_l2_22 : mj_lF 2 (145, 2, 14) := ⟨by decide +kernel, (mj_tb_in (mj_c4 (List.mem_of_getElem? (i := 145) rfl)) rfl)⟩
theorem mj_l2_23 : mj_lF 2 (148, 2, 16) := ⟨by decide +kernel, (mj_tb_in (mj_c4 (List.mem_of_getElem? (i := 146) rfl)) rfl)⟩
theorem mj_l2_24 : mj_lF 2 (151, 2, 20) := ⟨by decide +kernel, (mj_tb_in (mj_c4 (List.mem_of_getElem? (i := 147) rfl)) rfl)⟩
theorem mj_l2_25 : mj_lF 2 (154, 2, 104) := ⟨by decide +kernel, (mj_tb_in (mj_c4 (List.mem_of_getElem? (i := 151) rfl)) rfl)⟩
theorem mj_lks_2 : ∀ q ∈ mj_lks.getD 2 [], mj_lF 2 q := List.forall_mem_cons.mpr ⟨mj_l2_0, List.forall_mem_cons.mpr ⟨mj_l2_1, List.forall_mem_cons.mpr ⟨mj_l2_2, List.forall_mem_cons.mpr ⟨mj_l2_3, List.forall_mem_cons.mpr ⟨mj_l2_4, List.forall_mem_cons.mpr ⟨mj_l2_5, List.forall_mem_cons.mpr ⟨mj_l2_6, List.forall_mem_cons.mpr ⟨mj_l2_7, List.forall_mem_cons.mpr ⟨mj_l2_8, List.forall_mem_cons.mpr ⟨mj_l2_9, List.forall_mem_cons.mpr ⟨mj_l2_10, List.forall_mem_cons.mpr ⟨mj_l2_11, List.forall_mem_cons.mpr ⟨mj_l2_12, List.forall_mem_cons.mpr ⟨mj_l2_13, List.forall_mem_cons.mpr ⟨mj_l2_14, List.forall_mem_cons.mpr ⟨mj_l2_15, List.forall_mem_cons.mpr ⟨mj_l2_16, List.forall_mem_cons.mpr ⟨mj_l2_17, List.forall_mem_cons.mpr ⟨mj_l2_18, List.forall_mem_cons.mpr ⟨mj_l2_19, List.forall_mem_cons.mpr ⟨mj_l2_20, List.forall_mem_cons.mpr ⟨mj_l2_21, List.forall_mem_cons.mpr ⟨mj_l2_22, List.forall_mem_cons.mpr ⟨mj_l2_23, List.forall_mem_cons.mpr ⟨mj_l2_24, List.forall_mem_cons.mpr ⟨mj_l2_25, fun _ h => absurd h List.not_mem_nil⟩⟩⟩⟩⟩⟩⟩⟩⟩⟩⟩⟩⟩⟩⟩⟩⟩⟩⟩⟩⟩⟩⟩⟩⟩⟩
theorem mj_l3_0 : mj_lF 3 (3, 0, 0) := (mj_tb_in (mj_c1 (List.mem_of_getElem? (i := 213) rfl)) rfl)
theorem mj_l3_1 : mj_lF 3 (29, 2, 83) := ⟨by decide +kernel, (mj_tb_in (mj_c4 (List.mem_of_getElem? (i := 22) rfl)) rfl)⟩
theorem mj_l3_2 : mj_lF 3 (42, 3, 28) := ⟨by decide +kernel, (mj_tb_in (mj_c4 (List.mem_of_getElem? (i := 26) rfl)) rfl)⟩
theorem mj_l3_3 : mj_lF 3 (48, 3, 58) := ⟨by decide +kernel, (mj_tb_in (mj_c4 (List.mem_of_getElem? (i := 27) rfl)) rfl)⟩
theorem mj_l3_4 : mj_lF 3 (52, 3, 84) := ⟨by decide +kernel, (mj_tb_in (mj_c4 (List.mem_of_getElem? (i := 28) rfl)) rfl)⟩
theorem mj_l3_5 : mj_lF 3 (56, 3, 47) := ⟨by decide +kernel, (mj_tb_in (mj_c4 (List.mem_of_getElem? (i := 37) rfl)) rfl)⟩
theorem mj_l3_6 : mj_lF 3 (59, 2, 86) := ⟨by decide +kernel, (mj_tb_in (mj_c4 (List.mem_of_getElem? (i := 38) rfl)) rfl)⟩
theorem mj_l3_7 : mj_lF 3 (63, 3, 85) := ⟨by decide +kernel, (mj_tb_in (mj_c4 (List.mem_of_getElem? (i := 31) rfl)) rfl)⟩
theorem mj_l3_8 : mj_lF 3 (68, 3, 87) := ⟨by decide +kernel, (mj_tb_in (mj_c4 (List.mem_of_getElem? (i := 43) rfl)) rfl)⟩
theorem mj_l3_9 : mj_lF 3 (71, 3, 88) := ⟨by decide +kernel, (mj_tb_in (mj_c4 (List.mem_of_getElem? (i := 46) rfl)) rfl)⟩
theorem mj_lks_3 : ∀ q ∈ mj_lks.getD 3 [], mj_lF 3 q := List.forall_mem_cons.mpr ⟨mj_l3_0, List.forall_mem_cons.mpr ⟨mj_l3_1, List.forall_mem_cons.mpr ⟨mj_l3_2, List.forall_mem_cons.mpr ⟨mj_l3_3, List.forall_mem_cons.mpr ⟨mj_l3_4, List.forall_mem_cons.mpr ⟨mj_l3_5, List.forall_mem_cons.mpr ⟨mj_l3_6, List.forall_mem_cons.mpr ⟨mj_l3_7, List.forall_mem_cons.mpr ⟨mj_l3_8, List.forall_mem_cons.mpr ⟨mj_l3_9, fun _ h => absurd h List.not_mem_nil⟩⟩⟩⟩⟩⟩⟩⟩⟩⟩
theorem mj_l4_0 : mj_lF 4 (3, 0, 0) := (mj_tb_in (mj_c1 (List.mem_of_getElem? (i := 89) rfl)) rfl)
theorem mj_l4_1 : mj_lF 4 (37, 2, 91) := ⟨by decide +kernel, (mj_tb_in (mj_c4 (List.mem_of_getElem? (i := 61) rfl)) rfl)⟩
theorem mj_l4_2 : mj_lF 4 (41, 4, 0) := (mj_tb_in (mj_c4 (List.mem_of_getElem? (i := 65) rfl)) rfl)
theorem mj_l4_3 : mj_lF 4 (47, 2, 79) := ⟨by decide +kernel, (mj_tb_in (mj_c4 (List.mem_of_getElem? (i := 42) rfl)) rfl)⟩
theorem mj_l4_4 : mj_lF 4 (51, 2, 125) := ⟨by decide +kernel, (mj_tb_in (mj_c5 (List.mem_of_getElem? (i := 229) rfl)) rfl)⟩
theorem mj_lks_4 : ∀ q ∈ mj_lks.getD 4 [], mj_lF 4 q := List.forall_mem_cons.mpr ⟨mj_l4_0, List.forall_mem_cons.mpr ⟨mj_l4_1, List.forall_mem_cons.mpr ⟨mj_l4_2, List.forall_mem_cons.mpr ⟨mj_l4_3, List.forall_mem_cons.mpr ⟨mj_l4_4, fun _ h => absurd h List.not_mem_nil⟩⟩⟩⟩⟩
theorem mj_l5_0 : mj_lF 5 (3, 0, 0) := (mj_tb_in (mj_c1 (List.mem_of_getElem? (i := 36) rfl)) rfl)
theorem mj_l5_1 : mj_lF 5 (18, 3, 2) := ⟨by decide +kernel, (mj_tb_in (mj_c1 (List.mem_of_getElem? (i := 37) rfl)) rfl)⟩
theorem mj_l5_2 : mj_lF 5 (22, 3, 3) := ⟨by decide +kernel, (mj_tb_in (mj_c1 (List.mem_of_getElem? (i := 40) rfl)) rfl)⟩
theorem mj_l5_3 : mj_lF 5 (25, 5, 21) := ⟨by decide +kernel, mj_c4 (List.mem_of_getElem? (i := 237) rfl)⟩
theorem mj_l5_4 : mj_lF 5 (29, 5, 134) := ⟨by decide +kernel, mj_c5 (List.mem_of_getElem? (i := 26) rfl)⟩
theorem mj_l5_5 : mj_lF 5 (32, 2, 129) := ⟨by decide +kernel, (mj_tb_in (mj_c5 (List.mem_of_getElem? (i := 6) rfl)) rfl)⟩
theorem mj_l5_6 : mj_lF 5 (35, 2, 136) := ⟨by decide +kernel, (mj_tb_in (mj_c5 (List.mem_of_getElem? (i := 22) rfl)) rfl)⟩
theorem mj_l5_7 : mj_lF 5 (38, 2, 146) := ⟨by decide +kernel, (mj_tb_in (mj_c5 (List.mem_of_getElem? (i := 143) rfl)) rfl)⟩
theorem mj_lks_5 : ∀ q ∈ mj_lks.getD 5 [], mj_lF 5 q := List.forall_mem_cons.mpr ⟨mj_l5_0, List.forall_mem_cons.mpr ⟨mj_l5_1, List.forall_mem_cons.mpr ⟨mj_l5_2, List.forall_mem_cons.mpr ⟨mj_l5_3, List.forall_mem_cons.mpr ⟨mj_l5_4, List.forall_mem_cons.mpr ⟨mj_l5_5, List.forall_mem_cons.mpr ⟨mj_l5_6, List.forall_mem_cons.mpr ⟨mj_l5_7, fun _ h => absurd h List.not_mem_nil⟩⟩⟩⟩⟩⟩⟩⟩
theorem mj_l6_0 : mj_lF 6 (3, 0, 0) := (mj_tb_in (mj_c2 (List.mem_of_getElem? (i := 37) rfl)) rfl)
theorem mj_l6_1 : mj_lF 6 (65, 2, 27) := ⟨by decide +kernel, (mj_tb_in (mj_c2 (List.mem_of_getElem? (i := 187) rfl)) rfl)⟩
theorem mj_l6_2 : mj_lF 6 (69, 2, 29) := ⟨by decide +kernel, (mj_tb_in (mj_c2 (List.mem_of_getElem? (i := 194) rfl)) rfl)⟩
theorem mj_l6_3 : mj_lF 6 (72, 2, 49) := ⟨by decide +kernel, (mj_tb_in (mj_c3 (List.mem_of_getElem? (i := 86) rfl)) rfl)⟩
theorem mj_l6_4 : mj_lF 6 (76, 2, 51) := ⟨by decide +kernel, (mj_tb_in (mj_c3 (List.mem_of_getElem? (i := 93) rfl)) rfl)⟩
theorem mj_l6_5 : mj_lF 6 (79, 2, 52) := ⟨by decide +kernel, (mj_tb_in (mj_c3 (List.mem_of_getElem? (i := 97) rfl)) rfl)⟩
theorem mj_l6_6 : mj_lF 6 (82, 2, 67) := ⟨by decide +kernel, (mj_tb_in (mj_c3 (List.mem_of_getElem? (i := 156) rfl)) rfl)⟩
theorem mj_l6_7 : mj_lF 6 (87, 3, 68) := ⟨by decide +kernel, (mj_tb_in (mj_c3 (List.mem_of_getElem? (i := 162) rfl)) rfl)⟩
theorem mj_l6_8 : mj_lF 6 (93, 1, 69) := ⟨by decide +kernel, (mj_tb_in (mj_c3 (List.mem_of_getElem? (i := 176) rfl)) rfl)⟩
theorem mj_l6_9 : mj_lF 6 (96, 3, 28) := ⟨by decide +kernel, (mj_tb_in (mj_c2 (List.mem_of_getElem? (i := 191) rfl)) rfl)⟩
theorem mj_l6_10 : mj_lF 6 (102, 3, 30) := ⟨by decide +kernel, (mj_tb_in (mj_c2 (List.mem_of_getElem? (i := 198) rfl)) rfl)⟩
theorem mj_l6_11 : mj_lF 6 (106, 2, 31) := ⟨by decide +kernel, (mj_tb_in (mj_c2 (List.mem_of_getElem? (i := 201) rfl)) rfl)⟩
theorem mj_l6_12 : mj_lF 6 (109, 3, 38) := ⟨by decide +kernel, (mj_tb_in (mj_c3 (List.mem_of_getElem? (i := 10) rfl)) rfl)⟩
theorem mj_l6_13 : mj_lF 6 (112, 2, 39) := ⟨by decide +kernel, (mj_tb_in (mj_c3 (List.mem_of_getElem? (i := 13) rfl)) rfl)⟩
theorem mj_l6_14 : mj_lF 6 (115, 2, 40) := ⟨by decide +kernel, (mj_tb_in (mj_c3 (List.mem_of_getElem? (i := 17) rfl)) rfl)⟩
theorem mj_l6_15 : mj_lF 6 (118, 2, 32) := ⟨by decide +kernel, (mj_tb_in (mj_c2 (List.mem_of_getElem? (i := 205) rfl)) rfl)⟩
theorem mj_l6_16 : mj_lF 6 (123, 2, 33) := ⟨by decide +kernel, (mj_tb_in (mj_c2 (List.mem_of_getElem? (i := 210) rfl)) rfl)⟩
theorem mj_l6_17 : mj_lF 6 (131, 2, 41) := ⟨by decide +kernel, (mj_tb_in (mj_c3 (List.mem_of_getElem? (i := 22) rfl)) rfl)⟩
theorem mj_l6_18 : mj_lF 6 (134, 3, 50) := ⟨by decide +kernel, (mj_tb_in (mj_c3 (List.mem_of_getElem? (i := 90) rfl)) rfl)⟩
theorem mj_l6_19 : mj_lF 6 (137, 2, 56) := ⟨by decide +kernel, (mj_tb_in (mj_c3 (List.mem_of_getElem? (i := 113) rfl)) rfl)⟩
theorem mj_l6_20 : mj_lF 6 (140, 2, 60) := ⟨by decide +kernel, (mj_tb_in (mj_c3 (List.mem_of_getElem? (i := 128) rfl)) rfl)⟩
theorem mj_l6_21 : mj_lF 6 (143, 2, 66) := ⟨by decide +kernel, (mj_tb_in (mj_c3 (List.mem_of_getElem? (i := 152) rfl)) rfl)⟩
theorem mj_l6_22 : mj_lF 6 (147, 2, 53) := ⟨by decide +kernel, (mj_tb_in (mj_c3 (List.mem_of_getElem? (i := 101) rfl)) rfl)⟩
theorem mj_l6_23 : mj_lF 6 (150, 2, 54) := ⟨by decide +kernel, (mj_tb_in (mj_c3 (List.mem_of_getElem? (i := 105) rfl)) rfl)⟩
theorem mj_l6_24 : mj_lF 6 (153, 2, 57) := ⟨by decide +kernel, (mj_tb_in (mj_c3 (List.mem_of_getElem? (i := 117) rfl)) rfl)⟩
theorem mj_l6_25 : mj_lF 6 (156, 2, 55) := ⟨by decide +kernel, (mj_tb_in (mj_c3 (List.mem_of_getElem? (i := 109) rfl)) rfl)⟩
theorem mj_l6_26 : mj_lF 6 (159, 3, 58) := ⟨by decide +kernel, (mj_tb_in (mj_c3 (List.mem_of_getElem? (i := 121) rfl)) rfl)⟩
theorem mj_l6_27 : mj_lF 6 (164, 2, 59) := ⟨by decide +kernel, (mj_tb_in (mj_c3 (List.mem_of_getElem? (i := 124) rfl)) rfl)⟩
theorem mj_l6_28 : mj_lF 6 (167, 2, 61) := ⟨by decide +kernel, (mj_tb_in (mj_c3 (List.mem_of_getElem? (i := 132) rfl)) rfl)⟩
theorem mj_l6_29 : mj_lF 6 (170, 2, 62) := ⟨by decide +kernel, (mj_tb_in (mj_c3 (List.mem_of_getElem? (i := 136) rfl)) rfl)⟩
theorem mj_l6_30 : mj_lF 6 (173, 2, 65) := ⟨by decide +kernel, (mj_tb_in (mj_c3 (List.mem_of_getElem? (i := 148) rfl)) rfl)⟩
theorem mj_l6_31 : mj_lF 6 (176, 2, 63) := ⟨by decide +kernel, (mj_tb_in (mj_c3 (List.mem_of_getElem? (i := 140) rfl)) rfl)⟩
theorem mj_l6_32 : mj_lF 6 (179, 2, 64) := ⟨by decide +kernel, (mj_tb_in (mj_c3 (List.mem_of_getElem? (i := 144) rfl)) rfl)⟩
theorem mj_lks_6 : ∀ q ∈ mj_lks.getD 6 [], mj_lF 6 q := List.forall_mem_cons.mpr ⟨mj_l6_0, List.forall_mem_cons.mpr ⟨mj_l6_1, List.forall_mem_cons.mpr ⟨mj_l6_2, List.forall_mem_cons.mpr ⟨mj_l6_3, List.forall_mem_cons.mpr ⟨mj_l6_4, List.forall_mem_cons.mpr ⟨mj_l6_5, List.forall_mem_cons.mpr ⟨mj_l6_6, List.forall_mem_cons.mpr ⟨mj_l6_7, List.forall_mem_cons.mpr ⟨mj_l6_8, List.forall_mem_cons.mpr ⟨mj_l6_9, List.forall_mem_cons.mpr ⟨mj_l6_10, List.forall_mem_cons.mpr ⟨mj_l6_11, List.forall_mem_cons.mpr ⟨mj_l6_12, List.forall_mem_cons.mpr ⟨mj_l6_13, List.forall_mem_cons.mpr ⟨mj_l6_14, List.forall_mem_cons.mpr ⟨mj_l6_15, List.forall_mem_cons.mpr ⟨mj_l6_16, List.forall_mem_cons.mpr ⟨mj_l6_17, List.forall_mem_cons.mpr ⟨mj_l6_18, List.forall_mem_cons.mpr ⟨mj_l6_19, List.forall_mem_cons.mpr ⟨mj_l6_20, List.forall_mem_cons.mpr ⟨mj_l6_21, List.forall_mem_cons.mpr ⟨mj_l6_22, List.forall_mem_cons.mpr ⟨mj_l6_23, List.forall_mem_cons.mpr ⟨mj_l6_24, List.forall_mem_cons.mpr ⟨mj_l6_25, List.forall_mem_cons.mpr ⟨mj_l6_26, List.forall_mem_cons.mpr ⟨mj_l6_27, List.forall_mem_cons.mpr ⟨mj_l6_28, List.forall_mem_cons.mpr ⟨mj_l6_29, List.forall_mem_cons.mpr ⟨mj_l6_30, List.forall_mem_cons.mpr ⟨mj_l6_31, List.forall_mem_cons.mpr ⟨mj_l6_32, fun _ h => absurd h List.not_mem_nil⟩⟩⟩⟩⟩⟩⟩⟩⟩⟩⟩⟩⟩⟩⟩⟩⟩⟩⟩⟩⟩⟩⟩⟩⟩⟩⟩⟩⟩⟩⟩⟩⟩
theorem mj_l7_0 : mj_lF 7 (3, 0, 0) := (mj_tb_in (mj_c1 (List.mem_of_getElem? (i := 138) rfl)) rfl)
theorem mj_l7_1 : mj_lF 7 (19, 4, 0) := (mj_tb_in (mj_c6 (List.mem_of_getElem? (i := 7) rfl)) rfl)
theorem mj_lks_7 : ∀ q ∈ mj_lks.getD 7 [], mj_lF 7 q := List.forall_mem_cons.mpr ⟨mj_l7_0, List.forall_mem_cons.mpr ⟨mj_l7_1, fun _ h => absurd h List.not_mem_nil⟩⟩
theorem mj_l8_0 : mj_lF 8 (3, 0, 0) := (mj_tb_in (mj_c3 (List.mem_of_getElem? (i := 179) rfl)) rfl)
theorem mj_lks_8 : ∀ q ∈ mj_lks.getD 8 [], mj_lF 8 q := List.forall_mem_cons.mpr ⟨mj_l8_0, fun _ h => absurd h List.not_mem_nil⟩
theorem mj_l9_0 : mj_lF 9 (3, 0, 0) := (mj_tb_in (mj_c1 (List.mem_of_getElem? (i := 62) rfl)) rfl)
theorem mj_l9_1 : mj_lF 9 (25, 4, 0) := (mj_tb_in (mj_c6 (List.mem_of_getElem? (i := 2) rfl)) rfl)
theorem mj_l9_2 : mj_lF 9 (31, 2, 119) := ⟨by decide +kernel, (mj_tb_in (mj_c4 (List.mem_of_getElem? (i := 188) rfl)) rfl)⟩
theorem mj_l9_3 : mj_lF 9 (35, 2, 118) := ⟨by decide +kernel, (mj_tb_in (mj_c4 (List.mem_of_getElem? (i := 184) rfl)) rfl)⟩
theorem mj_l9_4 : mj_lF 9 (38, 2, 98) := ⟨by decide +kernel, (mj_tb_in (mj_c4 (List.mem_of_getElem? (i := 90) rfl)) rfl)⟩
theorem mj_l9_5 : mj_lF 9 (41, 2, 99) := ⟨by decide +kernel, (mj_tb_in (mj_c4 (List.mem_of_getElem? (i := 94) rfl)) rfl)⟩
theorem mj_l9_6 : mj_lF 9 (48, 2, 101) := ⟨by decide +kernel, (mj_tb_in (mj_c4 (List.mem_of_getElem? (i := 103) rfl)) rfl)⟩
theorem mj_l9_7 : mj_lF 9 (51, 3, 100) := ⟨by decide +kernel, (mj_tb_in (mj_c4 (List.mem_of_getElem? (i := 98) rfl)) rfl)⟩
theorem mj_lks_9 : ∀ q ∈ mj_lks.getD 9 [], mj_lF 9 q := List.forall_mem_cons.mpr ⟨mj_l9_0, List.forall_mem_cons.mpr ⟨mj_l9_1, List.forall_mem_cons.mpr ⟨mj_l9_2, List.forall_mem_cons.mpr ⟨mj_l9_3, List.forall_mem_cons.mpr ⟨mj_l9_4, List.forall_mem_cons.mpr ⟨mj_l9_5, List.forall_mem_cons.mpr ⟨mj_l9_6, List.forall_mem_cons.mpr ⟨mj_l9_7, fun _ h => absurd h List.not_mem_nil⟩⟩⟩⟩⟩⟩⟩⟩
theorem mj_l10_0 : mj_lF 10 (3, 0, 0) := (mj_tb_in (mj_c1 (List.mem_of_getElem? (i := 56) rfl)) rfl)
theorem mj_l10_1 : mj_lF 10 (11, 6, 5) := ⟨by decide +kernel, mj_c1 (List.mem_of_getElem? (i := 59) rfl)⟩
theorem mj_l10_2 : mj_lF 10 (20, 6, 6) := ⟨by decide +kernel, mj_c1 (List.mem_of_getElem? (i := 86) rfl)⟩
theorem mj_l10_3 : mj_lF 10 (27, 6, 7) := ⟨by decide +kernel, mj_c1 (List.mem_of_getElem? (i := 135) rfl)⟩
theorem mj_l10_4 : mj_lF 10 (65, 2, 17) := ⟨by decide +kernel, (mj_tb_in (mj_c2 (List.mem_of_getElem? (i := 148) rfl)) rfl)⟩
theorem mj_l10_5 : mj_lF 10 (69, 2, 18) := ⟨by decide +kernel, (mj_tb_in (mj_c2 (List.mem_of_getElem? (i := 152) rfl)) rfl)⟩
theorem mj_l10_6 : mj_lF 10 (73, 5, 21) := ⟨by decide +kernel, mj_c2 (List.mem_of_getElem? (i := 164) rfl)⟩
theorem mj_l10_7 : mj_lF 10 (76, 2, 73) := ⟨by decide +kernel, (mj_tb_in (mj_c4 (List.mem_of_getElem? (i := 17) rfl)) rfl)⟩
theorem mj_l10_8 : mj_lF 10 (79, 2, 117) := ⟨by decide +kernel, (mj_tb_in (mj_c4 (List.mem_of_getElem? (i := 180) rfl)) rfl)⟩
theorem mj_l10_9 : mj_lF 10 (82, 2, 90) := ⟨by decide +kernel, (mj_tb_in (mj_c4 (List.mem_of_getElem? (i := 57) rfl)) rfl)⟩
theorem mj_l10_10 : mj_lF 10 (86, 2, 91) := ⟨by decide +kernel, (mj_tb_in (mj_c4 (List.mem_of_getElem? (i := 170) rfl)) rfl)⟩
theorem mj_l10_11 : mj_lF 10 (89, 2, 185) := ⟨by decide +kernel, (mj_tb_in (mj_c5 (List.mem_of_getElem? (i := 238) rfl)) rfl)⟩
theorem mj_l10_12 : mj_lF 10 (92, 2, 186) := ⟨by decide +kernel, (mj_tb_in (mj_c6 (List.mem_of_getElem? (i := 3) rfl)) rfl)⟩
theorem mj_l10_13 : mj_lF 10 (95, 4, 0) := (mj_tb_in (mj_c6 (List.mem_of_getElem? (i := 8) rfl)) rfl)
theorem mj_lks_10 : ∀ q ∈ mj_lks.getD 10 [], mj_lF 10 q := List.forall_mem_cons.mpr ⟨mj_l10_0, List.forall_mem_cons.mpr ⟨mj_l10_1, List.forall_mem_cons.mpr ⟨mj_l10_2, List.forall_mem_cons.mpr ⟨mj_l10_3, List.forall_mem_cons.mpr ⟨mj_l10_4, List.forall_mem_cons.mpr ⟨mj_l10_5, List.forall_mem_cons.mpr ⟨mj_l10_6, List.forall_mem_cons.mpr ⟨mj_l10_7, List.forall_mem_cons.mpr ⟨mj_l10_8, List.forall_mem_cons.mpr ⟨mj_l10_9, List.forall_mem_cons.mpr ⟨mj_l10_10, List.forall_mem_cons.mpr ⟨mj_l10_11, List.forall_mem_cons.mpr ⟨mj_l10_12, List.forall_mem_cons.mpr ⟨mj_l10_13, fun _ h => absurd h List.not_mem_nil⟩⟩⟩⟩⟩⟩⟩⟩⟩⟩⟩⟩⟩⟩
theorem mj_l11_0 : mj_lF 11 (1, 0, 0) := (mj_tb_in (mj_c1 (List.mem_of_getElem? (i := 28) rfl)) rfl)
theorem mj_l11_1 : mj_lF 11 (9, 1, 1) := ⟨by decide +kernel, (mj_tb_in (mj_c1 (List.mem_of_getElem? (i := 33) rfl)) rfl)⟩
theorem mj_l11_2 : mj_lF 11 (18, 1, 4) := ⟨by decide +kernel, (mj_tb_in (mj_c1 (List.mem_of_getElem? (i := 53) rfl)) rfl)⟩
theorem mj_l11_3 : mj_lF 11 (28, 6, 8) := ⟨by decide +kernel, mj_c1 (List.mem_of_getElem? (i := 210) rfl)⟩
theorem mj_l11_4 : mj_lF 11 (35, 1, 9) := ⟨by decide +kernel, (mj_tb_in (mj_c1 (List.mem_of_getElem? (i := 220) rfl)) rfl)⟩
theorem mj_l11_5 : mj_lF 11 (48, 1, 10) := ⟨by decide +kernel, (mj_tb_in (mj_c1 (List.mem_of_getElem? (i := 238) rfl)) rfl)⟩
theorem mj_l11_6 : mj_lF 11 (57, 1, 11) := ⟨by decide +kernel, (mj_tb_in (mj_c2 (List.mem_of_getElem? (i := 18) rfl)) rfl)⟩
theorem mj_l11_7 : mj_lF 11 (70, 1, 12) := ⟨by decide +kernel, (mj_tb_in (mj_c2 (List.mem_of_getElem? (i := 34) rfl)) rfl)⟩
theorem mj_l11_8 : mj_lF 11 (95, 2, 14) := ⟨by decide +kernel, (mj_tb_in (mj_c2 (List.mem_of_getElem? (i := 136) rfl)) rfl)⟩
theorem mj_l11_9 : mj_lF 11 (101, 2, 16) := ⟨by decide +kernel, (mj_tb_in (mj_c2 (List.mem_of_getElem? (i := 144) rfl)) rfl)⟩
theorem mj_l11_10 : mj_lF 11 (104, 2, 20) := ⟨by decide +kernel, (mj_tb_in (mj_c2 (List.mem_of_getElem? (i := 160) rfl)) rfl)⟩
theorem mj_l11_11 : mj_lF 11 (108, 2, 23) := ⟨by decide +kernel, (mj_tb_in (mj_c2 (List.mem_of_getElem? (i := 171) rfl)) rfl)⟩
theorem mj_l11_12 : mj_lF 11 (115, 2, 26) := ⟨by decide +kernel, (mj_tb_in (mj_c2 (List.mem_of_getElem? (i := 183) rfl)) rfl)⟩
theorem mj_l11_13 : mj_lF 11 (125, 2, 70) := ⟨by decide +kernel, (mj_tb_in (mj_c3 (List.mem_of_getElem? (i := 209) rfl)) rfl)⟩
theorem mj_l11_14 : mj_lF 11 (129, 2, 73) := ⟨by decide +kernel, (mj_tb_in (mj_c3 (List.mem_of_getElem? (i := 221) rfl)) rfl)⟩
theorem mj_l11_15 : mj_lF 11 (136, 2, 75) := ⟨by decide +kernel, (mj_tb_in (mj_c3 (List.mem_of_getElem? (i := 229) rfl)) rfl)⟩
theorem mj_l11_16 : mj_lF 11 (140, 2, 93) := ⟨by decide +kernel, (mj_tb_in (mj_c4 (List.mem_of_getElem? (i := 70) rfl)) rfl)⟩
theorem mj_l11_17 : mj_lF 11 (144, 2, 95) := ⟨by decide +kernel, (mj_tb_in (mj_c4 (List.mem_of_getElem? (i := 78) rfl)) rfl)⟩
theorem mj_l11_18 : mj_lF 11 (157, 2, 104) := ⟨by decide +kernel, (mj_tb_in (mj_c4 (List.mem_of_getElem? (i := 115) rfl)) rfl)⟩
theorem mj_l11_19 : mj_lF 11 (160, 2, 81) := ⟨by decide +kernel, (mj_tb_in (mj_c4 (List.mem_of_getElem? (i := 136) rfl)) rfl)⟩
theorem mj_l11_20 : mj_lF 11 (168, 2, 109) := ⟨by decide +kernel, (mj_tb_in (mj_c4 (List.mem_of_getElem? (i := 137) rfl)) rfl)⟩
theorem mj_l11_21 : mj_lF 11 (172, 2, 89) := ⟨by decide +kernel, (mj_tb_in (mj_c4 (List.mem_of_getElem? (i := 156) rfl)) rfl)⟩
theorem mj_l11_22 : mj_lF 11 (178, 2, 106) := ⟨by decide +kernel, (mj_tb_in (mj_c4 (List.mem_of_getElem? (i := 157) rfl)) rfl)⟩
theorem mj_l11_23 : mj_lF 11 (182, 2, 112) := ⟨by decide +kernel, (mj_tb_in (mj_c4 (List.mem_of_getElem? (i := 158) rfl)) rfl)⟩
theorem mj_l11_24 : mj_lF 11 (185, 2, 114) := ⟨by decide +kernel, (mj_tb_in (mj_c4 (List.mem_of_getElem? (i := 166) rfl)) rfl)⟩
theorem mj_l11_25 : mj_lF 11 (188, 2, 77) := ⟨by decide +kernel, (mj_tb_in (mj_c4 (List.mem_of_getElem? (i := 175) rfl)) rfl)⟩
theorem mj_l11_26 : mj_lF 11 (200, 2, 116) := ⟨by decide +kernel, (mj_tb_in (mj_c4 (List.mem_of_getElem? (i := 176) rfl)) rfl)⟩
theorem mj_l11_27 : mj_lF 11 (203, 2, 76) := ⟨by decide +kernel, (mj_tb_in (mj_c4 (List.mem_of_getElem? (i := 196) rfl)) rfl)⟩
theorem mj_l11_28 : mj_lF 11 (212, 2, 86) := ⟨by decide +kernel, (mj_tb_in (mj_c4 (List.mem_of_getElem? (i := 197) rfl)) rfl)⟩
theorem mj_l11_29 : mj_lF 11 (215, 2, 107) := ⟨by decide +kernel, (mj_tb_in (mj_c4 (List.mem_of_getElem? (i := 202) rfl)) rfl)⟩
theorem mj_l11_30 : mj_lF 11 (219, 2, 82) := ⟨by decide +kernel, (mj_tb_in (mj_c4 (List.mem_of_getElem? (i := 203) rfl)) rfl)⟩
theorem mj_l11_31 : mj_lF 11 (222, 2, 123) := ⟨by decide +kernel, (mj_tb_in (mj_c4 (List.mem_of_getElem? (i := 208) rfl)) rfl)⟩
theorem mj_l11_32 : mj_lF 11 (231, 2, 125) := ⟨by decide +kernel, (mj_tb_in (mj_c4 (List.mem_of_getElem? (i := 216) rfl)) rfl)⟩
theorem mj_l11_33 : mj_lF 11 (234, 2, 127) := ⟨by decide +kernel, (mj_tb_in (mj_c4 (List.mem_of_getElem? (i := 224) rfl)) rfl)⟩
theorem mj_l11_34 : mj_lF 11 (238, 2, 129) := ⟨by decide +kernel, (mj_tb_in (mj_c4 (List.mem_of_getElem? (i := 233) rfl)) rfl)⟩
theorem mj_l11_35 : mj_lF 11 (241, 2, 131) := ⟨by decide +kernel, (mj_tb_in (mj_c5 (List.mem_of_getElem? (i := 2) rfl)) rfl)⟩
theorem mj_l11_36 : mj_lF 11 (245, 3, 21) := ⟨by decide +kernel, (mj_tb_in (mj_c5 (List.mem_of_getElem? (i := 11) rfl)) rfl)⟩
theorem mj_l11_37 : mj_lF 11 (248, 3, 133) := ⟨by decide +kernel, (mj_tb_in (mj_c5 (List.mem_of_getElem? (i := 12) rfl)) rfl)⟩
theorem mj_l11_38 : mj_lF 11 (252, 2, 135) := ⟨by decide +kernel, (mj_tb_in (mj_c5 (List.mem_of_getElem? (i := 18) rfl)) rfl)⟩
theorem mj_l11_39 : mj_lF 11 (256, 2, 138) := ⟨by decide +kernel, (mj_tb_in (mj_c5 (List.mem_of_getElem? (i := 31) rfl)) rfl)⟩
theorem mj_l11_40 : mj_lF 11 (261, 2, 139) := ⟨by decide +kernel, (mj_tb_in (mj_c5 (List.mem_of_getElem? (i := 35) rfl)) rfl)⟩
theorem mj_l11_41 : mj_lF 11 (264, 2, 141) := ⟨by decide +kernel, (mj_tb_in (mj_c5 (List.mem_of_getElem? (i := 43) rfl)) rfl)⟩
theorem mj_l11_42 : mj_lF 11 (270, 3, 134) := ⟨by decide +kernel, (mj_tb_in (mj_c5 (List.mem_of_getElem? (i := 15) rfl)) rfl)⟩
theorem mj_l11_43 : mj_lF 11 (273, 2, 145) := ⟨by decide +kernel, (mj_tb_in (mj_c5 (List.mem_of_getElem? (i := 60) rfl)) rfl)⟩
theorem mj_l11_44 : mj_lF 11 (276, 3, 147) := ⟨by decide +kernel, (mj_tb_in (mj_c5 (List.mem_of_getElem? (i := 68) rfl)) rfl)⟩
theorem mj_l11_45 : mj_lF 11 (280, 2, 149) := ⟨by decide +kernel, (mj_tb_in (mj_c5 (List.mem_of_getElem? (i := 75) rfl)) rfl)⟩
theorem mj_l11_46 : mj_lF 11 (283, 2, 151) := ⟨by decide +kernel, (mj_tb_in (mj_c5 (List.mem_of_getElem? (i := 84) rfl)) rfl)⟩
theorem mj_l11_47 : mj_lF 11 (286, 2, 17) := ⟨by decide +kernel, (mj_tb_in (mj_c5 (List.mem_of_getElem? (i := 93) rfl)) rfl)⟩
theorem mj_l11_48 : mj_lF 11 (289, 2, 96) := ⟨by decide +kernel, (mj_tb_in (mj_c5 (List.mem_of_getElem? (i := 94) rfl)) rfl)⟩
theorem mj_l11_49 : mj_lF 11 (292, 2, 153) := ⟨by decide +kernel, (mj_tb_in (mj_c5 (List.mem_of_getElem? (i := 95) rfl)) rfl)⟩
theorem mj_l11_50 : mj_lF 11 (295, 2, 97) := ⟨by decide +kernel, (mj_tb_in (mj_c5 (List.mem_of_getElem? (i := 99) rfl)) rfl)⟩
theorem mj_l11_51 : mj_lF 11 (298, 2, 118) := ⟨by decide +kernel, (mj_tb_in (mj_c5 (List.mem_of_getElem? (i := 104) rfl)) rfl)⟩
theorem mj_l11_52 : mj_lF 11 (301, 2, 156) := ⟨by decide +kernel, (mj_tb_in (mj_c5 (List.mem_of_getElem? (i := 109) rfl)) rfl)⟩
theorem mj_l11_53 : mj_lF 11 (304, 2, 159) := ⟨by decide +kernel, (mj_tb_in (mj_c5 (List.mem_of_getElem? (i := 123) rfl)) rfl)⟩
theorem mj_l11_54 : mj_lF 11 (307, 2, 163) := ⟨by decide +kernel, (mj_tb_in (mj_c5 (List.mem_of_getElem? (i := 139) rfl)) rfl)⟩
theorem mj_l11_55 : mj_lF 11 (315, 2, 166) := ⟨by decide +kernel, (mj_tb_in (mj_c5 (List.mem_of_getElem? (i := 153) rfl)) rfl)⟩
theorem mj_l11_56 : mj_lF 11 (319, 2, 168) := ⟨by decide +kernel, (mj_tb_in (mj_c5 (List.mem_of_getElem? (i := 163) rfl)) rfl)⟩
theorem mj_l11_57 : mj_lF 11 (322, 2, 170) := ⟨by decide +kernel, (mj_tb_in (mj_c5 (List.mem_of_getElem? (i := 172) rfl)) rfl)⟩
theorem mj_l11_58 : mj_lF 11 (328, 2, 173) := ⟨by decide +kernel, (mj_tb_in (mj_c5 (List.mem_of_getElem? (i := 186) rfl)) rfl)⟩
theorem mj_l11_59 : mj_lF 11 (331, 2, 176) := ⟨by decide +kernel, (mj_tb_in (mj_c5 (List.mem_of_getElem? (i := 200) rfl)) rfl)⟩
theorem mj_l11_60 : mj_lF 11 (334, 2, 178) := ⟨by decide +kernel, (mj_tb_in (mj_c5 (List.mem_of_getElem? (i := 208) rfl)) rfl)⟩
theorem mj_l11_61 : mj_lF 11 (337, 2, 180) := ⟨by decide +kernel, (mj_tb_in (mj_c5 (List.mem_of_getElem? (i := 216) rfl)) rfl)⟩
theorem mj_l11_62 : mj_lF 11 (340, 2, 182) := ⟨by decide +kernel, (mj_tb_in (mj_c5 (List.mem_of_getElem? (i := 225) rfl)) rfl)⟩
theorem mj_l11_63 : mj_lF 11 (343, 2, 184) := ⟨by decide +kernel, (mj_tb_in (mj_c5 (List.mem_of_getElem? (i := 234) rfl)) rfl)⟩
theorem mj_lks_11 : ∀ q ∈ mj_lks.getD 11 [], mj_lF 11 q := List.forall_mem_cons.mpr ⟨mj_l11_0, List.forall_mem_cons.mpr ⟨mj_l11_1, List.forall_mem_cons.mpr ⟨mj_l11_2, List.forall_mem_cons.mpr ⟨mj_l11_3, List.forall_mem_cons.mpr ⟨mj_l11_4, List.forall_mem_cons.mpr ⟨mj_l11_5, List.forall_mem_cons.mpr ⟨mj_l11_6, List.forall_mem_cons.mpr ⟨mj_l11_7, List.forall_mem_cons.mpr ⟨mj_l11_8, List.forall_mem_cons.mpr ⟨mj_l11_9, List.forall_mem_cons.mpr ⟨mj_l11_10, List.forall_mem_cons.mpr ⟨mj_l11_11, List.forall_mem_cons.mpr ⟨mj_l11_12, List.forall_mem_cons.mpr ⟨mj_l11_13, List.forall_mem_cons.mpr ⟨mj_l11_14, List.forall_mem_cons.mpr ⟨mj_l11_15, List.forall_mem_cons.mpr ⟨mj_l11_16, List.forall_mem_cons.mpr ⟨mj_l11_17, List.forall_mem_cons.mpr ⟨mj_l11_18, List.forall_mem_cons.mpr ⟨mj_l11_19, List.forall_mem_cons.mpr ⟨mj_l11_20, List.forall_mem_cons.mpr ⟨mj_l11_21, List.forall_mem_cons.mpr ⟨mj_l11_22, List.forall_mem_cons.mpr ⟨mj_l11_23, List.forall_mem_cons.mpr ⟨mj_l11_24, List.forall_mem_cons.mpr ⟨mj_l11_25, List.forall_mem_cons.mpr ⟨mj_l11_26, List.forall_mem_cons.mpr ⟨mj_l11_27, List.forall_mem_cons.mpr ⟨mj_l11_28, List.forall_mem_cons.mpr ⟨mj_l11_29, List.forall_mem_cons.mpr ⟨mj_l11_30, List.forall_mem_cons.mpr ⟨mj_l11_31, List.forall_mem_cons.mpr ⟨mj_l11_32, List.forall_mem_cons.mpr ⟨mj_l11_33, List.forall_mem_cons.mpr ⟨mj_l11_34, List.forall_mem_cons.mpr ⟨mj_l11_35, List.forall_mem_cons.mpr ⟨mj_l11_36, List.forall_mem_cons.mpr ⟨mj_l11_37, List.forall_mem_cons.mpr ⟨mj_l11_38, List.forall_mem_cons.mpr ⟨mj_l11_39, List.forall_mem_cons.mpr ⟨mj_l11_40, List.forall_mem_cons.mpr ⟨mj_l11_41, List.forall_mem_cons.mpr ⟨mj_l11_42, List.forall_mem_cons.mpr ⟨mj_l11_43, List.forall_mem_cons.mpr ⟨mj_l11_44, List.forall_mem_cons.mpr ⟨mj_l11_45, List.forall_mem_cons.mpr ⟨mj_l11_46, List.forall_mem_cons.mpr ⟨mj_l11_47, List.forall_mem_cons.mpr ⟨mj_l11_48, List.forall_mem_cons.mpr ⟨mj_l11_49, List.forall_mem_cons.mpr ⟨mj_l11_50, List.forall_mem_cons.mpr ⟨mj_l11_51, List.forall_mem_cons.mpr ⟨mj_l11_52, List.forall_mem_cons.mpr ⟨mj_l11_53, List.forall_mem_cons.mpr ⟨mj_l11_54, List.forall_mem_cons.mpr ⟨mj_l11_55, List.forall_mem_cons.mpr ⟨mj_l11_56, List.forall_mem_cons.mpr ⟨mj_l11_57, List.forall_mem_cons.mpr ⟨mj_l11_58, List.forall_mem_cons.mpr ⟨mj_l11_59, List.forall_mem_cons.mpr ⟨mj_l11_60, List.forall_mem_cons.mpr ⟨mj_l11_61, List.forall_mem_cons.mpr ⟨mj_l11_62, List.forall_mem_cons.mpr ⟨mj_l11_63, fun _ h => absurd h List.not_mem_nil⟩⟩⟩⟩⟩⟩⟩⟩⟩⟩⟩⟩⟩⟩⟩⟩⟩⟩⟩⟩⟩⟩⟩⟩⟩⟩⟩⟩⟩⟩⟩⟩⟩⟩⟩⟩⟩⟩⟩⟩⟩⟩⟩⟩⟩⟩⟩⟩⟩⟩⟩⟩⟩⟩⟩⟩⟩⟩⟩⟩⟩⟩⟩⟩
theorem mj_l12_0 : mj_lF 12 (1, 0, 0) := (mj_tb_in (mj_c6 (List.mem_of_getElem? (i := 22) rfl)) rfl)
theorem mj_l12_1 : mj_lF 12 (83, 2, 190) := ⟨by decide +kernel, (mj_tb_in (mj_c6 (List.mem_of_getElem? (i := 23) rfl)) rfl)⟩
theorem mj_l12_2 : mj_lF 12 (86, 2, 191) := ⟨by decide +kernel, (mj_tb_in (mj_c6 (List.mem_of_getElem? (i := 27) rfl)) rfl)⟩
theorem mj_l12_3 : mj_lF 12 (89, 3, 197) := ⟨by decide +kernel, (mj_tb_in (mj_c6 (List.mem_of_getElem? (i := 48) rfl)) rfl)⟩
theorem mj_l12_4 : mj_lF 12 (93, 2, 196) := ⟨by decide +kernel, (mj_tb_in (mj_c6 (List.mem_of_getElem? (i := 44) rfl)) rfl)⟩
theorem mj_l12_5 : mj_lF 12 (97, 3, 193) := ⟨by decide +kernel, (mj_tb_in (mj_c6 (List.mem_of_getElem? (i := 34) rfl)) rfl)⟩
theorem mj_l12_6 : mj_lF 12 (101, 3, 194) := ⟨by decide +kernel, (mj_tb_in (mj_c6 (List.mem_of_getElem? (i := 37) rfl)) rfl)⟩
theorem mj_l12_7 : mj_lF 12 (105, 3, 192) := ⟨by decide +kernel, (mj_tb_in (mj_c6 (List.mem_of_getElem? (i := 31) rfl)) rfl)⟩
theorem mj_l12_8 : mj_lF 12 (108, 2, 195) := ⟨by decide +kernel, (mj_tb_in (mj_c6 (List.mem_of_getElem? (i := 40) rfl)) rfl)⟩
theorem mj_l12_9 : mj_lF 12 (112, 2, 203) := ⟨by decide +kernel, (mj_tb_in (mj_c6 (List.mem_of_getElem? (i := 191) rfl)) rfl)⟩
theorem mj_l12_10 : mj_lF 12 (115, 3, 223) := ⟨by decide +kernel, (mj_tb_in (mj_c7 (List.mem_of_getElem? (i := 25) rfl)) rfl)⟩
theorem mj_l12_11 : mj_lF 12 (119, 2, 200) := ⟨by decide +kernel, (mj_tb_in (mj_c6 (List.mem_of_getElem? (i := 179) rfl)) rfl)⟩
theorem mj_l12_12 : mj_lF 12 (122, 2, 201) := ⟨by decide +kernel, (mj_tb_in (mj_c6 (List.mem_of_getElem? (i := 183) rfl)) rfl)⟩
theorem mj_l12_13 : mj_lF 12 (126, 2, 202) := ⟨by decide +kernel, (mj_tb_in (mj_c6 (List.mem_of_getElem? (i := 187) rfl)) rfl)⟩
theorem mj_l12_14 : mj_lF 12 (133, 2, 206) := ⟨by decide +kernel, (mj_tb_in (mj_c6 (List.mem_of_getElem? (i := 203) rfl)) rfl)⟩
theorem mj_l12_15 : mj_lF 12 (139, 2, 211) := ⟨by decide +kernel, (mj_tb_in (mj_c6 (List.mem_of_getElem? (i := 223) rfl)) rfl)⟩
theorem mj_l12_16 : mj_lF 12 (149, 3, 212) := ⟨by decide +kernel, (mj_tb_in (mj_c6 (List.mem_of_getElem? (i := 227) rfl)) rfl)⟩
theorem mj_l12_17 : mj_lF 12 (156, 3, 213) := ⟨by decide +kernel, (mj_tb_in (mj_c6 (List.mem_of_getElem? (i := 231) rfl)) rfl)⟩
theorem mj_l12_18 : mj_lF 12 (165, 3, 214) := ⟨by decide +kernel, (mj_tb_in (mj_c6 (List.mem_of_getElem? (i := 235) rfl)) rfl)⟩
theorem mj_l12_19 : mj_lF 12 (168, 3, 220) := ⟨by decide +kernel, (mj_tb_in (mj_c7 (List.mem_of_getElem? (i := 15) rfl)) rfl)⟩
theorem mj_l12_20 : mj_lF 12 (172, 3, 219) := ⟨by decide +kernel, (mj_tb_in (mj_c7 (List.mem_of_getElem? (i := 12) rfl)) rfl)⟩
theorem mj_l12_21 : mj_lF 12 (176, 3, 218) := ⟨by decide +kernel, (mj_tb_in (mj_c7 (List.mem_of_getElem? (i := 9) rfl)) rfl)⟩
theorem mj_l12_22 : mj_lF 12 (180, 3, 217) := ⟨by decide +kernel, (mj_tb_in (mj_c7 (List.mem_of_getElem? (i := 6) rfl)) rfl)⟩
theorem mj_l12_23 : mj_lF 12 (190, 3, 222) := ⟨by decide +kernel, (mj_tb_in (mj_c7 (List.mem_of_getElem? (i := 22) rfl)) rfl)⟩
theorem mj_l12_24 : mj_lF 12 (197, 3, 235) := ⟨by decide +kernel, (mj_tb_in (mj_c7 (List.mem_of_getElem? (i := 72) rfl)) rfl)⟩
theorem mj_l12_25 : mj_lF 12 (200, 2, 238) := ⟨by decide +kernel, (mj_tb_in (mj_c7 (List.mem_of_getElem? (i := 83) rfl)) rfl)⟩
theorem mj_l12_26 : mj_lF 12 (207, 2, 233) := ⟨by decide +kernel, (mj_tb_in (mj_c7 (List.mem_of_getElem? (i := 64) rfl)) rfl)⟩
theorem mj_l12_27 : mj_lF 12 (211, 2, 232) := ⟨by decide +kernel, (mj_tb_in (mj_c7 (List.mem_of_getElem? (i := 60) rfl)) rfl)⟩
theorem mj_l12_28 : mj_lF 12 (214, 2, 210) := ⟨by decide +kernel, (mj_tb_in (mj_c6 (List.mem_of_getElem? (i := 219) rfl)) rfl)⟩
theorem mj_l12_29 : mj_lF 12 (217, 2, 241) := ⟨by decide +kernel, (mj_tb_in (mj_c7 (List.mem_of_getElem? (i := 95) rfl)) rfl)⟩
theorem mj_l12_30 : mj_lF 12 (226, 2, 237) := ⟨by decide +kernel, (mj_tb_in (mj_c7 (List.mem_of_getElem? (i := 79) rfl)) rfl)⟩
theorem mj_l12_31 : mj_lF 12 (229, 2, 242) := ⟨by decide +kernel, (mj_tb_in (mj_c7 (List.mem_of_getElem? (i := 99) rfl)) rfl)⟩
theorem mj_l12_32 : mj_lF 12 (232, 2, 221) := ⟨by decide +kernel, (mj_tb_in (mj_c7 (List.mem_of_getElem? (i := 18) rfl)) rfl)⟩
theorem mj_l12_33 : mj_lF 12 (236, 2, 243) := ⟨by decide +kernel, (mj_tb_in (mj_c7 (List.mem_of_getElem? (i := 103) rfl)) rfl)⟩
theorem mj_l12_34 : mj_lF 12 (240, 2, 234) := ⟨by decide +kernel, (mj_tb_in (mj_c7 (List.mem_of_getElem? (i := 68) rfl)) rfl)⟩
theorem mj_l12_35 : mj_lF 12 (243, 2, 236) := ⟨by decide +kernel, (mj_tb_in (mj_c7 (List.mem_of_getElem? (i := 75) rfl)) rfl)⟩
theorem mj_l12_36 : mj_lF 12 (246, 2, 231) := ⟨by decide +kernel, (mj_tb_in (mj_c7 (List.mem_of_getElem? (i := 56) rfl)) rfl)⟩
theorem mj_l12_37 : mj_lF 12 (249, 2, 239) := ⟨by decide +kernel, (mj_tb_in (mj_c7 (List.mem_of_getElem? (i := 87) rfl)) rfl)⟩
theorem mj_l12_38 : mj_lF 12 (252, 2, 230) := ⟨by decide +kernel, (mj_tb_in (mj_c7 (List.mem_of_getElem? (i := 52) rfl)) rfl)⟩
theorem mj_l12_39 : mj_lF 12 (255, 2, 240) := ⟨by decide +kernel, (mj_tb_in (mj_c7 (List.mem_of_getElem? (i := 91) rfl)) rfl)⟩
theorem mj_l12_40 : mj_lF 12 (258, 2, 226) := ⟨by decide +kernel, (mj_tb_in (mj_c7 (List.mem_of_getElem? (i := 36) rfl)) rfl)⟩
theorem mj_l12_41 : mj_lF 12 (262, 2, 229) := ⟨by decide +kernel, (mj_tb_in (mj_c7 (List.mem_of_getElem? (i := 48) rfl)) rfl)⟩
theorem mj_l12_42 : mj_lF 12 (265, 2, 227) := ⟨by decide +kernel, (mj_tb_in (mj_c7 (List.mem_of_getElem? (i := 40) rfl)) rfl)⟩
theorem mj_l12_43 : mj_lF 12 (269, 2, 225) := ⟨by decide +kernel, (mj_tb_in (mj_c7 (List.mem_of_getElem? (i := 32) rfl)) rfl)⟩
theorem mj_l12_44 : mj_lF 12 (273, 2, 228) := ⟨by decide +kernel, (mj_tb_in (mj_c7 (List.mem_of_getElem? (i := 44) rfl)) rfl)⟩
theorem mj_l12_45 : mj_lF 12 (276, 2, 216) := ⟨by decide +kernel, (mj_tb_in (mj_c7 (List.mem_of_getElem? (i := 2) rfl)) rfl)⟩
theorem mj_l12_46 : mj_lF 12 (282, 2, 224) := ⟨by decide +kernel, (mj_tb_in (mj_c7 (List.mem_of_getElem? (i := 28) rfl)) rfl)⟩
theorem mj_l12_47 : mj_lF 12 (285, 2, 215) := ⟨by decide +kernel, (mj_tb_in (mj_c6 (List.mem_of_getElem? (i := 238) rfl)) rfl)⟩
theorem mj_l12_48 : mj_lF 12 (288, 2, 209) := ⟨by decide +kernel, (mj_tb_in (mj_c6 (List.mem_of_getElem? (i := 215) rfl)) rfl)⟩
theorem mj_l12_49 : mj_lF 12 (295, 3, 273) := ⟨by decide +kernel, (mj_tb_in (mj_c7 (List.mem_of_getElem? (i := 222) rfl)) rfl)⟩
theorem mj_l12_50 : mj_lF 12 (299, 2, 271) := ⟨by decide +kernel, (mj_tb_in (mj_c7 (List.mem_of_getElem? (i := 215) rfl)) rfl)⟩
theorem mj_l12_51 : mj_lF 12 (302, 3, 265) := ⟨by decide +kernel, (mj_tb_in (mj_c7 (List.mem_of_getElem? (i := 192) rfl)) rfl)⟩
theorem mj_l12_52 : mj_lF 12 (307, 3, 269) := ⟨by decide +kernel, (mj_tb_in (mj_c7 (List.mem_of_getElem? (i := 207) rfl)) rfl)⟩
theorem mj_l12_53 : mj_lF 12 (310, 2, 270) := ⟨by decide +kernel, (mj_tb_in (mj_c7 (List.mem_of_getElem? (i := 211) rfl)) rfl)⟩
theorem mj_l12_54 : mj_lF 12 (313, 2, 268) := ⟨by decide +kernel, (mj_tb_in (mj_c7 (List.mem_of_getElem? (i := 203) rfl)) rfl)⟩
theorem mj_l12_55 : mj_lF 12 (317, 3, 272) := ⟨by decide +kernel, (mj_tb_in (mj_c7 (List.mem_of_getElem? (i := 219) rfl)) rfl)⟩
theorem mj_l12_56 : mj_lF 12 (321, 3, 274) := ⟨by decide +kernel, (mj_tb_in (mj_c7 (List.mem_of_getElem? (i := 227) rfl)) rfl)⟩
theorem mj_l12_57 : mj_lF 12 (325, 3, 275) := ⟨by decide +kernel, (mj_tb_in (mj_c7 (List.mem_of_getElem? (i := 230) rfl)) rfl)⟩
theorem mj_l12_58 : mj_lF 12 (329, 2, 267) := ⟨by decide +kernel, (mj_tb_in (mj_c7 (List.mem_of_getElem? (i := 199) rfl)) rfl)⟩
theorem mj_l12_59 : mj_lF 12 (332, 3, 276) := ⟨by decide +kernel, (mj_tb_in (mj_c7 (List.mem_of_getElem? (i := 233) rfl)) rfl)⟩
theorem mj_l12_60 : mj_lF 12 (336, 2, 252) := ⟨by decide +kernel, (mj_tb_in (mj_c7 (List.mem_of_getElem? (i := 139) rfl)) rfl)⟩
theorem mj_l12_61 : mj_lF 12 (339, 2, 253) := ⟨by decide +kernel, (mj_tb_in (mj_c7 (List.mem_of_getElem? (i := 143) rfl)) rfl)⟩
theorem mj_l12_62 : mj_lF 12 (342, 2, 264) := ⟨by decide +kernel, (mj_tb_in (mj_c7 (List.mem_of_getElem? (i := 188) rfl)) rfl)⟩
theorem mj_l12_63 : mj_lF 12 (345, 2, 266) := ⟨by decide +kernel, (mj_tb_in (mj_c7 (List.mem_of_getElem? (i := 195) rfl)) rfl)⟩
theorem mj_l12_64 : mj_lF 12 (355, 2, 251) := ⟨by decide +kernel, (mj_tb_in (mj_c7 (List.mem_of_getElem? (i := 135) rfl)) rfl)⟩
theorem mj_l12_65 : mj_lF 12 (361, 2, 256) := ⟨by decide +kernel, (mj_tb_in (mj_c7 (List.mem_of_getElem? (i := 156) rfl)) rfl)⟩
theorem mj_l12_66 : mj_lF 12 (364, 3, 254) := ⟨by decide +kernel, (mj_tb_in (mj_c7 (List.mem_of_getElem? (i := 148) rfl)) rfl)⟩
theorem mj_l12_67 : mj_lF 12 (368, 2, 250) := ⟨by decide +kernel, (mj_tb_in (mj_c7 (List.mem_of_getElem? (i := 131) rfl)) rfl)⟩
theorem mj_l12_68 : mj_lF 12 (371, 2, 249) := ⟨by decide +kernel, (mj_tb_in (mj_c7 (List.mem_of_getElem? (i := 127) rfl)) rfl)⟩
theorem mj_l12_69 : mj_lF 12 (374, 2, 255) := ⟨by decide +kernel, (mj_tb_in (mj_c7 (List.mem_of_getElem? (i := 151) rfl)) rfl)⟩
theorem mj_l12_70 : mj_lF 12 (377, 2, 247) := ⟨by decide +kernel, (mj_tb_in (mj_c7 (List.mem_of_getElem? (i := 119) rfl)) rfl)⟩
theorem mj_l12_71 : mj_lF 12 (380, 2, 248) := ⟨by decide +kernel, (mj_tb_in (mj_c7 (List.mem_of_getElem? (i := 123) rfl)) rfl)⟩
theorem mj_l12_72 : mj_lF 12 (389, 2, 290) := ⟨by decide +kernel, (mj_tb_in (mj_c8 (List.mem_of_getElem? (i := 48) rfl)) rfl)⟩
theorem mj_l12_73 : mj_lF 12 (392, 2, 291) := ⟨by decide +kernel, (mj_tb_in (mj_c8 (List.mem_of_getElem? (i := 52) rfl)) rfl)⟩
theorem mj_l12_74 : mj_lF 12 (398, 2, 289) := ⟨by decide +kernel, (mj_tb_in (mj_c8 (List.mem_of_getElem? (i := 44) rfl)) rfl)⟩
theorem mj_l12_75 : mj_lF 12 (401, 2, 261) := ⟨by decide +kernel, (mj_tb_in (mj_c7 (List.mem_of_getElem? (i := 176) rfl)) rfl)⟩
theorem mj_l12_76 : mj_lF 12 (404, 2, 262) := ⟨by decide +kernel, (mj_tb_in (mj_c7 (List.mem_of_getElem? (i := 180) rfl)) rfl)⟩
theorem mj_l12_77 : mj_lF 12 (407, 2, 263) := ⟨by decide +kernel, (mj_tb_in (mj_c7 (List.mem_of_getElem? (i := 184) rfl)) rfl)⟩
theorem mj_l12_78 : mj_lF 12 (410, 2, 260) := ⟨by decide +kernel, (mj_tb_in (mj_c7 (List.mem_of_getElem? (i := 172) rfl)) rfl)⟩
theorem mj_l12_79 : mj_lF 12 (413, 2, 277) := ⟨by decide +kernel, (mj_tb_in (mj_c7 (List.mem_of_getElem? (i := 236) rfl)) rfl)⟩
theorem mj_l12_80 : mj_lF 12 (416, 2, 278) := ⟨by decide +kernel, (mj_tb_in (mj_c8 (List.mem_of_getElem? (i := 0) rfl)) rfl)⟩
theorem mj_l12_81 : mj_lF 12 (419, 2, 280) := ⟨by decide +kernel, (mj_tb_in (mj_c8 (List.mem_of_getElem? (i := 8) rfl)) rfl)⟩
theorem mj_l12_82 : mj_lF 12 (422, 2, 281) := ⟨by decide +kernel, (mj_tb_in (mj_c8 (List.mem_of_getElem? (i := 12) rfl)) rfl)⟩
theorem mj_l12_83 : mj_lF 12 (425, 2, 285) := ⟨by decide +kernel, (mj_tb_in (mj_c8 (List.mem_of_getElem? (i := 28) rfl)) rfl)⟩
theorem mj_l12_84 : mj_lF 12 (428, 2, 283) := ⟨by decide +kernel, (mj_tb_in (mj_c8 (List.mem_of_getElem? (i := 20) rfl)) rfl)⟩
theorem mj_l12_85 : mj_lF 12 (431, 2, 284) := ⟨by decide +kernel, (mj_tb_in (mj_c8 (List.mem_of_getElem? (i := 24) rfl)) rfl)⟩
theorem mj_l12_86 : mj_lF 12 (434, 2, 288) := ⟨by decide +kernel, (mj_tb_in (mj_c8 (List.mem_of_getElem? (i := 40) rfl)) rfl)⟩
theorem mj_l12_87 : mj_lF 12 (437, 2, 287) := ⟨by decide +kernel, (mj_tb_in (mj_c8 (List.mem_of_getElem? (i := 36) rfl)) rfl)⟩
theorem mj_l12_88 : mj_lF 12 (440, 2, 198) := ⟨by decide +kernel, (mj_tb_in (mj_c8 (List.mem_of_getElem? (i := 67) rfl)) rfl)⟩
theorem mj_l12_89 : mj_lF 12 (443, 2, 199) := ⟨by decide +kernel, (mj_tb_in (mj_c8 (List.mem_of_getElem? (i := 68) rfl)) rfl)⟩
theorem mj_l12_90 : mj_lF 12 (446, 2, 204) := ⟨by decide +kernel, (mj_tb_in (mj_c8 (List.mem_of_getElem? (i := 69) rfl)) rfl)⟩
theorem mj_l12_91 : mj_lF 12 (449, 2, 259) := ⟨by decide +kernel, (mj_tb_in (mj_c8 (List.mem_of_getElem? (i := 70) rfl)) rfl)⟩
theorem mj_l12_92 : mj_lF 12 (452, 2, 279) := ⟨by decide +kernel, (mj_tb_in (mj_c8 (List.mem_of_getElem? (i := 71) rfl)) rfl)⟩
theorem mj_l12_93 : mj_lF 12 (455, 2, 282) := ⟨by decide +kernel, (mj_tb_in (mj_c8 (List.mem_of_getElem? (i := 72) rfl)) rfl)⟩
theorem mj_l12_94 : mj_lF 12 (458, 2, 293) := ⟨by decide +kernel, (mj_tb_in (mj_c8 (List.mem_of_getElem? (i := 63) rfl)) rfl)⟩
theorem mj_l12_95 : mj_lF 12 (461, 2, 295) := ⟨by decide +kernel, (mj_tb_in (mj_c8 (List.mem_of_getElem? (i := 77) rfl)) rfl)⟩
theorem mj_l12_96 : mj_lF 12 (464, 2, 300) := ⟨by decide +kernel, (mj_tb_in (mj_c8 (List.mem_of_getElem? (i := 97) rfl)) rfl)⟩
theorem mj_l12_97 : mj_lF 12 (467, 2, 302) := ⟨by decide +kernel, (mj_tb_in (mj_c8 (List.mem_of_getElem? (i := 105) rfl)) rfl)⟩
theorem mj_l12_98 : mj_lF 12 (470, 2, 310) := ⟨by decide +kernel, (mj_tb_in (mj_c8 (List.mem_of_getElem? (i := 137) rfl)) rfl)⟩
theorem mj_l12_99 : mj_lF 12 (473, 2, 314) := ⟨by decide +kernel, (mj_tb_in (mj_c8 (List.mem_of_getElem? (i := 153) rfl)) rfl)⟩
theorem mj_l12_100 : mj_lF 12 (476, 2, 313) := ⟨by decide +kernel, (mj_tb_in (mj_c8 (List.mem_of_getElem? (i := 161) rfl)) rfl)⟩
theorem mj_l12_101 : mj_lF 12 (479, 2, 316) := ⟨by decide +kernel, (mj_tb_in (mj_c8 (List.mem_of_getElem? (i := 162) rfl)) rfl)⟩
theorem mj_l12_102 : mj_lF 12 (482, 3, 317) := ⟨by decide +kernel, (mj_tb_in (mj_c8 (List.mem_of_getElem? (i := 166) rfl)) rfl)⟩
theorem mj_l12_103 : mj_lF 12 (486, 2, 321) := ⟨by decide +kernel, (mj_tb_in (mj_c8 (List.mem_of_getElem? (i := 181) rfl)) rfl)⟩
theorem mj_l12_104 : mj_lF 12 (489, 2, 323) := ⟨by decide +kernel, (mj_tb_in (mj_c8 (List.mem_of_getElem? (i := 189) rfl)) rfl)⟩
theorem mj_l12_105 : mj_lF 12 (492, 2, 326) := ⟨by decide +kernel, (mj_tb_in (mj_c8 (List.mem_of_getElem? (i := 201) rfl)) rfl)⟩
theorem mj_lks_12 : ∀ q ∈ mj_lks.getD 12 [], mj_lF 12 q := List.forall_mem_cons.mpr ⟨mj_l12_0, List.forall_mem_cons.mpr ⟨mj_l12_1, List.forall_mem_cons.mpr ⟨mj_l12_2, List.forall_mem_cons.mpr ⟨mj_l12_3, List.forall_mem_cons.mpr ⟨mj_l12_4, List.forall_mem_cons.mpr ⟨mj_l12_5, List.forall_mem_cons.mpr ⟨mj_l12_6, List.forall_mem_cons.mpr ⟨mj_l12_7, List.forall_mem_cons.mpr ⟨mj_l12_8, List.forall_mem_cons.mpr ⟨mj_l12_9, List.forall_mem_cons.mpr ⟨mj_l12_10, List.forall_mem_cons.mpr ⟨mj_l12_11, List.forall_mem_cons.mpr ⟨mj_l12_12, List.forall_mem_cons.mpr ⟨mj_l12_13, List.forall_mem_cons.mpr ⟨mj_l12_14, List.forall_mem_cons.mpr ⟨mj_l12_15, List.forall_mem_cons.mpr ⟨mj_l12_16, List.forall_mem_cons.mpr ⟨mj_l12_17, List.forall_mem_cons.mpr ⟨mj_l12_18, List.forall_mem_cons.mpr ⟨mj_l12_19, List.forall_mem_cons.mpr ⟨mj_l12_20, List.forall_mem_cons.mpr ⟨mj_l12_21, List.forall_mem_cons.mpr ⟨mj_l12_22, List.forall_mem_cons.mpr ⟨mj_l12_23, List.forall_mem_cons.mpr ⟨mj_l12_24, List.forall_mem_cons.mpr ⟨mj_l12_25, List.forall_mem_cons.mpr ⟨mj_l12_26, List.forall_mem_cons.mpr ⟨mj_l12_27, List.forall_mem_cons.mpr ⟨mj_l12_28, List.forall_mem_cons.mpr ⟨mj_l12_29, List.forall_mem_cons.mpr ⟨mj_l12_30, List.forall_mem_cons.mpr ⟨mj_l12_31, List.forall_mem_cons.mpr ⟨mj_l12_32, List.forall_mem_cons.mpr ⟨mj_l12_33, List.forall_mem_cons.mpr ⟨mj_l12_34, List.forall_mem_cons.mpr ⟨mj_l12_35, List.forall_mem_cons.mpr ⟨mj_l12_36, List.forall_mem_cons.mpr ⟨mj_l12_37, List.forall_mem_cons.mpr ⟨mj_l12_38, List.forall_mem_cons.mpr ⟨mj_l12_39, List.forall_mem_cons.mpr ⟨mj_l12_40, List.forall_mem_cons.mpr ⟨mj_l12_41, List.forall_mem_cons.mpr ⟨mj_l12_42, List.forall_mem_cons.mpr ⟨mj_l12_43, List.forall_mem_cons.mpr ⟨mj_l12_44, List.forall_mem_cons.mpr ⟨mj_l12_45, List.forall_mem_cons.mpr ⟨mj_l12_46, List.forall_mem_cons.mpr ⟨mj_l12_47, List.forall_mem_cons.mpr ⟨mj_l12_48, List.forall_mem_cons.mpr ⟨mj_l12_49, List.forall_mem_cons.mpr ⟨mj_l12_50, List.forall_mem_cons.mpr ⟨mj_l12_51, List.forall_mem_cons.mpr ⟨mj_l12_52, List.forall_mem_cons.mpr ⟨mj_l12_53, List.forall_mem_cons.mpr ⟨mj_l12_54, List.forall_mem_cons.mpr ⟨mj_l12_55, List.forall_mem_cons.mpr ⟨mj_l12_56, List.forall_mem_cons.mpr ⟨mj_l12_57, List.forall_mem_cons.mpr ⟨mj_l12_58, List.forall_mem_cons.mpr ⟨mj_l12_59, List.forall_mem_cons.mpr ⟨mj_l12_60, List.forall_mem_cons.mpr ⟨mj_l12_61, List.forall_mem_cons.mpr ⟨mj_l12_62, List.forall_mem_cons.mpr ⟨mj_l12_63, List.forall_mem_cons.mpr ⟨mj_l12_64, List.forall_mem_cons.mpr ⟨mj_l12_65, List.forall_mem_cons.mpr ⟨mj_l12_66, List.forall_mem_cons.mpr ⟨mj_l12_67, List.forall_mem_cons.mpr ⟨mj_l12_68, List.forall_mem_cons.mpr ⟨mj_l12_69, List.forall_mem_cons.mpr ⟨mj_l12_70, List.forall_mem_cons.mpr ⟨mj_l12_71, List.forall_mem_cons.mpr ⟨mj_l12_72, List.forall_mem_cons.mpr ⟨mj_l12_73, List.forall_mem_cons.mpr ⟨mj_l12_74, List.forall_mem_cons.mpr ⟨mj_l12_75, List.forall_mem_cons.mpr ⟨mj_l12_76, List.forall_mem_cons.mpr ⟨mj_l12_77, List.forall_mem_cons.mpr ⟨mj_l12_78, List.forall_mem_cons.mpr ⟨mj_l12_79, List.forall_mem_cons.mpr ⟨mj_l12_80, List.forall_mem_cons.mpr ⟨mj_l12_81, List.forall_mem_cons.mpr ⟨mj_l12_82, List.forall_mem_cons.mpr ⟨mj_l12_83, List.forall_mem_cons.mpr ⟨mj_l12_84, List.forall_mem_cons.mpr ⟨mj_l12_85, List.forall_mem_cons.mpr ⟨mj_l12_86, List.forall_mem_cons.mpr ⟨mj_l12_87, List.forall_mem_cons.mpr ⟨mj_l12_88, List.forall_mem_cons.mpr ⟨mj_l12_89, List.forall_mem_cons.mpr ⟨mj_l12_90, List.forall_mem_cons.mpr ⟨mj_l12_91, List.forall_mem_cons.mpr ⟨mj_l12_92, List.forall_mem_cons.mpr ⟨mj_l12_93, List.forall_mem_cons.mpr ⟨mj_l12_94, List.forall_mem_cons.mpr ⟨mj_l12_95, List.forall_mem_cons.mpr ⟨mj_l12_96, List.forall_mem_cons.mpr ⟨mj_l12_97, List.forall_mem_cons.mpr ⟨mj_l12_98, List.forall_mem_cons.mpr ⟨mj_l12_99, List.forall_mem_cons.mpr ⟨mj_l12_100, List.forall_mem_cons.mpr ⟨mj_l12_101, List.forall_mem_cons.mpr ⟨mj_l12_102, List.forall_mem_cons.mpr ⟨mj_l12_103, List.forall_mem_cons.mpr ⟨mj_l12_104, List.forall_mem_cons.mpr ⟨mj_l12_105, fun _ h => absurd h List.not_mem_nil⟩⟩⟩⟩⟩⟩⟩⟩⟩⟩⟩⟩⟩⟩⟩⟩⟩⟩⟩⟩⟩⟩⟩⟩⟩⟩⟩⟩⟩⟩⟩⟩⟩⟩⟩⟩⟩⟩⟩⟩⟩⟩⟩⟩⟩⟩⟩⟩⟩⟩⟩⟩⟩⟩⟩⟩⟩⟩⟩⟩⟩⟩⟩⟩⟩⟩⟩⟩⟩⟩⟩⟩⟩⟩⟩⟩⟩⟩⟩⟩⟩⟩⟩⟩⟩⟩⟩⟩⟩⟩⟩⟩⟩⟩⟩⟩⟩⟩⟩⟩⟩⟩⟩⟩⟩⟩
theorem mj_l13_0 : mj_lF 13 (9, 1, 0) := ⟨by decide +kernel, (mj_tb_in (mj_c1 (List.mem_of_getElem? (i := 25) rfl)) rfl)⟩
theorem mj_l13_1 : mj_lF 13 (12, 1, 189) := ⟨by decide +kernel, (mj_tb_in (mj_c6 (List.mem_of_getElem? (i := 19) rfl)) rfl)⟩
theorem mj_l13_2 : mj_lF 13 (13, 2, 13) := ⟨by decide +kernel, (mj_tb_in (mj_c2 (List.mem_of_getElem? (i := 132) rfl)) rfl)⟩
theorem mj_l13_3 : mj_lF 13 (17, 2, 198) := ⟨by decide +kernel, (mj_tb_in (mj_c6 (List.mem_of_getElem? (i := 171) rfl)) rfl)⟩
theorem mj_l13_4 : mj_lF 13 (18, 2, 15) := ⟨by decide +kernel, (mj_tb_in (mj_c2 (List.mem_of_getElem? (i := 140) rfl)) rfl)⟩
theorem mj_l13_5 : mj_lF 13 (21, 2, 199) := ⟨by decide +kernel, (mj_tb_in (mj_c6 (List.mem_of_getElem? (i := 175) rfl)) rfl)⟩
theorem mj_l13_6 : mj_lF 13 (22, 2, 19) := ⟨by decide +kernel, (mj_tb_in (mj_c2 (List.mem_of_getElem? (i := 156) rfl)) rfl)⟩
theorem mj_l13_7 : mj_lF 13 (26, 2, 204) := ⟨by decide +kernel, (mj_tb_in (mj_c6 (List.mem_of_getElem? (i := 195) rfl)) rfl)⟩
theorem mj_l13_8 : mj_lF 13 (27, 2, 22) := ⟨by decide +kernel, (mj_tb_in (mj_c2 (List.mem_of_getElem? (i := 167) rfl)) rfl)⟩
theorem mj_l13_9 : mj_lF 13 (31, 2, 205) := ⟨by decide +kernel, (mj_tb_in (mj_c6 (List.mem_of_getElem? (i := 199) rfl)) rfl)⟩
theorem mj_l13_10 : mj_lF 13 (32, 2, 24) := ⟨by decide +kernel, (mj_tb_in (mj_c2 (List.mem_of_getElem? (i := 175) rfl)) rfl)⟩
theorem mj_l13_11 : mj_lF 13 (35, 2, 207) := ⟨by decide +kernel, (mj_tb_in (mj_c6 (List.mem_of_getElem? (i := 207) rfl)) rfl)⟩
theorem mj_l13_12 : mj_lF 13 (36, 2, 25) := ⟨by decide +kernel, (mj_tb_in (mj_c2 (List.mem_of_getElem? (i := 179) rfl)) rfl)⟩
theorem mj_l13_13 : mj_lF 13 (40, 2, 208) := ⟨by decide +kernel, (mj_tb_in (mj_c6 (List.mem_of_getElem? (i := 211) rfl)) rfl)⟩
theorem mj_l13_14 : mj_lF 13 (41, 2, 71) := ⟨by decide +kernel, (mj_tb_in (mj_c3 (List.mem_of_getElem? (i := 213) rfl)) rfl)⟩
theorem mj_l13_15 : mj_lF 13 (44, 2, 244) := ⟨by decide +kernel, (mj_tb_in (mj_c7 (List.mem_of_getElem? (i := 107) rfl)) rfl)⟩
theorem mj_l13_16 : mj_lF 13 (45, 2, 72) := ⟨by decide +kernel, (mj_tb_in (mj_c3 (List.mem_of_getElem? (i := 217) rfl)) rfl)⟩
theorem mj_l13_17 : mj_lF 13 (49, 2, 245) := ⟨by decide +kernel, (mj_tb_in (mj_c7 (List.mem_of_getElem? (i := 111) rfl)) rfl)⟩
theorem mj_l13_18 : mj_lF 13 (50, 2, 74) := ⟨by decide +kernel, (mj_tb_in (mj_c3 (List.mem_of_getElem? (i := 225) rfl)) rfl)⟩
theorem mj_l13_19 : mj_lF 13 (54, 2, 259) := ⟨by decide +kernel, (mj_tb_in (mj_c7 (List.mem_of_getElem? (i := 168) rfl)) rfl)⟩
theorem mj_l13_20 : mj_lF 13 (55, 2, 92) := ⟨by decide +kernel, (mj_tb_in (mj_c4 (List.mem_of_getElem? (i := 66) rfl)) rfl)⟩
theorem mj_l13_21 : mj_lF 13 (59, 2, 279) := ⟨by decide +kernel, (mj_tb_in (mj_c8 (List.mem_of_getElem? (i := 4) rfl)) rfl)⟩
theorem mj_l13_22 : mj_lF 13 (60, 2, 94) := ⟨by decide +kernel, (mj_tb_in (mj_c4 (List.mem_of_getElem? (i := 74) rfl)) rfl)⟩
theorem mj_l13_23 : mj_lF 13 (63, 2, 282) := ⟨by decide +kernel, (mj_tb_in (mj_c8 (List.mem_of_getElem? (i := 16) rfl)) rfl)⟩
theorem mj_l13_24 : mj_lF 13 (64, 2, 103) := ⟨by decide +kernel, (mj_tb_in (mj_c4 (List.mem_of_getElem? (i := 111) rfl)) rfl)⟩
theorem mj_l13_25 : mj_lF 13 (67, 2, 286) := ⟨by decide +kernel, (mj_tb_in (mj_c8 (List.mem_of_getElem? (i := 32) rfl)) rfl)⟩
theorem mj_l13_26 : mj_lF 13 (68, 2, 108) := ⟨by decide +kernel, (mj_tb_in (mj_c4 (List.mem_of_getElem? (i := 132) rfl)) rfl)⟩
theorem mj_l13_27 : mj_lF 13 (71, 2, 292) := ⟨by decide +kernel, (mj_tb_in (mj_c8 (List.mem_of_getElem? (i := 59) rfl)) rfl)⟩
theorem mj_l13_28 : mj_lF 13 (72, 2, 111) := ⟨by decide +kernel, (mj_tb_in (mj_c4 (List.mem_of_getElem? (i := 152) rfl)) rfl)⟩
theorem mj_l13_29 : mj_lF 13 (75, 2, 294) := ⟨by decide +kernel, (mj_tb_in (mj_c8 (List.mem_of_getElem? (i := 73) rfl)) rfl)⟩
theorem mj_l13_30 : mj_lF 13 (76, 2, 113) := ⟨by decide +kernel, (mj_tb_in (mj_c4 (List.mem_of_getElem? (i := 162) rfl)) rfl)⟩
theorem mj_l13_31 : mj_lF 13 (79, 2, 258) := ⟨by decide +kernel, (mj_tb_in (mj_c7 (List.mem_of_getElem? (i := 164) rfl)) rfl)⟩
theorem mj_l13_32 : mj_lF 13 (80, 2, 115) := ⟨by decide +kernel, (mj_tb_in (mj_c4 (List.mem_of_getElem? (i := 171) rfl)) rfl)⟩
theorem mj_l13_33 : mj_lF 13 (83, 2, 296) := ⟨by decide +kernel, (mj_tb_in (mj_c8 (List.mem_of_getElem? (i := 81) rfl)) rfl)⟩
theorem mj_l13_34 : mj_lF 13 (84, 2, 120) := ⟨by decide +kernel, (mj_tb_in (mj_c4 (List.mem_of_getElem? (i := 192) rfl)) rfl)⟩
theorem mj_l13_35 : mj_lF 13 (87, 2, 297) := ⟨by decide +kernel, (mj_tb_in (mj_c8 (List.mem_of_getElem? (i := 85) rfl)) rfl)⟩
theorem mj_l13_36 : mj_lF 13 (88, 2, 121) := ⟨by decide +kernel, (mj_tb_in (mj_c4 (List.mem_of_getElem? (i := 198) rfl)) rfl)⟩
theorem mj_l13_37 : mj_lF 13 (92, 2, 298) := ⟨by decide +kernel, (mj_tb_in (mj_c8 (List.mem_of_getElem? (i := 89) rfl)) rfl)⟩
theorem mj_l13_38 : mj_lF 13 (93, 2, 122) := ⟨by decide +kernel, (mj_tb_in (mj_c4 (List.mem_of_getElem? (i := 204) rfl)) rfl)⟩
theorem mj_l13_39 : mj_lF 13 (96, 2, 299) := ⟨by decide +kernel, (mj_tb_in (mj_c8 (List.mem_of_getElem? (i := 93) rfl)) rfl)⟩
theorem mj_l13_40 : mj_lF 13 (97, 2, 124) := ⟨by decide +kernel, (mj_tb_in (mj_c4 (List.mem_of_getElem? (i := 212) rfl)) rfl)⟩
theorem mj_l13_41 : mj_lF 13 (100, 2, 301) := ⟨by decide +kernel, (mj_tb_in (mj_c8 (List.mem_of_getElem? (i := 101) rfl)) rfl)⟩
theorem mj_l13_42 : mj_lF 13 (101, 2, 126) := ⟨by decide +kernel, (mj_tb_in (mj_c4 (List.mem_of_getElem? (i := 220) rfl)) rfl)⟩
theorem mj_l13_43 : mj_lF 13 (105, 2, 307) := ⟨by decide +kernel, (mj_tb_in (mj_c8 (List.mem_of_getElem? (i := 125) rfl)) rfl)⟩
theorem mj_l13_44 : mj_lF 13 (106, 2, 128) := ⟨by decide +kernel, (mj_tb_in (mj_c4 (List.mem_of_getElem? (i := 229) rfl)) rfl)⟩
theorem mj_l13_45 : mj_lF 13 (109, 2, 308) := ⟨by decide +kernel, (mj_tb_in (mj_c8 (List.mem_of_getElem? (i := 129) rfl)) rfl)⟩
theorem mj_l13_46 : mj_lF 13 (110, 2, 130) := ⟨by decide +kernel, (mj_tb_in (mj_c4 (List.mem_of_getElem? (i := 238) rfl)) rfl)⟩
theorem mj_l13_47 : mj_lF 13 (113, 2, 309) := ⟨by decide +kernel, (mj_tb_in (mj_c8 (List.mem_of_getElem? (i := 133) rfl)) rfl)⟩
theorem mj_l13_48 : mj_lF 13 (114, 2, 132) := ⟨by decide +kernel, (mj_tb_in (mj_c5 (List.mem_of_getElem? (i := 7) rfl)) rfl)⟩
theorem mj_l13_49 : mj_lF 13 (118, 2, 311) := ⟨by decide +kernel, (mj_tb_in (mj_c8 (List.mem_of_getElem? (i := 141) rfl)) rfl)⟩
theorem mj_l13_50 : mj_lF 13 (119, 2, 137) := ⟨by decide +kernel, (mj_tb_in (mj_c5 (List.mem_of_getElem? (i := 27) rfl)) rfl)⟩
theorem mj_l13_51 : mj_lF 13 (122, 2, 312) := ⟨by decide +kernel, (mj_tb_in (mj_c8 (List.mem_of_getElem? (i := 145) rfl)) rfl)⟩
theorem mj_l13_52 : mj_lF 13 (123, 2, 140) := ⟨by decide +kernel, (mj_tb_in (mj_c5 (List.mem_of_getElem? (i := 39) rfl)) rfl)⟩
theorem mj_l13_53 : mj_lF 13 (126, 2, 313) := ⟨by decide +kernel, (mj_tb_in (mj_c8 (List.mem_of_getElem? (i := 149) rfl)) rfl)⟩
theorem mj_l13_54 : mj_lF 13 (127, 2, 144) := ⟨by decide +kernel, (mj_tb_in (mj_c5 (List.mem_of_getElem? (i := 56) rfl)) rfl)⟩
theorem mj_l13_55 : mj_lF 13 (130, 2, 315) := ⟨by decide +kernel, (mj_tb_in (mj_c8 (List.mem_of_getElem? (i := 157) rfl)) rfl)⟩
theorem mj_l13_56 : mj_lF 13 (131, 2, 148) := ⟨by decide +kernel, (mj_tb_in (mj_c5 (List.mem_of_getElem? (i := 71) rfl)) rfl)⟩
theorem mj_l13_57 : mj_lF 13 (134, 2, 318) := ⟨by decide +kernel, (mj_tb_in (mj_c8 (List.mem_of_getElem? (i := 169) rfl)) rfl)⟩
theorem mj_l13_58 : mj_lF 13 (135, 2, 150) := ⟨by decide +kernel, (mj_tb_in (mj_c5 (List.mem_of_getElem? (i := 80) rfl)) rfl)⟩
theorem mj_l13_59 : mj_lF 13 (138, 2, 319) := ⟨by decide +kernel, (mj_tb_in (mj_c8 (List.mem_of_getElem? (i := 173) rfl)) rfl)⟩
theorem mj_l13_60 : mj_lF 13 (139, 2, 152) := ⟨by decide +kernel, (mj_tb_in (mj_c5 (List.mem_of_getElem? (i := 89) rfl)) rfl)⟩
theorem mj_l13_61 : mj_lF 13 (142, 2, 246) := ⟨by decide +kernel, (mj_tb_in (mj_c7 (List.mem_of_getElem? (i := 115) rfl)) rfl)⟩
theorem mj_l13_62 : mj_lF 13 (143, 2, 154) := ⟨by decide +kernel, (mj_tb_in (mj_c5 (List.mem_of_getElem? (i := 100) rfl)) rfl)⟩
theorem mj_l13_63 : mj_lF 13 (146, 2, 257) := ⟨by decide +kernel, (mj_tb_in (mj_c7 (List.mem_of_getElem? (i := 160) rfl)) rfl)⟩
theorem mj_l13_64 : mj_lF 13 (147, 2, 155) := ⟨by decide +kernel, (mj_tb_in (mj_c5 (List.mem_of_getElem? (i := 105) rfl)) rfl)⟩
theorem mj_l13_65 : mj_lF 13 (150, 2, 320) := ⟨by decide +kernel, (mj_tb_in (mj_c8 (List.mem_of_getElem? (i := 177) rfl)) rfl)⟩
theorem mj_l13_66 : mj_lF 13 (151, 2, 158) := ⟨by decide +kernel, (mj_tb_in (mj_c5 (List.mem_of_getElem? (i := 119) rfl)) rfl)⟩
theorem mj_l13_67 : mj_lF 13 (154, 2, 322) := ⟨by decide +kernel, (mj_tb_in (mj_c8 (List.mem_of_getElem? (i := 185) rfl)) rfl)⟩
theorem mj_l13_68 : mj_lF 13 (155, 2, 161) := ⟨by decide +kernel, (mj_tb_in (mj_c5 (List.mem_of_getElem? (i := 131) rfl)) rfl)⟩
theorem mj_l13_69 : mj_lF 13 (158, 2, 324) := ⟨by decide +kernel, (mj_tb_in (mj_c8 (List.mem_of_getElem? (i := 193) rfl)) rfl)⟩
theorem mj_l13_70 : mj_lF 13 (159, 2, 162) := ⟨by decide +kernel, (mj_tb_in (mj_c5 (List.mem_of_getElem? (i := 135) rfl)) rfl)⟩
theorem mj_l13_71 : mj_lF 13 (162, 2, 325) := ⟨by decide +kernel, (mj_tb_in (mj_c8 (List.mem_of_getElem? (i := 197) rfl)) rfl)⟩
theorem mj_l13_72 : mj_lF 13 (163, 2, 164) := ⟨by decide +kernel, (mj_tb_in (mj_c5 (List.mem_of_getElem? (i := 144) rfl)) rfl)⟩
theorem mj_l13_73 : mj_lF 13 (166, 2, 327) := ⟨by decide +kernel, (mj_tb_in (mj_c8 (List.mem_of_getElem? (i := 205) rfl)) rfl)⟩
theorem mj_l13_74 : mj_lF 13 (167, 2, 165) := ⟨by decide +kernel, (mj_tb_in (mj_c5 (List.mem_of_getElem? (i := 148) rfl)) rfl)⟩
theorem mj_l13_75 : mj_lF 13 (171, 2, 328) := ⟨by decide +kernel, (mj_tb_in (mj_c8 (List.mem_of_getElem? (i := 209) rfl)) rfl)⟩
theorem mj_l13_76 : mj_lF 13 (172, 2, 169) := ⟨by decide +kernel, (mj_tb_in (mj_c5 (List.mem_of_getElem? (i := 168) rfl)) rfl)⟩
theorem mj_l13_77 : mj_lF 13 (175, 2, 329) := ⟨by decide +kernel, (mj_tb_in (mj_c8 (List.mem_of_getElem? (i := 215) rfl)) rfl)⟩
theorem mj_l13_78 : mj_lF 13 (176, 2, 171) := ⟨by decide +kernel, (mj_tb_in (mj_c5 (List.mem_of_getElem? (i := 178) rfl)) rfl)⟩
theorem mj_l13_79 : mj_lF 13 (179, 2, 330) := ⟨by decide +kernel, (mj_tb_in (mj_c8 (List.mem_of_getElem? (i := 219) rfl)) rfl)⟩
theorem mj_l13_80 : mj_lF 13 (180, 2, 172) := ⟨by decide +kernel, (mj_tb_in (mj_c5 (List.mem_of_getElem? (i := 182) rfl)) rfl)⟩
theorem mj_l13_81 : mj_lF 13 (183, 2, 331) := ⟨by decide +kernel, (mj_tb_in (mj_c8 (List.mem_of_getElem? (i := 223) rfl)) rfl)⟩
theorem mj_l13_82 : mj_lF 13 (184, 2, 175) := ⟨by decide +kernel, (mj_tb_in (mj_c5 (List.mem_of_getElem? (i := 196) rfl)) rfl)⟩
theorem mj_l13_83 : mj_lF 13 (187, 2, 304) := ⟨by decide +kernel, (mj_tb_in (mj_c8 (List.mem_of_getElem? (i := 113) rfl)) rfl)⟩
theorem mj_l13_84 : mj_lF 13 (188, 2, 177) := ⟨by decide +kernel, (mj_tb_in (mj_c5 (List.mem_of_getElem? (i := 204) rfl)) rfl)⟩
theorem mj_l13_85 : mj_lF 13 (191, 2, 305) := ⟨by decide +kernel, (mj_tb_in (mj_c8 (List.mem_of_getElem? (i := 117) rfl)) rfl)⟩
theorem mj_l13_86 : mj_lF 13 (192, 2, 179) := ⟨by decide +kernel, (mj_tb_in (mj_c5 (List.mem_of_getElem? (i := 212) rfl)) rfl)⟩
theorem mj_l13_87 : mj_lF 13 (195, 2, 306) := ⟨by decide +kernel, (mj_tb_in (mj_c8 (List.mem_of_getElem? (i := 121) rfl)) rfl)⟩
theorem mj_l13_88 : mj_lF 13 (196, 2, 181) := ⟨by decide +kernel, (mj_tb_in (mj_c5 (List.mem_of_getElem? (i := 221) rfl)) rfl)⟩
theorem mj_l13_89 : mj_lF 13 (199, 2, 303) := ⟨by decide +kernel, (mj_tb_in (mj_c8 (List.mem_of_getElem? (i := 109) rfl)) rfl)⟩
theorem mj_l13_90 : mj_lF 13 (200, 2, 183) := ⟨by decide +kernel, (mj_tb_in (mj_c5 (List.mem_of_getElem? (i := 230) rfl)) rfl)⟩
theorem mj_l13_91 : mj_lF 13 (203, 2, 332) := ⟨by decide +kernel, (mj_tb_in (mj_c8 (List.mem_of_getElem? (i := 227) rfl)) rfl)⟩
theorem mj_l13_92 : mj_lF 13 (204, 2, 187) := ⟨by decide +kernel, (mj_tb_in (mj_c6 (List.mem_of_getElem? (i := 9) rfl)) rfl)⟩
theorem mj_l13_93 : mj_lF 13 (207, 2, 333) := ⟨by decide +kernel, (mj_tb_in (mj_c8 (List.mem_of_getElem? (i := 231) rfl)) rfl)⟩
theorem mj_l13_94 : mj_lF 13 (208, 2, 188) := ⟨by decide +kernel, (mj_tb_in (mj_c6 (List.mem_of_getElem? (i := 13) rfl)) rfl)⟩
theorem mj_l13_95 : mj_lF 13 (211, 2, 334) := ⟨by decide +kernel, (mj_tb_in (mj_c8 (List.mem_of_getElem? (i := 235) rfl)) rfl)⟩
theorem mj_lks_13 : ∀ q ∈ mj_lks.getD 13 [], mj_lF 13 q := List.forall_mem_cons.mpr ⟨mj_l13_0, List.forall_mem_cons.mpr ⟨mj_l13_1, List.forall_mem_cons.mpr ⟨mj_l13_2, List.forall_mem_cons.mpr ⟨mj_l13_3, List.forall_mem_cons.mpr ⟨mj_l13_4, List.forall_mem_cons.mpr ⟨mj_l13_5, List.forall_mem_cons.mpr ⟨mj_l13_6, List.forall_mem_cons.mpr ⟨mj_l13_7, List.forall_mem_cons.mpr ⟨mj_l13_8, List.forall_mem_cons.mpr ⟨mj_l13_9, List.forall_mem_cons.mpr ⟨mj_l13_10, List.forall_mem_cons.mpr ⟨mj_l13_11, List.forall_mem_cons.mpr ⟨mj_l13_12, List.forall_mem_cons.mpr ⟨mj_l13_13, List.forall_mem_cons.mpr ⟨mj_l13_14, List.forall_mem_cons.mpr ⟨mj_l13_15, List.forall_mem_cons.mpr ⟨mj_l13_16, List.forall_mem_cons.mpr ⟨mj_l13_17, List.forall_mem_cons.mpr ⟨mj_l13_18, List.forall_mem_cons.mpr ⟨mj_l13_19, List.forall_mem_cons.mpr ⟨mj_l13_20, List.forall_mem_cons.mpr ⟨mj_l13_21, List.forall_mem_cons.mpr ⟨mj_l13_22, List.forall_mem_cons.mpr ⟨mj_l13_23, List.forall_mem_cons.mpr ⟨mj_l13_24, List.forall_mem_cons.mpr ⟨mj_l13_25, List.forall_mem_cons.mpr ⟨mj_l13_26, List.forall_mem_cons.mpr ⟨mj_l13_27, List.forall_mem_cons.mpr ⟨mj_l13_28, List.forall_mem_cons.mpr ⟨mj_l13_29, List.forall_mem_cons.mpr ⟨mj_l13_30, List.forall_mem_cons.mpr ⟨mj_l13_31, List.forall_mem_cons.mpr ⟨mj_l13_32, List.forall_mem_cons.mpr ⟨mj_l13_33, List.forall_mem_cons.mpr ⟨mj_l13_34, List.forall_mem_cons.mpr ⟨mj_l13_35, List.forall_mem_cons.mpr ⟨mj_l13_36, List.forall_mem_cons.mpr ⟨mj_l13_37, List.forall_mem_cons.mpr ⟨mj_l13_38, List.forall_mem_cons.mpr ⟨mj_l13_39, List.forall_mem_cons.mpr ⟨mj_l13_40, List.forall_mem_cons.mpr ⟨mj_l13_41, List.forall_mem_cons.mpr ⟨mj_l13_42, List.forall_mem_cons.mpr ⟨mj_l13_43, List.forall_mem_cons.mpr ⟨mj_l13_44, List.forall_mem_cons.mpr ⟨mj_l13_45, List.forall_mem_cons.mpr ⟨mj_l13_46, List.forall_mem_cons.mpr ⟨mj_l13_47, List.forall_mem_cons.mpr ⟨mj_l13_48, List.forall_mem_cons.mpr ⟨mj_l13_49, List.forall_mem_cons.mpr ⟨mj_l13_50, List.forall_mem_cons.mpr ⟨mj_l13_51, List.forall_mem_cons.mpr ⟨mj_l13_52, List.forall_mem_cons.mpr ⟨mj_l13_53, List.forall_mem_cons.mpr ⟨mj_l13_54, List.forall_mem_cons.mpr ⟨mj_l13_55, List.forall_mem_cons.mpr ⟨mj_l13_56, List.forall_mem_cons.mpr ⟨mj_l13_57, List.forall_mem_cons.mpr ⟨mj_l13_58, List.forall_mem_cons.mpr ⟨mj_l13_59, List.forall_mem_cons.mpr ⟨mj_l13_60, List.forall_mem_cons.mpr ⟨mj_l13_61, List.forall_mem_cons.mpr ⟨mj_l13_62, List.forall_mem_cons.mpr ⟨mj_l13_63, List.forall_mem_cons.mpr ⟨mj_l13_64, List.forall_mem_cons.mpr ⟨mj_l13_65, List.forall_mem_cons.mpr ⟨mj_l13_66, List.forall_mem_cons.mpr ⟨mj_l13_67, List.forall_mem_cons.mpr ⟨mj_l13_68, List.forall_mem_cons.mpr ⟨mj_l13_69, List.forall_mem_cons.mpr ⟨mj_l13_70, List.forall_mem_cons.mpr ⟨mj_l13_71, List.forall_mem_cons.mpr ⟨mj_l13_72, List.forall_mem_cons.mpr ⟨mj_l13_73, List.forall_mem_cons.mpr ⟨mj_l13_74, List.forall_mem_cons.mpr ⟨mj_l13_75, List.forall_mem_cons.mpr ⟨mj_l13_76, List.forall_mem_cons.mpr ⟨mj_l13_77, List.forall_mem_cons.mpr ⟨mj_l13_78, List.forall_mem_cons.mpr ⟨mj_l13_79, List.forall_mem_cons.mpr ⟨mj_l13_80, List.forall_mem_cons.mpr ⟨mj_l13_81, List.forall_mem_cons.mpr ⟨mj_l13_82, List.forall_mem_cons.mpr ⟨mj_l13_83, List.forall_mem_cons.mpr ⟨mj_l13_84, List.forall_mem_cons.mpr ⟨mj_l13_85, List.forall_mem_cons.mpr ⟨mj_l13_86, List.forall_mem_cons.mpr ⟨mj_l13_87, List.forall_mem_cons.mpr ⟨mj_l13_88, List.forall_mem_cons.mpr ⟨mj_l13_89, List.forall_mem_cons.mpr ⟨mj_l13_90, List.forall_mem_cons.mpr ⟨mj_l13_91, List.forall_mem_cons.mpr ⟨mj_l13_92, List.forall_mem_cons.mpr ⟨mj_l13_93, List.forall_mem_cons.mpr ⟨mj_l13_94, List.forall_mem_cons.mpr ⟨mj_l13_95, fun _ h => absurd h List.not_mem_nil⟩⟩⟩⟩⟩⟩⟩⟩⟩⟩⟩⟩⟩⟩⟩⟩⟩⟩⟩⟩⟩⟩⟩⟩⟩⟩⟩⟩⟩⟩⟩⟩⟩⟩⟩⟩⟩⟩⟩⟩⟩⟩⟩⟩⟩⟩⟩⟩⟩⟩⟩⟩⟩⟩⟩⟩⟩⟩⟩⟩⟩⟩⟩⟩⟩⟩⟩⟩⟩⟩⟩⟩⟩⟩⟩⟩⟩⟩⟩⟩⟩⟩⟩⟩⟩⟩⟩⟩⟩⟩⟩⟩⟩⟩⟩⟩
theorem mj_lks_14 : ∀ q ∈ mj_lks.getD 14 [], mj_lF 14 q := fun _ h => absurd h List.not_mem_nil
theorem mj_lks_15 : ∀ q ∈ mj_lks.getD 15 [], mj_lF 15 q := fun _ h => absurd h List.not_mem_nil
theorem mj_l16_0 : mj_lF 16 (150, 4, 0) := (mj_tb_in (mj_c3 (List.mem_of_getElem? (i := 173) rfl)) rfl)
theorem mj_l16_1 : mj_lF 16 (304, 3, 28) := ⟨by decide +kernel, (mj_tb_in (mj_c3 (List.mem_of_getElem? (i := 172) rfl)) rfl)⟩
theorem mj_lks_16 : ∀ q ∈ mj_lks.getD 16 [], mj_lF 16 q := List.forall_mem_cons.mpr ⟨mj_l16_0, List.forall_mem_cons.mpr ⟨mj_l16_1, fun _ h => absurd h List.not_mem_nil⟩⟩
theorem mj_l17_0 : mj_lF 17 (335, 2, 44) := ⟨by decide +kernel, (mj_tb_in (mj_c3 (List.mem_of_getElem? (i := 34) rfl)) rfl)⟩
theorem mj_l17_1 : mj_lF 17 (492, 2, 34) := ⟨by decide +kernel, (mj_tb_in (mj_c2 (List.mem_of_getElem? (i := 214) rfl)) rfl)⟩
theorem mj_l17_2 : mj_lF 17 (495, 3, 35) := ⟨by decide +kernel, (mj_tb_in (mj_c2 (List.mem_of_getElem? (i := 220) rfl)) rfl)⟩
theorem mj_l17_3 : mj_lF 17 (505, 2, 43) := ⟨by decide +kernel, (mj_tb_in (mj_c3 (List.mem_of_getElem? (i := 30) rfl)) rfl)⟩
theorem mj_l17_4 : mj_lF 17 (633, 2, 42) := ⟨by decide +kernel, (mj_tb_in (mj_c3 (List.mem_of_getElem? (i := 26) rfl)) rfl)⟩
theorem mj_l17_5 : mj_lF 17 (637, 3, 45) := ⟨by decide +kernel, (mj_tb_in (mj_c3 (List.mem_of_getElem? (i := 38) rfl)) rfl)⟩
theorem mj_l17_6 : mj_lF 17 (1059, 3, 37) := ⟨by decide +kernel, (mj_tb_in (mj_c2 (List.mem_of_getElem? (i := 228) rfl)) rfl)⟩
theorem mj_lks_17 : ∀ q ∈ mj_lks.getD 17 [], mj_lF 17 q := List.forall_mem_cons.mpr ⟨mj_l17_0, List.forall_mem_cons.mpr ⟨mj_l17_1, List.forall_mem_cons.mpr ⟨mj_l17_2, List.forall_mem_cons.mpr ⟨mj_l17_3, List.forall_mem_cons.mpr ⟨mj_l17_4, List.forall_mem_cons.mpr ⟨mj_l17_5, List.forall_mem_cons.mpr ⟨mj_l17_6, fun _ h => absurd h List.not_mem_nil⟩⟩⟩⟩⟩⟩⟩
theorem mj_l18_0 : mj_lF 18 (9, 3, 36) := ⟨by decide +kernel, (mj_tb_in (mj_c2 (List.mem_of_getElem? (i := 223) rfl)) rfl)⟩
theorem mj_l18_1 : mj_lF 18 (38, 3, 28) := ⟨by decide +kernel, (mj_tb_in (mj_c3 (List.mem_of_getElem? (i := 47) rfl)) rfl)⟩
theorem mj_l18_2 : mj_lF 18 (88, 3, 46) := ⟨by decide +kernel, (mj_tb_in (mj_c3 (List.mem_of_getElem? (i := 41) rfl)) rfl)⟩
theorem mj_l18_3 : mj_lF 18 (92, 3, 47) := ⟨by decide +kernel, (mj_tb_in (mj_c3 (List.mem_of_getElem? (i := 44) rfl)) rfl)⟩
theorem mj_l18_4 : mj_lF 18 (95, 3, 48) := ⟨by decide +kernel, (mj_tb_in (mj_c3 (List.mem_of_getElem? (i := 48) rfl)) rfl)⟩
theorem mj_lks_18 : ∀ q ∈ mj_lks.getD 18 [], mj_lF 18 q := List.forall_mem_cons.mpr ⟨mj_l18_0, List.forall_mem_cons.mpr ⟨mj_l18_1, List.forall_mem_cons.mpr ⟨mj_l18_2, List.forall_mem_cons.mpr ⟨mj_l18_3, List.forall_mem_cons.mpr ⟨mj_l18_4, fun _ h => absurd h List.not_mem_nil⟩⟩⟩⟩⟩
theorem mj_lks_19 : ∀ q ∈ mj_lks.getD 19 [], mj_lF 19 q := fun _ h => absurd h List.not_mem_nil
theorem mj_lks_ok : ∀ c, c < 20 → ∀ q ∈ mj_lks.getD c [], mj_lF c q := by
  intro c hc
  by_cases h0 : c = 0
  · subst h0; exact mj_lks_0
  by_cases h1 : c = 1
  · subst h1; exact mj_lks_1
  by_cases h2 : c = 2
  · subst h2; exact mj_lks_2
  by_cases h3 : c = 3
  · subst h3; exact mj_lks_3
  by_cases h4 : c = 4
  · subst h4; exact mj_lks_4
  by_cases h5 : c = 5
  · subst h5; exact mj_lks_5
  by_cases h6 : c = 6
  · subst h6; exact mj_lks_6
  by_cases h7 : c = 7
  · subst h7; exact mj_lks_7
  by_cases h8 : c = 8
  · subst h8; exact mj_lks_8
  by_cases h9 : c = 9
  · subst h9; exact mj_lks_9
  by_cases h10 : c = 10
  · subst h10; exact mj_lks_10
  by_cases h11 : c = 11
  · subst h11; exact mj_lks_11
  by_cases h12 : c = 12
  · subst h12; exact mj_lks_12
  by_cases h13 : c = 13
  · subst h13; exact mj_lks_13
  by_cases h14 : c = 14
  · subst h14; exact mj_lks_14
  by_cases h15 : c = 15
  · subst h15; exact mj_lks_15
  by_cases h16 : c = 16
  · subst h16; exact mj_lks_16
  by_cases h17 : c = 17
  · subst h17; exact mj_lks_17
  by_cases h18 : c = 18
  · subst h18; exact mj_lks_18
  by_cases h19 : c = 19
  · subst h19; exact mj_lks_19
  omega
def mj_ckF (c : Nat) (q : Nat × Nat × Int) : Prop := match q.2.1 with
  | 0 => Cond.constant (mj_cn c) q.1 (Int32.ofInt q.2.2) ∈ mj_tb ∧ mj_in32 q.2.2
  | 1 => Cond.constantLong (mj_cn c) q.1 (Int64.ofInt q.2.2) ∈ mj_tb ∧ mj_in64 q.2.2
  | 10 => c = 6 ∧ ((q.1 = 121 ∧ q.2.2 = 0) ∨ (q.1 = 129 ∧ q.2.2 = 1))
  | _ => False
def mj_ckq (c : Nat) (q : Nat × Nat × Int) : Bool := match q.2.1 with
  | 0 => decide ((Cond.constant (mj_cn c) q.1 (Int32.ofInt q.2.2) ∈ tables_1 ∧ goodWord (Cond.constant (mj_cn c) q.1 (Int32.ofInt q.2.2)) = true) ∧ -2147483648 ≤ q.2.2 ∧ q.2.2 ≤ 2147483647)
  | 1 => decide ((Cond.constantLong (mj_cn c) q.1 (Int64.ofInt q.2.2) ∈ tables_1 ∧ goodWord (Cond.constantLong (mj_cn c) q.1 (Int64.ofInt q.2.2)) = true) ∧ -9223372036854775808 ≤ q.2.2 ∧ q.2.2 ≤ 9223372036854775807)
  | 10 => decide (c = 6 ∧ ((q.1 = 121 ∧ q.2.2 = 0) ∨ (q.1 = 129 ∧ q.2.2 = 1)))
  | _ => false
theorem mj_cks_ok0 : ∀ c, c < 20 → ∀ q ∈ mj_cks.getD c [], mj_ckq c q = true := by decide +kernel
theorem mj_cks_ok : ∀ c, c < 20 → ∀ q ∈ mj_cks.getD c [], mj_ckF c q := by
  intro c hc q hq
  have h := mj_cks_ok0 c hc q hq
  unfold mj_ckq at h
  unfold mj_ckF
  split at h <;> simp_all [mj_tb_in, mj_in32, mj_in64]
theorem mj_sts_ok : ∀ c, c < 20 → ∀ q ∈ mj_sts.getD c [], (q.2 = 0 ∧ Cond.fieldLink (mj_cn c) q.1 "java/lang/String" "COMPACT_STRINGS" "Z" ∈ tables_1) ∨ (q.2 = 1 ∧ Cond.fieldLink (mj_cn c) q.1 "PerfectFerried$Tongue" "WAYS" "[I" ∈ tables_1) ∨ (q.2 = 2 ∧ Cond.fieldLink (mj_cn c) q.1 "jdk/internal/util/Preconditions" "SIOOBE_FORMATTER" "Ljava/util/function/BiFunction;" ∈ tables_1) := by decide +kernel
theorem mj_xfs_ok : ∀ c, c < 20 → ∀ q ∈ mj_xfs.getD c [], (q.2 = 0 ∧ Cond.fieldLink (mj_cn c) q.1 "java/lang/String" "value" "[B" ∈ tables_1) ∨ (q.2 = 1 ∧ Cond.fieldLink (mj_cn c) q.1 "java/lang/String" "coder" "B" ∈ tables_1) := by decide +kernel
theorem mj_cls_ok : ∀ c, c < 20 → ∀ q ∈ mj_cls.getD c [], q.2 < 13 ∧ Cond.classLink (mj_cn c) q.1 (mj_cn q.2) ∈ tables_1 ∧ (q.2 ≠ 8 ∨ True) := by decide +kernel
theorem mj_ins13_ok : ∀ c, c < 13 → Cond.instantiable (mj_cn c) (mj_fN c) ∈ tables_1 ∧ Cond.initialized (mj_cn c) ∈ tables_1 := by decide +kernel
theorem mj_fl_good (a : String) (i : Nat) (b n d : String) : goodWord (.fieldLink a i b n d) = true := rfl
theorem mj_cl_good (a : String) (i : Nat) (b : String) : goodWord (.classLink a i b) = true := rfl
theorem mj_it_good (a : String) (n : Nat) : goodWord (.instantiable a n) = true := rfl
theorem mj_in_good (a : String) : goodWord (.initialized a) = true := rfl
