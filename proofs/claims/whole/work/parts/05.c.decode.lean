theorem mj_d148_0 : mj_dchk 148 0 29 = true := by decide +kernel
theorem mj_d148 : ∀ p, p < 29 → ∀ q, mj_ins 148 p = some q → decode (mj_cd 148) p = .ok q := by
  intro p hp q hq
  by_cases h0 : p < 29
  · exact mj_dchk_use mj_d148_0 (by omega) (by omega) hq
  omega
theorem mj_d149_0 : mj_dchk 149 0 41 = true := by decide +kernel
theorem mj_d149 : ∀ p, p < 41 → ∀ q, mj_ins 149 p = some q → decode (mj_cd 149) p = .ok q := by
  intro p hp q hq
  by_cases h0 : p < 41
  · exact mj_dchk_use mj_d149_0 (by omega) (by omega) hq
  omega
theorem mj_d150_0 : mj_dchk 150 0 23 = true := by decide +kernel
theorem mj_d150 : ∀ p, p < 23 → ∀ q, mj_ins 150 p = some q → decode (mj_cd 150) p = .ok q := by
  intro p hp q hq
  by_cases h0 : p < 23
  · exact mj_dchk_use mj_d150_0 (by omega) (by omega) hq
  omega
theorem mj_d151_0 : mj_dchk 151 0 80 = true := by decide +kernel
theorem mj_d151_80 : mj_dchk 151 80 1 = true := by decide +kernel
theorem mj_d151 : ∀ p, p < 81 → ∀ q, mj_ins 151 p = some q → decode (mj_cd 151) p = .ok q := by
  intro p hp q hq
  by_cases h0 : p < 80
  · exact mj_dchk_use mj_d151_0 (by omega) (by omega) hq
  by_cases h80 : p < 81
  · exact mj_dchk_use mj_d151_80 (by omega) (by omega) hq
  omega
theorem mj_d152_0 : mj_dchk 152 0 57 = true := by decide +kernel
theorem mj_d152 : ∀ p, p < 57 → ∀ q, mj_ins 152 p = some q → decode (mj_cd 152) p = .ok q := by
  intro p hp q hq
  by_cases h0 : p < 57
  · exact mj_dchk_use mj_d152_0 (by omega) (by omega) hq
  omega
theorem mj_d153_0 : mj_dchk 153 0 20 = true := by decide +kernel
theorem mj_d153 : ∀ p, p < 20 → ∀ q, mj_ins 153 p = some q → decode (mj_cd 153) p = .ok q := by
  intro p hp q hq
  by_cases h0 : p < 20
  · exact mj_dchk_use mj_d153_0 (by omega) (by omega) hq
  omega
theorem mj_d154_0 : mj_dchk 154 0 39 = true := by decide +kernel
theorem mj_d154 : ∀ p, p < 39 → ∀ q, mj_ins 154 p = some q → decode (mj_cd 154) p = .ok q := by
  intro p hp q hq
  by_cases h0 : p < 39
  · exact mj_dchk_use mj_d154_0 (by omega) (by omega) hq
  omega
theorem mj_d155_0 : mj_dchk 155 0 27 = true := by decide +kernel
theorem mj_d155 : ∀ p, p < 27 → ∀ q, mj_ins 155 p = some q → decode (mj_cd 155) p = .ok q := by
  intro p hp q hq
  by_cases h0 : p < 27
  · exact mj_dchk_use mj_d155_0 (by omega) (by omega) hq
  omega
theorem mj_d156_0 : mj_dchk 156 0 80 = true := by decide +kernel
theorem mj_d156_80 : mj_dchk 156 80 55 = true := by decide +kernel
theorem mj_d156 : ∀ p, p < 135 → ∀ q, mj_ins 156 p = some q → decode (mj_cd 156) p = .ok q := by
  intro p hp q hq
  by_cases h0 : p < 80
  · exact mj_dchk_use mj_d156_0 (by omega) (by omega) hq
  by_cases h80 : p < 135
  · exact mj_dchk_use mj_d156_80 (by omega) (by omega) hq
  omega
theorem mj_d157_0 : mj_dchk 157 0 38 = true := by decide +kernel
theorem mj_d157 : ∀ p, p < 38 → ∀ q, mj_ins 157 p = some q → decode (mj_cd 157) p = .ok q := by
  intro p hp q hq
  by_cases h0 : p < 38
  · exact mj_dchk_use mj_d157_0 (by omega) (by omega) hq
  omega
theorem mj_d158_0 : mj_dchk 158 0 8 = true := by decide +kernel
theorem mj_d158 : ∀ p, p < 8 → ∀ q, mj_ins 158 p = some q → decode (mj_cd 158) p = .ok q := by
  intro p hp q hq
  by_cases h0 : p < 8
  · exact mj_dchk_use mj_d158_0 (by omega) (by omega) hq
  omega
theorem mj_d159_0 : mj_dchk 159 0 62 = true := by decide +kernel
theorem mj_d159 : ∀ p, p < 62 → ∀ q, mj_ins 159 p = some q → decode (mj_cd 159) p = .ok q := by
  intro p hp q hq
  by_cases h0 : p < 62
  · exact mj_dchk_use mj_d159_0 (by omega) (by omega) hq
  omega
theorem mj_d160_0 : mj_dchk 160 0 55 = true := by decide +kernel
theorem mj_d160 : ∀ p, p < 55 → ∀ q, mj_ins 160 p = some q → decode (mj_cd 160) p = .ok q := by
  intro p hp q hq
  by_cases h0 : p < 55
  · exact mj_dchk_use mj_d160_0 (by omega) (by omega) hq
  omega
theorem mj_d161_0 : mj_dchk 161 0 66 = true := by decide +kernel
theorem mj_d161 : ∀ p, p < 66 → ∀ q, mj_ins 161 p = some q → decode (mj_cd 161) p = .ok q := by
  intro p hp q hq
  by_cases h0 : p < 66
  · exact mj_dchk_use mj_d161_0 (by omega) (by omega) hq
  omega
theorem mj_d162_0 : mj_dchk 162 0 28 = true := by decide +kernel
theorem mj_d162 : ∀ p, p < 28 → ∀ q, mj_ins 162 p = some q → decode (mj_cd 162) p = .ok q := by
  intro p hp q hq
  by_cases h0 : p < 28
  · exact mj_dchk_use mj_d162_0 (by omega) (by omega) hq
  omega
theorem mj_d163_0 : mj_dchk 163 0 61 = true := by decide +kernel
theorem mj_d163 : ∀ p, p < 61 → ∀ q, mj_ins 163 p = some q → decode (mj_cd 163) p = .ok q := by
  intro p hp q hq
  by_cases h0 : p < 61
  · exact mj_dchk_use mj_d163_0 (by omega) (by omega) hq
  omega
theorem mj_d164_0 : mj_dchk 164 0 80 = true := by decide +kernel
theorem mj_d164_80 : mj_dchk 164 80 13 = true := by decide +kernel
theorem mj_d164 : ∀ p, p < 93 → ∀ q, mj_ins 164 p = some q → decode (mj_cd 164) p = .ok q := by
  intro p hp q hq
  by_cases h0 : p < 80
  · exact mj_dchk_use mj_d164_0 (by omega) (by omega) hq
  by_cases h80 : p < 93
  · exact mj_dchk_use mj_d164_80 (by omega) (by omega) hq
  omega
theorem mj_d165_0 : mj_dchk 165 0 80 = true := by decide +kernel
theorem mj_d165_80 : mj_dchk 165 80 7 = true := by decide +kernel
theorem mj_d165 : ∀ p, p < 87 → ∀ q, mj_ins 165 p = some q → decode (mj_cd 165) p = .ok q := by
  intro p hp q hq
  by_cases h0 : p < 80
  · exact mj_dchk_use mj_d165_0 (by omega) (by omega) hq
  by_cases h80 : p < 87
  · exact mj_dchk_use mj_d165_80 (by omega) (by omega) hq
  omega
theorem mj_d166_0 : mj_dchk 166 0 80 = true := by decide +kernel
theorem mj_d166_80 : mj_dchk 166 80 27 = true := by decide +kernel
theorem mj_d166 : ∀ p, p < 107 → ∀ q, mj_ins 166 p = some q → decode (mj_cd 166) p = .ok q := by
  intro p hp q hq
  by_cases h0 : p < 80
  · exact mj_dchk_use mj_d166_0 (by omega) (by omega) hq
  by_cases h80 : p < 107
  · exact mj_dchk_use mj_d166_80 (by omega) (by omega) hq
  omega
theorem mj_d167_0 : mj_dchk 167 0 24 = true := by decide +kernel
theorem mj_d167 : ∀ p, p < 24 → ∀ q, mj_ins 167 p = some q → decode (mj_cd 167) p = .ok q := by
  intro p hp q hq
  by_cases h0 : p < 24
  · exact mj_dchk_use mj_d167_0 (by omega) (by omega) hq
  omega
theorem mj_d168_0 : mj_dchk 168 0 22 = true := by decide +kernel
theorem mj_d168 : ∀ p, p < 22 → ∀ q, mj_ins 168 p = some q → decode (mj_cd 168) p = .ok q := by
  intro p hp q hq
  by_cases h0 : p < 22
  · exact mj_dchk_use mj_d168_0 (by omega) (by omega) hq
  omega
theorem mj_d169_0 : mj_dchk 169 0 27 = true := by decide +kernel
theorem mj_d169 : ∀ p, p < 27 → ∀ q, mj_ins 169 p = some q → decode (mj_cd 169) p = .ok q := by
  intro p hp q hq
  by_cases h0 : p < 27
  · exact mj_dchk_use mj_d169_0 (by omega) (by omega) hq
  omega
theorem mj_d170_0 : mj_dchk 170 0 80 = true := by decide +kernel
theorem mj_d170_80 : mj_dchk 170 80 18 = true := by decide +kernel
theorem mj_d170 : ∀ p, p < 98 → ∀ q, mj_ins 170 p = some q → decode (mj_cd 170) p = .ok q := by
  intro p hp q hq
  by_cases h0 : p < 80
  · exact mj_dchk_use mj_d170_0 (by omega) (by omega) hq
  by_cases h80 : p < 98
  · exact mj_dchk_use mj_d170_80 (by omega) (by omega) hq
  omega
theorem mj_d171_0 : mj_dchk 171 0 58 = true := by decide +kernel
theorem mj_d171 : ∀ p, p < 58 → ∀ q, mj_ins 171 p = some q → decode (mj_cd 171) p = .ok q := by
  intro p hp q hq
  by_cases h0 : p < 58
  · exact mj_dchk_use mj_d171_0 (by omega) (by omega) hq
  omega
theorem mj_d172_0 : mj_dchk 172 0 8 = true := by decide +kernel
theorem mj_d172 : ∀ p, p < 8 → ∀ q, mj_ins 172 p = some q → decode (mj_cd 172) p = .ok q := by
  intro p hp q hq
  by_cases h0 : p < 8
  · exact mj_dchk_use mj_d172_0 (by omega) (by omega) hq
  omega
theorem mj_d173_0 : mj_dchk 173 0 44 = true := by decide +kernel
theorem mj_d173 : ∀ p, p < 44 → ∀ q, mj_ins 173 p = some q → decode (mj_cd 173) p = .ok q := by
  intro p hp q hq
  by_cases h0 : p < 44
  · exact mj_dchk_use mj_d173_0 (by omega) (by omega) hq
  omega
theorem mj_d174_0 : mj_dchk 174 0 80 = true := by decide +kernel
theorem mj_d174_80 : mj_dchk 174 80 5 = true := by decide +kernel
theorem mj_d174 : ∀ p, p < 85 → ∀ q, mj_ins 174 p = some q → decode (mj_cd 174) p = .ok q := by
  intro p hp q hq
  by_cases h0 : p < 80
  · exact mj_dchk_use mj_d174_0 (by omega) (by omega) hq
  by_cases h80 : p < 85
  · exact mj_dchk_use mj_d174_80 (by omega) (by omega) hq
  omega
theorem mj_d175_0 : mj_dchk 175 0 8 = true := by decide +kernel
theorem mj_d175 : ∀ p, p < 8 → ∀ q, mj_ins 175 p = some q → decode (mj_cd 175) p = .ok q := by
  intro p hp q hq
  by_cases h0 : p < 8
  · exact mj_dchk_use mj_d175_0 (by omega) (by omega) hq
  omega
theorem mj_d176_0 : mj_dchk 176 0 56 = true := by decide +kernel
theorem mj_d176 : ∀ p, p < 56 → ∀ q, mj_ins 176 p = some q → decode (mj_cd 176) p = .ok q := by
  intro p hp q hq
  by_cases h0 : p < 56
  · exact mj_dchk_use mj_d176_0 (by omega) (by omega) hq
  omega
theorem mj_d177_0 : mj_dchk 177 0 8 = true := by decide +kernel
theorem mj_d177 : ∀ p, p < 8 → ∀ q, mj_ins 177 p = some q → decode (mj_cd 177) p = .ok q := by
  intro p hp q hq
  by_cases h0 : p < 8
  · exact mj_dchk_use mj_d177_0 (by omega) (by omega) hq
  omega
theorem mj_d178_0 : mj_dchk 178 0 61 = true := by decide +kernel
theorem mj_d178 : ∀ p, p < 61 → ∀ q, mj_ins 178 p = some q → decode (mj_cd 178) p = .ok q := by
  intro p hp q hq
  by_cases h0 : p < 61
  · exact mj_dchk_use mj_d178_0 (by omega) (by omega) hq
  omega
theorem mj_d179_0 : mj_dchk 179 0 8 = true := by decide +kernel
theorem mj_d179 : ∀ p, p < 8 → ∀ q, mj_ins 179 p = some q → decode (mj_cd 179) p = .ok q := by
  intro p hp q hq
  by_cases h0 : p < 8
  · exact mj_dchk_use mj_d179_0 (by omega) (by omega) hq
  omega
theorem mj_d180_0 : mj_dchk 180 0 54 = true := by decide +kernel
theorem mj_d180 : ∀ p, p < 54 → ∀ q, mj_ins 180 p = some q → decode (mj_cd 180) p = .ok q := by
  intro p hp q hq
  by_cases h0 : p < 54
  · exact mj_dchk_use mj_d180_0 (by omega) (by omega) hq
  omega
theorem mj_d181_0 : mj_dchk 181 0 34 = true := by decide +kernel
theorem mj_d181 : ∀ p, p < 34 → ∀ q, mj_ins 181 p = some q → decode (mj_cd 181) p = .ok q := by
  intro p hp q hq
  by_cases h0 : p < 34
  · exact mj_dchk_use mj_d181_0 (by omega) (by omega) hq
  omega
theorem mj_d182_0 : mj_dchk 182 0 44 = true := by decide +kernel
theorem mj_d182 : ∀ p, p < 44 → ∀ q, mj_ins 182 p = some q → decode (mj_cd 182) p = .ok q := by
  intro p hp q hq
  by_cases h0 : p < 44
  · exact mj_dchk_use mj_d182_0 (by omega) (by omega) hq
  omega
theorem mj_d183_0 : mj_dchk 183 0 22 = true := by decide +kernel
theorem mj_d183 : ∀ p, p < 22 → ∀ q, mj_ins 183 p = some q → decode (mj_cd 183) p = .ok q := by
  intro p hp q hq
  by_cases h0 : p < 22
  · exact mj_dchk_use mj_d183_0 (by omega) (by omega) hq
  omega
theorem mj_d184_0 : mj_dchk 184 0 80 = true := by decide +kernel
theorem mj_d184_80 : mj_dchk 184 80 80 = true := by decide +kernel
theorem mj_d184_160 : mj_dchk 184 160 8 = true := by decide +kernel
theorem mj_d184 : ∀ p, p < 168 → ∀ q, mj_ins 184 p = some q → decode (mj_cd 184) p = .ok q := by
  intro p hp q hq
  by_cases h0 : p < 80
  · exact mj_dchk_use mj_d184_0 (by omega) (by omega) hq
  by_cases h80 : p < 160
  · exact mj_dchk_use mj_d184_80 (by omega) (by omega) hq
  by_cases h160 : p < 168
  · exact mj_dchk_use mj_d184_160 (by omega) (by omega) hq
  omega
theorem mj_d185_0 : mj_dchk 185 0 39 = true := by decide +kernel
theorem mj_d185 : ∀ p, p < 39 → ∀ q, mj_ins 185 p = some q → decode (mj_cd 185) p = .ok q := by
  intro p hp q hq
  by_cases h0 : p < 39
  · exact mj_dchk_use mj_d185_0 (by omega) (by omega) hq
  omega
theorem mj_d186_0 : mj_dchk 186 0 27 = true := by decide +kernel
theorem mj_d186 : ∀ p, p < 27 → ∀ q, mj_ins 186 p = some q → decode (mj_cd 186) p = .ok q := by
  intro p hp q hq
  by_cases h0 : p < 27
  · exact mj_dchk_use mj_d186_0 (by omega) (by omega) hq
  omega
theorem mj_d187_0 : mj_dchk 187 0 22 = true := by decide +kernel
theorem mj_d187 : ∀ p, p < 22 → ∀ q, mj_ins 187 p = some q → decode (mj_cd 187) p = .ok q := by
  intro p hp q hq
  by_cases h0 : p < 22
  · exact mj_dchk_use mj_d187_0 (by omega) (by omega) hq
  omega
theorem mj_d188_0 : mj_dchk 188 0 80 = true := by decide +kernel
theorem mj_d188_80 : mj_dchk 188 80 56 = true := by decide +kernel
theorem mj_d188 : ∀ p, p < 136 → ∀ q, mj_ins 188 p = some q → decode (mj_cd 188) p = .ok q := by
  intro p hp q hq
  by_cases h0 : p < 80
  · exact mj_dchk_use mj_d188_0 (by omega) (by omega) hq
  by_cases h80 : p < 136
  · exact mj_dchk_use mj_d188_80 (by omega) (by omega) hq
  omega
theorem mj_d189_0 : mj_dchk 189 0 80 = true := by decide +kernel
theorem mj_d189_80 : mj_dchk 189 80 80 = true := by decide +kernel
theorem mj_d189_160 : mj_dchk 189 160 61 = true := by decide +kernel
theorem mj_d189 : ∀ p, p < 221 → ∀ q, mj_ins 189 p = some q → decode (mj_cd 189) p = .ok q := by
  intro p hp q hq
  by_cases h0 : p < 80
  · exact mj_dchk_use mj_d189_0 (by omega) (by omega) hq
  by_cases h80 : p < 160
  · exact mj_dchk_use mj_d189_80 (by omega) (by omega) hq
  by_cases h160 : p < 221
  · exact mj_dchk_use mj_d189_160 (by omega) (by omega) hq
  omega
theorem mj_d190_0 : mj_dchk 190 0 80 = true := by decide +kernel
theorem mj_d190_80 : mj_dchk 190 80 38 = true := by decide +kernel
theorem mj_d190 : ∀ p, p < 118 → ∀ q, mj_ins 190 p = some q → decode (mj_cd 190) p = .ok q := by
  intro p hp q hq
  by_cases h0 : p < 80
  · exact mj_dchk_use mj_d190_0 (by omega) (by omega) hq
  by_cases h80 : p < 118
  · exact mj_dchk_use mj_d190_80 (by omega) (by omega) hq
  omega
theorem mj_d191_0 : mj_dchk 191 0 80 = true := by decide +kernel
theorem mj_d191_80 : mj_dchk 191 80 78 = true := by decide +kernel
theorem mj_d191 : ∀ p, p < 158 → ∀ q, mj_ins 191 p = some q → decode (mj_cd 191) p = .ok q := by
  intro p hp q hq
  by_cases h0 : p < 80
  · exact mj_dchk_use mj_d191_0 (by omega) (by omega) hq
  by_cases h80 : p < 158
  · exact mj_dchk_use mj_d191_80 (by omega) (by omega) hq
  omega
theorem mj_d192_0 : mj_dchk 192 0 57 = true := by decide +kernel
theorem mj_d192 : ∀ p, p < 57 → ∀ q, mj_ins 192 p = some q → decode (mj_cd 192) p = .ok q := by
  intro p hp q hq
  by_cases h0 : p < 57
  · exact mj_dchk_use mj_d192_0 (by omega) (by omega) hq
  omega
theorem mj_d193_0 : mj_dchk 193 0 16 = true := by decide +kernel
theorem mj_d193 : ∀ p, p < 16 → ∀ q, mj_ins 193 p = some q → decode (mj_cd 193) p = .ok q := by
  intro p hp q hq
  by_cases h0 : p < 16
  · exact mj_dchk_use mj_d193_0 (by omega) (by omega) hq
  omega
theorem mj_d194_0 : mj_dchk 194 0 7 = true := by decide +kernel
theorem mj_d194 : ∀ p, p < 7 → ∀ q, mj_ins 194 p = some q → decode (mj_cd 194) p = .ok q := by
  intro p hp q hq
  by_cases h0 : p < 7
  · exact mj_dchk_use mj_d194_0 (by omega) (by omega) hq
  omega
theorem mj_d195_0 : mj_dchk 195 0 80 = true := by decide +kernel
theorem mj_d195_80 : mj_dchk 195 80 40 = true := by decide +kernel
theorem mj_d195 : ∀ p, p < 120 → ∀ q, mj_ins 195 p = some q → decode (mj_cd 195) p = .ok q := by
  intro p hp q hq
  by_cases h0 : p < 80
  · exact mj_dchk_use mj_d195_0 (by omega) (by omega) hq
  by_cases h80 : p < 120
  · exact mj_dchk_use mj_d195_80 (by omega) (by omega) hq
  omega
theorem mj_d196_0 : mj_dchk 196 0 11 = true := by decide +kernel
theorem mj_d196 : ∀ p, p < 11 → ∀ q, mj_ins 196 p = some q → decode (mj_cd 196) p = .ok q := by
  intro p hp q hq
  by_cases h0 : p < 11
  · exact mj_dchk_use mj_d196_0 (by omega) (by omega) hq
  omega
theorem mj_d197_0 : mj_dchk 197 0 22 = true := by decide +kernel
theorem mj_d197 : ∀ p, p < 22 → ∀ q, mj_ins 197 p = some q → decode (mj_cd 197) p = .ok q := by
  intro p hp q hq
  by_cases h0 : p < 22
  · exact mj_dchk_use mj_d197_0 (by omega) (by omega) hq
  omega
theorem mj_d198_0 : mj_dchk 198 0 80 = true := by decide +kernel
theorem mj_d198_80 : mj_dchk 198 80 7 = true := by decide +kernel
theorem mj_d198 : ∀ p, p < 87 → ∀ q, mj_ins 198 p = some q → decode (mj_cd 198) p = .ok q := by
  intro p hp q hq
  by_cases h0 : p < 80
  · exact mj_dchk_use mj_d198_0 (by omega) (by omega) hq
  by_cases h80 : p < 87
  · exact mj_dchk_use mj_d198_80 (by omega) (by omega) hq
  omega
theorem mj_d199_0 : mj_dchk 199 0 69 = true := by decide +kernel
theorem mj_d199 : ∀ p, p < 69 → ∀ q, mj_ins 199 p = some q → decode (mj_cd 199) p = .ok q := by
  intro p hp q hq
  by_cases h0 : p < 69
  · exact mj_dchk_use mj_d199_0 (by omega) (by omega) hq
  omega
theorem mj_d200_0 : mj_dchk 200 0 16 = true := by decide +kernel
theorem mj_d200 : ∀ p, p < 16 → ∀ q, mj_ins 200 p = some q → decode (mj_cd 200) p = .ok q := by
  intro p hp q hq
  by_cases h0 : p < 16
  · exact mj_dchk_use mj_d200_0 (by omega) (by omega) hq
  omega
theorem mj_d201_0 : mj_dchk 201 0 15 = true := by decide +kernel
theorem mj_d201 : ∀ p, p < 15 → ∀ q, mj_ins 201 p = some q → decode (mj_cd 201) p = .ok q := by
  intro p hp q hq
  by_cases h0 : p < 15
  · exact mj_dchk_use mj_d201_0 (by omega) (by omega) hq
  omega
theorem mj_d202_0 : mj_dchk 202 0 33 = true := by decide +kernel
theorem mj_d202 : ∀ p, p < 33 → ∀ q, mj_ins 202 p = some q → decode (mj_cd 202) p = .ok q := by
  intro p hp q hq
  by_cases h0 : p < 33
  · exact mj_dchk_use mj_d202_0 (by omega) (by omega) hq
  omega
theorem mj_d203_0 : mj_dchk 203 0 14 = true := by decide +kernel
theorem mj_d203 : ∀ p, p < 14 → ∀ q, mj_ins 203 p = some q → decode (mj_cd 203) p = .ok q := by
  intro p hp q hq
  by_cases h0 : p < 14
  · exact mj_dchk_use mj_d203_0 (by omega) (by omega) hq
  omega
theorem mj_d204_0 : mj_dchk 204 0 56 = true := by decide +kernel
theorem mj_d204 : ∀ p, p < 56 → ∀ q, mj_ins 204 p = some q → decode (mj_cd 204) p = .ok q := by
  intro p hp q hq
  by_cases h0 : p < 56
  · exact mj_dchk_use mj_d204_0 (by omega) (by omega) hq
  omega
theorem mj_d205_0 : mj_dchk 205 0 47 = true := by decide +kernel
theorem mj_d205 : ∀ p, p < 47 → ∀ q, mj_ins 205 p = some q → decode (mj_cd 205) p = .ok q := by
  intro p hp q hq
  by_cases h0 : p < 47
  · exact mj_dchk_use mj_d205_0 (by omega) (by omega) hq
  omega
theorem mj_d206_0 : mj_dchk 206 0 40 = true := by decide +kernel
theorem mj_d206 : ∀ p, p < 40 → ∀ q, mj_ins 206 p = some q → decode (mj_cd 206) p = .ok q := by
  intro p hp q hq
  by_cases h0 : p < 40
  · exact mj_dchk_use mj_d206_0 (by omega) (by omega) hq
  omega
theorem mj_d207_0 : mj_dchk 207 0 21 = true := by decide +kernel
theorem mj_d207 : ∀ p, p < 21 → ∀ q, mj_ins 207 p = some q → decode (mj_cd 207) p = .ok q := by
  intro p hp q hq
  by_cases h0 : p < 21
  · exact mj_dchk_use mj_d207_0 (by omega) (by omega) hq
  omega
theorem mj_d208_0 : mj_dchk 208 0 72 = true := by decide +kernel
theorem mj_d208 : ∀ p, p < 72 → ∀ q, mj_ins 208 p = some q → decode (mj_cd 208) p = .ok q := by
  intro p hp q hq
  by_cases h0 : p < 72
  · exact mj_dchk_use mj_d208_0 (by omega) (by omega) hq
  omega
theorem mj_d209_0 : mj_dchk 209 0 66 = true := by decide +kernel
theorem mj_d209 : ∀ p, p < 66 → ∀ q, mj_ins 209 p = some q → decode (mj_cd 209) p = .ok q := by
  intro p hp q hq
  by_cases h0 : p < 66
  · exact mj_dchk_use mj_d209_0 (by omega) (by omega) hq
  omega
theorem mj_d210_0 : mj_dchk 210 0 40 = true := by decide +kernel
theorem mj_d210_40 : mj_dchk 210 40 40 = true := by decide +kernel
theorem mj_d210_80 : mj_dchk 210 80 40 = true := by decide +kernel
theorem mj_d210_120 : mj_dchk 210 120 40 = true := by decide +kernel
theorem mj_d210_160 : mj_dchk 210 160 40 = true := by decide +kernel
theorem mj_d210_200 : mj_dchk 210 200 40 = true := by decide +kernel
theorem mj_d210_240 : mj_dchk 210 240 40 = true := by decide +kernel
theorem mj_d210_280 : mj_dchk 210 280 31 = true := by decide +kernel
theorem mj_d210 : ∀ p, p < 311 → ∀ q, mj_ins 210 p = some q → decode (mj_cd 210) p = .ok q := by
  intro p hp q hq
  by_cases h0 : p < 40
  · exact mj_dchk_use mj_d210_0 (by omega) (by omega) hq
  by_cases h40 : p < 80
  · exact mj_dchk_use mj_d210_40 (by omega) (by omega) hq
  by_cases h80 : p < 120
  · exact mj_dchk_use mj_d210_80 (by omega) (by omega) hq
  by_cases h120 : p < 160
  · exact mj_dchk_use mj_d210_120 (by omega) (by omega) hq
  by_cases h160 : p < 200
  · exact mj_dchk_use mj_d210_160 (by omega) (by omega) hq
  by_cases h200 : p < 240
  · exact mj_dchk_use mj_d210_200 (by omega) (by omega) hq
  by_cases h240 : p < 280
  · exact mj_dchk_use mj_d210_240 (by omega) (by omega) hq
  by_cases h280 : p < 311
  · exact mj_dchk_use mj_d210_280 (by omega) (by omega) hq
  omega
theorem mj_d211_0 : mj_dchk 211 0 19 = true := by decide +kernel
theorem mj_d211 : ∀ p, p < 19 → ∀ q, mj_ins 211 p = some q → decode (mj_cd 211) p = .ok q := by
  intro p hp q hq
  by_cases h0 : p < 19
  · exact mj_dchk_use mj_d211_0 (by omega) (by omega) hq
  omega
theorem mj_d212_0 : mj_dchk 212 0 18 = true := by decide +kernel
theorem mj_d212 : ∀ p, p < 18 → ∀ q, mj_ins 212 p = some q → decode (mj_cd 212) p = .ok q := by
  intro p hp q hq
  by_cases h0 : p < 18
  · exact mj_dchk_use mj_d212_0 (by omega) (by omega) hq
  omega
theorem mj_d213_0 : mj_dchk 213 0 30 = true := by decide +kernel
theorem mj_d213 : ∀ p, p < 30 → ∀ q, mj_ins 213 p = some q → decode (mj_cd 213) p = .ok q := by
  intro p hp q hq
  by_cases h0 : p < 30
  · exact mj_dchk_use mj_d213_0 (by omega) (by omega) hq
  omega
theorem mj_d214_0 : mj_dchk 214 0 80 = true := by decide +kernel
theorem mj_d214_80 : mj_dchk 214 80 52 = true := by decide +kernel
theorem mj_d214 : ∀ p, p < 132 → ∀ q, mj_ins 214 p = some q → decode (mj_cd 214) p = .ok q := by
  intro p hp q hq
  by_cases h0 : p < 80
  · exact mj_dchk_use mj_d214_0 (by omega) (by omega) hq
  by_cases h80 : p < 132
  · exact mj_dchk_use mj_d214_80 (by omega) (by omega) hq
  omega
theorem mj_d215_0 : mj_dchk 215 0 80 = true := by decide +kernel
theorem mj_d215_80 : mj_dchk 215 80 58 = true := by decide +kernel
theorem mj_d215 : ∀ p, p < 138 → ∀ q, mj_ins 215 p = some q → decode (mj_cd 215) p = .ok q := by
  intro p hp q hq
  by_cases h0 : p < 80
  · exact mj_dchk_use mj_d215_0 (by omega) (by omega) hq
  by_cases h80 : p < 138
  · exact mj_dchk_use mj_d215_80 (by omega) (by omega) hq
  omega
theorem mj_d216_0 : mj_dchk 216 0 80 = true := by decide +kernel
theorem mj_d216_80 : mj_dchk 216 80 80 = true := by decide +kernel
theorem mj_d216_160 : mj_dchk 216 160 47 = true := by decide +kernel
theorem mj_d216 : ∀ p, p < 207 → ∀ q, mj_ins 216 p = some q → decode (mj_cd 216) p = .ok q := by
  intro p hp q hq
  by_cases h0 : p < 80
  · exact mj_dchk_use mj_d216_0 (by omega) (by omega) hq
  by_cases h80 : p < 160
  · exact mj_dchk_use mj_d216_80 (by omega) (by omega) hq
  by_cases h160 : p < 207
  · exact mj_dchk_use mj_d216_160 (by omega) (by omega) hq
  omega
