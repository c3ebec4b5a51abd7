theorem mj_d217_0 : mj_dchk 217 0 15 = true := by decide +kernel
theorem mj_d217 : ∀ p, p < 15 → ∀ q, mj_ins 217 p = some q → decode (mj_cd 217) p = .ok q := by
  intro p hp q hq
  by_cases h0 : p < 15
  · exact mj_dchk_use mj_d217_0 (by omega) (by omega) hq
  omega
theorem mj_d218_0 : mj_dchk 218 0 13 = true := by decide +kernel
theorem mj_d218 : ∀ p, p < 13 → ∀ q, mj_ins 218 p = some q → decode (mj_cd 218) p = .ok q := by
  intro p hp q hq
  by_cases h0 : p < 13
  · exact mj_dchk_use mj_d218_0 (by omega) (by omega) hq
  omega
theorem mj_d219_0 : mj_dchk 219 0 12 = true := by decide +kernel
theorem mj_d219 : ∀ p, p < 12 → ∀ q, mj_ins 219 p = some q → decode (mj_cd 219) p = .ok q := by
  intro p hp q hq
  by_cases h0 : p < 12
  · exact mj_dchk_use mj_d219_0 (by omega) (by omega) hq
  omega
theorem mj_d220_0 : mj_dchk 220 0 9 = true := by decide +kernel
theorem mj_d220 : ∀ p, p < 9 → ∀ q, mj_ins 220 p = some q → decode (mj_cd 220) p = .ok q := by
  intro p hp q hq
  by_cases h0 : p < 9
  · exact mj_dchk_use mj_d220_0 (by omega) (by omega) hq
  omega
theorem mj_d221_0 : mj_dchk 221 0 23 = true := by decide +kernel
theorem mj_d221 : ∀ p, p < 23 → ∀ q, mj_ins 221 p = some q → decode (mj_cd 221) p = .ok q := by
  intro p hp q hq
  by_cases h0 : p < 23
  · exact mj_dchk_use mj_d221_0 (by omega) (by omega) hq
  omega
theorem mj_d222_0 : mj_dchk 222 0 17 = true := by decide +kernel
theorem mj_d222 : ∀ p, p < 17 → ∀ q, mj_ins 222 p = some q → decode (mj_cd 222) p = .ok q := by
  intro p hp q hq
  by_cases h0 : p < 17
  · exact mj_dchk_use mj_d222_0 (by omega) (by omega) hq
  omega
theorem mj_d223_0 : mj_dchk 223 0 15 = true := by decide +kernel
theorem mj_d223 : ∀ p, p < 15 → ∀ q, mj_ins 223 p = some q → decode (mj_cd 223) p = .ok q := by
  intro p hp q hq
  by_cases h0 : p < 15
  · exact mj_dchk_use mj_d223_0 (by omega) (by omega) hq
  omega
theorem mj_d224_0 : mj_dchk 224 0 80 = true := by decide +kernel
theorem mj_d224_80 : mj_dchk 224 80 80 = true := by decide +kernel
theorem mj_d224_160 : mj_dchk 224 160 37 = true := by decide +kernel
theorem mj_d224 : ∀ p, p < 197 → ∀ q, mj_ins 224 p = some q → decode (mj_cd 224) p = .ok q := by
  intro p hp q hq
  by_cases h0 : p < 80
  · exact mj_dchk_use mj_d224_0 (by omega) (by omega) hq
  by_cases h80 : p < 160
  · exact mj_dchk_use mj_d224_80 (by omega) (by omega) hq
  by_cases h160 : p < 197
  · exact mj_dchk_use mj_d224_160 (by omega) (by omega) hq
  omega
theorem mj_d225_0 : mj_dchk 225 0 34 = true := by decide +kernel
theorem mj_d225 : ∀ p, p < 34 → ∀ q, mj_ins 225 p = some q → decode (mj_cd 225) p = .ok q := by
  intro p hp q hq
  by_cases h0 : p < 34
  · exact mj_dchk_use mj_d225_0 (by omega) (by omega) hq
  omega
theorem mj_d226_0 : mj_dchk 226 0 40 = true := by decide +kernel
theorem mj_d226 : ∀ p, p < 40 → ∀ q, mj_ins 226 p = some q → decode (mj_cd 226) p = .ok q := by
  intro p hp q hq
  by_cases h0 : p < 40
  · exact mj_dchk_use mj_d226_0 (by omega) (by omega) hq
  omega
theorem mj_d227_0 : mj_dchk 227 0 24 = true := by decide +kernel
theorem mj_d227 : ∀ p, p < 24 → ∀ q, mj_ins 227 p = some q → decode (mj_cd 227) p = .ok q := by
  intro p hp q hq
  by_cases h0 : p < 24
  · exact mj_dchk_use mj_d227_0 (by omega) (by omega) hq
  omega
theorem mj_d228_0 : mj_dchk 228 0 31 = true := by decide +kernel
theorem mj_d228 : ∀ p, p < 31 → ∀ q, mj_ins 228 p = some q → decode (mj_cd 228) p = .ok q := by
  intro p hp q hq
  by_cases h0 : p < 31
  · exact mj_dchk_use mj_d228_0 (by omega) (by omega) hq
  omega
theorem mj_d229_0 : mj_dchk 229 0 60 = true := by decide +kernel
theorem mj_d229 : ∀ p, p < 60 → ∀ q, mj_ins 229 p = some q → decode (mj_cd 229) p = .ok q := by
  intro p hp q hq
  by_cases h0 : p < 60
  · exact mj_dchk_use mj_d229_0 (by omega) (by omega) hq
  omega
theorem mj_d230_0 : mj_dchk 230 0 80 = true := by decide +kernel
theorem mj_d230_80 : mj_dchk 230 80 67 = true := by decide +kernel
theorem mj_d230 : ∀ p, p < 147 → ∀ q, mj_ins 230 p = some q → decode (mj_cd 230) p = .ok q := by
  intro p hp q hq
  by_cases h0 : p < 80
  · exact mj_dchk_use mj_d230_0 (by omega) (by omega) hq
  by_cases h80 : p < 147
  · exact mj_dchk_use mj_d230_80 (by omega) (by omega) hq
  omega
theorem mj_d231_0 : mj_dchk 231 0 80 = true := by decide +kernel
theorem mj_d231_80 : mj_dchk 231 80 33 = true := by decide +kernel
theorem mj_d231 : ∀ p, p < 113 → ∀ q, mj_ins 231 p = some q → decode (mj_cd 231) p = .ok q := by
  intro p hp q hq
  by_cases h0 : p < 80
  · exact mj_dchk_use mj_d231_0 (by omega) (by omega) hq
  by_cases h80 : p < 113
  · exact mj_dchk_use mj_d231_80 (by omega) (by omega) hq
  omega
theorem mj_d232_0 : mj_dchk 232 0 21 = true := by decide +kernel
theorem mj_d232 : ∀ p, p < 21 → ∀ q, mj_ins 232 p = some q → decode (mj_cd 232) p = .ok q := by
  intro p hp q hq
  by_cases h0 : p < 21
  · exact mj_dchk_use mj_d232_0 (by omega) (by omega) hq
  omega
theorem mj_d233_0 : mj_dchk 233 0 30 = true := by decide +kernel
theorem mj_d233 : ∀ p, p < 30 → ∀ q, mj_ins 233 p = some q → decode (mj_cd 233) p = .ok q := by
  intro p hp q hq
  by_cases h0 : p < 30
  · exact mj_dchk_use mj_d233_0 (by omega) (by omega) hq
  omega
theorem mj_d234_0 : mj_dchk 234 0 53 = true := by decide +kernel
theorem mj_d234 : ∀ p, p < 53 → ∀ q, mj_ins 234 p = some q → decode (mj_cd 234) p = .ok q := by
  intro p hp q hq
  by_cases h0 : p < 53
  · exact mj_dchk_use mj_d234_0 (by omega) (by omega) hq
  omega
theorem mj_d235_0 : mj_dchk 235 0 74 = true := by decide +kernel
theorem mj_d235 : ∀ p, p < 74 → ∀ q, mj_ins 235 p = some q → decode (mj_cd 235) p = .ok q := by
  intro p hp q hq
  by_cases h0 : p < 74
  · exact mj_dchk_use mj_d235_0 (by omega) (by omega) hq
  omega
theorem mj_d236_0 : mj_dchk 236 0 80 = true := by decide +kernel
theorem mj_d236_80 : mj_dchk 236 80 4 = true := by decide +kernel
theorem mj_d236 : ∀ p, p < 84 → ∀ q, mj_ins 236 p = some q → decode (mj_cd 236) p = .ok q := by
  intro p hp q hq
  by_cases h0 : p < 80
  · exact mj_dchk_use mj_d236_0 (by omega) (by omega) hq
  by_cases h80 : p < 84
  · exact mj_dchk_use mj_d236_80 (by omega) (by omega) hq
  omega
theorem mj_d237_0 : mj_dchk 237 0 80 = true := by decide +kernel
theorem mj_d237_80 : mj_dchk 237 80 14 = true := by decide +kernel
theorem mj_d237 : ∀ p, p < 94 → ∀ q, mj_ins 237 p = some q → decode (mj_cd 237) p = .ok q := by
  intro p hp q hq
  by_cases h0 : p < 80
  · exact mj_dchk_use mj_d237_0 (by omega) (by omega) hq
  by_cases h80 : p < 94
  · exact mj_dchk_use mj_d237_80 (by omega) (by omega) hq
  omega
theorem mj_d238_0 : mj_dchk 238 0 53 = true := by decide +kernel
theorem mj_d238 : ∀ p, p < 53 → ∀ q, mj_ins 238 p = some q → decode (mj_cd 238) p = .ok q := by
  intro p hp q hq
  by_cases h0 : p < 53
  · exact mj_dchk_use mj_d238_0 (by omega) (by omega) hq
  omega
theorem mj_d239_0 : mj_dchk 239 0 80 = true := by decide +kernel
theorem mj_d239_80 : mj_dchk 239 80 48 = true := by decide +kernel
theorem mj_d239 : ∀ p, p < 128 → ∀ q, mj_ins 239 p = some q → decode (mj_cd 239) p = .ok q := by
  intro p hp q hq
  by_cases h0 : p < 80
  · exact mj_dchk_use mj_d239_0 (by omega) (by omega) hq
  by_cases h80 : p < 128
  · exact mj_dchk_use mj_d239_80 (by omega) (by omega) hq
  omega
theorem mj_d240_0 : mj_dchk 240 0 80 = true := by decide +kernel
theorem mj_d240_80 : mj_dchk 240 80 80 = true := by decide +kernel
theorem mj_d240_160 : mj_dchk 240 160 79 = true := by decide +kernel
theorem mj_d240 : ∀ p, p < 239 → ∀ q, mj_ins 240 p = some q → decode (mj_cd 240) p = .ok q := by
  intro p hp q hq
  by_cases h0 : p < 80
  · exact mj_dchk_use mj_d240_0 (by omega) (by omega) hq
  by_cases h80 : p < 160
  · exact mj_dchk_use mj_d240_80 (by omega) (by omega) hq
  by_cases h160 : p < 239
  · exact mj_dchk_use mj_d240_160 (by omega) (by omega) hq
  omega
theorem mj_d241_0 : mj_dchk 241 0 80 = true := by decide +kernel
theorem mj_d241_80 : mj_dchk 241 80 80 = true := by decide +kernel
theorem mj_d241_160 : mj_dchk 241 160 32 = true := by decide +kernel
theorem mj_d241 : ∀ p, p < 192 → ∀ q, mj_ins 241 p = some q → decode (mj_cd 241) p = .ok q := by
  intro p hp q hq
  by_cases h0 : p < 80
  · exact mj_dchk_use mj_d241_0 (by omega) (by omega) hq
  by_cases h80 : p < 160
  · exact mj_dchk_use mj_d241_80 (by omega) (by omega) hq
  by_cases h160 : p < 192
  · exact mj_dchk_use mj_d241_160 (by omega) (by omega) hq
  omega
theorem mj_d242_0 : mj_dchk 242 0 47 = true := by decide +kernel
theorem mj_d242 : ∀ p, p < 47 → ∀ q, mj_ins 242 p = some q → decode (mj_cd 242) p = .ok q := by
  intro p hp q hq
  by_cases h0 : p < 47
  · exact mj_dchk_use mj_d242_0 (by omega) (by omega) hq
  omega
theorem mj_d243_0 : mj_dchk 243 0 53 = true := by decide +kernel
theorem mj_d243 : ∀ p, p < 53 → ∀ q, mj_ins 243 p = some q → decode (mj_cd 243) p = .ok q := by
  intro p hp q hq
  by_cases h0 : p < 53
  · exact mj_dchk_use mj_d243_0 (by omega) (by omega) hq
  omega
theorem mj_d244_0 : mj_dchk 244 0 25 = true := by decide +kernel
theorem mj_d244 : ∀ p, p < 25 → ∀ q, mj_ins 244 p = some q → decode (mj_cd 244) p = .ok q := by
  intro p hp q hq
  by_cases h0 : p < 25
  · exact mj_dchk_use mj_d244_0 (by omega) (by omega) hq
  omega
theorem mj_d245_0 : mj_dchk 245 0 27 = true := by decide +kernel
theorem mj_d245 : ∀ p, p < 27 → ∀ q, mj_ins 245 p = some q → decode (mj_cd 245) p = .ok q := by
  intro p hp q hq
  by_cases h0 : p < 27
  · exact mj_dchk_use mj_d245_0 (by omega) (by omega) hq
  omega
theorem mj_d246_0 : mj_dchk 246 0 43 = true := by decide +kernel
theorem mj_d246 : ∀ p, p < 43 → ∀ q, mj_ins 246 p = some q → decode (mj_cd 246) p = .ok q := by
  intro p hp q hq
  by_cases h0 : p < 43
  · exact mj_dchk_use mj_d246_0 (by omega) (by omega) hq
  omega
theorem mj_d247_0 : mj_dchk 247 0 14 = true := by decide +kernel
theorem mj_d247 : ∀ p, p < 14 → ∀ q, mj_ins 247 p = some q → decode (mj_cd 247) p = .ok q := by
  intro p hp q hq
  by_cases h0 : p < 14
  · exact mj_dchk_use mj_d247_0 (by omega) (by omega) hq
  omega
theorem mj_d248_0 : mj_dchk 248 0 20 = true := by decide +kernel
theorem mj_d248 : ∀ p, p < 20 → ∀ q, mj_ins 248 p = some q → decode (mj_cd 248) p = .ok q := by
  intro p hp q hq
  by_cases h0 : p < 20
  · exact mj_dchk_use mj_d248_0 (by omega) (by omega) hq
  omega
theorem mj_d249_0 : mj_dchk 249 0 15 = true := by decide +kernel
theorem mj_d249 : ∀ p, p < 15 → ∀ q, mj_ins 249 p = some q → decode (mj_cd 249) p = .ok q := by
  intro p hp q hq
  by_cases h0 : p < 15
  · exact mj_dchk_use mj_d249_0 (by omega) (by omega) hq
  omega
theorem mj_d250_0 : mj_dchk 250 0 80 = true := by decide +kernel
theorem mj_d250 : ∀ p, p < 80 → ∀ q, mj_ins 250 p = some q → decode (mj_cd 250) p = .ok q := by
  intro p hp q hq
  by_cases h0 : p < 80
  · exact mj_dchk_use mj_d250_0 (by omega) (by omega) hq
  omega
theorem mj_d251_0 : mj_dchk 251 0 80 = true := by decide +kernel
theorem mj_d251_80 : mj_dchk 251 80 31 = true := by decide +kernel
theorem mj_d251 : ∀ p, p < 111 → ∀ q, mj_ins 251 p = some q → decode (mj_cd 251) p = .ok q := by
  intro p hp q hq
  by_cases h0 : p < 80
  · exact mj_dchk_use mj_d251_0 (by omega) (by omega) hq
  by_cases h80 : p < 111
  · exact mj_dchk_use mj_d251_80 (by omega) (by omega) hq
  omega
theorem mj_d252_0 : mj_dchk 252 0 12 = true := by decide +kernel
theorem mj_d252 : ∀ p, p < 12 → ∀ q, mj_ins 252 p = some q → decode (mj_cd 252) p = .ok q := by
  intro p hp q hq
  by_cases h0 : p < 12
  · exact mj_dchk_use mj_d252_0 (by omega) (by omega) hq
  omega
theorem mj_d253_0 : mj_dchk 253 0 14 = true := by decide +kernel
theorem mj_d253 : ∀ p, p < 14 → ∀ q, mj_ins 253 p = some q → decode (mj_cd 253) p = .ok q := by
  intro p hp q hq
  by_cases h0 : p < 14
  · exact mj_dchk_use mj_d253_0 (by omega) (by omega) hq
  omega
theorem mj_d254_0 : mj_dchk 254 0 24 = true := by decide +kernel
theorem mj_d254 : ∀ p, p < 24 → ∀ q, mj_ins 254 p = some q → decode (mj_cd 254) p = .ok q := by
  intro p hp q hq
  by_cases h0 : p < 24
  · exact mj_dchk_use mj_d254_0 (by omega) (by omega) hq
  omega
theorem mj_d255_0 : mj_dchk 255 0 80 = true := by decide +kernel
theorem mj_d255_80 : mj_dchk 255 80 80 = true := by decide +kernel
theorem mj_d255_160 : mj_dchk 255 160 61 = true := by decide +kernel
theorem mj_d255 : ∀ p, p < 221 → ∀ q, mj_ins 255 p = some q → decode (mj_cd 255) p = .ok q := by
  intro p hp q hq
  by_cases h0 : p < 80
  · exact mj_dchk_use mj_d255_0 (by omega) (by omega) hq
  by_cases h80 : p < 160
  · exact mj_dchk_use mj_d255_80 (by omega) (by omega) hq
  by_cases h160 : p < 221
  · exact mj_dchk_use mj_d255_160 (by omega) (by omega) hq
  omega
theorem mj_d256_0 : mj_dchk 256 0 80 = true := by decide +kernel
theorem mj_d256_80 : mj_dchk 256 80 4 = true := by decide +kernel
theorem mj_d256 : ∀ p, p < 84 → ∀ q, mj_ins 256 p = some q → decode (mj_cd 256) p = .ok q := by
  intro p hp q hq
  by_cases h0 : p < 80
  · exact mj_dchk_use mj_d256_0 (by omega) (by omega) hq
  by_cases h80 : p < 84
  · exact mj_dchk_use mj_d256_80 (by omega) (by omega) hq
  omega
theorem mj_d257_0 : mj_dchk 257 0 26 = true := by decide +kernel
theorem mj_d257 : ∀ p, p < 26 → ∀ q, mj_ins 257 p = some q → decode (mj_cd 257) p = .ok q := by
  intro p hp q hq
  by_cases h0 : p < 26
  · exact mj_dchk_use mj_d257_0 (by omega) (by omega) hq
  omega
theorem mj_d258_0 : mj_dchk 258 0 80 = true := by decide +kernel
theorem mj_d258_80 : mj_dchk 258 80 80 = true := by decide +kernel
theorem mj_d258_160 : mj_dchk 258 160 24 = true := by decide +kernel
theorem mj_d258 : ∀ p, p < 184 → ∀ q, mj_ins 258 p = some q → decode (mj_cd 258) p = .ok q := by
  intro p hp q hq
  by_cases h0 : p < 80
  · exact mj_dchk_use mj_d258_0 (by omega) (by omega) hq
  by_cases h80 : p < 160
  · exact mj_dchk_use mj_d258_80 (by omega) (by omega) hq
  by_cases h160 : p < 184
  · exact mj_dchk_use mj_d258_160 (by omega) (by omega) hq
  omega
theorem mj_d259_0 : mj_dchk 259 0 25 = true := by decide +kernel
theorem mj_d259 : ∀ p, p < 25 → ∀ q, mj_ins 259 p = some q → decode (mj_cd 259) p = .ok q := by
  intro p hp q hq
  by_cases h0 : p < 25
  · exact mj_dchk_use mj_d259_0 (by omega) (by omega) hq
  omega
theorem mj_d260_0 : mj_dchk 260 0 79 = true := by decide +kernel
theorem mj_d260 : ∀ p, p < 79 → ∀ q, mj_ins 260 p = some q → decode (mj_cd 260) p = .ok q := by
  intro p hp q hq
  by_cases h0 : p < 79
  · exact mj_dchk_use mj_d260_0 (by omega) (by omega) hq
  omega
theorem mj_d261_0 : mj_dchk 261 0 14 = true := by decide +kernel
theorem mj_d261 : ∀ p, p < 14 → ∀ q, mj_ins 261 p = some q → decode (mj_cd 261) p = .ok q := by
  intro p hp q hq
  by_cases h0 : p < 14
  · exact mj_dchk_use mj_d261_0 (by omega) (by omega) hq
  omega
theorem mj_d262_0 : mj_dchk 262 0 14 = true := by decide +kernel
theorem mj_d262 : ∀ p, p < 14 → ∀ q, mj_ins 262 p = some q → decode (mj_cd 262) p = .ok q := by
  intro p hp q hq
  by_cases h0 : p < 14
  · exact mj_dchk_use mj_d262_0 (by omega) (by omega) hq
  omega
theorem mj_d263_0 : mj_dchk 263 0 23 = true := by decide +kernel
theorem mj_d263 : ∀ p, p < 23 → ∀ q, mj_ins 263 p = some q → decode (mj_cd 263) p = .ok q := by
  intro p hp q hq
  by_cases h0 : p < 23
  · exact mj_dchk_use mj_d263_0 (by omega) (by omega) hq
  omega
theorem mj_d264_0 : mj_dchk 264 0 80 = true := by decide +kernel
theorem mj_d264_80 : mj_dchk 264 80 11 = true := by decide +kernel
theorem mj_d264 : ∀ p, p < 91 → ∀ q, mj_ins 264 p = some q → decode (mj_cd 264) p = .ok q := by
  intro p hp q hq
  by_cases h0 : p < 80
  · exact mj_dchk_use mj_d264_0 (by omega) (by omega) hq
  by_cases h80 : p < 91
  · exact mj_dchk_use mj_d264_80 (by omega) (by omega) hq
  omega
theorem mj_d265_0 : mj_dchk 265 0 22 = true := by decide +kernel
theorem mj_d265 : ∀ p, p < 22 → ∀ q, mj_ins 265 p = some q → decode (mj_cd 265) p = .ok q := by
  intro p hp q hq
  by_cases h0 : p < 22
  · exact mj_dchk_use mj_d265_0 (by omega) (by omega) hq
  omega
theorem mj_d266_0 : mj_dchk 266 0 66 = true := by decide +kernel
theorem mj_d266 : ∀ p, p < 66 → ∀ q, mj_ins 266 p = some q → decode (mj_cd 266) p = .ok q := by
  intro p hp q hq
  by_cases h0 : p < 66
  · exact mj_dchk_use mj_d266_0 (by omega) (by omega) hq
  omega
theorem mj_d267_0 : mj_dchk 267 0 40 = true := by decide +kernel
theorem mj_d267_40 : mj_dchk 267 40 40 = true := by decide +kernel
theorem mj_d267_80 : mj_dchk 267 80 40 = true := by decide +kernel
theorem mj_d267_120 : mj_dchk 267 120 40 = true := by decide +kernel
theorem mj_d267_160 : mj_dchk 267 160 40 = true := by decide +kernel
theorem mj_d267_200 : mj_dchk 267 200 40 = true := by decide +kernel
theorem mj_d267_240 : mj_dchk 267 240 40 = true := by decide +kernel
theorem mj_d267_280 : mj_dchk 267 280 40 = true := by decide +kernel
theorem mj_d267_320 : mj_dchk 267 320 40 = true := by decide +kernel
theorem mj_d267_360 : mj_dchk 267 360 2 = true := by decide +kernel
theorem mj_d267 : ∀ p, p < 362 → ∀ q, mj_ins 267 p = some q → decode (mj_cd 267) p = .ok q := by
  intro p hp q hq
  by_cases h0 : p < 40
  · exact mj_dchk_use mj_d267_0 (by omega) (by omega) hq
  by_cases h40 : p < 80
  · exact mj_dchk_use mj_d267_40 (by omega) (by omega) hq
  by_cases h80 : p < 120
  · exact mj_dchk_use mj_d267_80 (by omega) (by omega) hq
  by_cases h120 : p < 160
  · exact mj_dchk_use mj_d267_120 (by omega) (by omega) hq
  by_cases h160 : p < 200
  · exact mj_dchk_use mj_d267_160 (by omega) (by omega) hq
  by_cases h200 : p < 240
  · exact mj_dchk_use mj_d267_200 (by omega) (by omega) hq
  by_cases h240 : p < 280
  · exact mj_dchk_use mj_d267_240 (by omega) (by omega) hq
  by_cases h280 : p < 320
  · exact mj_dchk_use mj_d267_280 (by omega) (by omega) hq
  by_cases h320 : p < 360
  · exact mj_dchk_use mj_d267_320 (by omega) (by omega) hq
  by_cases h360 : p < 362
  · exact mj_dchk_use mj_d267_360 (by omega) (by omega) hq
  omega
theorem mj_d268_0 : mj_dchk 268 0 28 = true := by decide +kernel
theorem mj_d268 : ∀ p, p < 28 → ∀ q, mj_ins 268 p = some q → decode (mj_cd 268) p = .ok q := by
  intro p hp q hq
  by_cases h0 : p < 28
  · exact mj_dchk_use mj_d268_0 (by omega) (by omega) hq
  omega
theorem mj_d269_0 : mj_dchk 269 0 24 = true := by decide +kernel
theorem mj_d269 : ∀ p, p < 24 → ∀ q, mj_ins 269 p = some q → decode (mj_cd 269) p = .ok q := by
  intro p hp q hq
  by_cases h0 : p < 24
  · exact mj_dchk_use mj_d269_0 (by omega) (by omega) hq
  omega
theorem mj_d270_0 : mj_dchk 270 0 33 = true := by decide +kernel
theorem mj_d270 : ∀ p, p < 33 → ∀ q, mj_ins 270 p = some q → decode (mj_cd 270) p = .ok q := by
  intro p hp q hq
  by_cases h0 : p < 33
  · exact mj_dchk_use mj_d270_0 (by omega) (by omega) hq
  omega
theorem mj_d271_0 : mj_dchk 271 0 45 = true := by decide +kernel
theorem mj_d271 : ∀ p, p < 45 → ∀ q, mj_ins 271 p = some q → decode (mj_cd 271) p = .ok q := by
  intro p hp q hq
  by_cases h0 : p < 45
  · exact mj_dchk_use mj_d271_0 (by omega) (by omega) hq
  omega
theorem mj_d272_0 : mj_dchk 272 0 66 = true := by decide +kernel
theorem mj_d272 : ∀ p, p < 66 → ∀ q, mj_ins 272 p = some q → decode (mj_cd 272) p = .ok q := by
  intro p hp q hq
  by_cases h0 : p < 66
  · exact mj_dchk_use mj_d272_0 (by omega) (by omega) hq
  omega
theorem mj_d273_0 : mj_dchk 273 0 30 = true := by decide +kernel
theorem mj_d273 : ∀ p, p < 30 → ∀ q, mj_ins 273 p = some q → decode (mj_cd 273) p = .ok q := by
  intro p hp q hq
  by_cases h0 : p < 30
  · exact mj_dchk_use mj_d273_0 (by omega) (by omega) hq
  omega
theorem mj_d274_0 : mj_dchk 274 0 80 = true := by decide +kernel
theorem mj_d274_80 : mj_dchk 274 80 32 = true := by decide +kernel
theorem mj_d274 : ∀ p, p < 112 → ∀ q, mj_ins 274 p = some q → decode (mj_cd 274) p = .ok q := by
  intro p hp q hq
  by_cases h0 : p < 80
  · exact mj_dchk_use mj_d274_0 (by omega) (by omega) hq
  by_cases h80 : p < 112
  · exact mj_dchk_use mj_d274_80 (by omega) (by omega) hq
  omega
theorem mj_d275_0 : mj_dchk 275 0 36 = true := by decide +kernel
theorem mj_d275 : ∀ p, p < 36 → ∀ q, mj_ins 275 p = some q → decode (mj_cd 275) p = .ok q := by
  intro p hp q hq
  by_cases h0 : p < 36
  · exact mj_dchk_use mj_d275_0 (by omega) (by omega) hq
  omega
theorem mj_d276_0 : mj_dchk 276 0 25 = true := by decide +kernel
theorem mj_d276 : ∀ p, p < 25 → ∀ q, mj_ins 276 p = some q → decode (mj_cd 276) p = .ok q := by
  intro p hp q hq
  by_cases h0 : p < 25
  · exact mj_dchk_use mj_d276_0 (by omega) (by omega) hq
  omega
theorem mj_d277_0 : mj_dchk 277 0 80 = true := by decide +kernel
theorem mj_d277_80 : mj_dchk 277 80 80 = true := by decide +kernel
theorem mj_d277_160 : mj_dchk 277 160 45 = true := by decide +kernel
theorem mj_d277 : ∀ p, p < 205 → ∀ q, mj_ins 277 p = some q → decode (mj_cd 277) p = .ok q := by
  intro p hp q hq
  by_cases h0 : p < 80
  · exact mj_dchk_use mj_d277_0 (by omega) (by omega) hq
  by_cases h80 : p < 160
  · exact mj_dchk_use mj_d277_80 (by omega) (by omega) hq
  by_cases h160 : p < 205
  · exact mj_dchk_use mj_d277_160 (by omega) (by omega) hq
  omega
